section
-- ===== PART A: goes FIRST, ahead of the names: the tables' words, and 'selects' of the private methods out of them =====
/-- a private method of a class that the tables say can be made, by its rows of tables_1 -/
def lw_okq (q : MethodName × Nat) : Prop := (q.1.cls ≠ "java/lang/invoke/MethodHandle" ∧ q.1.cls ≠ "java/lang/invoke/VarHandle") ∧ Cond.instantiable q.1.cls q.2 ∈ tables_1 ∧ Cond.privateMethod q.1 ∈ tables_1 ∧ Cond.instanceMethod q.1 ∈ tables_1
theorem lw_p0 : lw_okq (⟨"JointVenture", "requireRange", "(III)V"⟩, 15) := ⟨⟨by decide +kernel, by decide +kernel⟩, List.mem_of_getElem? (i := 23) (by decide +kernel), List.mem_of_getElem? (i := 158) (by decide +kernel), List.mem_of_getElem? (i := 159) (by decide +kernel)⟩
theorem lw_p1 : lw_okq (⟨"java/lang/Throwable", "fillInStackTrace", "(I)Ljava/lang/Throwable;"⟩, 6) := ⟨⟨by decide +kernel, by decide +kernel⟩, List.mem_of_getElem? (i := 200) (by decide +kernel), List.mem_of_getElem? (i := 198) (by decide +kernel), List.mem_of_getElem? (i := 199) (by decide +kernel)⟩
theorem lw_p2 : lw_okq (⟨"JointVenture", "requireWell", "(I)V"⟩, 15) := ⟨⟨by decide +kernel, by decide +kernel⟩, List.mem_of_getElem? (i := 23) (by decide +kernel), List.mem_of_getElem? (i := 272) (by decide +kernel), List.mem_of_getElem? (i := 273) (by decide +kernel)⟩
theorem lw_p3 : lw_okq (⟨"JointVenture", "requirePartner", "(I)V"⟩, 15) := ⟨⟨by decide +kernel, by decide +kernel⟩, List.mem_of_getElem? (i := 23) (by decide +kernel), List.mem_of_getElem? (i := 292) (by decide +kernel), List.mem_of_getElem? (i := 293) (by decide +kernel)⟩
theorem lw_p4 : lw_okq (⟨"JointVenture", "isAnotherIn", "(LJointVenture$Well;I)Z"⟩, 15) := ⟨⟨by decide +kernel, by decide +kernel⟩, List.mem_of_getElem? (i := 23) (by decide +kernel), List.mem_of_getElem? (i := 299) (by decide +kernel), List.mem_of_getElem? (i := 300) (by decide +kernel)⟩
theorem lw_p5 : lw_okq (⟨"JointVenture", "shareIfIn", "(LJointVenture$Well;I)I"⟩, 15) := ⟨⟨by decide +kernel, by decide +kernel⟩, List.mem_of_getElem? (i := 23) (by decide +kernel), List.mem_of_getElem? (i := 303) (by decide +kernel), List.mem_of_getElem? (i := 304) (by decide +kernel)⟩
theorem lw_p6 : lw_okq (⟨"JointVenture", "requireRoomForVoucher", "()V"⟩, 15) := ⟨⟨by decide +kernel, by decide +kernel⟩, List.mem_of_getElem? (i := 23) (by decide +kernel), List.mem_of_getElem? (i := 315) (by decide +kernel), List.mem_of_getElem? (i := 316) (by decide +kernel)⟩
theorem lw_p7 : lw_okq (⟨"JointVenture", "addVoucher", "(II)I"⟩, 15) := ⟨⟨by decide +kernel, by decide +kernel⟩, List.mem_of_getElem? (i := 23) (by decide +kernel), List.mem_of_getElem? (i := 321) (by decide +kernel), List.mem_of_getElem? (i := 322) (by decide +kernel)⟩
theorem lw_p8 : lw_okq (⟨"JointVenture", "account", "(I)V"⟩, 15) := ⟨⟨by decide +kernel, by decide +kernel⟩, List.mem_of_getElem? (i := 23) (by decide +kernel), List.mem_of_getElem? (i := 325) (by decide +kernel), List.mem_of_getElem? (i := 326) (by decide +kernel)⟩
theorem lw_p9 : lw_okq (⟨"JointVenture", "accountCost", "(LJointVenture$Well;I)V"⟩, 15) := ⟨⟨by decide +kernel, by decide +kernel⟩, List.mem_of_getElem? (i := 23) (by decide +kernel), List.mem_of_getElem? (i := 329) (by decide +kernel), List.mem_of_getElem? (i := 330) (by decide +kernel)⟩
theorem lw_p10 : lw_okq (⟨"JointVenture", "divideCost", "(LJointVenture$Well;I)V"⟩, 15) := ⟨⟨by decide +kernel, by decide +kernel⟩, List.mem_of_getElem? (i := 23) (by decide +kernel), List.mem_of_getElem? (i := 333) (by decide +kernel), List.mem_of_getElem? (i := 334) (by decide +kernel)⟩
theorem lw_p11 : lw_okq (⟨"JointVenture$Division", "firstWithGreatestRemainder", "()I"⟩, 1) := ⟨⟨by decide +kernel, by decide +kernel⟩, List.mem_of_getElem? (i := 35) (by decide +kernel), List.mem_of_getElem? (i := 342) (by decide +kernel), List.mem_of_getElem? (i := 343) (by decide +kernel)⟩
theorem lw_p12 : lw_okq (⟨"JointVenture", "weighThoseIn", "(LJointVenture$Well;)V"⟩, 15) := ⟨⟨by decide +kernel, by decide +kernel⟩, List.mem_of_getElem? (i := 23) (by decide +kernel), List.mem_of_getElem? (i := 347) (by decide +kernel), List.mem_of_getElem? (i := 348) (by decide +kernel)⟩
theorem lw_p13 : lw_okq (⟨"JointVenture", "ownPartsOfThoseOut", "(LJointVenture$Well;)I"⟩, 15) := ⟨⟨by decide +kernel, by decide +kernel⟩, List.mem_of_getElem? (i := 23) (by decide +kernel), List.mem_of_getElem? (i := 351) (by decide +kernel), List.mem_of_getElem? (i := 352) (by decide +kernel)⟩
theorem lw_p14 : lw_okq (⟨"JointVenture", "penaltyOn", "(II)J"⟩, 15) := ⟨⟨by decide +kernel, by decide +kernel⟩, List.mem_of_getElem? (i := 23) (by decide +kernel), List.mem_of_getElem? (i := 355) (by decide +kernel), List.mem_of_getElem? (i := 356) (by decide +kernel)⟩
theorem lw_p15 : lw_okq (⟨"JointVenture", "accountIncome", "(LJointVenture$Well;I)V"⟩, 15) := ⟨⟨by decide +kernel, by decide +kernel⟩, List.mem_of_getElem? (i := 23) (by decide +kernel), List.mem_of_getElem? (i := 361) (by decide +kernel), List.mem_of_getElem? (i := 362) (by decide +kernel)⟩
def lw_privs_1 : List (MethodName × Nat) := [(⟨"JointVenture", "requireRange", "(III)V"⟩, 15), (⟨"java/lang/Throwable", "fillInStackTrace", "(I)Ljava/lang/Throwable;"⟩, 6), (⟨"JointVenture", "requireWell", "(I)V"⟩, 15), (⟨"JointVenture", "requirePartner", "(I)V"⟩, 15), (⟨"JointVenture", "isAnotherIn", "(LJointVenture$Well;I)Z"⟩, 15), (⟨"JointVenture", "shareIfIn", "(LJointVenture$Well;I)I"⟩, 15), (⟨"JointVenture", "requireRoomForVoucher", "()V"⟩, 15), (⟨"JointVenture", "addVoucher", "(II)I"⟩, 15), (⟨"JointVenture", "account", "(I)V"⟩, 15), (⟨"JointVenture", "accountCost", "(LJointVenture$Well;I)V"⟩, 15), (⟨"JointVenture", "divideCost", "(LJointVenture$Well;I)V"⟩, 15), (⟨"JointVenture$Division", "firstWithGreatestRemainder", "()I"⟩, 1), (⟨"JointVenture", "weighThoseIn", "(LJointVenture$Well;)V"⟩, 15), (⟨"JointVenture", "ownPartsOfThoseOut", "(LJointVenture$Well;)I"⟩, 15), (⟨"JointVenture", "penaltyOn", "(II)J"⟩, 15), (⟨"JointVenture", "accountIncome", "(LJointVenture$Well;I)V"⟩, 15)]
theorem lw_r1 : ∀ q ∈ lw_privs_1, lw_okq q := List.forall_mem_cons.mpr ⟨lw_p0, List.forall_mem_cons.mpr ⟨lw_p1, List.forall_mem_cons.mpr ⟨lw_p2, List.forall_mem_cons.mpr ⟨lw_p3, List.forall_mem_cons.mpr ⟨lw_p4, List.forall_mem_cons.mpr ⟨lw_p5, List.forall_mem_cons.mpr ⟨lw_p6, List.forall_mem_cons.mpr ⟨lw_p7, List.forall_mem_cons.mpr ⟨lw_p8, List.forall_mem_cons.mpr ⟨lw_p9, List.forall_mem_cons.mpr ⟨lw_p10, List.forall_mem_cons.mpr ⟨lw_p11, List.forall_mem_cons.mpr ⟨lw_p12, List.forall_mem_cons.mpr ⟨lw_p13, List.forall_mem_cons.mpr ⟨lw_p14, List.forall_mem_cons.mpr ⟨lw_p15, fun _ h => absurd h List.not_mem_nil⟩⟩⟩⟩⟩⟩⟩⟩⟩⟩⟩⟩⟩⟩⟩⟩
theorem lw_p16 : lw_okq (⟨"JointVenture", "creditTaken", "(LJointVenture$Well;I)V"⟩, 15) := ⟨⟨by decide +kernel, by decide +kernel⟩, List.mem_of_getElem? (i := 23) (by decide +kernel), List.mem_of_getElem? (i := 372) (by decide +kernel), List.mem_of_getElem? (i := 373) (by decide +kernel)⟩
theorem lw_p17 : lw_okq (⟨"JointVenture", "requireVoucher", "(I)V"⟩, 15) := ⟨⟨by decide +kernel, by decide +kernel⟩, List.mem_of_getElem? (i := 23) (by decide +kernel), List.mem_of_getElem? (i := 396) (by decide +kernel), List.mem_of_getElem? (i := 397) (by decide +kernel)⟩
theorem lw_p18 : lw_okq (⟨"JointVenture", "accountAnew", "(I)V"⟩, 15) := ⟨⟨by decide +kernel, by decide +kernel⟩, List.mem_of_getElem? (i := 23) (by decide +kernel), List.mem_of_getElem? (i := 402) (by decide +kernel), List.mem_of_getElem? (i := 403) (by decide +kernel)⟩
theorem lw_p19 : lw_okq (⟨"JointVenture", "requireCashCall", "(I)V"⟩, 15) := ⟨⟨by decide +kernel, by decide +kernel⟩, List.mem_of_getElem? (i := 23) (by decide +kernel), List.mem_of_getElem? (i := 443) (by decide +kernel), List.mem_of_getElem? (i := 444) (by decide +kernel)⟩
theorem lw_p20 : lw_okq (⟨"JointVenture", "moveToPayers", "(LJointVenture$CashCall;I)V"⟩, 15) := ⟨⟨by decide +kernel, by decide +kernel⟩, List.mem_of_getElem? (i := 23) (by decide +kernel), List.mem_of_getElem? (i := 466) (by decide +kernel), List.mem_of_getElem? (i := 467) (by decide +kernel)⟩
theorem lw_p21 : lw_okq (⟨"JointVenture", "paidOfAllCalls", "(I)I"⟩, 15) := ⟨⟨by decide +kernel, by decide +kernel⟩, List.mem_of_getElem? (i := 23) (by decide +kernel), List.mem_of_getElem? (i := 517) (by decide +kernel), List.mem_of_getElem? (i := 518) (by decide +kernel)⟩
def lw_privs_2 : List (MethodName × Nat) := [(⟨"JointVenture", "creditTaken", "(LJointVenture$Well;I)V"⟩, 15), (⟨"JointVenture", "requireVoucher", "(I)V"⟩, 15), (⟨"JointVenture", "accountAnew", "(I)V"⟩, 15), (⟨"JointVenture", "requireCashCall", "(I)V"⟩, 15), (⟨"JointVenture", "moveToPayers", "(LJointVenture$CashCall;I)V"⟩, 15), (⟨"JointVenture", "paidOfAllCalls", "(I)I"⟩, 15)]
theorem lw_r2 : ∀ q ∈ lw_privs_2, lw_okq q := List.forall_mem_cons.mpr ⟨lw_p16, List.forall_mem_cons.mpr ⟨lw_p17, List.forall_mem_cons.mpr ⟨lw_p18, List.forall_mem_cons.mpr ⟨lw_p19, List.forall_mem_cons.mpr ⟨lw_p20, List.forall_mem_cons.mpr ⟨lw_p21, fun _ h => absurd h List.not_mem_nil⟩⟩⟩⟩⟩⟩
def lw_privs : List (MethodName × Nat) := lw_privs_1 ++ (lw_privs_2)
def lw_tbl : List Cond := k2_sels lw_privs ++ tables_1
theorem lw_privs_ok : ∀ q ∈ lw_privs, lw_okq q := by
  show ∀ q ∈ lw_privs_1 ++ (lw_privs_2), lw_okq q
  exact List.forall_mem_append.mpr ⟨lw_r1, lw_r2⟩
end
section
/-! ===== BEGIN words of one list among another's, by their places ===== -/
theorem goodIn_r {big : List Cond} (ws : List Cond) (ps : List Nat) (hp : ws = ps.filterMap (fun i => big[i]?)) (h : ws.all goodWord = true) : GoodIn big ws := by
  intro w hw
  have h1 := List.all_eq_true.mp h w hw
  rw [hp] at hw
  obtain ⟨i, -, hi⟩ := List.mem_filterMap.mp hw
  have hm : w ∈ big := by first | exact List.mem_of_getElem? hi | exact List.getElem?_mem hi
  exact ⟨hm, good_of_word h1⟩
theorem goodIn_app {big a b : List Cond} (ha : GoodIn big a) (hb : GoodIn big b) : GoodIn big (a ++ b) := fun w h => (List.mem_append.mp h).elim (ha w) (hb w)
theorem goodIn_ca {big a b : List Cond} {c : Cond} (ha : GoodIn big (c :: a)) (hb : GoodIn big b) : GoodIn big (c :: (a ++ b)) := fun w h => (List.mem_cons.mp h).elim (fun e => ha w (List.mem_cons.mpr (Or.inl e))) (fun h => (List.mem_append.mp h).elim (fun h => ha w (List.mem_cons.mpr (Or.inr h))) (hb w))
theorem goodIn_sub {big ws : List Cond} (hm : ∀ w ∈ ws, w ∈ big) (h : ws.all goodWord = true) : GoodIn big ws := fun w hw => ⟨hm w hw, good_of_word (List.all_eq_true.mp h w hw)⟩
/-! ===== END ===== -/

/-! ===== BEGIN exceptions that leave a method, and their catching by the caller (launches without stack traces) ===== -/
section VXA
/-! The laws vx_back, vx_callV, vx_callS, vx_callSW, vx_throw0, vx_throwS follow proofs of the library, with one case more: JvmDerived/Free/Laws.lean (Back.of_free), Shelf42/LK1.lean (callV, callS), Shelf/KitTraced.lean (throwNew0V, throwNewS). -/
/-- where a method has thrown q: the class by its name, the cell, what was written, the world -/
def vx_T (XC : String → State → State → Prop) (st : State) (q : Addr) (t : State) (mc ms : Nat) (free : Addr → Prop) : Prop :=
  ∃ (E : String) (ce : Cell) (L : List Loc), XC E st t ∧ t.heap[q]? = some ce ∧ ce.vm = .none ∧ st.vm.findClass E = some ce.cls ∧ st.WarmedH t.vm ∧ st.sameButNew ({ t with vm := st.vm } : State) L mc ms ∧ ∀ z ∈ L, free z.base
def vx_Q (Qc : Array Value → State → Outcome → State → Prop) (XC : String → State → State → Prop) (mc ms : Nat) (free : Addr → Prop) : Array Value → State → Outcome → State → Prop := fun a st o t =>
  (Qc a st o t ∧ ∃ L, FrameEnd st o t L mc ms ∧ ∀ q ∈ L, free q.base) ∨ ∃ q, o = .threw q ∧ vx_T XC st q t mc ms free
/-- a callee that returns or throws -/
def vx_Met (l : Launch) (y : MethodName) (ws : List Cond) (rm : Room) (Pc : Array Value → State → Prop) (Qc : Array Value → State → Outcome → State → Prop) (XC : String → State → State → Prop) (mc ms : Nat) (free : Addr → Prop) : Prop :=
  MetFree l y (headSpec ws rm) Pc (fun _ _ _ _ _ => True) (vx_Q Qc XC mc ms free)
def vx_Post (XC : String → State → State → Prop) (mc ms : Nat) (free : Addr → Prop) : Pt → Array Value → Addr → Pt → Prop := fun A a q B =>
  ∃ (g : JFrame) (mk : MethodId) (t : State) (L : List Loc) (E : String) (ce : Cell), B.U.heap = t.heap ∧ B.U.vm = t.vm ∧ XC E (A.U.calling g mk a) t ∧ t.heap[q]? = some ce ∧ ce.vm = .none ∧ A.U.vm.findClass E = some ce.cls ∧ B.locs = A.locs ++ L ∧ (∀ z ∈ L, free z.base) ∧ B.cells = A.cells + mc ∧ B.slots = A.slots + ms
def vx_Back (l : Launch) (R : Room) (p : Program) (e : Env) (below : List Frame) (s : State) (sargs : Array Value) (y : MethodName) (len W9 : Nat)
    (Pre : Pt → Array Value → Prop) (Post : Pt → Array Value → Option Value → Pt → Prop) (PostX : Pt → Array Value → Addr → Pt → Prop) : Prop :=
  ∀ (m : MethodId) (meth : Method) (c : Code) (A : Pt) (g : JFrame) (ig : Instr) (mk : MethodId) (a : Array Value),
    Stand p l e R s m sargs below meth c A.U A.locs A.cells A.slots → g.method = m → g.locals.size = c.maxLocals → decode c.code g.pc = .ok (ig, len) →
    2 * g.monitorRoom + (g.stack.map fun v => v.category).sum ≤ W9 → A.U.methodNamed? y = some mk → Pre A a →
    (∃ (v : Option Value) (B : Pt), Stand p l e R s m sargs below meth c B.U B.locs B.cells B.slots ∧ Post A a v B ∧
      Steps p.tables e below (doInvoke e (A.U.setTop g) [] mk a).1 (B.U.setTop { g with pc := g.pc + len, stack := v.toList ++ g.stack })) ∨
    (∃ (q : Addr) (B : Pt), Stand p l e R s m sargs below meth c B.U B.locs B.cells B.slots ∧ PostX A a q B ∧
      Steps p.tables e below (doInvoke e (A.U.setTop g) [] mk a).1 ((B.U.setTop g).pushFrame (.throwing q)))
section Payer
variable {l : Launch} {R : Room} {p : Program} {e : Env} {below : List Frame} {s : State} {sargs : Array Value} {y : MethodName} {len W9 : Nat}
theorem vx_back {ws : List Cond} {rm : Room} {Pc : Array Value → State → Prop} {Qc : Array Value → State → Outcome → State → Prop} {XC : String → State → State → Prop} {mc ms : Nat} {free : Addr → Prop} {bytes : ByteArray} {maxL : Nat} {ret : Option FieldType}
    (hM : vx_Met l y ws rm Pc Qc XC mc ms free) (hblind : FrameBlind Pc) (hrc : rm.cells = mc) (hrs : rm.slots = ms)
    (hframes : rm.frames + 1 ≤ R.frames) (hlocals : W9 + (maxL + 11) + rm.locals ≤ R.locals)
    (hws : ∀ w ∈ ws, ∀ a' U, s.WarmedH U.vm → w.before a' U = true) (hcode : Cond.code y bytes maxL ret ∈ ws) (hinit : ∀ a' U, s.WarmedH U.vm → (Cond.initialized y.cls).before a' U = true) :
    vx_Back l R p e below s sargs y len W9 (PreOf R mc ms Pc) (PostOf Qc mc ms free) (vx_Post XC mc ms free) := by
  intro m meth c A g ig mk a X hg hsize hdg hW hn hp
  have h1 : (headSpec ws rm).pre.before a A.U = true := atoms_intro fun w hw => hws w hw _ _ X.warmed
  have h2 : (Cond.code y bytes maxL ret).before a A.U = true := hws _ hcode _ _ X.warmed
  have h3 : (Cond.initialized y.cls).before a A.U = true := hinit _ _ X.warmed
  have h4 : A.cells + (headSpec ws rm).room.cells ≤ R.cells := by rw [show (headSpec ws rm).room.cells = mc from hrc]; exact hp.1
  have h5 : A.slots + (headSpec ws rm).room.slots ≤ R.slots := by rw [show (headSpec ws rm).room.slots = ms from hrs]; exact hp.2.1
  have hPc : Pc a (A.U.calling g mk a) := hblind _ _ _ _ hp.2.2
  obtain ⟨U, Ls, c0, s0⟩ := A
  dsimp only [Pt.U, Pt.locs, Pt.cells, Pt.slots] at h1 h2 h3 h4 h5 X hn hPc ⊢
  obtain ⟨methY, cY, hmY, hcY, -, hlY, -, -, -, -⟩ := Cond.code_spec hn h2
  obtain ⟨kY, hkY, -⟩ := className_of_methodNamed hn
  have hinitY : kY.init = .initialized := Cond.initialized_spec (findClass_of_methodNamed hn) hkY h3
  have h : At U g.method c below := by rw [hg]; exact X.here
  have hlocals9 : W9 + (maxL + 11) + (headSpec ws rm).room.locals ≤ R.locals := hlocals
  have happ : (headSpec ws rm).appliesLoose y e.platform (U.calling g mk a) = true :=
    Spec.appliesLoose_calling (g := g) h hdg hn hkY hinitY
      (X.room_calling (g := g) (R' := (headSpec ws rm).room) hsize hmY hcY hframes (by rw [hlY]; omega) h4 h5) h1
  obtain ⟨mid, hmid⟩ := h.above
  have hfr : (U.setTop g).frames = (.java g :: mid) ++ below := by rw [State.frames_setTop' g h.top, hmid]; rfl
  obtain ⟨o, s₂, hsteps, -, hend, hq⟩ := Steps.callFree hM p X.admits X.cas X.clock (acts := []) hfr happ hPc trivial
  have hq' : vx_Q Qc XC mc ms free a (U.calling g mk a) o s₂ := hq
  rw [State.frames_setTop' g h.top] at hend
  obtain ⟨g₀, hg0⟩ := Option.isSome_iff_exists.mp h.top
  obtain ⟨r, hr⟩ := State.topJava?_eq_some.mp hg0
  have hr' : (({ U with heap := s₂.heap, slotsUsed := s₂.slotsUsed } : State).setVm s₂.vm).frames = .java g₀ :: r := hr
  rcases hq' with ⟨hqc, L, hfe, hL⟩ | ⟨q, rfl, E, ce, L, hx, hce, hcv, hcl, hW₂, hsm, hL⟩
  · obtain ⟨⟨v, rfl⟩, hW₂, e2, q2, q3, q4, q5, q6⟩ := id hfe
    have e3 : s₂ = ({ (U.calling g mk a).setFrames s₂.frames with heap := s₂.heap, slotsUsed := s₂.slotsUsed } : State).setVm s₂.vm := by
      have : s₂ = ({ s₂ with vm := (U.calling g mk a).vm } : State).setVm s₂.vm := rfl
      rw [e2] at this
      exact this
    obtain ⟨c₂, i₂, len₂, hc₂, hd₂, hf₂⟩ := hend
    have hW' : U.WarmedH s₂.vm := hW₂
    have hcc : c₂ = c := by
      have h1 : s₂.code? g.method = U.code? g.method := by
        rw [State.code?_eq, State.code?_eq, hW'.alike.method?]
      exact Option.some.inj (hc₂.symm.trans (h1.trans h.code))
    subst hcc
    have hlen : len₂ = len := by rw [hdg] at hd₂; cases hd₂; rfl
    subst hlen
    have hs₂ : s₂ = (({ U with heap := s₂.heap, slotsUsed := s₂.slotsUsed } : State).setVm s₂.vm).setTop { g with pc := g.pc + len₂, stack := v.toList ++ g.stack } := by
      refine e3.trans ?_
      rw [hf₂, State.calling_eq h.top, State.setFrames_setFrames, State.setTop_of_frames _ hr', hr]
      rfl
    have hsame : U.sameButNew ({ U with heap := s₂.heap, slotsUsed := s₂.slotsUsed } : State) L mc ms := by
      refine ⟨?_, q2, q3, q4, q5, q6⟩
      obtain ⟨t, ht, -⟩ := State.frames_cons hr
      show ({ U with heap := s₂.heap, slotsUsed := s₂.slotsUsed } : State) = { U.setFrames U.frames with heap := s₂.heap, slotsUsed := s₂.slotsUsed }
      rw [State.setFrames_self ht]
    subst hg
    refine Or.inl ⟨v, ⟨(({ U with heap := s₂.heap, slotsUsed := s₂.slotsUsed } : State).setVm s₂.vm), Ls ++ L, c0 + mc, s0 + ms⟩,
      ⟨X.admits, X.cas, X.clock, X.frames, X.room, X.hears, X.method, X.code, (X.here.setHeapUsed s₂.heap s₂.slotsUsed).setVm hW'.alike, X.tail, State.WarmedH.trans X.warmed hW', X.limits, X.bytes, X.same.trans (hsame.setVm s.vm)⟩,
      ⟨g, mk, s₂, L, rfl, rfl, hqc, rfl, hL, rfl, rfl⟩, ?_⟩
    show Steps p.tables e below _ ((({ U with heap := s₂.heap, slotsUsed := s₂.slotsUsed } : State).setVm s₂.vm).setTop { g with pc := g.pc + len₂, stack := v.toList ++ g.stack })
    rw [← hs₂]
    exact hsteps
  · obtain ⟨e2, q2, q3, q4, q5, q6⟩ := id hsm
    have e3 : s₂ = ({ (U.calling g mk a).setFrames s₂.frames with heap := s₂.heap, slotsUsed := s₂.slotsUsed } : State).setVm s₂.vm := by
      have : s₂ = ({ s₂ with vm := (U.calling g mk a).vm } : State).setVm s₂.vm := rfl
      rw [e2] at this
      exact this
    have hf₂ : s₂.frames = .throwing q :: .java g :: U.frames.tail := hend
    have hW' : U.WarmedH s₂.vm := hW₂
    have hs₂ : s₂ = ((({ U with heap := s₂.heap, slotsUsed := s₂.slotsUsed } : State).setVm s₂.vm).setTop g).pushFrame (.throwing q) := by
      refine e3.trans ?_
      rw [hf₂, State.calling_eq h.top, State.setFrames_setFrames, State.pushFrame, State.frames_setTop _ hr', State.setTop_of_frames _ hr', State.setFrames_setFrames, hr]
      rfl
    have hsame : U.sameButNew ({ U with heap := s₂.heap, slotsUsed := s₂.slotsUsed } : State) L mc ms := by
      refine ⟨?_, q2, q3, q4, q5, q6⟩
      obtain ⟨t, ht, -⟩ := State.frames_cons hr
      show ({ U with heap := s₂.heap, slotsUsed := s₂.slotsUsed } : State) = { U.setFrames U.frames with heap := s₂.heap, slotsUsed := s₂.slotsUsed }
      rw [State.setFrames_self ht]
    subst hg
    refine Or.inr ⟨q, ⟨(({ U with heap := s₂.heap, slotsUsed := s₂.slotsUsed } : State).setVm s₂.vm), Ls ++ L, c0 + mc, s0 + ms⟩,
      ⟨X.admits, X.cas, X.clock, X.frames, X.room, X.hears, X.method, X.code, (X.here.setHeapUsed s₂.heap s₂.slotsUsed).setVm hW'.alike, X.tail, State.WarmedH.trans X.warmed hW', X.limits, X.bytes, X.same.trans (hsame.setVm s.vm)⟩,
      ⟨g, mk, s₂, L, E, ce, rfl, rfl, hx, hce, hcv, hcl, rfl, hL, rfl, rfl⟩, ?_⟩
    show Steps p.tables e below _ (((({ U with heap := s₂.heap, slotsUsed := s₂.slotsUsed } : State).setVm s₂.vm).setTop g).pushFrame (.throwing q))
    rw [← hs₂]
    exact hsteps
end Payer
section Calls
variable {p : Program} {l : Launch} {e : Env} {R : Room} {s : State} {m : MethodId} {args : Array Value} {below : List Frame} {meth : Method} {c : Code} {T : State} {locs : List Loc} {cells slots : Nat}
theorem vx_callV (X : Stand p l e R s m args below meth c T locs cells slots) (hexec : p.tables.exec = Jvm.exec) {own C : String} {index : Nat} {y : MethodName} {bytes : ByteArray} {maxL : Nat} {ret : Option FieldType}
    (hown : s.vm.findClass own = some m.cls) (hlink : (Cond.methodLink own index y).before args s = true) (hinst : (Cond.instanceMethod y).before args s = true) (hsel : (Cond.selects C y y).before args s = true)
    (hcode : (Cond.code y bytes maxL ret).before args s = true) (hy : y.cls ≠ "java/lang/invoke/MethodHandle" ∧ y.cls ≠ "java/lang/invoke/VarHandle")
    {W9 : Nat} {Pre : Pt → Array Value → Prop} {Post : Pt → Array Value → Option Value → Pt → Prop} {PostX : Pt → Array Value → Addr → Pt → Prop} (hK : vx_Back l R p e below s args y 3 W9 Pre Post PostX)
    {b : Addr} {cellB : Cell} (hcell : T.heap[b]? = some cellB) (hobj : cellB.vm.isStatics = false) (hcls : s.vm.findClass C = some cellB.cls)
    {g : JFrame} (hg : g.method = m) (hsize : g.locals.size = c.maxLocals) {argsL rest : List Value} (hlen : ∀ sig, parseMethodDescriptor y.desc = some sig → argsL.length = sig.parameters.length)
    (hstack : g.stack = argsL.reverse ++ .ref b :: rest) (hW : 2 * g.monitorRoom + (rest.map fun v => v.category).sum ≤ W9) (hdg : decode c.code g.pc = .ok (.invokevirtual index, 3))
    (hpre : ∀ vm₁, s.WarmedH vm₁ → Pre ⟨T.setVm vm₁, locs, cells, slots⟩ (Value.ref b :: argsL).toArray) :
    (∃ (v : Option Value) (vm₁ : Vm) (B : Pt), s.WarmedH vm₁ ∧ Stand p l e R s m args below meth c B.U B.locs B.cells B.slots ∧ Post ⟨T.setVm vm₁, locs, cells, slots⟩ (Value.ref b :: argsL).toArray v B ∧
      ∀ target, Steps p.tables e below (B.U.setTop { g with pc := g.pc + 3, stack := v.toList ++ rest }) target → Steps p.tables e below (T.setTop g) target) ∨
    (∃ (q : Addr) (vm₁ : Vm) (B : Pt), s.WarmedH vm₁ ∧ Stand p l e R s m args below meth c B.U B.locs B.cells B.slots ∧ PostX ⟨T.setVm vm₁, locs, cells, slots⟩ (Value.ref b :: argsL).toArray q B ∧
      Steps p.tables e below (T.setTop g) ((B.U.setTop { g with stack := rest }).pushFrame (.throwing q))) := by
  obtain ⟨mk, methM, hnamed, hmethM, hstM, habM⟩ := Cond.instanceMethod_spec hinst
  obtain ⟨methM', cM, hmethM', -, -, -, -, -, -, hsigM⟩ := Cond.code_spec hnamed hcode
  cases hmethM.symm.trans hmethM'
  obtain ⟨c2, r2, m2, q1, q2, q3, q4, kP, hkP, hkPi⟩ := Cond.selects_spec hsel
  cases hcls.symm.trans q1
  cases (State.methodFound?_of_named hnamed hy).symm.trans q2
  cases hnamed.symm.trans q3
  have hselP : selectMethod e.platform s.vm cellB.cls mk = .method mk := by rw [Launch.admits_selectMethod X.admits]; exact q4
  obtain ⟨vm₁, X₁, hstep₁⟩ := X.invokevirtual hexec hown hlink hnamed hmethM hstM hkP hkPi hy (a := b) (cell := cellB) hcell
    (fun z h => by rw [h] at hobj; cases hobj) hselP hmethM habM hkP hkPi (g := g) hg (argsL := argsL) (rest := rest) (hlen _ hsigM) hstack hdg
  rcases hK m meth c ⟨T.setVm vm₁, locs, cells, slots⟩ { g with stack := rest } (.invokevirtual index) mk (Value.ref b :: argsL).toArray X₁ hg hsize hdg hW (X₁.named hnamed) (hpre vm₁ X₁.warmed) with ⟨v, B, X', hpost, hsteps⟩ | ⟨q, B, X', hpost, hsteps⟩
  · exact Or.inl ⟨v, vm₁, B, X₁.warmed, X', hpost, fun target h => hstep₁ _ fun acts => by rw [doInvoke_state]; exact hsteps.trans h⟩
  · exact Or.inr ⟨q, vm₁, B, X₁.warmed, X', hpost, hstep₁ _ fun acts => by rw [doInvoke_state]; exact hsteps⟩
theorem vx_callS (X : Stand p l e R s m args below meth c T locs cells slots) (hexec : p.tables.exec = Jvm.exec) {own : String} {index : Nat} {y : MethodName} {bytes : ByteArray} {maxL : Nat} {ret : Option FieldType}
    (hown : s.vm.findClass own = some m.cls) (hlink : (Cond.methodLink own index y).before args s = true) (hstat : (Cond.static y).before args s = true) (hinit : (Cond.initialized y.cls).before args s = true)
    (hcode : (Cond.code y bytes maxL ret).before args s = true) (hy : y.cls ≠ "java/lang/invoke/MethodHandle" ∧ y.cls ≠ "java/lang/invoke/VarHandle")
    {W9 : Nat} {Pre : Pt → Array Value → Prop} {Post : Pt → Array Value → Option Value → Pt → Prop} {PostX : Pt → Array Value → Addr → Pt → Prop} (hK : vx_Back l R p e below s args y 3 W9 Pre Post PostX)
    {g : JFrame} (hg : g.method = m) (hsize : g.locals.size = c.maxLocals) {argsL rest : List Value} (hlen : ∀ sig, parseMethodDescriptor y.desc = some sig → argsL.length = sig.parameters.length)
    (hstack : g.stack = argsL.reverse ++ rest) (hW : 2 * g.monitorRoom + (rest.map fun v => v.category).sum ≤ W9) (hdg : decode c.code g.pc = .ok (.invokestatic index, 3))
    (hpre : ∀ vm₁, s.WarmedH vm₁ → Pre ⟨T.setVm vm₁, locs, cells, slots⟩ argsL.toArray) :
    (∃ (v : Option Value) (vm₁ : Vm) (B : Pt), s.WarmedH vm₁ ∧ Stand p l e R s m args below meth c B.U B.locs B.cells B.slots ∧ Post ⟨T.setVm vm₁, locs, cells, slots⟩ argsL.toArray v B ∧
      ∀ target, Steps p.tables e below (B.U.setTop { g with pc := g.pc + 3, stack := v.toList ++ rest }) target → Steps p.tables e below (T.setTop g) target) ∨
    (∃ (q : Addr) (vm₁ : Vm) (B : Pt), s.WarmedH vm₁ ∧ Stand p l e R s m args below meth c B.U B.locs B.cells B.slots ∧ PostX ⟨T.setVm vm₁, locs, cells, slots⟩ argsL.toArray q B ∧
      Steps p.tables e below (T.setTop g) ((B.U.setTop { g with stack := rest }).pushFrame (.throwing q))) := by
  obtain ⟨mk, hnamed⟩ := Cond.code_named hcode
  obtain ⟨methM, cM, hmethM, -, -, -, -, -, -, hsigM⟩ := Cond.code_spec hnamed hcode
  have hstatic : methM.isStatic = true := Cond.static_spec hnamed hmethM hstat
  obtain ⟨kP, hkP, -⟩ := className_of_methodNamed hnamed
  have hinitP : kP.init = .initialized := Cond.initialized_spec (findClass_of_methodNamed hnamed) hkP hinit
  obtain ⟨vm₁, X₁, hstep₁⟩ := X.invokestatic hexec hown hlink hnamed hmethM hstatic hkP hinitP hy (g := g) hg (argsL := argsL) (rest := rest) (hlen _ hsigM) hstack hdg
  rcases hK m meth c ⟨T.setVm vm₁, locs, cells, slots⟩ { g with stack := rest } (.invokestatic index) mk argsL.toArray X₁ hg hsize hdg hW (X₁.named hnamed) (hpre vm₁ X₁.warmed) with ⟨v, B, X', hpost, hsteps⟩ | ⟨q, B, X', hpost, hsteps⟩
  · exact Or.inl ⟨v, vm₁, B, X₁.warmed, X', hpost, fun target h => hstep₁ _ fun acts => by rw [doInvoke_state]; exact hsteps.trans h⟩
  · exact Or.inr ⟨q, vm₁, B, X₁.warmed, X', hpost, hstep₁ _ fun acts => by rw [doInvoke_state]; exact hsteps⟩
end Calls
theorem vx_cls {s : State} {T : State} {vm₁ : Vm} {E : String} {k : ClassId} (hW : s.WarmedH vm₁) (h : (T.setVm vm₁).vm.findClass E = some k) : s.vm.findClass E = some k := by
  have h1 : vm₁.findClass E = some k := h
  rw [hW.alike.findClass] at h1
  exact h1
/-- the method's frame g, with q thrown over it -/
def vx_W (p : Program) (l : Launch) (e : Env) (R : Room) (s : State) (m : MethodId) (args : Array Value) (below : List Frame) (meth : Method) (c : Code) (H : Heap) (locs : List Loc) (cells slots : Nat) (Q : State → Prop) (g : JFrame) (q : Addr) : Prop :=
  ∀ T : State, T.heap = H → Stand p l e R s m args below meth c T locs cells slots → ∃ t, Steps p.tables e below ((T.setTop g).pushFrame (.throwing q)) t ∧ Q t
def vx_Run (p : Program) (l : Launch) (e : Env) (R : Room) (s : State) (m : MethodId) (args : Array Value) (below : List Frame) (meth : Method) (c : Code) (H : Heap) (locs : List Loc) (cells slots mc ms : Nat) (g : JFrame) (rest : List Value) (Qa : State → Outcome → State → Prop) (XC : String → State → State → Prop) (free : Addr → Prop) : Prop :=
  ∀ T : State, T.heap = H → Stand p l e R s m args below meth c T locs cells slots →
    (∃ (v : Option Value) (st₀ t T' : State) (L : List Loc), st₀.heap = H ∧ Stand p l e R s m args below meth c T' (locs ++ L) (cells + mc) (slots + ms) ∧ (∀ q ∈ L, free q.base) ∧ T'.heap = t.heap ∧ T'.vm = t.vm ∧ Qa st₀ (.returned v) t ∧
      Goes p e below T g T' { g with pc := g.pc + 3, stack := v.toList ++ rest }) ∨
    (∃ (q : Addr) (st₀ t T' : State) (L : List Loc) (E : String) (ce : Cell), st₀.heap = H ∧ Stand p l e R s m args below meth c T' (locs ++ L) (cells + mc) (slots + ms) ∧ (∀ z ∈ L, free z.base) ∧ T'.heap = t.heap ∧ T'.vm = t.vm ∧ XC E st₀ t ∧ t.heap[q]? = some ce ∧ ce.vm = .none ∧ s.vm.findClass E = some ce.cls ∧
      Steps p.tables e below (T.setTop g) ((T'.setTop { g with stack := rest }).pushFrame (.throwing q)))
def vx_X {S : Type} (px : S → Prop) (B : String → S → State → Prop) (A : Nat → Prop) : String → State → State → Prop := fun E st t => ∃ u : S, px u ∧ B E u t ∧ va_F A st t
section Runs
variable {p : Program} {l : Launch} {e : Env} {R : Room} {s : State} {m : MethodId} {args : Array Value} {below : List Frame} {meth : Method} {c : Code} {H : Heap} {locs : List Loc} {cells slots : Nat}
variable {y : MethodName} {bytes cc : ByteArray} {maxL nL mc ms n index : Nat} {ret : Option FieldType} {ws : List Cond} {rm : Room} {Pc : Array Value → State → Prop} {Qc : Array Value → State → Outcome → State → Prop} {XC : String → State → State → Prop} {free : Addr → Prop} {Ts : List Cond} {own C : String} {b : Addr} {As rest : List Value} {g : JFrame}
theorem vx_callBack (cb : CallB R s args own index y bytes maxL ret ws rm mc ms n) (hM : vx_Met l y ws rm Pc Qc XC mc ms free) (hbl : FrameBlind Pc) : vx_Back l R p e below s args y 3 8 (PreOf R mc ms Pc) (PostOf Qc mc ms free) (vx_Post XC mc ms free) := by
  obtain ⟨hrc, hrs, hfr, hlo, hws, hcw, -, hini, -⟩ := cb
  exact vx_back (bytes := bytes) (maxL := maxL) (ret := ret) hM hbl hrc hrs hfr hlo hws hcw (fun a' U hW => word_at hW (Or.inl (by first | rfl | simp [Cond.onTables, Cond.keeps, Cond.steady])) hini)
theorem vx_runV (S : CallFix p m c cc nL s args Ts own) (hM : vx_Met l y ws rm Pc Qc XC mc ms free) (cw : CallW R s args own C index y bytes maxL ret ws rm mc ms n) (hp : PreV s H C b Pc As)
    (hg : g.method = m) (hn : As.length = n) (hsize : g.locals.size = nL) (hstack : g.stack = As.reverse ++ .ref b :: rest) (hW : 2 * g.monitorRoom + (rest.map fun v => v.category).sum ≤ 8) (hdg : decode cc g.pc = .ok (.invokevirtual index, 3)) (hf : cells + mc ≤ R.cells ∧ slots + ms ≤ R.slots) :
    vx_Run p l e R s m args below meth c H locs cells slots mc ms g rest (Qc (Value.ref b :: As).toArray) XC free := by
  have hK : vx_Back l R p e below s args y 3 8 (PreOf R mc ms Pc) (PostOf Qc mc ms free) (vx_Post XC mc ms free) := vx_callBack cw.1 hM hp.1
  obtain ⟨⟨-, -, -, -, -, -, hcode, -, hy, hlen, hl⟩, hin, hse⟩ := cw
  obtain ⟨hx, hb, hml, ho, -⟩ := S
  obtain ⟨-, ⟨cellB, hcB, hoB, hclB⟩, hPc⟩ := hp
  intro T hT X
  rcases vx_callV X hx (C := C) (bytes := bytes) (maxL := maxL) (ret := ret) ho hl hin hse hcode hy hK (by rw [hT]; exact hcB) hoB hclB hg (hsize.trans hml.symm) (argsL := As) (rest := rest) (fun sig h => hn.trans (hlen sig h)) hstack hW (by rw [hb]; exact hdg)
    (fun vm₁ hW₁ => ⟨hf.1, hf.2, hPc (T.setVm vm₁) hT hW₁⟩) with ⟨v, vm₁, ⟨U', l2, c2, s2⟩, hW₁, X', ⟨g', mk, t, L, e1, e2, hq, h1, hL, h2, h3⟩, st⟩ | ⟨q, vm₁, ⟨U', l2, c2, s2⟩, hW₁, X', ⟨g', mk, t, L, E, ce, e1, e2, hq, hce, hcv, hcl, h1, hL, h2, h3⟩, st⟩
  · dsimp only [Pt.U, Pt.locs, Pt.cells, Pt.slots] at X' e1 e2 h1 h2 h3 st
    subst h1; subst h2; subst h3
    exact Or.inl ⟨v, (T.setVm vm₁).calling g' mk (Value.ref b :: As).toArray, t, U', L, hT, X', hL, e1, e2, hq, st⟩
  · dsimp only [Pt.U, Pt.locs, Pt.cells, Pt.slots] at X' e1 e2 h1 h2 h3 st hcl
    subst h1; subst h2; subst h3
    exact Or.inr ⟨q, (T.setVm vm₁).calling g' mk (Value.ref b :: As).toArray, t, U', L, E, ce, hT, X', hL, e1, e2, hq, hce, hcv, vx_cls hW₁ hcl, st⟩
theorem vx_runS (S : CallFix p m c cc nL s args Ts own) (hM : vx_Met l y ws rm Pc Qc XC mc ms free) (cw : CallB R s args own index y bytes maxL ret ws rm mc ms n ∧ (Cond.static y).before args s = true) (hp : PreS s H Pc As)
    (hg : g.method = m) (hn : As.length = n) (hsize : g.locals.size = nL) (hstack : g.stack = As.reverse ++ rest) (hW : 2 * g.monitorRoom + (rest.map fun v => v.category).sum ≤ 8) (hdg : decode cc g.pc = .ok (.invokestatic index, 3)) (hf : cells + mc ≤ R.cells ∧ slots + ms ≤ R.slots) :
    vx_Run p l e R s m args below meth c H locs cells slots mc ms g rest (Qc As.toArray) XC free := by
  have hK : vx_Back l R p e below s args y 3 8 (PreOf R mc ms Pc) (PostOf Qc mc ms free) (vx_Post XC mc ms free) := vx_callBack cw.1 hM hp.1
  obtain ⟨⟨-, -, -, -, -, -, hcode, hini, hy, hlen, hl⟩, hstt⟩ := cw
  obtain ⟨hx, hb, hml, ho, -⟩ := S
  intro T hT X
  rcases vx_callS X hx (bytes := bytes) (maxL := maxL) (ret := ret) ho hl hstt hini hcode hy hK hg (hsize.trans hml.symm) (argsL := As) (rest := rest) (fun sig h => hn.trans (hlen sig h)) hstack hW (by rw [hb]; exact hdg)
    (fun vm₁ hW₁ => ⟨hf.1, hf.2, hp.2 (T.setVm vm₁) hT hW₁⟩) with ⟨v, vm₁, ⟨U', l2, c2, s2⟩, hW₁, X', ⟨g', mk, t, L, e1, e2, hq, h1, hL, h2, h3⟩, st⟩ | ⟨q, vm₁, ⟨U', l2, c2, s2⟩, hW₁, X', ⟨g', mk, t, L, E, ce, e1, e2, hq, hce, hcv, hcl, h1, hL, h2, h3⟩, st⟩
  · dsimp only [Pt.U, Pt.locs, Pt.cells, Pt.slots] at X' e1 e2 h1 h2 h3 st
    subst h1; subst h2; subst h3
    exact Or.inl ⟨v, (T.setVm vm₁).calling g' mk As.toArray, t, U', L, hT, X', hL, e1, e2, hq, st⟩
  · dsimp only [Pt.U, Pt.locs, Pt.cells, Pt.slots] at X' e1 e2 h1 h2 h3 st hcl
    subst h1; subst h2; subst h3
    exact Or.inr ⟨q, (T.setVm vm₁).calling g' mk As.toArray, t, U', L, E, ce, hT, X', hL, e1, e2, hq, hce, hcv, vx_cls hW₁ hcl, st⟩
end Runs
section Rows
variable {p : Program} {l : Launch} {e : Env} {R : Room} {s : State} {m : MethodId} {args : Array Value} {below : List Frame} {meth : Method} {c : Code} {H : Heap} {locs : List Loc} {cells slots : Nat} {Q : State → Prop}
variable {mc ms : Nat} {free : Addr → Prop} {A0 A1 : Nat → Prop} {H0 : Heap} {a : Array Value} {pc : Nat} {ls : Array Slot} {st0 rest : List Value}
theorem vx_keep {st₀ t T' : State} {L : List Loc} (h0 : st₀.heap = H) (e1 : T'.heap = t.heap) (hS : va_S A0 H0 H locs) (hA : ∀ q, q < H.size → A1 q → A0 q) (hf : ∀ q, free q → A0 q) (hL : ∀ q ∈ L, free q.base) (hF : va_F A1 st₀ t) :
    H.size ≤ T'.heap.size ∧ (∀ q : Nat, q < H.size → ¬ A1 q → T'.heap[q]? = H[q]?) ∧ va_S A0 H0 T'.heap (locs ++ L) := by
  obtain ⟨hz, hk⟩ := hF
  rw [h0] at hz hk
  exact ⟨by rw [e1]; exact hz, fun q h1 h2 => by rw [e1]; exact hk q h1 h2,
    ⟨Nat.le_trans hS.1 (by rw [e1]; exact hz), fun q h1 h2 => by rw [e1, hk q (Nat.lt_of_lt_of_le h1 hS.1) (fun z => h2 (hA q (Nat.lt_of_lt_of_le h1 hS.1) z))]; exact hS.2.1 q h1 h2, fun q hq => by
      rcases List.mem_append.mp hq with h | h
      · exact hS.2.2 q h
      · exact hf _ (hL q h)⟩⟩
theorem vx_calli {S SX : Type} {post : Int32 → S → Prop} {px : SX → Prop} {B : S → State → Prop} {BX : String → SX → State → Prop} {AX : Nat → Prop} (hr : vx_Run p l e R s m args below meth c H locs cells slots mc ms (F0 m pc ls st0) rest (va_Qi post B A1 a) (vx_X px BX AX) free) (hS : va_S A0 H0 H locs) (hA : ∀ q, q < H.size → A1 q → A0 q) (hf : ∀ q, free q → A0 q) (hAX : ∀ q, q < H.size → AX q → A0 q)
    (kx : ∀ (E : String) (ce : Cell) (q9 : Addr) (u : SX) (t : State) (H1 : Heap) (locs1 : List Loc), t.heap = H1 → s.vm.Alike t.vm → px u → BX E u t → H.size ≤ H1.size → (∀ q : Nat, q < H.size → ¬ AX q → H1[q]? = H[q]?) → va_S A0 H0 H1 locs1 → H1[q9]? = some ce → ce.vm = .none → s.vm.findClass E = some ce.cls → vx_W p l e R s m args below meth c H1 locs1 (cells + mc) (slots + ms) Q (F0 m pc ls rest) q9)
    (kk : ∀ (r : Int32) (u : S) (t : State) (H1 : Heap) (locs1 : List Loc), t.heap = H1 → s.vm.Alike t.vm → post r u → B u t → H.size ≤ H1.size → (∀ q : Nat, q < H.size → ¬ A1 q → H1[q]? = H[q]?) → va_S A0 H0 H1 locs1 → W p l e R s m args below meth c H1 locs1 (cells + mc) (slots + ms) Q (F0 m (pc + 3) ls (.int r :: rest))) : W p l e R s m args below meth c H locs cells slots Q (F0 m pc ls st0) := by
  intro T hT X
  rcases hr T hT X with ⟨v, st₀, t, T', L, h0, X', hL, e1, e2, ⟨⟨r, u, hv, hp, hb⟩, hF⟩, st⟩ | ⟨q, st₀, t, T', L, E, ce, h0, X', hL, e1, e2, ⟨u, hp, hb, hF⟩, hce, hcv, hcl, st⟩
  · cases hv
    obtain ⟨k1, k2, k3⟩ := vx_keep h0 e1 hS hA hf hL hF
    obtain ⟨t2, a1, b1⟩ := kk r u t T'.heap (locs ++ L) e1.symm (by rw [← e2]; exact X'.warmed.alike) hp hb k1 k2 k3 T' rfl X'
    exact ⟨t2, st t2 a1, b1⟩
  · obtain ⟨k1, k2, k3⟩ := vx_keep h0 e1 hS hAX hf hL hF
    obtain ⟨t2, a1, b1⟩ := kx E ce q u t T'.heap (locs ++ L) e1.symm (by rw [← e2]; exact X'.warmed.alike) hp hb k1 k2 k3 (by rw [e1]; exact hce) hcv hcl T' rfl X'
    exact ⟨t2, st.trans a1, b1⟩
theorem vx_calll {S SX : Type} {post : Int64 → S → Prop} {px : SX → Prop} {B : S → State → Prop} {BX : String → SX → State → Prop} {AX : Nat → Prop} (hr : vx_Run p l e R s m args below meth c H locs cells slots mc ms (F0 m pc ls st0) rest (va_Ql post B A1 a) (vx_X px BX AX) free) (hS : va_S A0 H0 H locs) (hA : ∀ q, q < H.size → A1 q → A0 q) (hf : ∀ q, free q → A0 q) (hAX : ∀ q, q < H.size → AX q → A0 q)
    (kx : ∀ (E : String) (ce : Cell) (q9 : Addr) (u : SX) (t : State) (H1 : Heap) (locs1 : List Loc), t.heap = H1 → s.vm.Alike t.vm → px u → BX E u t → H.size ≤ H1.size → (∀ q : Nat, q < H.size → ¬ AX q → H1[q]? = H[q]?) → va_S A0 H0 H1 locs1 → H1[q9]? = some ce → ce.vm = .none → s.vm.findClass E = some ce.cls → vx_W p l e R s m args below meth c H1 locs1 (cells + mc) (slots + ms) Q (F0 m pc ls rest) q9)
    (kk : ∀ (r : Int64) (u : S) (t : State) (H1 : Heap) (locs1 : List Loc), t.heap = H1 → s.vm.Alike t.vm → post r u → B u t → H.size ≤ H1.size → (∀ q : Nat, q < H.size → ¬ A1 q → H1[q]? = H[q]?) → va_S A0 H0 H1 locs1 → W p l e R s m args below meth c H1 locs1 (cells + mc) (slots + ms) Q (F0 m (pc + 3) ls (.long r :: rest))) : W p l e R s m args below meth c H locs cells slots Q (F0 m pc ls st0) := by
  intro T hT X
  rcases hr T hT X with ⟨v, st₀, t, T', L, h0, X', hL, e1, e2, ⟨⟨r, u, hv, hp, hb⟩, hF⟩, st⟩ | ⟨q, st₀, t, T', L, E, ce, h0, X', hL, e1, e2, ⟨u, hp, hb, hF⟩, hce, hcv, hcl, st⟩
  · cases hv
    obtain ⟨k1, k2, k3⟩ := vx_keep h0 e1 hS hA hf hL hF
    obtain ⟨t2, a1, b1⟩ := kk r u t T'.heap (locs ++ L) e1.symm (by rw [← e2]; exact X'.warmed.alike) hp hb k1 k2 k3 T' rfl X'
    exact ⟨t2, st t2 a1, b1⟩
  · obtain ⟨k1, k2, k3⟩ := vx_keep h0 e1 hS hAX hf hL hF
    obtain ⟨t2, a1, b1⟩ := kx E ce q u t T'.heap (locs ++ L) e1.symm (by rw [← e2]; exact X'.warmed.alike) hp hb k1 k2 k3 (by rw [e1]; exact hce) hcv hcl T' rfl X'
    exact ⟨t2, st.trans a1, b1⟩
theorem vx_callf {S SX : Type} {post : UInt32 → S → Prop} {px : SX → Prop} {B : S → State → Prop} {BX : String → SX → State → Prop} {AX : Nat → Prop} (hr : vx_Run p l e R s m args below meth c H locs cells slots mc ms (F0 m pc ls st0) rest (va_Qf post B A1 a) (vx_X px BX AX) free) (hS : va_S A0 H0 H locs) (hA : ∀ q, q < H.size → A1 q → A0 q) (hf : ∀ q, free q → A0 q) (hAX : ∀ q, q < H.size → AX q → A0 q)
    (kx : ∀ (E : String) (ce : Cell) (q9 : Addr) (u : SX) (t : State) (H1 : Heap) (locs1 : List Loc), t.heap = H1 → s.vm.Alike t.vm → px u → BX E u t → H.size ≤ H1.size → (∀ q : Nat, q < H.size → ¬ AX q → H1[q]? = H[q]?) → va_S A0 H0 H1 locs1 → H1[q9]? = some ce → ce.vm = .none → s.vm.findClass E = some ce.cls → vx_W p l e R s m args below meth c H1 locs1 (cells + mc) (slots + ms) Q (F0 m pc ls rest) q9)
    (kk : ∀ (r : UInt32) (u : S) (t : State) (H1 : Heap) (locs1 : List Loc), t.heap = H1 → s.vm.Alike t.vm → post r u → B u t → H.size ≤ H1.size → (∀ q : Nat, q < H.size → ¬ A1 q → H1[q]? = H[q]?) → va_S A0 H0 H1 locs1 → W p l e R s m args below meth c H1 locs1 (cells + mc) (slots + ms) Q (F0 m (pc + 3) ls (.float r :: rest))) : W p l e R s m args below meth c H locs cells slots Q (F0 m pc ls st0) := by
  intro T hT X
  rcases hr T hT X with ⟨v, st₀, t, T', L, h0, X', hL, e1, e2, ⟨⟨r, u, hv, hp, hb⟩, hF⟩, st⟩ | ⟨q, st₀, t, T', L, E, ce, h0, X', hL, e1, e2, ⟨u, hp, hb, hF⟩, hce, hcv, hcl, st⟩
  · cases hv
    obtain ⟨k1, k2, k3⟩ := vx_keep h0 e1 hS hA hf hL hF
    obtain ⟨t2, a1, b1⟩ := kk r u t T'.heap (locs ++ L) e1.symm (by rw [← e2]; exact X'.warmed.alike) hp hb k1 k2 k3 T' rfl X'
    exact ⟨t2, st t2 a1, b1⟩
  · obtain ⟨k1, k2, k3⟩ := vx_keep h0 e1 hS hAX hf hL hF
    obtain ⟨t2, a1, b1⟩ := kx E ce q u t T'.heap (locs ++ L) e1.symm (by rw [← e2]; exact X'.warmed.alike) hp hb k1 k2 k3 (by rw [e1]; exact hce) hcv hcl T' rfl X'
    exact ⟨t2, st.trans a1, b1⟩
theorem vx_calld {S SX : Type} {post : UInt64 → S → Prop} {px : SX → Prop} {B : S → State → Prop} {BX : String → SX → State → Prop} {AX : Nat → Prop} (hr : vx_Run p l e R s m args below meth c H locs cells slots mc ms (F0 m pc ls st0) rest (va_Qd post B A1 a) (vx_X px BX AX) free) (hS : va_S A0 H0 H locs) (hA : ∀ q, q < H.size → A1 q → A0 q) (hf : ∀ q, free q → A0 q) (hAX : ∀ q, q < H.size → AX q → A0 q)
    (kx : ∀ (E : String) (ce : Cell) (q9 : Addr) (u : SX) (t : State) (H1 : Heap) (locs1 : List Loc), t.heap = H1 → s.vm.Alike t.vm → px u → BX E u t → H.size ≤ H1.size → (∀ q : Nat, q < H.size → ¬ AX q → H1[q]? = H[q]?) → va_S A0 H0 H1 locs1 → H1[q9]? = some ce → ce.vm = .none → s.vm.findClass E = some ce.cls → vx_W p l e R s m args below meth c H1 locs1 (cells + mc) (slots + ms) Q (F0 m pc ls rest) q9)
    (kk : ∀ (r : UInt64) (u : S) (t : State) (H1 : Heap) (locs1 : List Loc), t.heap = H1 → s.vm.Alike t.vm → post r u → B u t → H.size ≤ H1.size → (∀ q : Nat, q < H.size → ¬ A1 q → H1[q]? = H[q]?) → va_S A0 H0 H1 locs1 → W p l e R s m args below meth c H1 locs1 (cells + mc) (slots + ms) Q (F0 m (pc + 3) ls (.double r :: rest))) : W p l e R s m args below meth c H locs cells slots Q (F0 m pc ls st0) := by
  intro T hT X
  rcases hr T hT X with ⟨v, st₀, t, T', L, h0, X', hL, e1, e2, ⟨⟨r, u, hv, hp, hb⟩, hF⟩, st⟩ | ⟨q, st₀, t, T', L, E, ce, h0, X', hL, e1, e2, ⟨u, hp, hb, hF⟩, hce, hcv, hcl, st⟩
  · cases hv
    obtain ⟨k1, k2, k3⟩ := vx_keep h0 e1 hS hA hf hL hF
    obtain ⟨t2, a1, b1⟩ := kk r u t T'.heap (locs ++ L) e1.symm (by rw [← e2]; exact X'.warmed.alike) hp hb k1 k2 k3 T' rfl X'
    exact ⟨t2, st t2 a1, b1⟩
  · obtain ⟨k1, k2, k3⟩ := vx_keep h0 e1 hS hAX hf hL hF
    obtain ⟨t2, a1, b1⟩ := kx E ce q u t T'.heap (locs ++ L) e1.symm (by rw [← e2]; exact X'.warmed.alike) hp hb k1 k2 k3 (by rw [e1]; exact hce) hcv hcl T' rfl X'
    exact ⟨t2, st.trans a1, b1⟩
theorem vx_callv {S SX : Type} {post : S → Prop} {px : SX → Prop} {B : S → State → Prop} {BX : String → SX → State → Prop} {AX : Nat → Prop} (hr : vx_Run p l e R s m args below meth c H locs cells slots mc ms (F0 m pc ls st0) rest (va_Qv post B A1 a) (vx_X px BX AX) free) (hS : va_S A0 H0 H locs) (hA : ∀ q, q < H.size → A1 q → A0 q) (hf : ∀ q, free q → A0 q) (hAX : ∀ q, q < H.size → AX q → A0 q)
    (kx : ∀ (E : String) (ce : Cell) (q9 : Addr) (u : SX) (t : State) (H1 : Heap) (locs1 : List Loc), t.heap = H1 → s.vm.Alike t.vm → px u → BX E u t → H.size ≤ H1.size → (∀ q : Nat, q < H.size → ¬ AX q → H1[q]? = H[q]?) → va_S A0 H0 H1 locs1 → H1[q9]? = some ce → ce.vm = .none → s.vm.findClass E = some ce.cls → vx_W p l e R s m args below meth c H1 locs1 (cells + mc) (slots + ms) Q (F0 m pc ls rest) q9)
    (kk : ∀ (u : S) (t : State) (H1 : Heap) (locs1 : List Loc), t.heap = H1 → s.vm.Alike t.vm → post u → B u t → H.size ≤ H1.size → (∀ q : Nat, q < H.size → ¬ A1 q → H1[q]? = H[q]?) → va_S A0 H0 H1 locs1 → W p l e R s m args below meth c H1 locs1 (cells + mc) (slots + ms) Q (F0 m (pc + 3) ls (rest))) : W p l e R s m args below meth c H locs cells slots Q (F0 m pc ls st0) := by
  intro T hT X
  rcases hr T hT X with ⟨v, st₀, t, T', L, h0, X', hL, e1, e2, ⟨⟨u, hv, hp, hb⟩, hF⟩, st⟩ | ⟨q, st₀, t, T', L, E, ce, h0, X', hL, e1, e2, ⟨u, hp, hb, hF⟩, hce, hcv, hcl, st⟩
  · cases hv
    obtain ⟨k1, k2, k3⟩ := vx_keep h0 e1 hS hA hf hL hF
    obtain ⟨t2, a1, b1⟩ := kk u t T'.heap (locs ++ L) e1.symm (by rw [← e2]; exact X'.warmed.alike) hp hb k1 k2 k3 T' rfl X'
    exact ⟨t2, st t2 a1, b1⟩
  · obtain ⟨k1, k2, k3⟩ := vx_keep h0 e1 hS hAX hf hL hF
    obtain ⟨t2, a1, b1⟩ := kx E ce q u t T'.heap (locs ++ L) e1.symm (by rw [← e2]; exact X'.warmed.alike) hp hb k1 k2 k3 (by rw [e1]; exact hce) hcv hcl T' rfl X'
    exact ⟨t2, st.trans a1, b1⟩
/-- caught by the row x of this method's table; the rows ahead don't take it -/
theorem vx_catch {own name : String} {E : String} {ce : Cell} {q : Addr} (hown : s.vm.findClass own = some m.cls) (pre : List ExceptionTableEntry) (x : ExceptionTableEntry) (suf : List ExceptionTableEntry) (hsplit : c.exceptionTable.toList = pre ++ x :: suf)
    (hpass : ∀ z ∈ pre, covers z pc = false ∨ (z.catchType ≠ 0 ∧ ∃ nm : String, (Cond.classLink own z.catchType nm).before args s = true ∧ va_Nc E nm s)) (hx : covers x pc = true) (h0 : x.catchType ≠ 0)
    (hlink : (Cond.classLink own x.catchType name).before args s = true) (hcast : (Cond.castable E name).before args s = true) (hcell : H[q]? = some ce) (hv : ce.vm = .none) (hcl : s.vm.findClass E = some ce.cls)
    (kk : W p l e R s m args below meth c H locs cells slots Q (F0 m x.handlerPc ls [.ref q])) : vx_W p l e R s m args below meth c H locs cells slots Q (F0 m pc ls rest) q := by
  intro T hT X
  have hpl : e.platform.magicAccessors = ({} : Platform).magicAccessors := by rw [X.admits.platform]
  obtain ⟨c3, c4, hc3, hc4, hasg⟩ := Cond.castable_spec hcast
  cases Option.some.inj (hc3.symm.trans hcl)
  obtain ⟨c5, hc5, hcl5⟩ := Cond.classLink_spec hown hlink e.platform hpl
  cases Option.some.inj (hc4.symm.trans hc5)
  obtain ⟨vm', X', st⟩ := X.thenCaughtThrough q (g := F0 m pc ls rest) rfl (Steps.refl _) (by rw [hT]; exact hcell) (by rw [hv]; rfl) (by obtain ⟨k9, h9, -⟩ := Vm.findClass_spec hcl; exact ⟨k9, h9⟩) pre x suf hsplit
    (fun z hz => by
      rcases hpass z hz with h | ⟨hz0, nm, hl1, hn1⟩
      · exact Or.inl h
      · obtain ⟨c6, hc6, hcl6⟩ := Cond.classLink_spec hown hl1 e.platform hpl
        obtain ⟨a8, b8, h1, h2, h3⟩ := hn1
        cases Option.some.inj (h1.symm.trans hcl)
        cases Option.some.inj (h2.symm.trans hc6)
        exact Or.inr ⟨hz0, _, hcl6, h3⟩) hx (Or.inr ⟨h0, c4, hcl5, hasg⟩)
  obtain ⟨t, a1, b1⟩ := kk (T.setVm vm') hT X'
  exact ⟨t, st.trans a1, b1⟩
end Rows
section Ends
variable {p : Program} {l : Launch} {e : Env} {R : Room} {s : State} {m : MethodId} {args : Array Value} {below : List Frame} {meth : Method} {c : Code} {H : Heap} {locs : List Loc} {cells slots : Nat} {Q : State → Prop}
variable {mc ms : Nat} {free : Addr → Prop} {A0 A1 : Nat → Prop} {H0 : Heap} {a : Array Value} {ls : Array Slot} {st0 rest : List Value}
variable {Qc : Array Value → State → Outcome → State → Prop} {XC : String → State → State → Prop}
/-- what a body that may throw owes at its end -/
def vx_MQ (below : List Frame) (Qc : Array Value → State → Outcome → State → Prop) (XC : String → State → State → Prop) (a : Array Value) (s : State) (mc ms : Nat) (free : Addr → Prop) : State → Prop := fun t =>
  ∃ o, t.status = .running ∧ Ended t below o ∧ vx_Q Qc XC mc ms free a s o t
theorem vx_ret {g : JFrame} {mc ms : Nat} (k : W p l e R s m args below meth c H locs cells slots (MQ below Qc args s mc ms free) g) : W p l e R s m args below meth c H locs cells slots (vx_MQ below Qc XC args s mc ms free) g := by
  intro T hT X
  obtain ⟨t, a1, o, b1, b2, b3, b4⟩ := k T hT X
  exact ⟨t, a1, o, b1, b2, Or.inl ⟨b3, b4⟩⟩
/-- not caught here: it goes on to the caller -/
theorem vx_widen {g : JFrame} {q : Addr} {k n : Nat} (h1 : cells ≤ k) (h2 : slots ≤ n) (kk : vx_W p l e R s m args below meth c H locs k n Q g q) : vx_W p l e R s m args below meth c H locs cells slots Q g q := fun T hT X => kk T hT (stand_widen X h1 h2)
theorem vx_out {pc : Nat} {E : String} {ce : Cell} {q : Addr} {mc ms : Nat} (hout : ∀ x ∈ c.exceptionTable.toList, covers x pc = false) (hlocks : meth.locks = false) (hcell : H[q]? = some ce) (hv : ce.vm = .none) (hcl : s.vm.findClass E = some ce.cls)
    (hx : ∀ t : State, t.heap = H → s.vm.Alike t.vm → XC E s t) (hf : ∀ z ∈ locs, free z.base) (hc : cells ≤ mc) (hs : slots ≤ ms) :
    vx_W p l e R s m args below meth c H locs cells slots (vx_MQ below Qc XC args s mc ms free) (F0 m pc ls rest) q := by
  intro T hT X
  obtain ⟨st1, hrun, hend, hW, hsm⟩ := X.leaveThrown q (g := F0 m pc ls rest) rfl rfl rfl hout hlocks
  have hcell9 : (T.setFrames (.throwing q :: below)).heap[q]? = some ce := by
    show T.heap[q]? = some ce
    rw [hT]; exact hcell
  exact ⟨_, st1, .threw q, hrun, hend, Or.inr ⟨q, rfl, E, ce, locs, hx _ hT hW.alike, hcell9, hv, hcl, hW, hsm.mono hc hs, hf⟩⟩
theorem vx_frame {U : State} {k n : Nat} (h : s.sameButNew ({ U with vm := s.vm } : State) locs k n) : s.heap.size ≤ U.heap.size ∧ ∀ q : Nat, q < s.heap.size → (∀ z ∈ locs, z.base ≠ q) → U.heap[q]? = s.heap[q]? := by
  obtain ⟨-, h2, -, -, -, h6⟩ := h
  refine ⟨h2, fun q hq hz => ?_⟩
  obtain ⟨c9, e1, e2, e3, e4⟩ := h6 q _ (Array.getElem?_eq_getElem hq)
  have hs : c9.slots = (s.heap[q]).slots := Array.ext_getElem? fun i => e4 i fun hm => hz _ hm rfl
  have h9 : c9 = s.heap[q] := by
    rw [hs] at e2
    exact e2
  have e5 : U.heap[q]? = some c9 := e1
  rw [e5, h9, Array.getElem?_eq_getElem hq]
/-- the words of a throw but the four that speak of the heap -/
def vx_no (w : Cond) : Bool := decide (w ≠ .isRef (.static Bundle.tN "UNASSIGNED_STACK" Bundle.steD)) && decide (w ≠ .isRef (.static Bundle.tN "SUPPRESSED_SENTINEL" Bundle.listD)) && decide (w ≠ .laysStatic Bundle.tN "UNASSIGNED_STACK" Bundle.steD) && decide (w ≠ .laysStatic Bundle.tN "SUPPRESSED_SENTINEL" Bundle.listD)
def vx_at0 (own : String) (ic : Nat) (X : String) (names : List String) : List Cond := (Bundle.ownAtoms0 own ic X names).filter vx_no
def vx_atS (own : String) (ic : Nat) (X : String) (names : List String) : List Cond := (Bundle.ownAtoms own ic X names).filter vx_no
/-- a word that the tables alone decide, or a good one -/
def vx_ot (w : Cond) : Bool := w.onTables || goodWord w
theorem vx_ot_at {args a' : Array Value} {s U : State} {w : Cond} (hW : s.WarmedH U.vm) (hvm : s.vm = U.vm) (hg : vx_ot w = true) (h : w.before args s = true) : w.before a' U = true := by
  simp only [vx_ot, Bool.or_eq_true] at hg
  rcases hg with hg | hg
  · exact va_tabs hg hvm h
  · exact word_at hW (good_of_word hg) h
/-- a list's words: the good ones out of the method's own list, the others by premises of their own -/
theorem vx_hat {args : Array Value} {s : State} {L B : List Cond} (h1 : ∀ w ∈ L.filter goodWord, w.before args s = true) (h2 : ∀ w ∈ L.filter (fun w => !goodWord w), w ∈ B) (h3 : ∀ w ∈ B, w.before args s = true) : ∀ w ∈ L, w.before args s = true := by
  intro w hw
  by_cases g : goodWord w = true
  · exact h1 w (List.mem_filter.mpr ⟨hw, g⟩)
  · refine h3 w (h2 w (List.mem_filter.mpr ⟨hw, ?_⟩))
    show (!goodWord w) = true
    cases hgw : goodWord w
    · rfl
    · exact absurd hgw g
theorem vx_c {args : Array Value} {s : State} {w : Cond} {B : List Cond} (h : w.before args s = true) (t : ∀ w ∈ B, w.before args s = true) : ∀ w' ∈ w :: B, w'.before args s = true := fun w' h' => (List.mem_cons.mp h').elim (fun e => by rw [e]; exact h) (t w')
theorem vx_n {args : Array Value} {s : State} : ∀ w ∈ ([] : List Cond), w.before args s = true := fun _ h => nomatch h
theorem vx_own {args : Array Value} {s : State} {L : List Cond} (h1 : ∀ w ∈ L.filter vx_no, w.before args s = true)
    (hU : (Cond.isRef (.static Bundle.tN "UNASSIGNED_STACK" Bundle.steD)).before args s = true) (hN : (Cond.isRef (.static Bundle.tN "SUPPRESSED_SENTINEL" Bundle.listD)).before args s = true)
    (lU : (Cond.laysStatic Bundle.tN "UNASSIGNED_STACK" Bundle.steD).before args s = true) (lN : (Cond.laysStatic Bundle.tN "SUPPRESSED_SENTINEL" Bundle.listD).before args s = true) : ∀ w ∈ L, w.before args s = true := by
  intro w hw
  by_cases e1 : w = .isRef (.static Bundle.tN "UNASSIGNED_STACK" Bundle.steD)
  · rw [e1]; exact hU
  · by_cases e2 : w = .isRef (.static Bundle.tN "SUPPRESSED_SENTINEL" Bundle.listD)
    · rw [e2]; exact hN
    · by_cases e3 : w = .laysStatic Bundle.tN "UNASSIGNED_STACK" Bundle.steD
      · rw [e3]; exact lU
      · by_cases e4 : w = .laysStatic Bundle.tN "SUPPRESSED_SENTINEL" Bundle.listD
        · rw [e4]; exact lN
        · exact h1 w (List.mem_filter.mpr ⟨hw, by unfold vx_no; rw [decide_eq_true e1, decide_eq_true e2, decide_eq_true e3, decide_eq_true e4]; rfl⟩)
/-- where a static field lies, its class's statics cell in H -/
def vx_L (C n d : String) (A : Nat → Prop) (U : State) (H : Heap) : Prop := ∃ (c : ClassId) (k : Class) (i : Nat) (f : Field) (a : Nat) (cell : Cell), U.vm.findClass C = some c ∧ U.fieldFound? C n d = some (c, k, i, f) ∧ f.isStatic = true ∧ k.statics = some a ∧ H[a]? = some cell ∧ cell.vm.isStatics = true ∧ cell.cls = c ∧ f.slot < cell.slots.size ∧ k.staticTypes[f.slot]? = some f.type ∧ ¬ A a
theorem vx_L.moved {C n d : String} {A : Nat → Prop} {u U : State} {H : Heap} (hvm : u.vm.Alike U.vm) (h : vx_L C n d A u H) : vx_L C n d A U H := by
  obtain ⟨c, k, i, f, a, cell, h1, h2, h3, h4, h5, h6, h7, h8, h9, h10⟩ := h
  obtain ⟨k', hi', he⟩ := State.fieldFound?_setVm hvm h2
  exact ⟨c, k', i, f, a, cell, by rw [hvm.findClass]; exact h1, hi', h3, by rw [he]; exact h4, h5, h6, h7, h8, by rw [he]; exact h9, h10⟩
theorem vx_L.kept {C n d : String} {A : Nat → Prop} {U : State} {H H1 : Heap} (h : vx_L C n d A U H) (hq : ∀ a : Nat, a < H.size → ¬ A a → H1[a]? = H[a]?) : vx_L C n d A U H1 := by
  obtain ⟨c, k, i, f, a, cell, h1, h2, h3, h4, h5, h6, h7, h8, h9, h10⟩ := h
  exact ⟨c, k, i, f, a, cell, h1, h2, h3, h4, by rw [hq a (Array.getElem?_eq_some_iff.mp h5).1 h10]; exact h5, h6, h7, h8, h9, h10⟩
theorem vx_L.narrow {C n d : String} {A B : Nat → Prop} {U : State} {H : Heap} (h : vx_L C n d A U H) (hAB : ∀ q, B q → A q) : vx_L C n d B U H := by
  obtain ⟨c, k, i, f, a, cell, h1, h2, h3, h4, h5, h6, h7, h8, h9, h10⟩ := h
  exact ⟨c, k, i, f, a, cell, h1, h2, h3, h4, h5, h6, h7, h8, h9, fun z => h10 (hAB _ z)⟩
theorem vx_L.word {C n d : String} {A : Nat → Prop} {s : State} {args : Array Value} (h : vx_L C n d A s s.heap) : (Cond.laysStatic C n d).before args s = true := by
  obtain ⟨c, k, i, f, a, cell, h1, h2, h3, h4, h5, h6, h7, h8, h9, -⟩ := h
  show (Cond.laysStatic C n d).holds args s none s [] = true
  exact Cond.laysStatic_of h1 h2 h3 h4 h5 h6 h7 h8 h9
/-- .. and what it holds: null or some reference -/
def vx_Zq (C n d : String) (A : Nat → Prop) (U : State) (H : Heap) : Prop := va_Zq C n d A U H ∧ vx_L C n d A U H
theorem vx_Zq.moved {C n d : String} {A : Nat → Prop} {u U : State} {H : Heap} (hvm : u.vm.Alike U.vm) (h : vx_Zq C n d A u H) : vx_Zq C n d A U H := ⟨va_Zq.moved hvm h.1, vx_L.moved hvm h.2⟩
theorem vx_Zq.kept {C n d : String} {A : Nat → Prop} {U : State} {H H1 : Heap} (h : vx_Zq C n d A U H) (hq : ∀ a : Nat, a < H.size → ¬ A a → H1[a]? = H[a]?) : vx_Zq C n d A U H1 := ⟨va_Zq.kept h.1 hq, vx_L.kept h.2 hq⟩
theorem vx_Zq.narrow {C n d : String} {A B : Nat → Prop} {U : State} {H : Heap} (h : vx_Zq C n d A U H) (hAB : ∀ q, B q → A q) : vx_Zq C n d B U H := ⟨va_Zq.narrow h.1 hAB, vx_L.narrow h.2 hAB⟩
theorem vx_Zqof {args : Array Value} {s : State} {C n d : String} {A : Nat → Prop} (hl : (Cond.laysStatic C n d).before args s = true) (hini : (Cond.initialized C).before args s = true) (h : (Cond.isRef (.static C n d)).before args s = true) (hA : ∀ a : Nat, a < s.heap.size → ¬ A a) : vx_Zq C n d A s s.heap := by
  refine ⟨va_Zqof hl hini h hA, ?_⟩
  obtain ⟨c, k, i, f, a, cell, h1, h2, h3, h4, h5, h6, h7, h8, h9⟩ := Cond.laysStatic_spec hl
  exact ⟨c, k, i, f, a, cell, h1, h2, h3, h4, h5, h6, h7, h8, h9, hA a (Array.getElem?_eq_some_iff.mp h5).1⟩
theorem vx_isRef {C n d : String} {v : Value} {A : Nat → Prop} {s : State} {args : Array Value} (h : va_Z C n d v A s s.heap) (hv : v.isRef = true) : (Cond.isRef (.static C n d)).before args s = true := by
  obtain ⟨cf, kf, fi, f, a, cell, h1, h2, h3, h4, h5, h6, h7, -⟩ := h
  have he : (Term.static C n d).eval args s none [] s = some v := by
    simp [Term.eval, State.fieldNamed?, h1, h2, h4, h5, h6, h7]
  simp only [Cond.before, Cond.holds, Cond.value, he]
  cases v <;> simp_all [Value.isRef]
theorem vx_isRefq {C n d : String} {A : Nat → Prop} {s : State} {args : Array Value} (h : va_Zq C n d A s s.heap) : (Cond.isRef (.static C n d)).before args s = true := by
  rcases h with h | ⟨t, h⟩
  · exact vx_isRef h rfl
  · exact vx_isRef h rfl
/-- the same frame, seen from here: as if the method were called anew in this heap -/
theorem vx_rebase {T : State} (X : Stand p l e R s m args below meth c T locs cells slots) {R' : Room} (hf : R'.frames ≤ R.frames) (hl : R'.locals ≤ R.locals) (hc : cells + R'.cells ≤ R.cells) (hs : slots + R'.slots ≤ R.slots) :
    Stand p l e R' ((T.setVm s.vm).setFrames (.invoking m args :: below)) m args below meth c T [] 0 0 := by
  have htop : (T.setVm s.vm).topJava?.isSome := X.here.top
  have hF : ((T.setVm s.vm).setFrames (.invoking m args :: below)).frames = .invoking m args :: below := State.frames_setFrames _ (State.cur_lt_of_top htop)
  obtain ⟨g₀, hg0⟩ := Option.isSome_iff_exists.mp htop
  obtain ⟨r, hr⟩ := State.topJava?_eq_some.mp hg0
  have hl9 : e.platform.stackLimits (T.setVm s.vm).me = e.platform.stackLimits s.me := X.limits
  have hb9 : (T.setVm s.vm).me.stackBytes = s.me.stackBytes := X.bytes
  refine ⟨X.admits, X.cas, X.clock, hF, ?_, X.hears, X.method, X.code, X.here, X.tail, X.warmed, ?_, ?_, ?_⟩
  · have h := X.room
    have hU : ((T.setVm s.vm).setFrames (.invoking m args :: below)).localsInUse = s.localsInUse := by
      rw [State.localsInUse_invoking hF (meth := meth) (c := c) X.method X.code, State.localsInUse_invoking X.frames X.method X.code]
    simp only [State.hasRoom, Bool.and_eq_true, decide_eq_true_eq] at h ⊢
    obtain ⟨⟨⟨⟨h1, h2, h3, h4, h5, h6⟩, h7⟩, h8⟩, h9⟩ := h
    rw [X.frames, List.length_cons] at h2 h3
    have q1 := X.heapSize
    have q2 := X.used
    simp only [hF, hU, List.length_cons, State.stackLimits_setFrames, State.stackBytes_setFrames, hl9, hb9]
    refine ⟨⟨⟨⟨by omega, by omega, by omega, by omega, by omega, h6⟩, ?_⟩, ?_⟩, X.book⟩
    · show T.heap.size + R'.cells ≤ e.platform.maxCells
      omega
    · show T.slotsUsed + R'.slots ≤ e.platform.maxSlots
      omega
  · rw [State.stackLimits_setFrames]; rfl
  · rw [State.stackBytes_setFrames]; rfl
  · refine ⟨?_, Nat.le_refl _, Nat.le_refl _, ?_, ?_, fun a c9 h9 => ⟨c9, h9, rfl, rfl, fun _ _ => rfl⟩⟩
    · obtain ⟨t, ht, -⟩ := State.frames_cons hr
      show T.setVm s.vm = { ((T.setVm s.vm).setFrames (.invoking m args :: below)).setFrames (T.setVm s.vm).frames with heap := T.heap, slotsUsed := T.slotsUsed }
      rw [State.setFrames_setFrames, State.setFrames_self ht]
      rfl
    · show T.slotsUsed = T.slotsUsed + ((T.heap.toList.drop T.heap.size).map (·.slots.size)).sum
      rw [List.drop_eq_nil_of_le (Nat.le_of_eq Array.length_toList)]
      rfl
    · show ((T.heap.toList.drop T.heap.size).map (·.slots.size)).sum ≤ 0
      rw [List.drop_eq_nil_of_le (Nat.le_of_eq Array.length_toList)]
      exact Nat.le_refl _
/-- 'throw new E()': new; dup; invokespecial; athrow -/
theorem vx_throw0 {cc : ByteArray} {pc : Nat} (hexec : p.tables.exec = Jvm.exec) (hb : c.code = cc) (hl : l.stackTraces = false) {own cls : String} {names : List String} {ik ic mc ms : Nat} {A : Nat → Prop}
    (hown : s.vm.findClass own = some m.cls) (hcls : Bundle.fit cls = true) (hnames : ∀ n ∈ names, Bundle.fit n = true)
    (hk : (Cond.classLink own ik cls).before args s = true) (hini : (Cond.initialized cls).before args s = true) (hat : ∀ w ∈ vx_at0 own ic cls names, w.before args s = true)
    (hgood : ∀ w ∈ Cond.classLink own ik cls :: Cond.initialized cls :: vx_at0 own ic cls names, vx_ot w = true)
    (hU : vx_Zq Bundle.tN "UNASSIGNED_STACK" Bundle.steD A s s.heap) (hN : vx_Zq Bundle.tN "SUPPRESSED_SENTINEL" Bundle.listD A s s.heap) (hS : va_S A s.heap H locs) (hsize : ls.size = c.maxLocals)
    (d0 : decode cc pc = .ok (.new ik, 3)) (d3 : decode cc (pc + 3) = .ok (.dup, 1)) (d4 : decode cc (pc + 4) = .ok (.invokespecial ic, 3)) (d7 : decode cc (pc + 7) = .ok (.athrow, 1))
    (hout : ∀ x ∈ c.exceptionTable.toList, covers x (pc + 7) = false)
    (hRframes : names.length + 3 < R.frames) (hRlocals : (rest.map fun v => v.category).sum + (13 * (names.length + 1) + 42) ≤ R.locals) (hRcells : cells + 1 ≤ R.cells) (hRslots : slots + 6 ≤ R.slots) (hlocks : meth.locks = false)
    (hx : ∀ t : State, s.vm.Alike t.vm → H.size ≤ t.heap.size → (∀ q : Nat, q < H.size → t.heap[q]? = H[q]?) → XC cls s t)
    (hf : ∀ z ∈ locs, free z.base) (hc : cells + 1 ≤ mc) (hs : slots + 6 ≤ ms) :
    W p l e R s m args below meth c H locs cells slots (vx_MQ below Qc XC args s mc ms free) (F0 m pc ls rest) := by
  intro T hT X
  have htr : e.platform.stackTraces = false := (show e.platform.stackTraces = l.stackTraces by rw [X.admits.platform]).trans hl
  have Y := vx_rebase X (R' := { frames := R.frames, locals := R.locals, cells := 1, slots := 6 }) (Nat.le_refl _) (Nat.le_refl _) hRcells hRslots
  obtain ⟨s', hA⟩ : ∃ z, z = (T.setVm s.vm).setFrames (.invoking m args :: below) := ⟨_, rfl⟩
  rw [← hA] at Y
  have hvm : s'.vm = s.vm := by rw [hA]; rfl
  have hhp : s'.heap = H := by rw [hA]; exact hT
  have hW0 : s.WarmedH s'.vm := by rw [hvm]; exact State.WarmedH.refl s
  have hat' : ∀ w ∈ vx_at0 own ic cls names, w.before args s' = true := fun w hw => vx_ot_at hW0 hvm.symm (hgood w (List.mem_cons_of_mem _ (List.mem_cons_of_mem _ hw))) (hat w hw)
  have hk' : (Cond.classLink own ik cls).before args s' = true := vx_ot_at hW0 hvm.symm (hgood _ List.mem_cons_self) hk
  have hini' : (Cond.initialized cls).before args s' = true := vx_ot_at hW0 hvm.symm (hgood _ (List.mem_cons_of_mem _ List.mem_cons_self)) hini
  have hU' : vx_Zq Bundle.tN "UNASSIGNED_STACK" Bundle.steD A s' s'.heap := by rw [hhp]; exact vx_Zq.moved hW0.alike (hU.kept hS.2.1)
  have hN' : vx_Zq Bundle.tN "SUPPRESSED_SENTINEL" Bundle.listD A s' s'.heap := by rw [hhp]; exact vx_Zq.moved hW0.alike (hN.kept hS.2.1)
  have h : ∀ w ∈ Bundle.ownAtoms0 own ic cls names, w.before args s' = true := vx_own hat' (vx_isRefq hU'.1) (vx_isRefq hN'.1) hU'.2.word hN'.2.word
  have hown' : s'.vm.findClass own = some m.cls := by rw [hvm]; exact hown
  have hins : (Cond.instantiable cls 6).before args s' = true := h _ (by simp [Bundle.ownAtoms0])
  obtain ⟨vm₁, cX, kX, hfX, hkX, -, -, X₁, st1⟩ := Y.newCold hexec (own := own) (C := cls) (index := ik) (n := 6) hown' hk' hins hini'
    (g := F0 m pc ls rest) rfl (by rw [hb]; exact d0) (Nat.le_refl _) (Nat.le_refl _)
  generalize hT1 : (T.setVm vm₁).pushCell { cls := cX, slots := kX.instanceTypes.map defaultValue, vm := .none } = T1 at X₁ st1
  have hcat : (Value.ref T.heap.size).category = 1 := rfl
  have hcellA : T1.heap[T.heap.size]? = some (freshCell cX kX) := by rw [← hT1]; exact State.heap_pushCell_size _ _
  have d3' : decode c.code (pc + 3) = .ok (.dup, 1) := by rw [hb]; exact d3
  obtain ⟨U, hsteps, hrun, hend, hW, hsame, ce, hce, hO⟩ := X₁.ctorThrow0 hexec htr (own := own) (cls := cls) (names := names) (ic := ic) hown' hcls hnames h (fun x hx => nomatch hx) hfX hkX hcellA (by rw [hhp, hT]; exact Nat.le_refl _)
    (g := { method := m, pc := pc + 4, locals := ls, stack := .ref T.heap.size :: .ref T.heap.size :: rest, locked := none }) rfl hsize rfl rfl (rest := rest) rfl
    (by rw [hb]; exact d4) (by rw [hb]; exact d7) hout hRframes (by simp only [List.map_cons, List.sum_cons, hcat]; omega) hlocks
  obtain ⟨f1, f2⟩ := vx_frame hsame
  rw [hhp] at f1 f2
  have hWs : s.WarmedH U.vm := State.WarmedH.trans hW0 hW
  have hcl : s.vm.findClass cls = some ce.cls := by
    have h9 := hO.cls
    rw [hvm] at h9
    exact h9
  have hall : s.sameButNew ({ U with vm := s.vm } : State) locs mc ms := by
    subst hA
    obtain ⟨e1, e2⟩ := hsame
    rw [State.setFrames_setFrames] at e1
    have h2 : (T.setVm s.vm).sameButNew ({ U with vm := s.vm } : State) [] (0 + 1) (0 + 6) := ⟨e1, e2⟩
    have h3 := X.same.trans h2
    rw [List.append_nil] at h3
    exact h3.mono hc hs
  refine ⟨U, ?_, .threw T.heap.size, hrun, hend, Or.inr ⟨T.heap.size, rfl, cls, ce, locs, hx U hWs.alike f1 (fun q hq => f2 q hq (fun z hz => nomatch hz)), hce, hO.vm, hcl, hWs, hall, hf⟩⟩
  refine st1 _ ?_
  show Steps p.tables e below (T1.setTop { method := m, pc := pc + 3, locals := ls, stack := .ref T.heap.size :: rest, locked := none }) _
  jvm_step X₁.here [X₁.here.top, hexec, d3', Value.category]
  exact hsteps
/-- 'throw new E("text")': new; dup; ldc; invokespecial; athrow -/
theorem vx_throwS {cc : ByteArray} {pc : Nat} (hexec : p.tables.exec = Jvm.exec) (hb : c.code = cc) (hl : l.stackTraces = false) {own cls text : String} {names : List String} {ik is ic mc ms sa : Nat} {A : Nat → Prop}
    (hown : s.vm.findClass own = some m.cls) (hcls : Bundle.fit cls = true) (hnames : ∀ n ∈ names, Bundle.fit n = true)
    (hk : (Cond.classLink own ik cls).before args s = true) (hini : (Cond.initialized cls).before args s = true) (hstr : vk_R own is text sa s) (hat : ∀ w ∈ vx_atS own ic cls names, w.before args s = true)
    (hgood : ∀ w ∈ Cond.classLink own ik cls :: Cond.initialized cls :: vx_atS own ic cls names, vx_ot w = true)
    (hU : vx_Zq Bundle.tN "UNASSIGNED_STACK" Bundle.steD A s s.heap) (hN : vx_Zq Bundle.tN "SUPPRESSED_SENTINEL" Bundle.listD A s s.heap) (hS : va_S A s.heap H locs) (hsize : ls.size = c.maxLocals)
    (d0 : decode cc pc = .ok (.new ik, 3)) (d3 : decode cc (pc + 3) = .ok (.dup, 1)) (d4 : decode cc (pc + 4) = .ok (.ldc is, 2)) (d6 : decode cc (pc + 6) = .ok (.invokespecial ic, 3)) (d9 : decode cc (pc + 9) = .ok (.athrow, 1))
    (hout : ∀ x ∈ c.exceptionTable.toList, covers x (pc + 9) = false)
    (hRframes : names.length + 3 < R.frames) (hRlocals : (rest.map fun v => v.category).sum + (13 * (names.length + 1) + 43) ≤ R.locals) (hRcells : cells + 1 ≤ R.cells) (hRslots : slots + 6 ≤ R.slots) (hlocks : meth.locks = false)
    (hx : ∀ t : State, s.vm.Alike t.vm → H.size ≤ t.heap.size → (∀ q : Nat, q < H.size → t.heap[q]? = H[q]?) → XC cls s t)
    (hf : ∀ z ∈ locs, free z.base) (hc : cells + 1 ≤ mc) (hs : slots + 6 ≤ ms) :
    W p l e R s m args below meth c H locs cells slots (vx_MQ below Qc XC args s mc ms free) (F0 m pc ls rest) := by
  intro T hT X
  have htr : e.platform.stackTraces = false := (show e.platform.stackTraces = l.stackTraces by rw [X.admits.platform]).trans hl
  have Y := vx_rebase X (R' := { frames := R.frames, locals := R.locals, cells := 1, slots := 6 }) (Nat.le_refl _) (Nat.le_refl _) hRcells hRslots
  obtain ⟨s', hA⟩ : ∃ z, z = (T.setVm s.vm).setFrames (.invoking m args :: below) := ⟨_, rfl⟩
  rw [← hA] at Y
  have hvm : s'.vm = s.vm := by rw [hA]; rfl
  have hhp : s'.heap = H := by rw [hA]; exact hT
  have hW0 : s.WarmedH s'.vm := by rw [hvm]; exact State.WarmedH.refl s
  have hat' : ∀ w ∈ vx_atS own ic cls names, w.before args s' = true := fun w hw => vx_ot_at hW0 hvm.symm (hgood w (List.mem_cons_of_mem _ (List.mem_cons_of_mem _ hw))) (hat w hw)
  have hk' : (Cond.classLink own ik cls).before args s' = true := vx_ot_at hW0 hvm.symm (hgood _ List.mem_cons_self) hk
  have hini' : (Cond.initialized cls).before args s' = true := vx_ot_at hW0 hvm.symm (hgood _ (List.mem_cons_of_mem _ List.mem_cons_self)) hini
  have hU' : vx_Zq Bundle.tN "UNASSIGNED_STACK" Bundle.steD A s' s'.heap := by rw [hhp]; exact vx_Zq.moved hW0.alike (hU.kept hS.2.1)
  have hN' : vx_Zq Bundle.tN "SUPPRESSED_SENTINEL" Bundle.listD A s' s'.heap := by rw [hhp]; exact vx_Zq.moved hW0.alike (hN.kept hS.2.1)
  have h : ∀ w ∈ Bundle.ownAtoms own ic cls names, w.before args s' = true := vx_own hat' (vx_isRefq hU'.1) (vx_isRefq hN'.1) hU'.2.word hN'.2.word
  have hown' : s'.vm.findClass own = some m.cls := by rw [hvm]; exact hown
  have hins : (Cond.instantiable cls 6).before args s' = true := h _ (by simp [Bundle.ownAtoms])
  obtain ⟨vm₁, cX, kX, hfX, hkX, -, -, X₁, st1⟩ := Y.newCold hexec (own := own) (C := cls) (index := ik) (n := 6) hown' hk' hins hini'
    (g := F0 m pc ls rest) rfl (by rw [hb]; exact d0) (Nat.le_refl _) (Nat.le_refl _)
  generalize hT1 : (T.setVm vm₁).pushCell { cls := cX, slots := kX.instanceTypes.map defaultValue, vm := .none } = T1 at X₁ st1
  have hcat : (Value.ref T.heap.size).category = 1 := rfl
  have hcellA : T1.heap[T.heap.size]? = some (freshCell cX kX) := by rw [← hT1]; exact State.heap_pushCell_size _ _
  have d3' : decode c.code (pc + 3) = .ok (.dup, 1) := by rw [hb]; exact d3
  have d4' : decode c.code (pc + 4) = .ok (.ldc is, 2) := by rw [hb]; exact d4
  have hstr' : vk_R own is text sa s' := vk_R.warm hW0 hstr
  obtain ⟨U, hsteps, hrun, hend, hW, hsame, ce, hce, hO⟩ := X₁.ctorThrowS hexec htr (own := own) (cls := cls) (names := names) (ic := ic) hown' hcls hnames h (fun x hx => nomatch hx) hfX hkX hcellA (by rw [hhp, hT]; exact Nat.le_refl _) (msg := .ref sa) rfl
    (g := { method := m, pc := pc + 6, locals := ls, stack := .ref sa :: .ref T.heap.size :: .ref T.heap.size :: rest, locked := none }) rfl hsize rfl rfl (rest := rest) rfl
    (by rw [hb]; exact d6) (by rw [hb]; exact d9) hout hRframes (by simp only [List.map_cons, List.sum_cons, hcat]; omega) hlocks
  obtain ⟨f1, f2⟩ := vx_frame hsame
  rw [hhp] at f1 f2
  have hWs : s.WarmedH U.vm := State.WarmedH.trans hW0 hW
  have hcl : s.vm.findClass cls = some ce.cls := by
    have h9 := hO.cls
    rw [hvm] at h9
    exact h9
  have hall : s.sameButNew ({ U with vm := s.vm } : State) locs mc ms := by
    subst hA
    obtain ⟨e1, e2⟩ := hsame
    rw [State.setFrames_setFrames] at e1
    have h2 : (T.setVm s.vm).sameButNew ({ U with vm := s.vm } : State) [] (0 + 1) (0 + 6) := ⟨e1, e2⟩
    have h3 := X.same.trans h2
    rw [List.append_nil] at h3
    exact h3.mono hc hs
  refine ⟨U, ?_, .threw T.heap.size, hrun, hend, Or.inr ⟨T.heap.size, rfl, cls, ce, locs, hx U hWs.alike f1 (fun q hq => f2 q hq (fun z hz => nomatch hz)), hce, hO.vm, hcl, hWs, hall, hf⟩⟩
  refine st1 _ ?_
  show Steps p.tables e below (T1.setTop { method := m, pc := pc + 3, locals := ls, stack := .ref T.heap.size :: rest, locked := none }) _
  jvm_step X₁.here [X₁.here.top, hexec, d3', Value.category]
  exact X₁.ldcString hexec (own := own) (text := text) (index := is) (a := sa) hown' hstr'.1 hstr'.2
    (g := { method := m, pc := pc + 4, locals := ls, stack := .ref T.heap.size :: .ref T.heap.size :: rest, locked := none }) rfl d4' _ hsteps
/-- 'throw new E("text")', the text by a wide index -/
theorem vx_throwSW {cc : ByteArray} {pc : Nat} (hexec : p.tables.exec = Jvm.exec) (hb : c.code = cc) (hl : l.stackTraces = false) {own cls text : String} {names : List String} {ik is ic mc ms sa : Nat} {A : Nat → Prop}
    (hown : s.vm.findClass own = some m.cls) (hcls : Bundle.fit cls = true) (hnames : ∀ n ∈ names, Bundle.fit n = true)
    (hk : (Cond.classLink own ik cls).before args s = true) (hini : (Cond.initialized cls).before args s = true) (hstr : vk_R own is text sa s) (hat : ∀ w ∈ vx_atS own ic cls names, w.before args s = true)
    (hgood : ∀ w ∈ Cond.classLink own ik cls :: Cond.initialized cls :: vx_atS own ic cls names, vx_ot w = true)
    (hU : vx_Zq Bundle.tN "UNASSIGNED_STACK" Bundle.steD A s s.heap) (hN : vx_Zq Bundle.tN "SUPPRESSED_SENTINEL" Bundle.listD A s s.heap) (hS : va_S A s.heap H locs) (hsize : ls.size = c.maxLocals)
    (d0 : decode cc pc = .ok (.new ik, 3)) (d3 : decode cc (pc + 3) = .ok (.dup, 1)) (d4 : decode cc (pc + 4) = .ok (.ldc_w is, 3)) (d7 : decode cc (pc + 7) = .ok (.invokespecial ic, 3)) (d10 : decode cc (pc + 10) = .ok (.athrow, 1))
    (hout : ∀ x ∈ c.exceptionTable.toList, covers x (pc + 10) = false)
    (hRframes : names.length + 3 < R.frames) (hRlocals : (rest.map fun v => v.category).sum + (13 * (names.length + 1) + 43) ≤ R.locals) (hRcells : cells + 1 ≤ R.cells) (hRslots : slots + 6 ≤ R.slots) (hlocks : meth.locks = false)
    (hx : ∀ t : State, s.vm.Alike t.vm → H.size ≤ t.heap.size → (∀ q : Nat, q < H.size → t.heap[q]? = H[q]?) → XC cls s t)
    (hf : ∀ z ∈ locs, free z.base) (hc : cells + 1 ≤ mc) (hs : slots + 6 ≤ ms) :
    W p l e R s m args below meth c H locs cells slots (vx_MQ below Qc XC args s mc ms free) (F0 m pc ls rest) := by
  intro T hT X
  have htr : e.platform.stackTraces = false := (show e.platform.stackTraces = l.stackTraces by rw [X.admits.platform]).trans hl
  have Y := vx_rebase X (R' := { frames := R.frames, locals := R.locals, cells := 1, slots := 6 }) (Nat.le_refl _) (Nat.le_refl _) hRcells hRslots
  obtain ⟨s', hA⟩ : ∃ z, z = (T.setVm s.vm).setFrames (.invoking m args :: below) := ⟨_, rfl⟩
  rw [← hA] at Y
  have hvm : s'.vm = s.vm := by rw [hA]; rfl
  have hhp : s'.heap = H := by rw [hA]; exact hT
  have hW0 : s.WarmedH s'.vm := by rw [hvm]; exact State.WarmedH.refl s
  have hat' : ∀ w ∈ vx_atS own ic cls names, w.before args s' = true := fun w hw => vx_ot_at hW0 hvm.symm (hgood w (List.mem_cons_of_mem _ (List.mem_cons_of_mem _ hw))) (hat w hw)
  have hk' : (Cond.classLink own ik cls).before args s' = true := vx_ot_at hW0 hvm.symm (hgood _ List.mem_cons_self) hk
  have hini' : (Cond.initialized cls).before args s' = true := vx_ot_at hW0 hvm.symm (hgood _ (List.mem_cons_of_mem _ List.mem_cons_self)) hini
  have hU' : vx_Zq Bundle.tN "UNASSIGNED_STACK" Bundle.steD A s' s'.heap := by rw [hhp]; exact vx_Zq.moved hW0.alike (hU.kept hS.2.1)
  have hN' : vx_Zq Bundle.tN "SUPPRESSED_SENTINEL" Bundle.listD A s' s'.heap := by rw [hhp]; exact vx_Zq.moved hW0.alike (hN.kept hS.2.1)
  have h : ∀ w ∈ Bundle.ownAtoms own ic cls names, w.before args s' = true := vx_own hat' (vx_isRefq hU'.1) (vx_isRefq hN'.1) hU'.2.word hN'.2.word
  have hown' : s'.vm.findClass own = some m.cls := by rw [hvm]; exact hown
  have hins : (Cond.instantiable cls 6).before args s' = true := h _ (by simp [Bundle.ownAtoms])
  obtain ⟨vm₁, cX, kX, hfX, hkX, -, -, X₁, st1⟩ := Y.newCold hexec (own := own) (C := cls) (index := ik) (n := 6) hown' hk' hins hini'
    (g := F0 m pc ls rest) rfl (by rw [hb]; exact d0) (Nat.le_refl _) (Nat.le_refl _)
  generalize hT1 : (T.setVm vm₁).pushCell { cls := cX, slots := kX.instanceTypes.map defaultValue, vm := .none } = T1 at X₁ st1
  have hcat : (Value.ref T.heap.size).category = 1 := rfl
  have hcellA : T1.heap[T.heap.size]? = some (freshCell cX kX) := by rw [← hT1]; exact State.heap_pushCell_size _ _
  have d3' : decode c.code (pc + 3) = .ok (.dup, 1) := by rw [hb]; exact d3
  have d4' : decode c.code (pc + 4) = .ok (.ldc_w is, 3) := by rw [hb]; exact d4
  have hstr' : vk_R own is text sa s' := vk_R.warm hW0 hstr
  obtain ⟨U, hsteps, hrun, hend, hW, hsame, ce, hce, hO⟩ := X₁.ctorThrowS hexec htr (own := own) (cls := cls) (names := names) (ic := ic) hown' hcls hnames h (fun x hx => nomatch hx) hfX hkX hcellA (by rw [hhp, hT]; exact Nat.le_refl _) (msg := .ref sa) rfl
    (g := { method := m, pc := pc + 7, locals := ls, stack := .ref sa :: .ref T.heap.size :: .ref T.heap.size :: rest, locked := none }) rfl hsize rfl rfl (rest := rest) rfl
    (by rw [hb]; exact d7) (by rw [hb]; exact d10) hout hRframes (by simp only [List.map_cons, List.sum_cons, hcat]; omega) hlocks
  obtain ⟨f1, f2⟩ := vx_frame hsame
  rw [hhp] at f1 f2
  have hWs : s.WarmedH U.vm := State.WarmedH.trans hW0 hW
  have hcl : s.vm.findClass cls = some ce.cls := by
    have h9 := hO.cls
    rw [hvm] at h9
    exact h9
  have hall : s.sameButNew ({ U with vm := s.vm } : State) locs mc ms := by
    subst hA
    obtain ⟨e1, e2⟩ := hsame
    rw [State.setFrames_setFrames] at e1
    have h2 : (T.setVm s.vm).sameButNew ({ U with vm := s.vm } : State) [] (0 + 1) (0 + 6) := ⟨e1, e2⟩
    have h3 := X.same.trans h2
    rw [List.append_nil] at h3
    exact h3.mono hc hs
  refine ⟨U, ?_, .threw T.heap.size, hrun, hend, Or.inr ⟨T.heap.size, rfl, cls, ce, locs, hx U hWs.alike f1 (fun q hq => f2 q hq (fun z hz => nomatch hz)), hce, hO.vm, hcl, hWs, hall, hf⟩⟩
  refine st1 _ ?_
  show Steps p.tables e below (T1.setTop { method := m, pc := pc + 3, locals := ls, stack := .ref T.heap.size :: rest, locked := none }) _
  jvm_step X₁.here [X₁.here.top, hexec, d3', Value.category]
  exact X₁.ldcStringW hexec (own := own) (text := text) (index := is) (a := sa) hown' hstr'.1 hstr'.2
    (g := { method := m, pc := pc + 4, locals := ls, stack := .ref T.heap.size :: .ref T.heap.size :: rest, locked := none }) rfl d4' _ hsteps
end Ends
section Bodies
variable {l : Launch}
theorem vx_ofW {y : MethodName} {ws ws' : List Cond} {rm : Room} {Pc : Array Value → State → Prop} {Qc : Array Value → State → Outcome → State → Prop} {XC : String → State → State → Prop} {mc ms : Nat} {free : Addr → Prop} {cc : ByteArray} {maxL : Nat} {ret : Option FieldType}
    (hy : plainName y.cls = true) (hw : ws = Cond.code y cc maxL ret :: ws')
    (body : ∀ p e s m args below meth c s₁, BodyLoose p l y (headSpec ws rm) cc maxL ret e s m args below meth c s₁ → c.maxLocals = maxL → (∀ x ∈ c.exceptionTable.toList, False) → Pc args s →
      W p l e (headSpec ws rm).room s m args below meth c s.heap [] 0 0 (vx_MQ below Qc XC args s mc ms free) (entryFrame m args maxL)) : vx_Met l y ws rm Pc Qc XC mc ms free := by
  refine MetFree.of_bodyS (code := cc) (maxLocals := maxL) (ret := ret) hy ?_ ?_
  · intro args s m h hn
    obtain ⟨meth, c, h1, h2, h3, h4, h5, h6, -, -⟩ := Cond.code_spec hn (atoms_spec (ws := ws) h _ (by rw [hw]; exact List.mem_cons_self))
    exact ⟨meth, c, h1, h2, h3, h4, h5, h6⟩
  · intro p e s m args below meth c s₁ B hml hP _
    have hh0 : s₁.heap = s.heap := by rw [B.state]; rfl
    have ht : ∀ x ∈ c.exceptionTable.toList, False := by
      obtain ⟨meth9, c9, h1, h2, -, -, -, -, h7, -⟩ := Cond.code_spec B.named (atoms_spec (ws := ws) B.pre _ (by rw [hw]; exact List.mem_cons_self))
      cases Option.some.inj (h1.symm.trans B.method)
      cases Option.some.inj (h2.symm.trans (Stand.of_body B).code)
      intro x hx
      rw [Array.isEmpty_iff.mp h7] at hx
      cases hx
    obtain ⟨t, a1, o, b1, b2, b3⟩ := body p e s m args below meth c s₁ B hml ht hP s₁ hh0 (Stand.of_body B)
    exact ⟨t, o, a1, b1, b2, b3⟩
/-- the table of a body with handlers -/
theorem vx_table {p : Program} {x y : MethodName} {S : Spec} {cc bytes : ByteArray} {maxL maxL' : Nat} {ret ret' : Option FieldType} {e : Env} {s s₁ : State} {m : MethodId} {args : Array Value} {below : List Frame} {meth : Method} {c : Code} {hh : List (Nat × Nat × Nat × Nat)}
    (B : BodyLoose p l y S cc maxL ret e s m args below meth c s₁) (h : (Cond.codeWith y bytes maxL' ret' hh).before args s = true) : c.exceptionTable.toList = tableOf hh := by
  obtain ⟨m9, meth9, c9, hn9, h1, h2, -, -, h6, -⟩ := Cond.codeWith_spec h
  cases Option.some.inj (hn9.symm.trans B.named)
  cases Option.some.inj (h1.symm.trans B.method)
  cases Option.some.inj (h2.symm.trans (Stand.of_body B).code)
  rw [← h6, table_eq]
end Bodies
end VXA
/-! ===== END ===== -/
/-! ===== BEGIN a static call of a method with an exception table ===== -/
section VXS
variable {p : Program} {l : Launch} {e : Env} {R : Room} {s : State} {m : MethodId} {args : Array Value} {below : List Frame} {meth : Method} {c : Code} {T : State} {H : Heap} {locs : List Loc} {cells slots : Nat}
abbrev vx_CSW (R : Room) (s : State) (args : Array Value) (own : String) (index : Nat) (y : MethodName) (bytes : ByteArray) (maxL : Nat) (ret : Option FieldType) (hh : List (Nat × Nat × Nat × Nat)) (ws : List Cond) (rm : Room) (mc ms n : Nat) : Prop :=
  (rm.cells = mc ∧ rm.slots = ms ∧ rm.frames + 1 ≤ R.frames ∧ 8 + (maxL + 11) + rm.locals ≤ R.locals ∧ (∀ w ∈ ws, ∀ (a' : Array Value) (U : State), s.WarmedH U.vm → w.before a' U = true) ∧ Cond.codeWith y bytes maxL ret hh ∈ ws) ∧
  (Cond.codeWith y bytes maxL ret hh).before args s = true ∧ (Cond.initialized y.cls).before args s = true ∧ (y.cls ≠ "java/lang/invoke/MethodHandle" ∧ y.cls ≠ "java/lang/invoke/VarHandle") ∧
  (∀ sig, parseMethodDescriptor y.desc = some sig → n = sig.parameters.length) ∧ (Cond.methodLink own index y).before args s = true ∧ (Cond.static y).before args s = true
theorem vx_cwSW {own : String} {index maxL mc ms : Nat} {y : MethodName} {bytes : ByteArray} {ret : Option FieldType} {hh : List (Nat × Nat × Nat × Nat)} {Ts ws ws' : List Cond} {rm : Room} (n : Nat) (ht : ∀ w ∈ Ts, w.before args s = true) (hT : GoodIn Ts (va_wsS own index y ws)) (hw : ws = Cond.codeWith y bytes maxL ret hh :: ws') (hrc : rm.cells = mc) (hrs : rm.slots = ms)
    (hd : y.cls ≠ "java/lang/invoke/MethodHandle" ∧ y.cls ≠ "java/lang/invoke/VarHandle" ∧ (parseMethodDescriptor y.desc).map (fun d => d.parameters.length) = some n) (hR : rm.frames + 1 ≤ R.frames ∧ 8 + (maxL + 11) + rm.locals ≤ R.locals) :
    vx_CSW R s args own index y bytes maxL ret hh ws rm mc ms n := by
  have ok : ∀ w ∈ va_wsS own index y ws, w.before args s = true := fun w h => ht w (hT w h).1
  have hG : GoodIn Ts ws := fun w h => hT w (by unfold va_wsS; exact List.mem_append_right _ h)
  have hc : Cond.codeWith y bytes maxL ret hh ∈ ws := by rw [hw]; exact List.mem_cons_self
  refine ⟨⟨hrc, hrs, hR.1, hR.2, pay_in ht hG, hc⟩, ht _ (hG _ hc).1, ok _ (by simp [va_wsS]), ⟨hd.1, hd.2.1⟩, fun sig h => ?_, ok _ (by simp [va_wsS]), ok _ (by simp [va_wsS])⟩
  have h2 := hd.2.2
  rw [h] at h2
  exact (Option.some.inj h2).symm
theorem vx_callSW (X : Stand p l e R s m args below meth c T locs cells slots) (hexec : p.tables.exec = Jvm.exec) {own : String} {index : Nat} {y : MethodName} {bytes : ByteArray} {maxL : Nat} {ret : Option FieldType} {hh : List (Nat × Nat × Nat × Nat)}
    (hown : s.vm.findClass own = some m.cls) (hlink : (Cond.methodLink own index y).before args s = true) (hstat : (Cond.static y).before args s = true) (hinit : (Cond.initialized y.cls).before args s = true)
    (hcode : (Cond.codeWith y bytes maxL ret hh).before args s = true) (hy : y.cls ≠ "java/lang/invoke/MethodHandle" ∧ y.cls ≠ "java/lang/invoke/VarHandle")
    {W9 : Nat} {Pre : Pt → Array Value → Prop} {Post : Pt → Array Value → Option Value → Pt → Prop} (hK : Back l R p e below s args y 3 W9 Pre Post)
    {g : JFrame} (hg : g.method = m) (hsize : g.locals.size = c.maxLocals) {argsL rest : List Value} (hlen : ∀ sig, parseMethodDescriptor y.desc = some sig → argsL.length = sig.parameters.length)
    (hstack : g.stack = argsL.reverse ++ rest) (hW : 2 * g.monitorRoom + (rest.map fun v => v.category).sum ≤ W9) (hdg : decode c.code g.pc = .ok (.invokestatic index, 3))
    (hpre : ∀ vm₁, s.WarmedH vm₁ → Pre ⟨T.setVm vm₁, locs, cells, slots⟩ argsL.toArray) :
    ∃ (v : Option Value) (vm₁ : Vm) (B : Pt), s.WarmedH vm₁ ∧ Stand p l e R s m args below meth c B.U B.locs B.cells B.slots ∧ Post ⟨T.setVm vm₁, locs, cells, slots⟩ argsL.toArray v B ∧
      ∀ target, Steps p.tables e below (B.U.setTop { g with pc := g.pc + 3, stack := v.toList ++ rest }) target → Steps p.tables e below (T.setTop g) target := by
  obtain ⟨mk, methM, cM, hnamed, hmethM, -, -, -, -, -, -, hsigM⟩ := Cond.codeWith_spec hcode
  have hstatic : methM.isStatic = true := Cond.static_spec hnamed hmethM hstat
  obtain ⟨kP, hkP, -⟩ := className_of_methodNamed hnamed
  have hinitP : kP.init = .initialized := Cond.initialized_spec (findClass_of_methodNamed hnamed) hkP hinit
  obtain ⟨vm₁, X₁, hstep₁⟩ := X.invokestatic hexec hown hlink hnamed hmethM hstatic hkP hinitP hy (g := g) hg (argsL := argsL) (rest := rest) (hlen _ hsigM) hstack hdg
  obtain ⟨v, B, X', hpost, hsteps⟩ := hK m meth c ⟨T.setVm vm₁, locs, cells, slots⟩ { g with stack := rest } (.invokestatic index) mk argsL.toArray X₁ hg hsize hdg hW (X₁.named hnamed) (hpre vm₁ X₁.warmed)
  exact ⟨v, vm₁, B, X₁.warmed, X', hpost, fun target h => hstep₁ _ fun acts => by rw [doInvoke_state]; exact hsteps.trans h⟩
theorem vx_runSW {y : MethodName} {bytes cc : ByteArray} {maxL nL mc ms n index : Nat} {ret : Option FieldType} {hh : List (Nat × Nat × Nat × Nat)} {ws : List Cond} {rm : Room} {Pc : Array Value → State → Prop} {Qc : Array Value → State → Outcome → State → Prop} {free : Addr → Prop} {Ts : List Cond} {own : String} {As rest : List Value} {g : JFrame}
    (S : CallFix p m c cc nL s args Ts own) (hM : Met l y ws rm Pc Qc mc ms free) (cw : vx_CSW R s args own index y bytes maxL ret hh ws rm mc ms n) (hp : PreS s H Pc As)
    (hg : g.method = m) (hn : As.length = n) (hsize : g.locals.size = nL) (hstack : g.stack = As.reverse ++ rest) (hW : 2 * g.monitorRoom + (rest.map fun v => v.category).sum ≤ 8) (hdg : decode cc g.pc = .ok (.invokestatic index, 3)) (hf : cells + mc ≤ R.cells ∧ slots + ms ≤ R.slots) :
    va_Run p l e R s m args below meth c H locs cells slots mc ms g rest (Qc As.toArray) (free) := by
  obtain ⟨⟨hrc, hrs, hfr, hlo, hws, hcw⟩, hcode, hini, hy, hlen, hl, hstt⟩ := cw
  have hK : Back l R p e below s args y 3 8 (PreOf R mc ms Pc) (PostOf Qc mc ms free) := va_backW (hh := hh) (bytes := bytes) (maxL := maxL) (ret := ret) hM hp.1 hrc hrs hfr hlo hws hcw (fun a' U hW => word_at hW (Or.inl (by first | rfl | simp [Cond.onTables, Cond.keeps, Cond.steady])) hini)
  obtain ⟨hx, hb, hml, ho, -⟩ := S
  intro T hT X
  obtain ⟨v, vm₁, ⟨U', l2, c2, s2⟩, hW₁, X', ⟨g', mk, t, L, e1, e2, hq, h1, hL, h2, h3⟩, st⟩ := vx_callSW X hx (hh := hh) (bytes := bytes) (maxL := maxL) (ret := ret) ho hl hstt hini hcode hy hK hg (hsize.trans hml.symm) (argsL := As) (rest := rest) (fun sig h => hn.trans (hlen sig h)) hstack hW (by rw [hb]; exact hdg)
    (fun vm₁ hW₁ => ⟨hf.1, hf.2, hp.2 (T.setVm vm₁) hT hW₁⟩)
  dsimp only [Pt.U, Pt.locs, Pt.cells, Pt.slots] at X' e1 e2 h1 h2 h3 st
  subst h1; subst h2; subst h3
  exact ⟨v, (T.setVm vm₁).calling g' mk As.toArray, t, U', L, hT, X', hL, e1, e2, hq, st⟩
/-- not caught here, past rows that name other classes: it goes on to the caller -/
theorem vx_outP {p : Program} {l : Launch} {e : Env} {R : Room} {s : State} {m : MethodId} {args : Array Value} {below : List Frame} {meth : Method} {c : Code} {H : Heap} {locs : List Loc} {cells slots : Nat} {free : Addr → Prop} {ls : Array Slot} {rest : List Value} {Qc : Array Value → State → Outcome → State → Prop} {XC : String → State → State → Prop}
    {pc : Nat} {own E : String} {ce : Cell} {q : Addr} {mc ms : Nat} (hown : s.vm.findClass own = some m.cls) (hlocks : meth.locks = false)
    (hpass : ∀ z ∈ c.exceptionTable.toList, covers z pc = false ∨ (z.catchType ≠ 0 ∧ ∃ nm : String, (Cond.classLink own z.catchType nm).before args s = true ∧ va_Nc E nm s)) (hcell : H[q]? = some ce) (hv : ce.vm = .none) (hcl : s.vm.findClass E = some ce.cls)
    (hx : ∀ t : State, t.heap = H → s.vm.Alike t.vm → XC E s t) (hf : ∀ z ∈ locs, free z.base) (hc : cells ≤ mc) (hs : slots ≤ ms) :
    vx_W p l e R s m args below meth c H locs cells slots (vx_MQ below Qc XC args s mc ms free) (F0 m pc ls rest) q := by
  intro T hT X
  have hpl : e.platform.magicAccessors = ({} : Platform).magicAccessors := by rw [X.admits.platform]
  obtain ⟨vm', hW', X', st⟩ := X.outThrough hlocks q (g := F0 m pc ls rest) rfl rfl rfl (cell := ce) (by rw [hT]; exact hcell) (by rw [hv]; rfl)
    (by obtain ⟨k9, h9, -⟩ := Vm.findClass_spec hcl; exact ⟨k9, h9⟩) (fun z hz => by
      rcases hpass z hz with h | ⟨hz0, nm, hl1, hn1⟩
      · exact Or.inl h
      · obtain ⟨c6, hc6, hcl6⟩ := Cond.classLink_spec hown hl1 e.platform hpl
        obtain ⟨a8, b8, h1, h2, h3⟩ := hn1
        cases Option.some.inj (h1.symm.trans hcl)
        cases Option.some.inj (h2.symm.trans hc6)
        exact Or.inr ⟨hz0, _, hcl6, h3⟩)
  obtain ⟨g₀, hfr⟩ := X'.frames_eq
  have hcell9 : ((T.setVm vm').setFrames (.throwing q :: below)).heap[q]? = some ce := by
    show T.heap[q]? = some ce
    rw [hT]; exact hcell
  have hend : Ended ((T.setVm vm').setFrames (.throwing q :: below)) below (.threw q) := State.frames_setFrames _ (State.cur_lt_of_frames hfr)
  refine ⟨(T.setVm vm').setFrames (.throwing q :: below), ?_, .threw q, X'.here.running, hend, Or.inr ⟨q, rfl, E, ce, locs, hx _ hT (X'.ends _).1.alike, hcell9, hv, hcl, (X'.ends _).1, (X'.ends _).2.mono hc hs, hf⟩⟩
  rw [X.pushThrowing_eq]
  exact st
/-- a thing of a world lies in the heap -/
theorem vx_lt {D : va_G} {cl : List vw_C} {ws : va_W} {H1 : Heap} (h : va_P D cl ws H1) {k : Nat} {q : Nat × va_E} (hk : ws[k]? = some q) : q.1 < H1.size := (h k q hk).lt
end VXS
/-! ===== END ===== -/
/-! ===== BEGIN methods with a table of their own: called by a name, returning or throwing ===== -/
section VXH
/-! vx_backW, vx_callVX, vx_callSX, vx_callVW, vx_runVW, vx_runVX, vx_runSX, vx_ofWH follow the same proofs as their sisters above (Free/Laws.lean, Shelf42/LK1.lean); vx_outP calls Shelf42/NT130.lean (outThrough). -/
section
variable {l : Launch} {R : Room} {p : Program} {e : Env} {below : List Frame} {s : State} {sargs : Array Value} {y : MethodName} {len W9 : Nat}
theorem vx_backW {ws : List Cond} {rm : Room} {Pc : Array Value → State → Prop} {Qc : Array Value → State → Outcome → State → Prop} {XC : String → State → State → Prop} {mc ms : Nat} {free : Addr → Prop} {bytes : ByteArray} {maxL : Nat} {ret : Option FieldType} {hh : List (Nat × Nat × Nat × Nat)}
    (hM : vx_Met l y ws rm Pc Qc XC mc ms free) (hblind : FrameBlind Pc) (hrc : rm.cells = mc) (hrs : rm.slots = ms)
    (hframes : rm.frames + 1 ≤ R.frames) (hlocals : W9 + (maxL + 11) + rm.locals ≤ R.locals)
    (hws : ∀ w ∈ ws, ∀ a' U, s.WarmedH U.vm → w.before a' U = true) (hcode : Cond.codeWith y bytes maxL ret hh ∈ ws) (hinit : ∀ a' U, s.WarmedH U.vm → (Cond.initialized y.cls).before a' U = true) :
    vx_Back l R p e below s sargs y len W9 (PreOf R mc ms Pc) (PostOf Qc mc ms free) (vx_Post XC mc ms free) := by
  intro m meth c A g ig mk a X hg hsize hdg hW hn hp
  have h1 : (headSpec ws rm).pre.before a A.U = true := atoms_intro fun w hw => hws w hw _ _ X.warmed
  have h2 : (Cond.codeWith y bytes maxL ret hh).before a A.U = true := hws _ hcode _ _ X.warmed
  have h3 : (Cond.initialized y.cls).before a A.U = true := hinit _ _ X.warmed
  have h4 : A.cells + (headSpec ws rm).room.cells ≤ R.cells := by rw [show (headSpec ws rm).room.cells = mc from hrc]; exact hp.1
  have h5 : A.slots + (headSpec ws rm).room.slots ≤ R.slots := by rw [show (headSpec ws rm).room.slots = ms from hrs]; exact hp.2.1
  have hPc : Pc a (A.U.calling g mk a) := hblind _ _ _ _ hp.2.2
  obtain ⟨U, Ls, c0, s0⟩ := A
  dsimp only [Pt.U, Pt.locs, Pt.cells, Pt.slots] at h1 h2 h3 h4 h5 X hn hPc ⊢
  obtain ⟨m9, methY, cY, hn9, hmY, hcY, -, hlY, -⟩ := Cond.codeWith_spec h2
  cases Option.some.inj (hn9.symm.trans hn)
  obtain ⟨kY, hkY, -⟩ := className_of_methodNamed hn
  have hinitY : kY.init = .initialized := Cond.initialized_spec (findClass_of_methodNamed hn) hkY h3
  have h : At U g.method c below := by rw [hg]; exact X.here
  have hlocals9 : W9 + (maxL + 11) + (headSpec ws rm).room.locals ≤ R.locals := hlocals
  have happ : (headSpec ws rm).appliesLoose y e.platform (U.calling g mk a) = true :=
    Spec.appliesLoose_calling (g := g) h hdg hn hkY hinitY
      (X.room_calling (g := g) (R' := (headSpec ws rm).room) hsize hmY hcY hframes (by rw [hlY]; omega) h4 h5) h1
  obtain ⟨mid, hmid⟩ := h.above
  have hfr : (U.setTop g).frames = (.java g :: mid) ++ below := by rw [State.frames_setTop' g h.top, hmid]; rfl
  obtain ⟨o, s₂, hsteps, -, hend, hq⟩ := Steps.callFree hM p X.admits X.cas X.clock (acts := []) hfr happ hPc trivial
  have hq' : vx_Q Qc XC mc ms free a (U.calling g mk a) o s₂ := hq
  rw [State.frames_setTop' g h.top] at hend
  obtain ⟨g₀, hg0⟩ := Option.isSome_iff_exists.mp h.top
  obtain ⟨r, hr⟩ := State.topJava?_eq_some.mp hg0
  have hr' : (({ U with heap := s₂.heap, slotsUsed := s₂.slotsUsed } : State).setVm s₂.vm).frames = .java g₀ :: r := hr
  rcases hq' with ⟨hqc, L, hfe, hL⟩ | ⟨q, rfl, E, ce, L, hx, hce, hcv, hcl, hW₂, hsm, hL⟩
  · obtain ⟨⟨v, rfl⟩, hW₂, e2, q2, q3, q4, q5, q6⟩ := id hfe
    have e3 : s₂ = ({ (U.calling g mk a).setFrames s₂.frames with heap := s₂.heap, slotsUsed := s₂.slotsUsed } : State).setVm s₂.vm := by
      have : s₂ = ({ s₂ with vm := (U.calling g mk a).vm } : State).setVm s₂.vm := rfl
      rw [e2] at this
      exact this
    obtain ⟨c₂, i₂, len₂, hc₂, hd₂, hf₂⟩ := hend
    have hW' : U.WarmedH s₂.vm := hW₂
    have hcc : c₂ = c := by
      have h1 : s₂.code? g.method = U.code? g.method := by
        rw [State.code?_eq, State.code?_eq, hW'.alike.method?]
      exact Option.some.inj (hc₂.symm.trans (h1.trans h.code))
    subst hcc
    have hlen : len₂ = len := by rw [hdg] at hd₂; cases hd₂; rfl
    subst hlen
    have hs₂ : s₂ = (({ U with heap := s₂.heap, slotsUsed := s₂.slotsUsed } : State).setVm s₂.vm).setTop { g with pc := g.pc + len₂, stack := v.toList ++ g.stack } := by
      refine e3.trans ?_
      rw [hf₂, State.calling_eq h.top, State.setFrames_setFrames, State.setTop_of_frames _ hr', hr]
      rfl
    have hsame : U.sameButNew ({ U with heap := s₂.heap, slotsUsed := s₂.slotsUsed } : State) L mc ms := by
      refine ⟨?_, q2, q3, q4, q5, q6⟩
      obtain ⟨t, ht, -⟩ := State.frames_cons hr
      show ({ U with heap := s₂.heap, slotsUsed := s₂.slotsUsed } : State) = { U.setFrames U.frames with heap := s₂.heap, slotsUsed := s₂.slotsUsed }
      rw [State.setFrames_self ht]
    subst hg
    refine Or.inl ⟨v, ⟨(({ U with heap := s₂.heap, slotsUsed := s₂.slotsUsed } : State).setVm s₂.vm), Ls ++ L, c0 + mc, s0 + ms⟩,
      ⟨X.admits, X.cas, X.clock, X.frames, X.room, X.hears, X.method, X.code, (X.here.setHeapUsed s₂.heap s₂.slotsUsed).setVm hW'.alike, X.tail, State.WarmedH.trans X.warmed hW', X.limits, X.bytes, X.same.trans (hsame.setVm s.vm)⟩,
      ⟨g, mk, s₂, L, rfl, rfl, hqc, rfl, hL, rfl, rfl⟩, ?_⟩
    show Steps p.tables e below _ ((({ U with heap := s₂.heap, slotsUsed := s₂.slotsUsed } : State).setVm s₂.vm).setTop { g with pc := g.pc + len₂, stack := v.toList ++ g.stack })
    rw [← hs₂]
    exact hsteps
  · obtain ⟨e2, q2, q3, q4, q5, q6⟩ := id hsm
    have e3 : s₂ = ({ (U.calling g mk a).setFrames s₂.frames with heap := s₂.heap, slotsUsed := s₂.slotsUsed } : State).setVm s₂.vm := by
      have : s₂ = ({ s₂ with vm := (U.calling g mk a).vm } : State).setVm s₂.vm := rfl
      rw [e2] at this
      exact this
    have hf₂ : s₂.frames = .throwing q :: .java g :: U.frames.tail := hend
    have hW' : U.WarmedH s₂.vm := hW₂
    have hs₂ : s₂ = ((({ U with heap := s₂.heap, slotsUsed := s₂.slotsUsed } : State).setVm s₂.vm).setTop g).pushFrame (.throwing q) := by
      refine e3.trans ?_
      rw [hf₂, State.calling_eq h.top, State.setFrames_setFrames, State.pushFrame, State.frames_setTop _ hr', State.setTop_of_frames _ hr', State.setFrames_setFrames, hr]
      rfl
    have hsame : U.sameButNew ({ U with heap := s₂.heap, slotsUsed := s₂.slotsUsed } : State) L mc ms := by
      refine ⟨?_, q2, q3, q4, q5, q6⟩
      obtain ⟨t, ht, -⟩ := State.frames_cons hr
      show ({ U with heap := s₂.heap, slotsUsed := s₂.slotsUsed } : State) = { U.setFrames U.frames with heap := s₂.heap, slotsUsed := s₂.slotsUsed }
      rw [State.setFrames_self ht]
    subst hg
    refine Or.inr ⟨q, ⟨(({ U with heap := s₂.heap, slotsUsed := s₂.slotsUsed } : State).setVm s₂.vm), Ls ++ L, c0 + mc, s0 + ms⟩,
      ⟨X.admits, X.cas, X.clock, X.frames, X.room, X.hears, X.method, X.code, (X.here.setHeapUsed s₂.heap s₂.slotsUsed).setVm hW'.alike, X.tail, State.WarmedH.trans X.warmed hW', X.limits, X.bytes, X.same.trans (hsame.setVm s.vm)⟩,
      ⟨g, mk, s₂, L, E, ce, rfl, rfl, hx, hce, hcv, hcl, rfl, hL, rfl, rfl⟩, ?_⟩
    show Steps p.tables e below _ (((({ U with heap := s₂.heap, slotsUsed := s₂.slotsUsed } : State).setVm s₂.vm).setTop g).pushFrame (.throwing q))
    rw [← hs₂]
    exact hsteps
end
variable {p : Program} {l : Launch} {e : Env} {R : Room} {s : State} {m : MethodId} {args : Array Value} {below : List Frame} {meth : Method} {c : Code} {T : State} {H : Heap} {locs : List Loc} {cells slots : Nat}
theorem vx_callVX (X : Stand p l e R s m args below meth c T locs cells slots) (hexec : p.tables.exec = Jvm.exec) {own C : String} {index : Nat} {y : MethodName} {bytes : ByteArray} {maxL : Nat} {ret : Option FieldType} {hh : List (Nat × Nat × Nat × Nat)}
    (hown : s.vm.findClass own = some m.cls) (hlink : (Cond.methodLink own index y).before args s = true) (hinst : (Cond.instanceMethod y).before args s = true) (hsel : (Cond.selects C y y).before args s = true)
    (hcode : (Cond.codeWith y bytes maxL ret hh).before args s = true) (hy : y.cls ≠ "java/lang/invoke/MethodHandle" ∧ y.cls ≠ "java/lang/invoke/VarHandle")
    {W9 : Nat} {Pre : Pt → Array Value → Prop} {Post : Pt → Array Value → Option Value → Pt → Prop} {PostX : Pt → Array Value → Addr → Pt → Prop} (hK : vx_Back l R p e below s args y 3 W9 Pre Post PostX)
    {b : Addr} {cellB : Cell} (hcell : T.heap[b]? = some cellB) (hobj : cellB.vm.isStatics = false) (hcls : s.vm.findClass C = some cellB.cls)
    {g : JFrame} (hg : g.method = m) (hsize : g.locals.size = c.maxLocals) {argsL rest : List Value} (hlen : ∀ sig, parseMethodDescriptor y.desc = some sig → argsL.length = sig.parameters.length)
    (hstack : g.stack = argsL.reverse ++ .ref b :: rest) (hW : 2 * g.monitorRoom + (rest.map fun v => v.category).sum ≤ W9) (hdg : decode c.code g.pc = .ok (.invokevirtual index, 3))
    (hpre : ∀ vm₁, s.WarmedH vm₁ → Pre ⟨T.setVm vm₁, locs, cells, slots⟩ (Value.ref b :: argsL).toArray) :
    (∃ (v : Option Value) (vm₁ : Vm) (B : Pt), s.WarmedH vm₁ ∧ Stand p l e R s m args below meth c B.U B.locs B.cells B.slots ∧ Post ⟨T.setVm vm₁, locs, cells, slots⟩ (Value.ref b :: argsL).toArray v B ∧
      ∀ target, Steps p.tables e below (B.U.setTop { g with pc := g.pc + 3, stack := v.toList ++ rest }) target → Steps p.tables e below (T.setTop g) target) ∨
    (∃ (q : Addr) (vm₁ : Vm) (B : Pt), s.WarmedH vm₁ ∧ Stand p l e R s m args below meth c B.U B.locs B.cells B.slots ∧ PostX ⟨T.setVm vm₁, locs, cells, slots⟩ (Value.ref b :: argsL).toArray q B ∧
      Steps p.tables e below (T.setTop g) ((B.U.setTop { g with stack := rest }).pushFrame (.throwing q))) := by
  obtain ⟨mk, methM, hnamed, hmethM, hstM, habM⟩ := Cond.instanceMethod_spec hinst
  obtain ⟨m8, methM', cM, hn8, hmethM', -, -, -, -, -, -, hsigM⟩ := Cond.codeWith_spec hcode
  cases Option.some.inj (hn8.symm.trans hnamed)
  cases hmethM.symm.trans hmethM'
  obtain ⟨c2, r2, m2, q1, q2, q3, q4, kP, hkP, hkPi⟩ := Cond.selects_spec hsel
  cases hcls.symm.trans q1
  cases (State.methodFound?_of_named hnamed hy).symm.trans q2
  cases hnamed.symm.trans q3
  have hselP : selectMethod e.platform s.vm cellB.cls mk = .method mk := by rw [Launch.admits_selectMethod X.admits]; exact q4
  obtain ⟨vm₁, X₁, hstep₁⟩ := X.invokevirtual hexec hown hlink hnamed hmethM hstM hkP hkPi hy (a := b) (cell := cellB) hcell
    (fun z h => by rw [h] at hobj; cases hobj) hselP hmethM habM hkP hkPi (g := g) hg (argsL := argsL) (rest := rest) (hlen _ hsigM) hstack hdg
  rcases hK m meth c ⟨T.setVm vm₁, locs, cells, slots⟩ { g with stack := rest } (.invokevirtual index) mk (Value.ref b :: argsL).toArray X₁ hg hsize hdg hW (X₁.named hnamed) (hpre vm₁ X₁.warmed) with ⟨v, B, X', hpost, hsteps⟩ | ⟨q, B, X', hpost, hsteps⟩
  · exact Or.inl ⟨v, vm₁, B, X₁.warmed, X', hpost, fun target h => hstep₁ _ fun acts => by rw [doInvoke_state]; exact hsteps.trans h⟩
  · exact Or.inr ⟨q, vm₁, B, X₁.warmed, X', hpost, hstep₁ _ fun acts => by rw [doInvoke_state]; exact hsteps⟩
theorem vx_callSX (X : Stand p l e R s m args below meth c T locs cells slots) (hexec : p.tables.exec = Jvm.exec) {own : String} {index : Nat} {y : MethodName} {bytes : ByteArray} {maxL : Nat} {ret : Option FieldType} {hh : List (Nat × Nat × Nat × Nat)}
    (hown : s.vm.findClass own = some m.cls) (hlink : (Cond.methodLink own index y).before args s = true) (hstat : (Cond.static y).before args s = true) (hinit : (Cond.initialized y.cls).before args s = true)
    (hcode : (Cond.codeWith y bytes maxL ret hh).before args s = true) (hy : y.cls ≠ "java/lang/invoke/MethodHandle" ∧ y.cls ≠ "java/lang/invoke/VarHandle")
    {W9 : Nat} {Pre : Pt → Array Value → Prop} {Post : Pt → Array Value → Option Value → Pt → Prop} {PostX : Pt → Array Value → Addr → Pt → Prop} (hK : vx_Back l R p e below s args y 3 W9 Pre Post PostX)
    {g : JFrame} (hg : g.method = m) (hsize : g.locals.size = c.maxLocals) {argsL rest : List Value} (hlen : ∀ sig, parseMethodDescriptor y.desc = some sig → argsL.length = sig.parameters.length)
    (hstack : g.stack = argsL.reverse ++ rest) (hW : 2 * g.monitorRoom + (rest.map fun v => v.category).sum ≤ W9) (hdg : decode c.code g.pc = .ok (.invokestatic index, 3))
    (hpre : ∀ vm₁, s.WarmedH vm₁ → Pre ⟨T.setVm vm₁, locs, cells, slots⟩ argsL.toArray) :
    (∃ (v : Option Value) (vm₁ : Vm) (B : Pt), s.WarmedH vm₁ ∧ Stand p l e R s m args below meth c B.U B.locs B.cells B.slots ∧ Post ⟨T.setVm vm₁, locs, cells, slots⟩ argsL.toArray v B ∧
      ∀ target, Steps p.tables e below (B.U.setTop { g with pc := g.pc + 3, stack := v.toList ++ rest }) target → Steps p.tables e below (T.setTop g) target) ∨
    (∃ (q : Addr) (vm₁ : Vm) (B : Pt), s.WarmedH vm₁ ∧ Stand p l e R s m args below meth c B.U B.locs B.cells B.slots ∧ PostX ⟨T.setVm vm₁, locs, cells, slots⟩ argsL.toArray q B ∧
      Steps p.tables e below (T.setTop g) ((B.U.setTop { g with stack := rest }).pushFrame (.throwing q))) := by
  obtain ⟨mk, methM, cM, hnamed, hmethM, -, -, -, -, -, -, hsigM⟩ := Cond.codeWith_spec hcode
  have hstatic : methM.isStatic = true := Cond.static_spec hnamed hmethM hstat
  obtain ⟨kP, hkP, -⟩ := className_of_methodNamed hnamed
  have hinitP : kP.init = .initialized := Cond.initialized_spec (findClass_of_methodNamed hnamed) hkP hinit
  obtain ⟨vm₁, X₁, hstep₁⟩ := X.invokestatic hexec hown hlink hnamed hmethM hstatic hkP hinitP hy (g := g) hg (argsL := argsL) (rest := rest) (hlen _ hsigM) hstack hdg
  rcases hK m meth c ⟨T.setVm vm₁, locs, cells, slots⟩ { g with stack := rest } (.invokestatic index) mk argsL.toArray X₁ hg hsize hdg hW (X₁.named hnamed) (hpre vm₁ X₁.warmed) with ⟨v, B, X', hpost, hsteps⟩ | ⟨q, B, X', hpost, hsteps⟩
  · exact Or.inl ⟨v, vm₁, B, X₁.warmed, X', hpost, fun target h => hstep₁ _ fun acts => by rw [doInvoke_state]; exact hsteps.trans h⟩
  · exact Or.inr ⟨q, vm₁, B, X₁.warmed, X', hpost, hstep₁ _ fun acts => by rw [doInvoke_state]; exact hsteps⟩
theorem vx_callVW (X : Stand p l e R s m args below meth c T locs cells slots) (hexec : p.tables.exec = Jvm.exec) {own C : String} {index : Nat} {y : MethodName} {bytes : ByteArray} {maxL : Nat} {ret : Option FieldType} {hh : List (Nat × Nat × Nat × Nat)}
    (hown : s.vm.findClass own = some m.cls) (hlink : (Cond.methodLink own index y).before args s = true) (hinst : (Cond.instanceMethod y).before args s = true) (hsel : (Cond.selects C y y).before args s = true)
    (hcode : (Cond.codeWith y bytes maxL ret hh).before args s = true) (hy : y.cls ≠ "java/lang/invoke/MethodHandle" ∧ y.cls ≠ "java/lang/invoke/VarHandle")
    {W9 : Nat} {Pre : Pt → Array Value → Prop} {Post : Pt → Array Value → Option Value → Pt → Prop} (hK : Back l R p e below s args y 3 W9 Pre Post)
    {b : Addr} {cellB : Cell} (hcell : T.heap[b]? = some cellB) (hobj : cellB.vm.isStatics = false) (hcls : s.vm.findClass C = some cellB.cls)
    {g : JFrame} (hg : g.method = m) (hsize : g.locals.size = c.maxLocals) {argsL rest : List Value} (hlen : ∀ sig, parseMethodDescriptor y.desc = some sig → argsL.length = sig.parameters.length)
    (hstack : g.stack = argsL.reverse ++ .ref b :: rest) (hW : 2 * g.monitorRoom + (rest.map fun v => v.category).sum ≤ W9) (hdg : decode c.code g.pc = .ok (.invokevirtual index, 3))
    (hpre : ∀ vm₁, s.WarmedH vm₁ → Pre ⟨T.setVm vm₁, locs, cells, slots⟩ (Value.ref b :: argsL).toArray) :
    ∃ (v : Option Value) (vm₁ : Vm) (B : Pt), s.WarmedH vm₁ ∧ Stand p l e R s m args below meth c B.U B.locs B.cells B.slots ∧ Post ⟨T.setVm vm₁, locs, cells, slots⟩ (Value.ref b :: argsL).toArray v B ∧
      ∀ target, Steps p.tables e below (B.U.setTop { g with pc := g.pc + 3, stack := v.toList ++ rest }) target → Steps p.tables e below (T.setTop g) target := by
  obtain ⟨mk, methM, hnamed, hmethM, hstM, habM⟩ := Cond.instanceMethod_spec hinst
  obtain ⟨m8, methM', cM, hn8, hmethM', -, -, -, -, -, -, hsigM⟩ := Cond.codeWith_spec hcode
  cases Option.some.inj (hn8.symm.trans hnamed)
  cases hmethM.symm.trans hmethM'
  obtain ⟨c2, r2, m2, q1, q2, q3, q4, kP, hkP, hkPi⟩ := Cond.selects_spec hsel
  cases hcls.symm.trans q1
  cases (State.methodFound?_of_named hnamed hy).symm.trans q2
  cases hnamed.symm.trans q3
  have hselP : selectMethod e.platform s.vm cellB.cls mk = .method mk := by rw [Launch.admits_selectMethod X.admits]; exact q4
  obtain ⟨vm₁, X₁, hstep₁⟩ := X.invokevirtual hexec hown hlink hnamed hmethM hstM hkP hkPi hy (a := b) (cell := cellB) hcell
    (fun z h => by rw [h] at hobj; cases hobj) hselP hmethM habM hkP hkPi (g := g) hg (argsL := argsL) (rest := rest) (hlen _ hsigM) hstack hdg
  obtain ⟨v, B, X', hpost, hsteps⟩ := hK m meth c ⟨T.setVm vm₁, locs, cells, slots⟩ { g with stack := rest } (.invokevirtual index) mk (Value.ref b :: argsL).toArray X₁ hg hsize hdg hW (X₁.named hnamed) (hpre vm₁ X₁.warmed)
  exact ⟨v, vm₁, B, X₁.warmed, X', hpost, fun target h => hstep₁ _ fun acts => by rw [doInvoke_state]; exact hsteps.trans h⟩
abbrev vx_CVW (R : Room) (s : State) (args : Array Value) (own C : String) (index : Nat) (y : MethodName) (bytes : ByteArray) (maxL : Nat) (ret : Option FieldType) (hh : List (Nat × Nat × Nat × Nat)) (ws : List Cond) (rm : Room) (mc ms n : Nat) : Prop :=
  (rm.cells = mc ∧ rm.slots = ms ∧ rm.frames + 1 ≤ R.frames ∧ 8 + (maxL + 11) + rm.locals ≤ R.locals ∧ (∀ w ∈ ws, ∀ (a' : Array Value) (U : State), s.WarmedH U.vm → w.before a' U = true) ∧ Cond.codeWith y bytes maxL ret hh ∈ ws) ∧
  (Cond.codeWith y bytes maxL ret hh).before args s = true ∧ (Cond.initialized y.cls).before args s = true ∧ (y.cls ≠ "java/lang/invoke/MethodHandle" ∧ y.cls ≠ "java/lang/invoke/VarHandle") ∧
  (∀ sig, parseMethodDescriptor y.desc = some sig → n = sig.parameters.length) ∧ (Cond.methodLink own index y).before args s = true ∧ (Cond.instanceMethod y).before args s = true ∧ (Cond.selects C y y).before args s = true
theorem vx_cwVW {own C : String} {index maxL mc ms : Nat} {y : MethodName} {bytes : ByteArray} {ret : Option FieldType} {hh : List (Nat × Nat × Nat × Nat)} {Ts ws ws' : List Cond} {rm : Room} (n : Nat) (ht : ∀ w ∈ Ts, w.before args s = true) (hT : GoodIn Ts (wsV own index C y ws)) (hw : ws = Cond.codeWith y bytes maxL ret hh :: ws') (hrc : rm.cells = mc) (hrs : rm.slots = ms)
    (hd : y.cls = C ∧ y.cls ≠ "java/lang/invoke/MethodHandle" ∧ y.cls ≠ "java/lang/invoke/VarHandle" ∧ (parseMethodDescriptor y.desc).map (fun d => d.parameters.length) = some n) (hR : rm.frames + 1 ≤ R.frames ∧ 8 + (maxL + 11) + rm.locals ≤ R.locals) :
    vx_CVW R s args own C index y bytes maxL ret hh ws rm mc ms n := by
  obtain ⟨hC, hd⟩ := hd
  subst hC
  have ok : ∀ w ∈ wsV own index y.cls y ws, w.before args s = true := fun w h => ht w (hT w h).1
  have hG : GoodIn Ts ws := fun w h => hT w (by unfold wsV; exact List.mem_append_right _ h)
  have hc : Cond.codeWith y bytes maxL ret hh ∈ ws := by rw [hw]; exact List.mem_cons_self
  refine ⟨⟨hrc, hrs, hR.1, hR.2, pay_in ht hG, hc⟩, ht _ (hG _ hc).1, ok _ (by simp [wsV]), ⟨hd.1, hd.2.1⟩, fun sig h => ?_, ok _ (by simp [wsV]), ok _ (by simp [wsV]), ok _ (by simp [wsV])⟩
  have h2 := hd.2.2
  rw [h] at h2
  exact (Option.some.inj h2).symm
theorem vx_runVW {y : MethodName} {bytes cc : ByteArray} {maxL nL mc ms n index : Nat} {ret : Option FieldType} {hh : List (Nat × Nat × Nat × Nat)} {ws : List Cond} {rm : Room} {Pc : Array Value → State → Prop} {Qc : Array Value → State → Outcome → State → Prop} {free : Addr → Prop} {Ts : List Cond} {own C : String} {b : Addr} {As rest : List Value} {g : JFrame}
    (S : CallFix p m c cc nL s args Ts own) (hM : Met l y ws rm Pc Qc mc ms free) (cw : vx_CVW R s args own C index y bytes maxL ret hh ws rm mc ms n) (hp : PreV s H C b Pc As)
    (hg : g.method = m) (hn : As.length = n) (hsize : g.locals.size = nL) (hstack : g.stack = As.reverse ++ .ref b :: rest) (hW : 2 * g.monitorRoom + (rest.map fun v => v.category).sum ≤ 8) (hdg : decode cc g.pc = .ok (.invokevirtual index, 3)) (hf : cells + mc ≤ R.cells ∧ slots + ms ≤ R.slots) :
    va_Run p l e R s m args below meth c H locs cells slots mc ms g rest (Qc (Value.ref b :: As).toArray) free := by
  obtain ⟨⟨hrc, hrs, hfr, hlo, hws, hcw⟩, hcode, hini, hy, hlen, hl, hin, hse⟩ := cw
  have hK : Back l R p e below s args y 3 8 (PreOf R mc ms Pc) (PostOf Qc mc ms free) := va_backW (hh := hh) (bytes := bytes) (maxL := maxL) (ret := ret) hM hp.1 hrc hrs hfr hlo hws hcw (fun a' U hW => word_at hW (Or.inl (by first | rfl | simp [Cond.onTables, Cond.keeps, Cond.steady])) hini)
  obtain ⟨hx, hb, hml, ho, -⟩ := S
  obtain ⟨-, ⟨cellB, hcB, hoB, hclB⟩, hPc⟩ := hp
  intro T hT X
  obtain ⟨v, vm₁, ⟨U', l2, c2, s2⟩, hW₁, X', ⟨g', mk, t, L, e1, e2, hq, h1, hL, h2, h3⟩, st⟩ := vx_callVW X hx (C := C) (hh := hh) (bytes := bytes) (maxL := maxL) (ret := ret) ho hl hin hse hcode hy hK (by rw [hT]; exact hcB) hoB hclB hg (hsize.trans hml.symm) (argsL := As) (rest := rest) (fun sig h => hn.trans (hlen sig h)) hstack hW (by rw [hb]; exact hdg)
    (fun vm₁ hW₁ => ⟨hf.1, hf.2, hPc (T.setVm vm₁) hT hW₁⟩)
  dsimp only [Pt.U, Pt.locs, Pt.cells, Pt.slots] at X' e1 e2 h1 h2 h3 st
  subst h1; subst h2; subst h3
  exact ⟨v, (T.setVm vm₁).calling g' mk (Value.ref b :: As).toArray, t, U', L, hT, X', hL, e1, e2, hq, st⟩
section
variable {y : MethodName} {bytes cc : ByteArray} {maxL nL mc ms n index : Nat} {ret : Option FieldType} {ws : List Cond} {rm : Room} {Pc : Array Value → State → Prop} {Qc : Array Value → State → Outcome → State → Prop} {XC : String → State → State → Prop} {free : Addr → Prop} {Ts : List Cond} {own C : String} {b : Addr} {As rest : List Value} {g : JFrame}
theorem vx_runVX {hh : List (Nat × Nat × Nat × Nat)} (S : CallFix p m c cc nL s args Ts own) (hM : vx_Met l y ws rm Pc Qc XC mc ms free) (cw : vx_CVW R s args own C index y bytes maxL ret hh ws rm mc ms n) (hp : PreV s H C b Pc As)
    (hg : g.method = m) (hn : As.length = n) (hsize : g.locals.size = nL) (hstack : g.stack = As.reverse ++ .ref b :: rest) (hW : 2 * g.monitorRoom + (rest.map fun v => v.category).sum ≤ 8) (hdg : decode cc g.pc = .ok (.invokevirtual index, 3)) (hf : cells + mc ≤ R.cells ∧ slots + ms ≤ R.slots) :
    vx_Run p l e R s m args below meth c H locs cells slots mc ms g rest (Qc (Value.ref b :: As).toArray) XC free := by
  obtain ⟨⟨hrc, hrs, hfr, hlo, hws, hcw⟩, hcode, hini, hy, hlen, hl, hin, hse⟩ := cw
  have hK : vx_Back l R p e below s args y 3 8 (PreOf R mc ms Pc) (PostOf Qc mc ms free) (vx_Post XC mc ms free) := vx_backW (hh := hh) (bytes := bytes) (maxL := maxL) (ret := ret) hM hp.1 hrc hrs hfr hlo hws hcw (fun a' U hW => word_at hW (Or.inl (by first | rfl | simp [Cond.onTables, Cond.keeps, Cond.steady])) hini)
  obtain ⟨hx, hb, hml, ho, -⟩ := S
  obtain ⟨-, ⟨cellB, hcB, hoB, hclB⟩, hPc⟩ := hp
  intro T hT X
  rcases vx_callVX X hx (C := C) (hh := hh) (bytes := bytes) (maxL := maxL) (ret := ret) ho hl hin hse hcode hy hK (by rw [hT]; exact hcB) hoB hclB hg (hsize.trans hml.symm) (argsL := As) (rest := rest) (fun sig h => hn.trans (hlen sig h)) hstack hW (by rw [hb]; exact hdg)
    (fun vm₁ hW₁ => ⟨hf.1, hf.2, hPc (T.setVm vm₁) hT hW₁⟩) with ⟨v, vm₁, ⟨U', l2, c2, s2⟩, hW₁, X', ⟨g', mk, t, L, e1, e2, hq, h1, hL, h2, h3⟩, st⟩ | ⟨q, vm₁, ⟨U', l2, c2, s2⟩, hW₁, X', ⟨g', mk, t, L, E, ce, e1, e2, hq, hce, hcv, hcl, h1, hL, h2, h3⟩, st⟩
  · dsimp only [Pt.U, Pt.locs, Pt.cells, Pt.slots] at X' e1 e2 h1 h2 h3 st
    subst h1; subst h2; subst h3
    exact Or.inl ⟨v, (T.setVm vm₁).calling g' mk (Value.ref b :: As).toArray, t, U', L, hT, X', hL, e1, e2, hq, st⟩
  · dsimp only [Pt.U, Pt.locs, Pt.cells, Pt.slots] at X' e1 e2 h1 h2 h3 st hcl
    subst h1; subst h2; subst h3
    exact Or.inr ⟨q, (T.setVm vm₁).calling g' mk (Value.ref b :: As).toArray, t, U', L, E, ce, hT, X', hL, e1, e2, hq, hce, hcv, vx_cls hW₁ hcl, st⟩
theorem vx_runSX {hh : List (Nat × Nat × Nat × Nat)} (S : CallFix p m c cc nL s args Ts own) (hM : vx_Met l y ws rm Pc Qc XC mc ms free) (cw : vx_CSW R s args own index y bytes maxL ret hh ws rm mc ms n) (hp : PreS s H Pc As)
    (hg : g.method = m) (hn : As.length = n) (hsize : g.locals.size = nL) (hstack : g.stack = As.reverse ++ rest) (hW : 2 * g.monitorRoom + (rest.map fun v => v.category).sum ≤ 8) (hdg : decode cc g.pc = .ok (.invokestatic index, 3)) (hf : cells + mc ≤ R.cells ∧ slots + ms ≤ R.slots) :
    vx_Run p l e R s m args below meth c H locs cells slots mc ms g rest (Qc As.toArray) XC free := by
  obtain ⟨⟨hrc, hrs, hfr, hlo, hws, hcw⟩, hcode, hini, hy, hlen, hl, hstt⟩ := cw
  have hK : vx_Back l R p e below s args y 3 8 (PreOf R mc ms Pc) (PostOf Qc mc ms free) (vx_Post XC mc ms free) := vx_backW (hh := hh) (bytes := bytes) (maxL := maxL) (ret := ret) hM hp.1 hrc hrs hfr hlo hws hcw (fun a' U hW => word_at hW (Or.inl (by first | rfl | simp [Cond.onTables, Cond.keeps, Cond.steady])) hini)
  obtain ⟨hx, hb, hml, ho, -⟩ := S
  intro T hT X
  rcases vx_callSX X hx (hh := hh) (bytes := bytes) (maxL := maxL) (ret := ret) ho hl hstt hini hcode hy hK hg (hsize.trans hml.symm) (argsL := As) (rest := rest) (fun sig h => hn.trans (hlen sig h)) hstack hW (by rw [hb]; exact hdg)
    (fun vm₁ hW₁ => ⟨hf.1, hf.2, hp.2 (T.setVm vm₁) hT hW₁⟩) with ⟨v, vm₁, ⟨U', l2, c2, s2⟩, hW₁, X', ⟨g', mk, t, L, e1, e2, hq, h1, hL, h2, h3⟩, st⟩ | ⟨q, vm₁, ⟨U', l2, c2, s2⟩, hW₁, X', ⟨g', mk, t, L, E, ce, e1, e2, hq, hce, hcv, hcl, h1, hL, h2, h3⟩, st⟩
  · dsimp only [Pt.U, Pt.locs, Pt.cells, Pt.slots] at X' e1 e2 h1 h2 h3 st
    subst h1; subst h2; subst h3
    exact Or.inl ⟨v, (T.setVm vm₁).calling g' mk As.toArray, t, U', L, hT, X', hL, e1, e2, hq, st⟩
  · dsimp only [Pt.U, Pt.locs, Pt.cells, Pt.slots] at X' e1 e2 h1 h2 h3 st hcl
    subst h1; subst h2; subst h3
    exact Or.inr ⟨q, (T.setVm vm₁).calling g' mk As.toArray, t, U', L, E, ce, hT, X', hL, e1, e2, hq, hce, hcv, vx_cls hW₁ hcl, st⟩
end
end VXH
theorem vx_ofWH {l : Launch} {y : MethodName} {ws ws' : List Cond} {rm : Room} {Pc : Array Value → State → Prop} {Qc : Array Value → State → Outcome → State → Prop} {XC : String → State → State → Prop} {mc ms : Nat} {free : Addr → Prop} {cc : ByteArray} {maxL : Nat} {ret : Option FieldType} {hh : List (Nat × Nat × Nat × Nat)}
    (hy : plainName y.cls = true) (hw : ws = Cond.codeWith y cc maxL ret hh :: ws')
    (body : ∀ p e s m args below meth c s₁, BodyLoose p l y (headSpec ws rm) cc maxL ret e s m args below meth c s₁ → c.maxLocals = maxL → Pc args s →
      W p l e (headSpec ws rm).room s m args below meth c s.heap [] 0 0 (vx_MQ below Qc XC args s mc ms free) (entryFrame m args maxL)) : vx_Met l y ws rm Pc Qc XC mc ms free := by
  refine MetFree.of_bodyS (code := cc) (maxLocals := maxL) (ret := ret) hy ?_ ?_
  · intro args s m h hn
    obtain ⟨m9, meth, c, hn9, h1, h2, h3, h4, -, h5, h6, -⟩ := Cond.codeWith_spec (atoms_spec (ws := ws) h _ (by rw [hw]; exact List.mem_cons_self))
    cases hn.symm.trans hn9
    exact ⟨meth, c, h1, h2, h3, h4, h5, h6⟩
  · intro p e s m args below meth c s₁ B hml hP _
    have hh0 : s₁.heap = s.heap := by rw [B.state]; rfl
    obtain ⟨t, a1, o, b1, b2, b3⟩ := body p e s m args below meth c s₁ B hml hP s₁ hh0 (Stand.of_body B)
    exact ⟨t, o, a1, b1, b2, b3⟩
/-! ===== END ===== -/
end
section
/-! ===== BEGIN printed: names, fields, word lists, decode rows ===== -/
def RX0 : String := "JointVenture$CashCall"
def TX0 : u_T := fun k => match k with
  | 0 => ("JointVenture$CashCall", "asked", "[I", true)
  | _ => ("JointVenture$CashCall", "paid", "[I", true)
def tyX0 : Nat → FieldType := fun k => match k with
  | 0 => .array .int
  | _ => .array .int
abbrev wsX00 : List Cond := u_ws RX0 TX0 2
theorem nmX0 : ∀ a, a < 2 → ∀ b, b < 2 → a ≠ b → (TX0 a).2.1 ≠ (TX0 b).2.1 := by decide +kernel
theorem tyX0_ok : ∀ k, k < 2 → parseFieldDescriptor (TX0 k).2.2.1 = some (tyX0 k) := by decide +kernel
abbrev cX0_init : ByteArray := prog_2_method_1_code
def yX0_init : MethodName := ⟨RX0, "<init>", "()V"⟩
abbrev cX0_hasPayer : ByteArray := prog_2_method_2_code
def yX0_hasPayer : MethodName := ⟨RX0, "hasPayer", "()Z"⟩
abbrev cX0_askedOfNonPayers : ByteArray := prog_2_method_3_code
def yX0_askedOfNonPayers : MethodName := ⟨RX0, "askedOfNonPayers", "()I"⟩
def RX1 : String := "JointVenture$Division"
def TX1 : u_T := fun k => match k with
  | _ => ("JointVenture$Division", "remainders", "[J", true)
def tyX1 : Nat → FieldType := fun k => match k with
  | _ => .array .long
abbrev wsX10 : List Cond := u_ws RX1 TX1 1
theorem nmX1 : ∀ a, a < 1 → ∀ b, b < 1 → a ≠ b → (TX1 a).2.1 ≠ (TX1 b).2.1 := by decide +kernel
theorem tyX1_ok : ∀ k, k < 1 → parseFieldDescriptor (TX1 k).2.2.1 = some (tyX1 k) := by decide +kernel
abbrev cX1_init : ByteArray := prog_3_method_1_code
def yX1_init : MethodName := ⟨RX1, "<init>", "()V"⟩
abbrev cX1_divide : ByteArray := prog_3_method_2_code
def yX1_divide : MethodName := ⟨RX1, "divide", "(I[I[I)V"⟩
abbrev cX1_firstWithGreatestRemainder : ByteArray := prog_3_method_3_code
def yX1_firstWithGreatestRemainder : MethodName := ⟨RX1, "firstWithGreatestRemainder", "()I"⟩
def RX2 : String := "JointVenture$Well"
def TX2 : u_T := fun k => match k with
  | 0 => ("JointVenture$Well", "penalty", "I", false)
  | 1 => ("JointVenture$Well", "hadVoucher", "Z", false)
  | 2 => ("JointVenture$Well", "electedOut", "[Z", true)
  | 3 => ("JointVenture$Well", "out", "[Z", true)
  | 4 => ("JointVenture$Well", "toEarn", "[J", true)
  | 5 => ("JointVenture$Well", "backAt", "[I", true)
  | 6 => ("JointVenture$Well", "charged", "[I", true)
  | _ => ("JointVenture$Well", "credited", "[I", true)
def tyX2 : Nat → FieldType := fun k => match k with
  | 0 => .int
  | 1 => .boolean
  | 2 => .array .boolean
  | 3 => .array .boolean
  | 4 => .array .long
  | 5 => .array .int
  | 6 => .array .int
  | _ => .array .int
abbrev wsX20 : List Cond := u_ws RX2 TX2 8
theorem nmX2 : ∀ a, a < 8 → ∀ b, b < 8 → a ≠ b → (TX2 a).2.1 ≠ (TX2 b).2.1 := by decide +kernel
theorem tyX2_ok : ∀ k, k < 8 → parseFieldDescriptor (TX2 k).2.2.1 = some (tyX2 k) := by decide +kernel
abbrev cX2_init : ByteArray := prog_4_method_1_code
def yX2_init : MethodName := ⟨RX2, "<init>", "()V"⟩
abbrev cX2_clearAccounts : ByteArray := prog_4_method_2_code
def yX2_clearAccounts : MethodName := ⟨RX2, "clearAccounts", "()V"⟩
abbrev cX2_takenOf : ByteArray := prog_4_method_3_code
def yX2_takenOf : MethodName := ⟨RX2, "takenOf", "(II)I"⟩
abbrev cX2_takeBack : ByteArray := prog_4_method_4_code
def yX2_takeBack : MethodName := ⟨RX2, "takeBack", "(I)V"⟩
def RX3 : String := "JointVenture"
def TX3 : u_T := fun k => match k with
  | 0 => ("JointVenture", "shares", "[I", true)
  | 1 => ("JointVenture", "newPenalty", "I", false)
  | 2 => ("JointVenture", "monthlyOverhead", "I", false)
  | 3 => ("JointVenture", "wells", "[LJointVenture$Well;", true)
  | 4 => ("JointVenture", "wellCount", "I", false)
  | 5 => ("JointVenture", "voucherWells", "[I", true)
  | 6 => ("JointVenture", "voucherAmounts", "[I", true)
  | 7 => ("JointVenture", "voucherCount", "I", false)
  | 8 => ("JointVenture", "cashCalls", "[LJointVenture$CashCall;", true)
  | 9 => ("JointVenture", "cashCallCount", "I", false)
  | 10 => ("JointVenture", "owed", "[I", true)
  | 11 => ("JointVenture", "division", "LJointVenture$Division;", true)
  | 12 => ("JointVenture", "ownParts", "[I", true)
  | 13 => ("JointVenture", "weights", "[I", true)
  | _ => ("JointVenture", "portions", "[I", true)
def tyX3 : Nat → FieldType := fun k => match k with
  | 0 => .array .int
  | 1 => .int
  | 2 => .int
  | 3 => .array (.object "JointVenture$Well")
  | 4 => .int
  | 5 => .array .int
  | 6 => .array .int
  | 7 => .int
  | 8 => .array (.object "JointVenture$CashCall")
  | 9 => .int
  | 10 => .array .int
  | 11 => .object "JointVenture$Division"
  | 12 => .array .int
  | 13 => .array .int
  | _ => .array .int
abbrev wsX30 : List Cond := u_ws RX3 TX3 15
theorem nmX3 : ∀ a, a < 15 → ∀ b, b < 15 → a ≠ b → (TX3 a).2.1 ≠ (TX3 b).2.1 := by decide +kernel
theorem tyX3_ok : ∀ k, k < 15 → parseFieldDescriptor (TX3 k).2.2.1 = some (tyX3 k) := by decide +kernel
abbrev cX3_init : ByteArray := prog_1_method_1_code
def yX3_init : MethodName := ⟨RX3, "<init>", "()V"⟩
abbrev cX3_setShares : ByteArray := prog_1_method_2_code
def yX3_setShares : MethodName := ⟨RX3, "setShares", "(IIIII)V"⟩
abbrev cX3_setPenalty : ByteArray := prog_1_method_3_code
def yX3_setPenalty : MethodName := ⟨RX3, "setPenalty", "(I)I"⟩
abbrev cX3_setOverhead : ByteArray := prog_1_method_4_code
def yX3_setOverhead : MethodName := ⟨RX3, "setOverhead", "(I)I"⟩
abbrev cX3_addWell : ByteArray := prog_1_method_5_code
def yX3_addWell : MethodName := ⟨RX3, "addWell", "()I"⟩
abbrev cX3_elect : ByteArray := prog_1_method_6_code
def yX3_elect : MethodName := ⟨RX3, "elect", "(IIZ)Z"⟩
abbrev cX3_cost : ByteArray := prog_1_method_7_code
def yX3_cost : MethodName := ⟨RX3, "cost", "(II)I"⟩
abbrev cX3_overhead : ByteArray := prog_1_method_8_code
def yX3_overhead : MethodName := ⟨RX3, "overhead", "(II)I"⟩
abbrev cX3_income : ByteArray := prog_1_method_9_code
def yX3_income : MethodName := ⟨RX3, "income", "(II)I"⟩
abbrev cX3_move : ByteArray := prog_1_method_10_code
def yX3_move : MethodName := ⟨RX3, "move", "(II)I"⟩
abbrev cX3_vouchers : ByteArray := prog_1_method_11_code
def yX3_vouchers : MethodName := ⟨RX3, "vouchers", "()I"⟩
abbrev cX3_wellOf : ByteArray := prog_1_method_12_code
def yX3_wellOf : MethodName := ⟨RX3, "wellOf", "(I)I"⟩
abbrev cX3_amountOf : ByteArray := prog_1_method_13_code
def yX3_amountOf : MethodName := ⟨RX3, "amountOf", "(I)I"⟩
abbrev cX3_isIn : ByteArray := prog_1_method_14_code
def yX3_isIn : MethodName := ⟨RX3, "isIn", "(II)Z"⟩
abbrev cX3_toEarn : ByteArray := prog_1_method_15_code
def yX3_toEarn : MethodName := ⟨RX3, "toEarn", "(II)J"⟩
abbrev cX3_backAt : ByteArray := prog_1_method_16_code
def yX3_backAt : MethodName := ⟨RX3, "backAt", "(II)I"⟩
abbrev cX3_charged : ByteArray := prog_1_method_17_code
def yX3_charged : MethodName := ⟨RX3, "charged", "(II)I"⟩
abbrev cX3_credited : ByteArray := prog_1_method_18_code
def yX3_credited : MethodName := ⟨RX3, "credited", "(II)I"⟩
abbrev cX3_weight : ByteArray := prog_1_method_19_code
def yX3_weight : MethodName := ⟨RX3, "weight", "(II)I"⟩
abbrev cX3_call : ByteArray := prog_1_method_20_code
def yX3_call : MethodName := ⟨RX3, "call", "(II)I"⟩
abbrev cX3_pay : ByteArray := prog_1_method_21_code
def yX3_pay : MethodName := ⟨RX3, "pay", "(II)I"⟩
abbrev cX3_shareOut : ByteArray := prog_1_method_22_code
def yX3_shareOut : MethodName := ⟨RX3, "shareOut", "(I)I"⟩
abbrev cX3_asked : ByteArray := prog_1_method_23_code
def yX3_asked : MethodName := ⟨RX3, "asked", "(II)I"⟩
abbrev cX3_paid : ByteArray := prog_1_method_24_code
def yX3_paid : MethodName := ⟨RX3, "paid", "(I)I"⟩
abbrev cX3_owes : ByteArray := prog_1_method_25_code
def yX3_owes : MethodName := ⟨RX3, "owes", "(I)I"⟩
abbrev cX3_balance : ByteArray := prog_1_method_26_code
def yX3_balance : MethodName := ⟨RX3, "balance", "(I)J"⟩
abbrev cX3_requireRange : ByteArray := prog_1_method_27_code
def yX3_requireRange : MethodName := ⟨RX3, "requireRange", "(III)V"⟩
abbrev cX3_requirePartner : ByteArray := prog_1_method_28_code
def yX3_requirePartner : MethodName := ⟨RX3, "requirePartner", "(I)V"⟩
abbrev cX3_requireWell : ByteArray := prog_1_method_29_code
def yX3_requireWell : MethodName := ⟨RX3, "requireWell", "(I)V"⟩
abbrev cX3_requireVoucher : ByteArray := prog_1_method_30_code
def yX3_requireVoucher : MethodName := ⟨RX3, "requireVoucher", "(I)V"⟩
abbrev cX3_requireCashCall : ByteArray := prog_1_method_31_code
def yX3_requireCashCall : MethodName := ⟨RX3, "requireCashCall", "(I)V"⟩
abbrev cX3_requireRoomForVoucher : ByteArray := prog_1_method_32_code
def yX3_requireRoomForVoucher : MethodName := ⟨RX3, "requireRoomForVoucher", "()V"⟩
abbrev cX3_addVoucher : ByteArray := prog_1_method_33_code
def yX3_addVoucher : MethodName := ⟨RX3, "addVoucher", "(II)I"⟩
abbrev cX3_accountAnew : ByteArray := prog_1_method_34_code
def yX3_accountAnew : MethodName := ⟨RX3, "accountAnew", "(I)V"⟩
abbrev cX3_account : ByteArray := prog_1_method_35_code
def yX3_account : MethodName := ⟨RX3, "account", "(I)V"⟩
abbrev cX3_accountCost : ByteArray := prog_1_method_36_code
def yX3_accountCost : MethodName := ⟨RX3, "accountCost", "(LJointVenture$Well;I)V"⟩
abbrev cX3_penaltyOn : ByteArray := prog_1_method_37_code
def yX3_penaltyOn : MethodName := ⟨RX3, "penaltyOn", "(II)J"⟩
abbrev cX3_divideCost : ByteArray := prog_1_method_38_code
def yX3_divideCost : MethodName := ⟨RX3, "divideCost", "(LJointVenture$Well;I)V"⟩
abbrev cX3_accountIncome : ByteArray := prog_1_method_39_code
def yX3_accountIncome : MethodName := ⟨RX3, "accountIncome", "(LJointVenture$Well;I)V"⟩
abbrev cX3_creditTaken : ByteArray := prog_1_method_40_code
def yX3_creditTaken : MethodName := ⟨RX3, "creditTaken", "(LJointVenture$Well;I)V"⟩
abbrev cX3_ownPartsOfThoseOut : ByteArray := prog_1_method_41_code
def yX3_ownPartsOfThoseOut : MethodName := ⟨RX3, "ownPartsOfThoseOut", "(LJointVenture$Well;)I"⟩
abbrev cX3_weighThoseIn : ByteArray := prog_1_method_42_code
def yX3_weighThoseIn : MethodName := ⟨RX3, "weighThoseIn", "(LJointVenture$Well;)V"⟩
abbrev cX3_shareIfIn : ByteArray := prog_1_method_43_code
def yX3_shareIfIn : MethodName := ⟨RX3, "shareIfIn", "(LJointVenture$Well;I)I"⟩
abbrev cX3_isAnotherIn : ByteArray := prog_1_method_44_code
def yX3_isAnotherIn : MethodName := ⟨RX3, "isAnotherIn", "(LJointVenture$Well;I)Z"⟩
abbrev cX3_moveToPayers : ByteArray := prog_1_method_45_code
def yX3_moveToPayers : MethodName := ⟨RX3, "moveToPayers", "(LJointVenture$CashCall;I)V"⟩
abbrev cX3_paidOfAllCalls : ByteArray := prog_1_method_46_code
def yX3_paidOfAllCalls : MethodName := ⟨RX3, "paidOfAllCalls", "(I)I"⟩
def RX4 : String := "JointVentureModel"
def TX4 : u_T := fun k => match k with
  | _ => ("", "", "", false)
def tyX4 : Nat → FieldType := fun k => match k with
  | _ => .int
abbrev wsX40 : List Cond := u_ws RX4 TX4 0
theorem nmX4 : ∀ a, a < 0 → ∀ b, b < 0 → a ≠ b → (TX4 a).2.1 ≠ (TX4 b).2.1 := by decide +kernel
theorem tyX4_ok : ∀ k, k < 0 → parseFieldDescriptor (TX4 k).2.2.1 = some (tyX4 k) := by decide +kernel
def RJx145de : String := "java/io/Serializable"
def TJx145de : u_T := fun k => match k with
  | _ => ("", "", "", false)
def tyJx145de : Nat → FieldType := fun k => match k with
  | _ => .int
abbrev wsJx145de0 : List Cond := u_ws RJx145de TJx145de 0
theorem nmJx145de : ∀ a, a < 0 → ∀ b, b < 0 → a ≠ b → (TJx145de a).2.1 ≠ (TJx145de b).2.1 := by decide +kernel
theorem tyJx145de_ok : ∀ k, k < 0 → parseFieldDescriptor (TJx145de k).2.2.1 = some (tyJx145de k) := by decide +kernel
def RJ9 : String := "java/lang/Math"
def TJ9 : u_T := fun k => match k with
  | _ => ("", "", "", false)
def tyJ9 : Nat → FieldType := fun k => match k with
  | _ => .int
abbrev wsJ90 : List Cond := u_ws RJ9 TJ9 0
theorem nmJ9 : ∀ a, a < 0 → ∀ b, b < 0 → a ≠ b → (TJ9 a).2.1 ≠ (TJ9 b).2.1 := by decide +kernel
theorem tyJ9_ok : ∀ k, k < 0 → parseFieldDescriptor (TJ9 k).2.2.1 = some (tyJ9 k) := by decide +kernel
abbrev cJ9_min_f86c9 : ByteArray := prog_11_method_70_code
def yJ9_min_f86c9 : MethodName := ⟨RJ9, "min", "(JJ)J"⟩
def RJ0 : String := "java/lang/String"
def TJ0 : u_T := fun k => match k with
  | _ => ("", "", "", false)
def tyJ0 : Nat → FieldType := fun k => match k with
  | _ => .int
abbrev wsJ00 : List Cond := u_ws RJ0 TJ0 0
theorem nmJ0 : ∀ a, a < 0 → ∀ b, b < 0 → a ≠ b → (TJ0 a).2.1 ≠ (TJ0 b).2.1 := by decide +kernel
theorem tyJ0_ok : ∀ k, k < 0 → parseFieldDescriptor (TJ0 k).2.2.1 = some (tyJ0 k) := by decide +kernel
def RJ7 : String := "java/util/Arrays"
def TJ7 : u_T := fun k => match k with
  | _ => ("", "", "", false)
def tyJ7 : Nat → FieldType := fun k => match k with
  | _ => .int
abbrev wsJ70 : List Cond := u_ws RJ7 TJ7 0
theorem nmJ7 : ∀ a, a < 0 → ∀ b, b < 0 → a ≠ b → (TJ7 a).2.1 ≠ (TJ7 b).2.1 := by decide +kernel
theorem tyJ7_ok : ∀ k, k < 0 → parseFieldDescriptor (TJ7 k).2.2.1 = some (tyJ7 k) := by decide +kernel
abbrev cJ7_fill_d0a16 : ByteArray := prog_15_method_101_code
def yJ7_fill_d0a16 : MethodName := ⟨RJ7, "fill", "([JJ)V"⟩
abbrev cJ7_fill_53178 : ByteArray := prog_15_method_103_code
def yJ7_fill_53178 : MethodName := ⟨RJ7, "fill", "([II)V"⟩
def RL : String := "JointVentureLaw"
abbrev cL_from : ByteArray := method_2_code
def yL_from : MethodName := ⟨RL, "from", "([III)I"⟩
abbrev cL_divide : ByteArray := method_3_code
def yL_divide : MethodName := ⟨RL, "divide", "(J[J[J)V"⟩
abbrev cL_enter : ByteArray := method_4_code
def yL_enter : MethodName := ⟨RL, "enter", "([II[JJZI)V"⟩
abbrev cL_account : ByteArray := method_5_code
def yL_account : MethodName := ⟨RL, "account", "([I[I[I[I[I[JI)V"⟩
abbrev cL_weigh : ByteArray := method_6_code
def yL_weigh : MethodName := ⟨RL, "weigh", "([I[I[I[I[I[JI)V"⟩
abbrev cL_isTold : ByteArray := method_7_code
def yL_isTold : MethodName := ⟨RL, "isTold", "(LJointVenture;[I[I[I[I[I[I[I[I)Z"⟩
abbrev cL_elected : ByteArray := method_8_code
def yL_elected : MethodName := ⟨RL, "elected", "(LJointVenture;IIZ)I"⟩
abbrev cL_entered : ByteArray := method_9_code
def yL_entered : MethodName := ⟨RL, "entered", "(LJointVenture;II)I"⟩
abbrev cL_moved : ByteArray := method_10_code
def yL_moved : MethodName := ⟨RL, "moved", "(LJointVenture;II)I"⟩
abbrev cL_paid : ByteArray := method_11_code
def yL_paid : MethodName := ⟨RL, "paid", "(LJointVenture;II)I"⟩
abbrev cL_shared : ByteArray := method_12_code
def yL_shared : MethodName := ⟨RL, "shared", "(LJointVenture;I)I"⟩
abbrev cL_isCash : ByteArray := method_13_code
def yL_isCash : MethodName := ⟨RL, "isCash", "(LJointVenture;[I[I[I[I[I[I[I[III)Z"⟩
abbrev cL_acts : ByteArray := method_14_code
def yL_acts : MethodName := ⟨RL, "acts", "(LJointVenture;[I[I[I[I[I[I[I[I[III)Z"⟩
abbrev cL_holds : ByteArray := method_15_code
def yL_holds : MethodName := ⟨RL, "holds", "([I)Z"⟩
abbrev cL_isHeld : ByteArray := method_16_code
def yL_isHeld : MethodName := ⟨RL, "isHeld", "([I)Z"⟩
abbrev cL_law : ByteArray := code
def yL_law : MethodName := ⟨RL, "law", "([I)Z"⟩
abbrev vwCl : List vw_C := [(RX0, TX0, 2), (RX1, TX1, 1), (RX2, TX2, 8), (RX3, TX3, 15)]
end
section
abbrev Sg : Type := Nat → Int → Int → Int
abbrev Ad : Type := Nat → Int → Nat
def iI (z : Int) : Int32 := Int32.ofInt z
def lI (z : Int) : Int64 := Int64.ofInt z
abbrev I32 (z : Int) : Prop := -2147483648 ≤ z ∧ z < 2147483648
abbrev I64 (z : Int) : Prop := -9223372036854775808 ≤ z ∧ z < 9223372036854775808
theorem iI_toInt {z : Int} (h : I32 z) : (iI z).toInt = z := by
  unfold iI
  rw [Int32.toInt_ofInt]
  exact Int.bmod_eq_of_le (by simp; omega) (by simp; omega)
theorem lI_toInt {z : Int} (h : I64 z) : (lI z).toInt = z := by
  unfold lI
  rw [Int64.toInt_ofInt]
  exact Int.bmod_eq_of_le (by simp; omega) (by simp; omega)
theorem iI_of (x : Int32) : x = iI x.toInt := by unfold iI; simp
theorem lI_of (x : Int64) : x = lI x.toInt := by unfold lI; simp
theorem i32_r (x : Int32) : I32 x.toInt := ⟨by have := Int32.le_toInt x; omega, by have := Int32.toInt_lt x; omega⟩
theorem iI_add (a b : Int) : iI a + iI b = iI (a + b) := by unfold iI; rw [Int32.ofInt_add]
theorem iI_sub (a b : Int) : iI a - iI b = iI (a - b) := by unfold iI; rw [Int32.ofInt_sub]
theorem iI_mul (a b : Int) : iI a * iI b = iI (a * b) := by unfold iI; rw [Int32.ofInt_mul]
theorem iI_neg (a : Int) : -(iI a) = iI (-a) := by unfold iI; rw [Int32.ofInt_neg]
theorem lI_add (a b : Int) : lI a + lI b = lI (a + b) := by unfold lI; rw [Int64.ofInt_add]
theorem lI_sub (a b : Int) : lI a - lI b = lI (a - b) := by unfold lI; rw [Int64.ofInt_sub]
theorem lI_mul (a b : Int) : lI a * lI b = lI (a * b) := by unfold lI; rw [Int64.ofInt_mul]
theorem iI_lt {a b : Int} (ha : I32 a) (hb : I32 b) : iI a < iI b ↔ a < b := by rw [Int32.lt_iff_toInt_lt, iI_toInt ha, iI_toInt hb]
theorem iI_le {a b : Int} (ha : I32 a) (hb : I32 b) : iI a ≤ iI b ↔ a ≤ b := by rw [Int32.le_iff_toInt_le, iI_toInt ha, iI_toInt hb]
theorem iI_eq {a b : Int} (ha : I32 a) (hb : I32 b) : iI a = iI b ↔ a = b := ⟨fun h => by rw [← iI_toInt ha, ← iI_toInt hb, h], fun h => by rw [h]⟩
theorem lI_lt {a b : Int} (ha : I64 a) (hb : I64 b) : lI a < lI b ↔ a < b := by rw [Int64.lt_iff_toInt_lt, lI_toInt ha, lI_toInt hb]
theorem lI_eq {a b : Int} (ha : I64 a) (hb : I64 b) : lI a = lI b ↔ a = b := ⟨fun h => by rw [← lI_toInt ha, ← lI_toInt hb, h], fun h => by rw [h]⟩
theorem iI_wide {a : Int} (ha : I32 a) : (iI a).toInt64 = lI a := by
  apply Int64.toInt_inj.mp
  rw [Int32.toInt_toInt64, iI_toInt ha, lI_toInt (by omega)]
theorem lI_low (a : Int) : (lI a).toInt32 = iI a := by
  unfold lI iI
  simp
theorem lI_div {a b : Int} (ha : 0 ≤ a ∧ a < 9223372036854775808) (hb : 0 < b ∧ b < 9223372036854775808) : lI a / lI b = lI (a / b) := by
  have e1 : lI a = lN a.toNat := by unfold lI lN; rw [← Int64.ofInt_eq_ofNat]; congr 1; omega
  have e2 : lI b = lN b.toNat := by unfold lI lN; rw [← Int64.ofInt_eq_ofNat]; congr 1; omega
  have e3 : lI (a / b) = lN (a.toNat / b.toNat) := by
    unfold lI lN; rw [← Int64.ofInt_eq_ofNat]; congr 1
    rw [Int.natCast_ediv, Int.toNat_of_nonneg ha.1, Int.toNat_of_nonneg (by omega)]
  rw [e1, e2, e3, pk_lDiv (by omega) (by omega) (by omega)]
theorem lI_rem {a b : Int} (ha : 0 ≤ a ∧ a < 9223372036854775808) (hb : 0 < b ∧ b < 9223372036854775808) : lI a - lI a / lI b * lI b = lI (a % b) := by
  rw [lI_div ha hb, lI_mul, lI_sub]
  congr 1
  rw [Int.emod_def, Int.mul_comm]
theorem iI_ix {z : Int} {n : Nat} (h0 : 0 ≤ z) (h : z < n) (hn : n ≤ 1000) : vp_in (iI z) n ∧ (iI z).toNatClampNeg = z.toNat := by
  have e1 : iI z = nI z.toNat := by unfold iI nI; rw [← Int32.ofInt_eq_ofNat]; congr 1; omega
  rw [e1]
  exact ⟨vp_in_nI (by omega) (by omega), nI_clamp (by omega)⟩
def su (σ : Sg) (kd : Nat) (k j v : Int) : Sg := fun a b c => if a = kd ∧ b = k ∧ c = j then v else σ a b c

def cnt (kd : Nat) : Int := if kd < 12 then 1 else if kd < 19 then 6 else if kd < 22 then 20 else if kd < 41 then 1 else 0
def wM (cy : Nat → ClassId) (ad : Ad) (σ : Sg) (kd : Nat) (k : Int) : va_E := match kd with
  | 0 => .inr (3, [.ref (ad 1 0), .int (iI (σ 0 k 1)), .int (iI (σ 0 k 2)), .ref (ad 2 0), .int (iI (σ 0 k 4)), .ref (ad 3 0), .ref (ad 4 0), .int (iI (σ 0 k 7)), .ref (ad 5 0), .int (iI (σ 0 k 9)), .ref (ad 6 0), .ref (ad 7 0), .ref (ad 9 0), .ref (ad 10 0), .ref (ad 11 0)])
  | 1 => .inl (cy 0, 5, .inl (fun j => iI (σ 1 k (j : Int))))
  | 2 => .inl (cy 3, 6, .inr (.inr (.inr (.inr (fun j => some (ad 12 (j : Int)))))))
  | 3 => .inl (cy 0, 60, .inl (fun j => iI (σ 3 k (j : Int))))
  | 4 => .inl (cy 0, 60, .inl (fun j => iI (σ 4 k (j : Int))))
  | 5 => .inl (cy 4, 20, .inr (.inr (.inr (.inr (fun j => some (ad 19 (j : Int)))))))
  | 6 => .inl (cy 0, 5, .inl (fun j => iI (σ 6 k (j : Int))))
  | 7 => .inr (1, [.ref (ad 8 0)])
  | 8 => .inl (cy 1, 5, .inr (.inl (fun j => lI (σ 8 k (j : Int)))))
  | 9 => .inl (cy 0, 5, .inl (fun j => iI (σ 9 k (j : Int))))
  | 10 => .inl (cy 0, 5, .inl (fun j => iI (σ 10 k (j : Int))))
  | 11 => .inl (cy 0, 5, .inl (fun j => iI (σ 11 k (j : Int))))
  | 12 => .inr (2, [.int (iI (σ 12 k 0)), .int (iI (σ 12 k 1)), .ref (ad 13 k), .ref (ad 14 k), .ref (ad 15 k), .ref (ad 16 k), .ref (ad 17 k), .ref (ad 18 k)])
  | 13 => .inl (cy 2, 5, .inl (fun j => iI (σ 13 k (j : Int))))
  | 14 => .inl (cy 2, 5, .inl (fun j => iI (σ 14 k (j : Int))))
  | 15 => .inl (cy 1, 5, .inr (.inl (fun j => lI (σ 15 k (j : Int)))))
  | 16 => .inl (cy 0, 5, .inl (fun j => iI (σ 16 k (j : Int))))
  | 17 => .inl (cy 0, 5, .inl (fun j => iI (σ 17 k (j : Int))))
  | 18 => .inl (cy 0, 5, .inl (fun j => iI (σ 18 k (j : Int))))
  | 19 => .inr (0, [.ref (ad 20 k), .ref (ad 21 k)])
  | 20 => .inl (cy 0, 5, .inl (fun j => iI (σ 20 k (j : Int))))
  | 21 => .inl (cy 0, 5, .inl (fun j => iI (σ 21 k (j : Int))))
  | 22 => .inl (cy 0, 5, .inl (fun j => iI (σ 22 k (j : Int))))
  | 23 => .inl (cy 0, 15, .inl (fun j => iI (σ 23 k (j : Int))))
  | 24 => .inl (cy 0, 3, .inl (fun j => iI (σ 24 k (j : Int))))
  | 25 => .inl (cy 0, 48, .inl (fun j => iI (σ 25 k (j : Int))))
  | 26 => .inl (cy 0, 30, .inl (fun j => iI (σ 26 k (j : Int))))
  | 27 => .inl (cy 0, 30, .inl (fun j => iI (σ 27 k (j : Int))))
  | 28 => .inl (cy 0, 5, .inl (fun j => iI (σ 28 k (j : Int))))
  | 29 => .inl (cy 0, 5, .inl (fun j => iI (σ 29 k (j : Int))))
  | 30 => .inl (cy 0, 3, .inl (fun j => iI (σ 30 k (j : Int))))
  | 31 => .inl (cy 1, 25, .inr (.inl (fun j => lI (σ 31 k (j : Int)))))
  | 32 => .inl (cy 1, 5, .inr (.inl (fun j => lI (σ 32 k (j : Int)))))
  | 33 => .inl (cy 1, 5, .inr (.inl (fun j => lI (σ 33 k (j : Int)))))
  | 34 => .inl (cy 1, 25, .inr (.inl (fun j => lI (σ 34 k (j : Int)))))
  | 35 => .inl (cy 1, 5, .inr (.inl (fun j => lI (σ 35 k (j : Int)))))
  | 36 => .inl (cy 1, 5, .inr (.inl (fun j => lI (σ 36 k (j : Int)))))
  | 37 => .inl (cy 1, 5, .inr (.inl (fun j => lI (σ 37 k (j : Int)))))
  | 38 => .inl (cy 1, 5, .inr (.inl (fun j => lI (σ 38 k (j : Int)))))
  | 39 => .inl (cy 1, 5, .inr (.inl (fun j => lI (σ 39 k (j : Int)))))
  | 40 => .inl (cy 1, 5, .inr (.inl (fun j => lI (σ 40 k (j : Int)))))
  | _ => .inl (cy 0, 0, .inl (fun _ => 0))
theorem wM_congr {cy : Nat → ClassId} {ad : Ad} {σ τ : Sg} {kd : Nat} {k : Int} (h : ∀ j, τ kd k j = σ kd k j) : wM cy ad τ kd k = wM cy ad σ kd k := by
  unfold wM
  split <;> simp only [h]
/-- the kinds that are there: the class's own, and of the law's those that are marked -/
def Ex (ad : Ad) (kd : Nat) : Prop := kd < 22 ∨ ad 1000 (kd : Int) = 1
def IsI (ad : Ad) (kd n : Nat) : Prop := n ≤ 1000 ∧ Ex ad kd ∧ ∀ (cy : Nat → ClassId) (σ : Sg) (k : Int), wM cy ad σ kd k = .inl (cy 0, n, .inl (fun j => iI (σ kd k (j : Int))))
def IsZ (ad : Ad) (kd n : Nat) : Prop := n ≤ 1000 ∧ Ex ad kd ∧ ∀ (cy : Nat → ClassId) (σ : Sg) (k : Int), wM cy ad σ kd k = .inl (cy 2, n, .inl (fun j => iI (σ kd k (j : Int))))
def IsL (ad : Ad) (kd n : Nat) : Prop := n ≤ 1000 ∧ Ex ad kd ∧ ∀ (cy : Nat → ClassId) (σ : Sg) (k : Int), wM cy ad σ kd k = .inl (cy 1, n, .inr (.inl (fun j => lI (σ kd k (j : Int)))))
def IsR (ad : Ad) (kd n t r : Nat) : Prop := n ≤ 1000 ∧ Ex ad kd ∧ ∀ (cy : Nat → ClassId) (σ : Sg) (k : Int), wM cy ad σ kd k = .inl (cy r, n, .inr (.inr (.inr (.inr (fun j => some (ad t (j : Int)))))))
def Rcv (C : String) (kd : Nat) : Prop := kd < 22 ∧ ∃ (ci : Nat) (T : u_T) (N : Nat), vwCl[ci]? = some (C, T, N) ∧ ∀ (cy : Nat → ClassId) (ad : Ad) (σ : Sg) (k : Int), ∃ fs, wM cy ad σ kd k = .inr (ci, fs)
theorem k1 {ad : Ad} : IsI ad 1 5 := ⟨by decide, Or.inl (by decide), fun _ _ _ => rfl⟩
theorem k3 {ad : Ad} : IsI ad 3 60 := ⟨by decide, Or.inl (by decide), fun _ _ _ => rfl⟩
theorem k4 {ad : Ad} : IsI ad 4 60 := ⟨by decide, Or.inl (by decide), fun _ _ _ => rfl⟩
theorem k6 {ad : Ad} : IsI ad 6 5 := ⟨by decide, Or.inl (by decide), fun _ _ _ => rfl⟩
theorem k8 {ad : Ad} : IsL ad 8 5 := ⟨by decide, Or.inl (by decide), fun _ _ _ => rfl⟩
theorem k9 {ad : Ad} : IsI ad 9 5 := ⟨by decide, Or.inl (by decide), fun _ _ _ => rfl⟩
theorem k10 {ad : Ad} : IsI ad 10 5 := ⟨by decide, Or.inl (by decide), fun _ _ _ => rfl⟩
theorem k11 {ad : Ad} : IsI ad 11 5 := ⟨by decide, Or.inl (by decide), fun _ _ _ => rfl⟩
theorem k13 {ad : Ad} : IsZ ad 13 5 := ⟨by decide, Or.inl (by decide), fun _ _ _ => rfl⟩
theorem k14 {ad : Ad} : IsZ ad 14 5 := ⟨by decide, Or.inl (by decide), fun _ _ _ => rfl⟩
theorem k15 {ad : Ad} : IsL ad 15 5 := ⟨by decide, Or.inl (by decide), fun _ _ _ => rfl⟩
theorem k16 {ad : Ad} : IsI ad 16 5 := ⟨by decide, Or.inl (by decide), fun _ _ _ => rfl⟩
theorem k17 {ad : Ad} : IsI ad 17 5 := ⟨by decide, Or.inl (by decide), fun _ _ _ => rfl⟩
theorem k18 {ad : Ad} : IsI ad 18 5 := ⟨by decide, Or.inl (by decide), fun _ _ _ => rfl⟩
theorem k20 {ad : Ad} : IsI ad 20 5 := ⟨by decide, Or.inl (by decide), fun _ _ _ => rfl⟩
theorem k21 {ad : Ad} : IsI ad 21 5 := ⟨by decide, Or.inl (by decide), fun _ _ _ => rfl⟩
theorem k22 {ad : Ad} (h : ad 1000 22 = 1) : IsI ad 22 5 := ⟨by decide, Or.inr h, fun _ _ _ => rfl⟩
theorem k23 {ad : Ad} (h : ad 1000 23 = 1) : IsI ad 23 15 := ⟨by decide, Or.inr h, fun _ _ _ => rfl⟩
theorem k24 {ad : Ad} (h : ad 1000 24 = 1) : IsI ad 24 3 := ⟨by decide, Or.inr h, fun _ _ _ => rfl⟩
theorem k25 {ad : Ad} (h : ad 1000 25 = 1) : IsI ad 25 48 := ⟨by decide, Or.inr h, fun _ _ _ => rfl⟩
theorem k26 {ad : Ad} (h : ad 1000 26 = 1) : IsI ad 26 30 := ⟨by decide, Or.inr h, fun _ _ _ => rfl⟩
theorem k27 {ad : Ad} (h : ad 1000 27 = 1) : IsI ad 27 30 := ⟨by decide, Or.inr h, fun _ _ _ => rfl⟩
theorem k28 {ad : Ad} (h : ad 1000 28 = 1) : IsI ad 28 5 := ⟨by decide, Or.inr h, fun _ _ _ => rfl⟩
theorem k29 {ad : Ad} (h : ad 1000 29 = 1) : IsI ad 29 5 := ⟨by decide, Or.inr h, fun _ _ _ => rfl⟩
theorem k30 {ad : Ad} (h : ad 1000 30 = 1) : IsI ad 30 3 := ⟨by decide, Or.inr h, fun _ _ _ => rfl⟩
theorem k31 {ad : Ad} (h : ad 1000 31 = 1) : IsL ad 31 25 := ⟨by decide, Or.inr h, fun _ _ _ => rfl⟩
theorem k32 {ad : Ad} (h : ad 1000 32 = 1) : IsL ad 32 5 := ⟨by decide, Or.inr h, fun _ _ _ => rfl⟩
theorem k33 {ad : Ad} (h : ad 1000 33 = 1) : IsL ad 33 5 := ⟨by decide, Or.inr h, fun _ _ _ => rfl⟩
theorem k34 {ad : Ad} (h : ad 1000 34 = 1) : IsL ad 34 25 := ⟨by decide, Or.inr h, fun _ _ _ => rfl⟩
theorem k35 {ad : Ad} (h : ad 1000 35 = 1) : IsL ad 35 5 := ⟨by decide, Or.inr h, fun _ _ _ => rfl⟩
theorem k36 {ad : Ad} (h : ad 1000 36 = 1) : IsL ad 36 5 := ⟨by decide, Or.inr h, fun _ _ _ => rfl⟩
theorem k37 {ad : Ad} (h : ad 1000 37 = 1) : IsL ad 37 5 := ⟨by decide, Or.inr h, fun _ _ _ => rfl⟩
theorem k38 {ad : Ad} (h : ad 1000 38 = 1) : IsL ad 38 5 := ⟨by decide, Or.inr h, fun _ _ _ => rfl⟩
theorem k39 {ad : Ad} (h : ad 1000 39 = 1) : IsL ad 39 5 := ⟨by decide, Or.inr h, fun _ _ _ => rfl⟩
theorem k40 {ad : Ad} (h : ad 1000 40 = 1) : IsL ad 40 5 := ⟨by decide, Or.inr h, fun _ _ _ => rfl⟩
theorem k2 {ad : Ad} : IsR ad 2 6 12 3 := ⟨by decide, Or.inl (by decide), fun _ _ _ => rfl⟩
theorem k5 {ad : Ad} : IsR ad 5 20 19 4 := ⟨by decide, Or.inl (by decide), fun _ _ _ => rfl⟩
theorem rc3 : Rcv RX3 0 := ⟨by decide, 3, TX3, 15, rfl, fun _ _ _ _ => ⟨_, rfl⟩⟩
theorem rc1 : Rcv RX1 7 := ⟨by decide, 1, TX1, 1, rfl, fun _ _ _ _ => ⟨_, rfl⟩⟩
theorem rc2 : Rcv RX2 12 := ⟨by decide, 2, TX2, 8, rfl, fun _ _ _ _ => ⟨_, rfl⟩⟩
theorem rc0 : Rcv RX0 19 := ⟨by decide, 0, TX0, 2, rfl, fun _ _ _ _ => ⟨_, rfl⟩⟩
def Wd (cy : Nat → ClassId) (D : va_G) (ad : Ad) (σ : Sg) (H : Heap) : Prop := ∀ (kd : Nat) (k : Int), 0 ≤ k → k < cnt kd → Ex ad kd → va_at D vwCl (ad kd k, wM cy ad σ kd k) H
def Inj (ad : Ad) : Prop := ∀ (a b : Nat) (i j : Int), 0 ≤ i → i < cnt a → 0 ≤ j → j < cnt b → Ex ad a → Ex ad b → ad a i = ad b j → a = b ∧ i = j
def Aw (ad : Ad) : Nat → Prop := fun q => ∃ (kd : Nat) (k : Int), 0 ≤ k ∧ k < cnt kd ∧ Ex ad kd ∧ q = ad kd k
def Ar (ad : Ad) (sz : Nat) : Nat → Prop := fun q => Aw ad q ∨ sz ≤ q
def tysO (cy : Nat → ClassId) : List (ClassId × FieldType) := [(cy 0, .int), (cy 1, .long), (cy 2, .boolean), (cy 3, .object "JointVenture$Well"), (cy 4, .object "JointVenture$CashCall")]
theorem Wd.put {cy : Nat → ClassId} {D : va_G} {ad : Ad} {σ : Sg} {H H1 : Heap} (hI : Inj ad) (h : Wd cy D ad σ H) {kd : Nat} {k j v : Int} (h0 : 0 ≤ k) (h1 : k < cnt kd) (hx : Ex ad kd) (he : va_at D vwCl (ad kd k, wM cy ad (su σ kd k j v) kd k) H1) (oq : ∀ q : Nat, q ≠ ad kd k → H1[q]? = H[q]?) : Wd cy D ad (su σ kd k j v) H1 := by
  intro a b h2 h3 hxa
  by_cases hq : a = kd ∧ b = k
  · obtain ⟨rfl, rfl⟩ := hq
    exact he
  · have e : wM cy ad (su σ kd k j v) a b = wM cy ad σ a b := wM_congr fun c => if_neg fun z => hq ⟨z.1, z.2.1⟩
    rw [e]
    exact (h a b h2 h3 hxa).kept (oq _ fun z => hq (hI a kd b k h2 h3 h0 h1 hxa hx z))
def Lh (ls : Array Slot) (nL : Nat) (lv : List (Option Value)) : Prop := ls.size = nL ∧ lv_wf ls ∧ ∀ (i : Nat) (v : Value), lv[i]? = some (some v) → ls[i]? = some (.val v)
def lhL (lv : List (Option Value)) : List (Nat × Value) := (List.range lv.length).filterMap (fun i => (lv[i]?.join).map (fun v => (i, v)))
theorem lhL_mem {lv : List (Option Value)} {i : Nat} {v : Value} : (i, v) ∈ lhL lv ↔ lv[i]? = some (some v) := by
  unfold lhL
  rw [List.mem_filterMap]
  constructor
  · rintro ⟨j, hj, h⟩
    rw [Option.map_eq_some_iff] at h
    obtain ⟨w, h1, h2⟩ := h
    cases h2
    exact Option.join_eq_some_iff.mp h1
  · intro h
    have hl : i < lv.length := (List.getElem?_eq_some_iff.mp h).1
    exact ⟨i, List.mem_range.mpr hl, by rw [h]; rfl⟩
theorem Lh.has {ls : Array Slot} {nL : Nat} {lv : List (Option Value)} (h : Lh ls nL lv) : lv_has ls nL (lhL lv) := ⟨h.1, h.2.1, fun q hq => h.2.2 q.1 q.2 (lhL_mem.mp hq)⟩
def nlo (o : Option Value) : Bool := match o with
  | some v => v.category == 1
  | none => true
def nlat (lv : List (Option Value)) (i : Nat) : Bool := match i with
  | 0 => true
  | j + 1 => match lv[j]? with
    | some o => nlo o
    | none => true
theorem nlat_spec {lv : List (Option Value)} {i j : Nat} {v : Value} (h : nlat lv i = true) (hv : lv[j]? = some (some v)) (hj : j + 1 = i) : v.category = 1 := by
  subst hj
  simp only [nlat, hv, nlo] at h
  exact beq_iff_eq.mp h
theorem Lh.set1 {ls' : Array Slot} {nL i : Nat} {lv : List (Option Value)} {v : Value} (hn : nlat lv i = true) (h : lv_has ls' nL ((i, v) :: (lhL lv).filter (fun q => !(q.1 == i) && !(q.1 + 1 == i && q.2.category == 2)))) : Lh ls' nL (lv.set i (some v)) := by
  refine ⟨h.1, h.2.1, fun j w hw => ?_⟩
  by_cases hj : i = j
  · subst hj
    have hl : i < lv.length := by
      have := (List.getElem?_eq_some_iff.mp hw).1
      rwa [List.length_set] at this
    rw [List.getElem?_set_self hl] at hw
    cases hw
    exact h.2.2 (i, v) List.mem_cons_self
  · rw [List.getElem?_set_ne hj] at hw
    refine h.2.2 (j, w) (List.mem_cons_of_mem _ (List.mem_filter.mpr ⟨lhL_mem.mpr hw, ?_⟩))
    have h1 : (j == i) = false := by simp; omega
    have h2 : (j + 1 == i && w.category == 2) = false := by
      by_cases hji : j + 1 = i
      · have := nlat_spec hn hw hji
        simp [this]
      · simp [hji]
    simp only [h1, h2]; rfl
theorem Lh.set2 {ls' : Array Slot} {nL i : Nat} {lv : List (Option Value)} {v : Value} (hn : nlat lv i = true) (h : lv_has ls' nL ((i, v) :: (lhL lv).filter (fun q => !(q.1 == i) && (!(q.1 == i + 1) && !(q.1 + 1 == i && q.2.category == 2))))) : Lh ls' nL ((lv.set i (some v)).set (i + 1) none) := by
  refine ⟨h.1, h.2.1, fun j w hw => ?_⟩
  by_cases hj1 : i + 1 = j
  · subst hj1
    have hl := (List.getElem?_eq_some_iff.mp hw).1
    rw [List.getElem?_set_self (by rwa [List.length_set] at hl)] at hw
    cases hw
  · rw [List.getElem?_set_ne hj1] at hw
    by_cases hj : i = j
    · subst hj
      have hl : i < lv.length := by
        have := (List.getElem?_eq_some_iff.mp hw).1
        rwa [List.length_set] at this
      rw [List.getElem?_set_self hl] at hw
      cases hw
      exact h.2.2 (i, v) List.mem_cons_self
    · rw [List.getElem?_set_ne hj] at hw
      refine h.2.2 (j, w) (List.mem_cons_of_mem _ (List.mem_filter.mpr ⟨lhL_mem.mpr hw, ?_⟩))
      have h1 : (j == i) = false := by simp; omega
      have h2 : (j + 1 == i && w.category == 2) = false := by
        by_cases hji : j + 1 = i
        · have := nlat_spec hn hw hji
          simp [this]
        · simp [hji]
      have h3 : (j == i + 1) = false := by simp; omega
      simp only [h1, h2, h3]; rfl
theorem Lh.less {ls : Array Slot} {nL : Nat} {lv lv' : List (Option Value)} (h : Lh ls nL lv) (hs : ∀ (i : Nat) (v : Value), lv'[i]? = some (some v) → lv[i]? = some (some v)) : Lh ls nL lv' := ⟨h.1, h.2.1, fun i v hv => h.2.2 i v (hs i v hv)⟩
end
section
def strs : List (Nat × String) := [(101, "the well has or had a voucher"), (103, "the partner has no share"), (109, "nobody would be in"), (126, "the overhead is 0"), (131, "the voucher is an income"), (157, "there are 20 calls"), (172, "nothing is asked that is not paid"), (178, "nobody has paid anything"), (184, "nothing is asked of those who have paid nothing"), (194, "an argument is out of its range"), (198, "there is no such partner"), (201, "there is no such well"), (203, "there is no such voucher"), (205, "there is no such call"), (207, "there are 60 vouchers"), (74, "the shares are not 10000 together"), (81, "there is a well"), (85, "there are 6 wells")]
abbrev nIAE : String := "java/lang/IllegalArgumentException"
abbrev nISE : String := "java/lang/IllegalStateException"
abbrev nIOE : String := "java/lang/IndexOutOfBoundsException"
abbrev nms : List String := ["java/lang/RuntimeException", "java/lang/Exception"]
def thw : List Cond := vx_atS RX3 76 nIAE nms ++ (vx_atS RX3 83 nISE nms ++ vx_atS RX3 200 nIOE nms)
def Sx (cy : Nat → ClassId) (D : va_G) (ad : Ad) (U : State) (H : Heap) : Prop := va_K D vwCl (tysO cy) U ∧ vx_Zq Bundle.tN "UNASSIGNED_STACK" Bundle.steD (Aw ad) U H ∧ vx_Zq Bundle.tN "SUPPRESSED_SENTINEL" Bundle.listD (Aw ad) U H ∧ (∀ q ∈ strs, ∃ a : Nat, vk_R RX3 q.1 q.2 a U) ∧ (∀ w ∈ thw, w.before #[] U = true) ∧ ∀ E ∈ [nIAE, nISE, nIOE], ∀ T ∈ [nIAE, nISE, nIOE], E ≠ T → va_Nc E T U
def Cx (p : Program) (l : Launch) (e : Env) (R : Room) (s : State) (m : MethodId) (args : Array Value) (below : List Frame) (meth : Method) (c : Code) (cy : Nat → ClassId) (D : va_G) (ad : Ad) (A : Nat → Prop) (nL : Nat) (cc : ByteArray) (own : String) (Ts : List Cond) : Prop := CallFix p m c cc nL s args Ts own ∧ Inj ad ∧ (∀ q, Ar ad s.heap.size q → A q) ∧ Sx cy D ad s s.heap ∧ meth.locks = false ∧ l.stackTraces = false ∧ ∀ q, A q → Ar ad s.heap.size q
def JW (p : Program) (l : Launch) (e : Env) (R : Room) (s : State) (m : MethodId) (args : Array Value) (below : List Frame) (meth : Method) (c : Code) (cy : Nat → ClassId) (D : va_G) (ad : Ad) (A : Nat → Prop) (nL : Nat) (cells slots : Nat) (Q : State → Prop) (σ : Sg) (pc : Nat) (lv : List (Option Value)) (st : List Value) : Prop :=
  ∀ (H : Heap) (locs : List Loc) (ls : Array Slot), Wd cy D ad σ H → va_S A s.heap H locs → Lh ls nL lv → W p l e R s m args below meth c H locs cells slots Q (F0 m pc ls st)
def JX (p : Program) (l : Launch) (e : Env) (R : Room) (s : State) (m : MethodId) (args : Array Value) (below : List Frame) (meth : Method) (c : Code) (cy : Nat → ClassId) (D : va_G) (ad : Ad) (A : Nat → Prop) (nL : Nat) (cells slots : Nat) (Q : State → Prop) (σ : Sg) (pc : Nat) (lv : List (Option Value)) (st : List Value) (E : String) : Prop :=
  ∀ (H : Heap) (locs : List Loc) (ls : Array Slot) (ce : Cell) (q : Addr), Wd cy D ad σ H → va_S A s.heap H locs → Lh ls nL lv → H[q]? = some ce → ce.vm = .none → s.vm.findClass E = some ce.cls → vx_W p l e R s m args below meth c H locs cells slots Q (F0 m pc ls st) q
section JJ
variable {p : Program} {l : Launch} {e : Env} {R : Room} {s : State} {m : MethodId} {args : Array Value} {below : List Frame} {meth : Method} {c : Code} {cy : Nat → ClassId} {D : va_G} {ad : Ad} {A : Nat → Prop} {nL : Nat} {cells slots : Nat} {Q : State → Prop} {σ : Sg} {pc : Nat} {lv : List (Option Value)} {st : List Value} {cc : ByteArray} {own : String} {Ts : List Cond}
theorem J_iconst (C : Cx p l e R s m args below meth c cy D ad A nL cc own Ts) {n : Int} (d : decode cc pc = .ok (.iconst n, 1)) (k : JW p l e R s m args below meth c cy D ad A nL cells slots Q σ (pc + 1) lv (.int (iI n) :: st)) : JW p l e R s m args below meth c cy D ad A nL cells slots Q σ pc lv st := by
  intro H locs ls h1 h2 h3
  exact lv_iconst (v := iI n) C.1.1 C.1.2.1 d rfl (k H locs ls h1 h2 h3)
theorem J_bipush (C : Cx p l e R s m args below meth c cy D ad A nL cc own Ts) {n : Int} (hv : (Int8.ofInt n).toInt32 = iI n) (d : decode cc pc = .ok (.bipush n, 2)) (k : JW p l e R s m args below meth c cy D ad A nL cells slots Q σ (pc + 2) lv (.int (iI n) :: st)) : JW p l e R s m args below meth c cy D ad A nL cells slots Q σ pc lv st := by
  intro H locs ls h1 h2 h3
  exact lv_bipush (v := iI n) C.1.1 C.1.2.1 d hv (k H locs ls h1 h2 h3)
theorem J_sipush (C : Cx p l e R s m args below meth c cy D ad A nL cc own Ts) {n : Int} (hv : (Int16.ofInt n).toInt32 = iI n) (d : decode cc pc = .ok (.sipush n, 3)) (k : JW p l e R s m args below meth c cy D ad A nL cells slots Q σ (pc + 3) lv (.int (iI n) :: st)) : JW p l e R s m args below meth c cy D ad A nL cells slots Q σ pc lv st := by
  intro H locs ls h1 h2 h3
  exact lv_sipush (v := iI n) C.1.1 C.1.2.1 d hv (k H locs ls h1 h2 h3)
theorem J_lconst (C : Cx p l e R s m args below meth c cy D ad A nL cc own Ts) {n : Fin 2} {z : Int} (hv : Int64.ofNat n.val = lI z) (d : decode cc pc = .ok (.lconst n, 1)) (k : JW p l e R s m args below meth c cy D ad A nL cells slots Q σ (pc + 1) lv (.long (lI z) :: st)) : JW p l e R s m args below meth c cy D ad A nL cells slots Q σ pc lv st := by
  intro H locs ls h1 h2 h3
  exact lv_lconst (v := lI z) C.1.1 C.1.2.1 d hv (k H locs ls h1 h2 h3)
theorem J_ldc (C : Cx p l e R s m args below meth c cy D ad A nL cc own Ts) {i : Nat} {z : Int} (hw : Cond.constant own i (iI z) ∈ Ts) (d : decode cc pc = .ok (.ldc i, 2)) (k : JW p l e R s m args below meth c cy D ad A nL cells slots Q σ (pc + 2) lv (.int (iI z) :: st)) : JW p l e R s m args below meth c cy D ad A nL cells slots Q σ pc lv st := by
  intro H locs ls h1 h2 h3
  exact lv_ldc C.1.1 C.1.2.1 C.1.2.2.2.1 (C.1.2.2.2.2 _ hw) d (k H locs ls h1 h2 h3)
theorem J_ldcw (C : Cx p l e R s m args below meth c cy D ad A nL cc own Ts) {i : Nat} {z : Int} (hw : Cond.constant own i (iI z) ∈ Ts) (d : decode cc pc = .ok (.ldc_w i, 3)) (k : JW p l e R s m args below meth c cy D ad A nL cells slots Q σ (pc + 3) lv (.int (iI z) :: st)) : JW p l e R s m args below meth c cy D ad A nL cells slots Q σ pc lv st := by
  intro H locs ls h1 h2 h3
  exact lv_ldcw C.1.1 C.1.2.1 C.1.2.2.2.1 (C.1.2.2.2.2 _ hw) d (k H locs ls h1 h2 h3)
theorem J_ldc2 (C : Cx p l e R s m args below meth c cy D ad A nL cc own Ts) {i : Nat} {z : Int} (hw : Cond.constantLong own i (lI z) ∈ Ts) (d : decode cc pc = .ok (.ldc2_w i, 3)) (k : JW p l e R s m args below meth c cy D ad A nL cells slots Q σ (pc + 3) lv (.long (lI z) :: st)) : JW p l e R s m args below meth c cy D ad A nL cells slots Q σ pc lv st := by
  intro H locs ls h1 h2 h3
  exact lv_ldc2 C.1.1 C.1.2.1 C.1.2.2.2.1 (C.1.2.2.2.2 _ hw) d (k H locs ls h1 h2 h3)
theorem J_iadd (C : Cx p l e R s m args below meth c cy D ad A nL cc own Ts) {x y : Int} (d : decode cc pc = .ok (.iadd, 1)) (k : JW p l e R s m args below meth c cy D ad A nL cells slots Q σ (pc + 1) lv (.int (iI (x + y)) :: st)) : JW p l e R s m args below meth c cy D ad A nL cells slots Q σ pc lv (.int (iI y) :: .int (iI x) :: st) := by
  intro H locs ls h1 h2 h3
  exact lv_iadd C.1.1 C.1.2.1 d (by rw [iI_add]; exact k H locs ls h1 h2 h3)
theorem J_ladd (C : Cx p l e R s m args below meth c cy D ad A nL cc own Ts) {x y : Int} (d : decode cc pc = .ok (.ladd, 1)) (k : JW p l e R s m args below meth c cy D ad A nL cells slots Q σ (pc + 1) lv (.long (lI (x + y)) :: st)) : JW p l e R s m args below meth c cy D ad A nL cells slots Q σ pc lv (.long (lI y) :: .long (lI x) :: st) := by
  intro H locs ls h1 h2 h3
  exact lv_ladd C.1.1 C.1.2.1 d (by rw [lI_add]; exact k H locs ls h1 h2 h3)
theorem J_isub (C : Cx p l e R s m args below meth c cy D ad A nL cc own Ts) {x y : Int} (d : decode cc pc = .ok (.isub, 1)) (k : JW p l e R s m args below meth c cy D ad A nL cells slots Q σ (pc + 1) lv (.int (iI (x - y)) :: st)) : JW p l e R s m args below meth c cy D ad A nL cells slots Q σ pc lv (.int (iI y) :: .int (iI x) :: st) := by
  intro H locs ls h1 h2 h3
  exact lv_isub C.1.1 C.1.2.1 d (by rw [iI_sub]; exact k H locs ls h1 h2 h3)
theorem J_lsub (C : Cx p l e R s m args below meth c cy D ad A nL cc own Ts) {x y : Int} (d : decode cc pc = .ok (.lsub, 1)) (k : JW p l e R s m args below meth c cy D ad A nL cells slots Q σ (pc + 1) lv (.long (lI (x - y)) :: st)) : JW p l e R s m args below meth c cy D ad A nL cells slots Q σ pc lv (.long (lI y) :: .long (lI x) :: st) := by
  intro H locs ls h1 h2 h3
  exact lv_lsub C.1.1 C.1.2.1 d (by rw [lI_sub]; exact k H locs ls h1 h2 h3)
theorem J_imul (C : Cx p l e R s m args below meth c cy D ad A nL cc own Ts) {x y : Int} (d : decode cc pc = .ok (.imul, 1)) (k : JW p l e R s m args below meth c cy D ad A nL cells slots Q σ (pc + 1) lv (.int (iI (x * y)) :: st)) : JW p l e R s m args below meth c cy D ad A nL cells slots Q σ pc lv (.int (iI y) :: .int (iI x) :: st) := by
  intro H locs ls h1 h2 h3
  exact lv_imul C.1.1 C.1.2.1 d (by rw [iI_mul]; exact k H locs ls h1 h2 h3)
theorem J_lmul (C : Cx p l e R s m args below meth c cy D ad A nL cc own Ts) {x y : Int} (d : decode cc pc = .ok (.lmul, 1)) (k : JW p l e R s m args below meth c cy D ad A nL cells slots Q σ (pc + 1) lv (.long (lI (x * y)) :: st)) : JW p l e R s m args below meth c cy D ad A nL cells slots Q σ pc lv (.long (lI y) :: .long (lI x) :: st) := by
  intro H locs ls h1 h2 h3
  exact lv_lmul C.1.1 C.1.2.1 d (by rw [lI_mul]; exact k H locs ls h1 h2 h3)
theorem J_ineg (C : Cx p l e R s m args below meth c cy D ad A nL cc own Ts) {x : Int} (d : decode cc pc = .ok (.ineg, 1)) (k : JW p l e R s m args below meth c cy D ad A nL cells slots Q σ (pc + 1) lv (.int (iI (-x)) :: st)) : JW p l e R s m args below meth c cy D ad A nL cells slots Q σ pc lv (.int (iI x) :: st) := by
  intro H locs ls h1 h2 h3
  exact lv_ineg C.1.1 C.1.2.1 d (by rw [iI_neg]; exact k H locs ls h1 h2 h3)
theorem J_iand (C : Cx p l e R s m args below meth c cy D ad A nL cc own Ts) {x y z : Int} (hz : iI x &&& iI y = iI z) (d : decode cc pc = .ok (.iand, 1)) (k : JW p l e R s m args below meth c cy D ad A nL cells slots Q σ (pc + 1) lv (.int (iI z) :: st)) : JW p l e R s m args below meth c cy D ad A nL cells slots Q σ pc lv (.int (iI y) :: .int (iI x) :: st) := by
  intro H locs ls h1 h2 h3
  exact lv_iand C.1.1 C.1.2.1 d (by rw [hz]; exact k H locs ls h1 h2 h3)
theorem J_ldiv (C : Cx p l e R s m args below meth c cy D ad A nL cc own Ts) {x y : Int} (ha : 0 ≤ x ∧ x < 9223372036854775808) (hb : 0 < y ∧ y < 9223372036854775808) (d : decode cc pc = .ok (.ldiv, 1)) (k : JW p l e R s m args below meth c cy D ad A nL cells slots Q σ (pc + 1) lv (.long (lI (x / y)) :: st)) : JW p l e R s m args below meth c cy D ad A nL cells slots Q σ pc lv (.long (lI y) :: .long (lI x) :: st) := by
  intro H locs ls h1 h2 h3
  exact lv_ldiv C.1.1 C.1.2.1 d (fun z => by have := (lI_eq (b := 0) (by omega) (by omega)).mp (z.trans (by rfl)); omega) (by rw [lI_div ha hb]; exact k H locs ls h1 h2 h3)
theorem J_lrem (C : Cx p l e R s m args below meth c cy D ad A nL cc own Ts) {x y : Int} (ha : 0 ≤ x ∧ x < 9223372036854775808) (hb : 0 < y ∧ y < 9223372036854775808) (d : decode cc pc = .ok (.lrem, 1)) (k : JW p l e R s m args below meth c cy D ad A nL cells slots Q σ (pc + 1) lv (.long (lI (x % y)) :: st)) : JW p l e R s m args below meth c cy D ad A nL cells slots Q σ pc lv (.long (lI y) :: .long (lI x) :: st) := by
  intro H locs ls h1 h2 h3
  exact lv_lrem C.1.1 C.1.2.1 d (fun z => by have := (lI_eq (b := 0) (by omega) (by omega)).mp (z.trans (by rfl)); omega) (by rw [lI_rem ha hb]; exact k H locs ls h1 h2 h3)
theorem J_i2l (C : Cx p l e R s m args below meth c cy D ad A nL cc own Ts) {x : Int} (hx : I32 x) (d : decode cc pc = .ok (.i2l, 1)) (k : JW p l e R s m args below meth c cy D ad A nL cells slots Q σ (pc + 1) lv (.long (lI x) :: st)) : JW p l e R s m args below meth c cy D ad A nL cells slots Q σ pc lv (.int (iI x) :: st) := by
  intro H locs ls h1 h2 h3
  exact lv_i2l C.1.1 C.1.2.1 d (iI_wide hx) (k H locs ls h1 h2 h3)
theorem J_l2i (C : Cx p l e R s m args below meth c cy D ad A nL cc own Ts) {x : Int} (d : decode cc pc = .ok (.l2i, 1)) (k : JW p l e R s m args below meth c cy D ad A nL cells slots Q σ (pc + 1) lv (.int (iI x) :: st)) : JW p l e R s m args below meth c cy D ad A nL cells slots Q σ pc lv (.long (lI x) :: st) := by
  intro H locs ls h1 h2 h3
  exact lv_l2i C.1.1 C.1.2.1 d (lI_low x) (k H locs ls h1 h2 h3)
theorem J_dup (C : Cx p l e R s m args below meth c cy D ad A nL cc own Ts) {v : Value} (hv : v.category = 1) (d : decode cc pc = .ok (.dup, 1)) (k : JW p l e R s m args below meth c cy D ad A nL cells slots Q σ (pc + 1) lv (v :: v :: st)) : JW p l e R s m args below meth c cy D ad A nL cells slots Q σ pc lv (v :: st) := by
  intro H locs ls h1 h2 h3
  exact lv_dup C.1.1 C.1.2.1 d hv (k H locs ls h1 h2 h3)
theorem J_dup2 (C : Cx p l e R s m args below meth c cy D ad A nL cc own Ts) {v w : Value} (hv : v.category = 1) (hw : w.category = 1) (d : decode cc pc = .ok (.dup2, 1)) (k : JW p l e R s m args below meth c cy D ad A nL cells slots Q σ (pc + 1) lv (v :: w :: v :: w :: st)) : JW p l e R s m args below meth c cy D ad A nL cells slots Q σ pc lv (v :: w :: st) := by
  intro H locs ls h1 h2 h3
  exact lv_dup2_11 C.1.1 C.1.2.1 d hv hw (k H locs ls h1 h2 h3)
theorem J_icmp_eq (C : Cx p l e R s m args below meth c cy D ad A nL cc own Ts) {x y off : Int} {tgt : Nat} (hx : I32 x) (hy : I32 y) (d : decode cc pc = .ok (.if_icmp .eq off, 3)) (ht : (pc : Int) + off = (tgt : Int)) (k1 : x = y → JW p l e R s m args below meth c cy D ad A nL cells slots Q σ tgt lv st) (k2 : ¬ x = y → JW p l e R s m args below meth c cy D ad A nL cells slots Q σ (pc + 3) lv st) : JW p l e R s m args below meth c cy D ad A nL cells slots Q σ pc lv (.int (iI y) :: .int (iI x) :: st) := by
  intro H locs ls h1 h2 h3
  exact lv_icmp_eq C.1.1 C.1.2.1 d ht (fun z => k1 ((iI_eq hx hy).mp z) H locs ls h1 h2 h3) (fun z => k2 (fun w => z ((iI_eq hx hy).mpr w)) H locs ls h1 h2 h3)
theorem J_if_eq (C : Cx p l e R s m args below meth c cy D ad A nL cc own Ts) {x off : Int} {tgt : Nat} (hx : I32 x) (d : decode cc pc = .ok (.ifCond .eq off, 3)) (ht : (pc : Int) + off = (tgt : Int)) (k1 : x = 0 → JW p l e R s m args below meth c cy D ad A nL cells slots Q σ tgt lv st) (k2 : ¬ x = 0 → JW p l e R s m args below meth c cy D ad A nL cells slots Q σ (pc + 3) lv st) : JW p l e R s m args below meth c cy D ad A nL cells slots Q σ pc lv (.int (iI x) :: st) := by
  intro H locs ls h1 h2 h3
  exact lv_if_eq C.1.1 C.1.2.1 d ht (fun z => k1 ((iI_eq hx (show I32 0 by omega)).mp z) H locs ls h1 h2 h3) (fun z => k2 (fun w => z ((iI_eq hx (show I32 0 by omega)).mpr w)) H locs ls h1 h2 h3)
theorem J_icmp_ne (C : Cx p l e R s m args below meth c cy D ad A nL cc own Ts) {x y off : Int} {tgt : Nat} (hx : I32 x) (hy : I32 y) (d : decode cc pc = .ok (.if_icmp .ne off, 3)) (ht : (pc : Int) + off = (tgt : Int)) (k1 : ¬ x = y → JW p l e R s m args below meth c cy D ad A nL cells slots Q σ tgt lv st) (k2 : x = y → JW p l e R s m args below meth c cy D ad A nL cells slots Q σ (pc + 3) lv st) : JW p l e R s m args below meth c cy D ad A nL cells slots Q σ pc lv (.int (iI y) :: .int (iI x) :: st) := by
  intro H locs ls h1 h2 h3
  exact lv_icmp_ne C.1.1 C.1.2.1 d ht (fun z => k1 (fun w => z ((iI_eq hx hy).mpr w)) H locs ls h1 h2 h3) (fun z => k2 ((iI_eq hx hy).mp (by first | exact z | exact Classical.not_not.mp z)) H locs ls h1 h2 h3)
theorem J_if_ne (C : Cx p l e R s m args below meth c cy D ad A nL cc own Ts) {x off : Int} {tgt : Nat} (hx : I32 x) (d : decode cc pc = .ok (.ifCond .ne off, 3)) (ht : (pc : Int) + off = (tgt : Int)) (k1 : ¬ x = 0 → JW p l e R s m args below meth c cy D ad A nL cells slots Q σ tgt lv st) (k2 : x = 0 → JW p l e R s m args below meth c cy D ad A nL cells slots Q σ (pc + 3) lv st) : JW p l e R s m args below meth c cy D ad A nL cells slots Q σ pc lv (.int (iI x) :: st) := by
  intro H locs ls h1 h2 h3
  exact lv_if_ne C.1.1 C.1.2.1 d ht (fun z => k1 (fun w => z ((iI_eq hx (show I32 0 by omega)).mpr w)) H locs ls h1 h2 h3) (fun z => k2 ((iI_eq hx (show I32 0 by omega)).mp (by first | exact z | exact Classical.not_not.mp z)) H locs ls h1 h2 h3)
theorem J_icmp_lt (C : Cx p l e R s m args below meth c cy D ad A nL cc own Ts) {x y off : Int} {tgt : Nat} (hx : I32 x) (hy : I32 y) (d : decode cc pc = .ok (.if_icmp .lt off, 3)) (ht : (pc : Int) + off = (tgt : Int)) (k1 : x < y → JW p l e R s m args below meth c cy D ad A nL cells slots Q σ tgt lv st) (k2 : y ≤ x → JW p l e R s m args below meth c cy D ad A nL cells slots Q σ (pc + 3) lv st) : JW p l e R s m args below meth c cy D ad A nL cells slots Q σ pc lv (.int (iI y) :: .int (iI x) :: st) := by
  intro H locs ls h1 h2 h3
  exact lv_icmp_lt C.1.1 C.1.2.1 d ht (fun z => k1 ((iI_lt hx hy).mp z) H locs ls h1 h2 h3) (fun z => k2 (by have := mt (iI_lt hx hy).mpr z; omega) H locs ls h1 h2 h3)
theorem J_if_lt (C : Cx p l e R s m args below meth c cy D ad A nL cc own Ts) {x off : Int} {tgt : Nat} (hx : I32 x) (d : decode cc pc = .ok (.ifCond .lt off, 3)) (ht : (pc : Int) + off = (tgt : Int)) (k1 : x < 0 → JW p l e R s m args below meth c cy D ad A nL cells slots Q σ tgt lv st) (k2 : 0 ≤ x → JW p l e R s m args below meth c cy D ad A nL cells slots Q σ (pc + 3) lv st) : JW p l e R s m args below meth c cy D ad A nL cells slots Q σ pc lv (.int (iI x) :: st) := by
  intro H locs ls h1 h2 h3
  exact lv_if_lt C.1.1 C.1.2.1 d ht (fun z => k1 ((iI_lt hx (show I32 0 by omega)).mp z) H locs ls h1 h2 h3) (fun z => k2 (by have := mt (iI_lt hx (show I32 0 by omega)).mpr z; omega) H locs ls h1 h2 h3)
theorem J_icmp_ge (C : Cx p l e R s m args below meth c cy D ad A nL cc own Ts) {x y off : Int} {tgt : Nat} (hx : I32 x) (hy : I32 y) (d : decode cc pc = .ok (.if_icmp .ge off, 3)) (ht : (pc : Int) + off = (tgt : Int)) (k1 : y ≤ x → JW p l e R s m args below meth c cy D ad A nL cells slots Q σ tgt lv st) (k2 : x < y → JW p l e R s m args below meth c cy D ad A nL cells slots Q σ (pc + 3) lv st) : JW p l e R s m args below meth c cy D ad A nL cells slots Q σ pc lv (.int (iI y) :: .int (iI x) :: st) := by
  intro H locs ls h1 h2 h3
  exact lv_icmp_ge C.1.1 C.1.2.1 d ht (fun z => k1 ((iI_le hy hx).mp z) H locs ls h1 h2 h3) (fun z => k2 (by have := mt (iI_le hy hx).mpr z; omega) H locs ls h1 h2 h3)
theorem J_if_ge (C : Cx p l e R s m args below meth c cy D ad A nL cc own Ts) {x off : Int} {tgt : Nat} (hx : I32 x) (d : decode cc pc = .ok (.ifCond .ge off, 3)) (ht : (pc : Int) + off = (tgt : Int)) (k1 : 0 ≤ x → JW p l e R s m args below meth c cy D ad A nL cells slots Q σ tgt lv st) (k2 : x < 0 → JW p l e R s m args below meth c cy D ad A nL cells slots Q σ (pc + 3) lv st) : JW p l e R s m args below meth c cy D ad A nL cells slots Q σ pc lv (.int (iI x) :: st) := by
  intro H locs ls h1 h2 h3
  exact lv_if_ge C.1.1 C.1.2.1 d ht (fun z => k1 ((iI_le (show I32 0 by omega) hx).mp z) H locs ls h1 h2 h3) (fun z => k2 (by have := mt (iI_le (show I32 0 by omega) hx).mpr z; omega) H locs ls h1 h2 h3)
theorem J_icmp_gt (C : Cx p l e R s m args below meth c cy D ad A nL cc own Ts) {x y off : Int} {tgt : Nat} (hx : I32 x) (hy : I32 y) (d : decode cc pc = .ok (.if_icmp .gt off, 3)) (ht : (pc : Int) + off = (tgt : Int)) (k1 : y < x → JW p l e R s m args below meth c cy D ad A nL cells slots Q σ tgt lv st) (k2 : x ≤ y → JW p l e R s m args below meth c cy D ad A nL cells slots Q σ (pc + 3) lv st) : JW p l e R s m args below meth c cy D ad A nL cells slots Q σ pc lv (.int (iI y) :: .int (iI x) :: st) := by
  intro H locs ls h1 h2 h3
  exact lv_icmp_gt C.1.1 C.1.2.1 d ht (fun z => k1 ((iI_lt hy hx).mp z) H locs ls h1 h2 h3) (fun z => k2 (by have := mt (iI_lt hy hx).mpr z; omega) H locs ls h1 h2 h3)
theorem J_if_gt (C : Cx p l e R s m args below meth c cy D ad A nL cc own Ts) {x off : Int} {tgt : Nat} (hx : I32 x) (d : decode cc pc = .ok (.ifCond .gt off, 3)) (ht : (pc : Int) + off = (tgt : Int)) (k1 : 0 < x → JW p l e R s m args below meth c cy D ad A nL cells slots Q σ tgt lv st) (k2 : x ≤ 0 → JW p l e R s m args below meth c cy D ad A nL cells slots Q σ (pc + 3) lv st) : JW p l e R s m args below meth c cy D ad A nL cells slots Q σ pc lv (.int (iI x) :: st) := by
  intro H locs ls h1 h2 h3
  exact lv_if_gt C.1.1 C.1.2.1 d ht (fun z => k1 ((iI_lt (show I32 0 by omega) hx).mp z) H locs ls h1 h2 h3) (fun z => k2 (by have := mt (iI_lt (show I32 0 by omega) hx).mpr z; omega) H locs ls h1 h2 h3)
theorem J_icmp_le (C : Cx p l e R s m args below meth c cy D ad A nL cc own Ts) {x y off : Int} {tgt : Nat} (hx : I32 x) (hy : I32 y) (d : decode cc pc = .ok (.if_icmp .le off, 3)) (ht : (pc : Int) + off = (tgt : Int)) (k1 : x ≤ y → JW p l e R s m args below meth c cy D ad A nL cells slots Q σ tgt lv st) (k2 : y < x → JW p l e R s m args below meth c cy D ad A nL cells slots Q σ (pc + 3) lv st) : JW p l e R s m args below meth c cy D ad A nL cells slots Q σ pc lv (.int (iI y) :: .int (iI x) :: st) := by
  intro H locs ls h1 h2 h3
  exact lv_icmp_le C.1.1 C.1.2.1 d ht (fun z => k1 ((iI_le hx hy).mp z) H locs ls h1 h2 h3) (fun z => k2 (by have := mt (iI_le hx hy).mpr z; omega) H locs ls h1 h2 h3)
theorem J_if_le (C : Cx p l e R s m args below meth c cy D ad A nL cc own Ts) {x off : Int} {tgt : Nat} (hx : I32 x) (d : decode cc pc = .ok (.ifCond .le off, 3)) (ht : (pc : Int) + off = (tgt : Int)) (k1 : x ≤ 0 → JW p l e R s m args below meth c cy D ad A nL cells slots Q σ tgt lv st) (k2 : 0 < x → JW p l e R s m args below meth c cy D ad A nL cells slots Q σ (pc + 3) lv st) : JW p l e R s m args below meth c cy D ad A nL cells slots Q σ pc lv (.int (iI x) :: st) := by
  intro H locs ls h1 h2 h3
  exact lv_if_le C.1.1 C.1.2.1 d ht (fun z => k1 ((iI_le hx (show I32 0 by omega)).mp z) H locs ls h1 h2 h3) (fun z => k2 (by have := mt (iI_le hx (show I32 0 by omega)).mpr z; omega) H locs ls h1 h2 h3)
theorem J_goto (C : Cx p l e R s m args below meth c cy D ad A nL cc own Ts) {off : Int} {tgt : Nat} (d : decode cc pc = .ok (.goto off, 3)) (ht : (pc : Int) + off = (tgt : Int)) (k : JW p l e R s m args below meth c cy D ad A nL cells slots Q σ tgt lv st) : JW p l e R s m args below meth c cy D ad A nL cells slots Q σ pc lv st := by
  intro H locs ls h1 h2 h3
  exact lv_goto C.1.1 C.1.2.1 d ht (k H locs ls h1 h2 h3)
theorem lcmp_v (x y : Int) (hx : I64 x) (hy : I64 y) : lg_cmp (lI x) (lI y) = iI (if y < x then 1 else if x = y then 0 else -1) := by
  unfold lg_cmp
  by_cases h1 : y < x
  · simp only [lI_lt hy hx, h1, if_true]; rfl
  · by_cases h2 : x = y
    · subst h2
      simp; rfl
    · simp only [lI_lt hy hx, h1, if_false, lI_eq hx hy, h2]; rfl
theorem J_lcmp (C : Cx p l e R s m args below meth c cy D ad A nL cc own Ts) {x y : Int} (hx : I64 x) (hy : I64 y) (d : decode cc pc = .ok (.lcmp, 1)) (k : JW p l e R s m args below meth c cy D ad A nL cells slots Q σ (pc + 1) lv (.int (iI (if y < x then 1 else if x = y then 0 else -1)) :: st)) : JW p l e R s m args below meth c cy D ad A nL cells slots Q σ pc lv (.long (lI y) :: .long (lI x) :: st) := by
  intro H locs ls h1 h2 h3
  exact W.lcmp C.1.1 C.1.2.1 d (by rw [lcmp_v x y hx hy]; exact k H locs ls h1 h2 h3)
theorem J_iload_0 (C : Cx p l e R s m args below meth c cy D ad A nL cc own Ts) {t : List (Option Value)} {x : Int} (d : decode cc pc = .ok (.iload_n 0, 1)) (k : JW p l e R s m args below meth c cy D ad A nL cells slots Q σ (pc + 1) (some (.int (iI x)) :: t) (.int (iI x) :: st)) : JW p l e R s m args below meth c cy D ad A nL cells slots Q σ pc (some (.int (iI x)) :: t) st := by
  intro H locs ls h1 h2 h3
  exact lv_iload_n C.1.1 C.1.2.1 d rfl (h3.2.2 0 _ rfl) (k H locs ls h1 h2 h3)
theorem J_iload0 (C : Cx p l e R s m args below meth c cy D ad A nL cc own Ts) {t : List (Option Value)} {x : Int} (d : decode cc pc = .ok (.iload 0, 2)) (k : JW p l e R s m args below meth c cy D ad A nL cells slots Q σ (pc + 2) (some (.int (iI x)) :: t) (.int (iI x) :: st)) : JW p l e R s m args below meth c cy D ad A nL cells slots Q σ pc (some (.int (iI x)) :: t) st := by
  intro H locs ls h1 h2 h3
  exact lv_iload C.1.1 C.1.2.1 d (h3.2.2 0 _ rfl) (k H locs ls h1 h2 h3)
theorem J_lload_0 (C : Cx p l e R s m args below meth c cy D ad A nL cc own Ts) {t : List (Option Value)} {x : Int} (d : decode cc pc = .ok (.lload_n 0, 1)) (k : JW p l e R s m args below meth c cy D ad A nL cells slots Q σ (pc + 1) (some (.long (lI x)) :: t) (.long (lI x) :: st)) : JW p l e R s m args below meth c cy D ad A nL cells slots Q σ pc (some (.long (lI x)) :: t) st := by
  intro H locs ls h1 h2 h3
  exact lv_lload_n C.1.1 C.1.2.1 d rfl (h3.2.2 0 _ rfl) (k H locs ls h1 h2 h3)
theorem J_lload0 (C : Cx p l e R s m args below meth c cy D ad A nL cc own Ts) {t : List (Option Value)} {x : Int} (d : decode cc pc = .ok (.lload 0, 2)) (k : JW p l e R s m args below meth c cy D ad A nL cells slots Q σ (pc + 2) (some (.long (lI x)) :: t) (.long (lI x) :: st)) : JW p l e R s m args below meth c cy D ad A nL cells slots Q σ pc (some (.long (lI x)) :: t) st := by
  intro H locs ls h1 h2 h3
  exact lv_lload C.1.1 C.1.2.1 d (h3.2.2 0 _ rfl) (k H locs ls h1 h2 h3)
theorem J_aload_0 (C : Cx p l e R s m args below meth c cy D ad A nL cc own Ts) {t : List (Option Value)} {x : Nat} (d : decode cc pc = .ok (.aload_n 0, 1)) (k : JW p l e R s m args below meth c cy D ad A nL cells slots Q σ (pc + 1) (some (.ref x) :: t) (.ref x :: st)) : JW p l e R s m args below meth c cy D ad A nL cells slots Q σ pc (some (.ref x) :: t) st := by
  intro H locs ls h1 h2 h3
  exact lv_aload_n C.1.1 C.1.2.1 d rfl (h3.2.2 0 _ rfl) (k H locs ls h1 h2 h3)
theorem J_aload0 (C : Cx p l e R s m args below meth c cy D ad A nL cc own Ts) {t : List (Option Value)} {x : Nat} (d : decode cc pc = .ok (.aload 0, 2)) (k : JW p l e R s m args below meth c cy D ad A nL cells slots Q σ (pc + 2) (some (.ref x) :: t) (.ref x :: st)) : JW p l e R s m args below meth c cy D ad A nL cells slots Q σ pc (some (.ref x) :: t) st := by
  intro H locs ls h1 h2 h3
  exact lv_aload C.1.1 C.1.2.1 d (h3.2.2 0 _ rfl) (k H locs ls h1 h2 h3)
theorem J_istore_0 (C : Cx p l e R s m args below meth c cy D ad A nL cc own Ts) {t : List (Option Value)} {b : Option Value} {x : Int} (hn : 0 < nL) (d : decode cc pc = .ok (.istore_n 0, 1)) (k : JW p l e R s m args below meth c cy D ad A nL cells slots Q σ (pc + 1) (some (.int (iI x)) :: t) st) : JW p l e R s m args below meth c cy D ad A nL cells slots Q σ pc (b :: t) (.int (iI x) :: st) := by
  intro H locs ls h1 h2 h3
  exact lv_istore_n C.1.1 C.1.2.1 d rfl h3.has hn rfl (fun ls' h' => k H locs ls' h1 h2 (Lh.set1 rfl h'))
theorem J_istore0 (C : Cx p l e R s m args below meth c cy D ad A nL cc own Ts) {t : List (Option Value)} {b : Option Value} {x : Int} (hn : 0 < nL) (d : decode cc pc = .ok (.istore 0, 2)) (k : JW p l e R s m args below meth c cy D ad A nL cells slots Q σ (pc + 2) (some (.int (iI x)) :: t) st) : JW p l e R s m args below meth c cy D ad A nL cells slots Q σ pc (b :: t) (.int (iI x) :: st) := by
  intro H locs ls h1 h2 h3
  exact lv_istore C.1.1 C.1.2.1 d h3.has hn rfl (fun ls' h' => k H locs ls' h1 h2 (Lh.set1 rfl h'))
theorem J_astore_0 (C : Cx p l e R s m args below meth c cy D ad A nL cc own Ts) {t : List (Option Value)} {b : Option Value} {x : Nat} (hn : 0 < nL) (d : decode cc pc = .ok (.astore_n 0, 1)) (k : JW p l e R s m args below meth c cy D ad A nL cells slots Q σ (pc + 1) (some (.ref x) :: t) st) : JW p l e R s m args below meth c cy D ad A nL cells slots Q σ pc (b :: t) (.ref x :: st) := by
  intro H locs ls h1 h2 h3
  exact lv_astore_n C.1.1 C.1.2.1 d rfl h3.has hn rfl (fun ls' h' => k H locs ls' h1 h2 (Lh.set1 rfl h'))
theorem J_astore0 (C : Cx p l e R s m args below meth c cy D ad A nL cc own Ts) {t : List (Option Value)} {b : Option Value} {x : Nat} (hn : 0 < nL) (d : decode cc pc = .ok (.astore 0, 2)) (k : JW p l e R s m args below meth c cy D ad A nL cells slots Q σ (pc + 2) (some (.ref x) :: t) st) : JW p l e R s m args below meth c cy D ad A nL cells slots Q σ pc (b :: t) (.ref x :: st) := by
  intro H locs ls h1 h2 h3
  exact lv_astore C.1.1 C.1.2.1 d h3.has hn rfl (fun ls' h' => k H locs ls' h1 h2 (Lh.set1 rfl h'))
theorem J_lstore_0 (C : Cx p l e R s m args below meth c cy D ad A nL cc own Ts) {t : List (Option Value)} {b b2 : Option Value} {x : Int} (hn : 0 + 1 < nL) (d : decode cc pc = .ok (.lstore_n 0, 1)) (k : JW p l e R s m args below meth c cy D ad A nL cells slots Q σ (pc + 1) (some (.long (lI x)) :: none :: t) st) : JW p l e R s m args below meth c cy D ad A nL cells slots Q σ pc (b :: b2 :: t) (.long (lI x) :: st) := by
  intro H locs ls h1 h2 h3
  exact lv_lstore_n C.1.1 C.1.2.1 d rfl h3.has hn rfl (fun ls' h' => k H locs ls' h1 h2 (Lh.set2 rfl h'))
theorem J_lstore0 (C : Cx p l e R s m args below meth c cy D ad A nL cc own Ts) {t : List (Option Value)} {b b2 : Option Value} {x : Int} (hn : 0 + 1 < nL) (d : decode cc pc = .ok (.lstore 0, 2)) (k : JW p l e R s m args below meth c cy D ad A nL cells slots Q σ (pc + 2) (some (.long (lI x)) :: none :: t) st) : JW p l e R s m args below meth c cy D ad A nL cells slots Q σ pc (b :: b2 :: t) (.long (lI x) :: st) := by
  intro H locs ls h1 h2 h3
  exact lv_lstore C.1.1 C.1.2.1 d h3.has hn rfl (fun ls' h' => k H locs ls' h1 h2 (Lh.set2 rfl h'))
theorem J_iinc0 (C : Cx p l e R s m args below meth c cy D ad A nL cc own Ts) {t : List (Option Value)} {x z : Int} (hn : 0 < nL) (d : decode cc pc = .ok (.iinc 0 z, 3)) (k : JW p l e R s m args below meth c cy D ad A nL cells slots Q σ (pc + 3) (some (.int (iI (x + z))) :: t) st) : JW p l e R s m args below meth c cy D ad A nL cells slots Q σ pc (some (.int (iI x)) :: t) st := by
  intro H locs ls h1 h2 h3
  obtain ⟨i, hi⟩ := List.getElem?_of_mem (lhL_mem.mpr (show ((some (.int (iI x)) :: t))[0]? = some (some (.int (iI x))) from rfl))
  exact lv_iinc (v := iI (x + z)) (k := i) C.1.1 C.1.2.1 d h3.has hi (iI_add x z) hn rfl (fun ls' h' => k H locs ls' h1 h2 (Lh.set1 rfl h'))
theorem J_iload_1 (C : Cx p l e R s m args below meth c cy D ad A nL cc own Ts) {a0 : Option Value} {t : List (Option Value)} {x : Int} (d : decode cc pc = .ok (.iload_n 1, 1)) (k : JW p l e R s m args below meth c cy D ad A nL cells slots Q σ (pc + 1) (a0 :: some (.int (iI x)) :: t) (.int (iI x) :: st)) : JW p l e R s m args below meth c cy D ad A nL cells slots Q σ pc (a0 :: some (.int (iI x)) :: t) st := by
  intro H locs ls h1 h2 h3
  exact lv_iload_n C.1.1 C.1.2.1 d rfl (h3.2.2 1 _ rfl) (k H locs ls h1 h2 h3)
theorem J_iload1 (C : Cx p l e R s m args below meth c cy D ad A nL cc own Ts) {a0 : Option Value} {t : List (Option Value)} {x : Int} (d : decode cc pc = .ok (.iload 1, 2)) (k : JW p l e R s m args below meth c cy D ad A nL cells slots Q σ (pc + 2) (a0 :: some (.int (iI x)) :: t) (.int (iI x) :: st)) : JW p l e R s m args below meth c cy D ad A nL cells slots Q σ pc (a0 :: some (.int (iI x)) :: t) st := by
  intro H locs ls h1 h2 h3
  exact lv_iload C.1.1 C.1.2.1 d (h3.2.2 1 _ rfl) (k H locs ls h1 h2 h3)
theorem J_lload_1 (C : Cx p l e R s m args below meth c cy D ad A nL cc own Ts) {a0 : Option Value} {t : List (Option Value)} {x : Int} (d : decode cc pc = .ok (.lload_n 1, 1)) (k : JW p l e R s m args below meth c cy D ad A nL cells slots Q σ (pc + 1) (a0 :: some (.long (lI x)) :: t) (.long (lI x) :: st)) : JW p l e R s m args below meth c cy D ad A nL cells slots Q σ pc (a0 :: some (.long (lI x)) :: t) st := by
  intro H locs ls h1 h2 h3
  exact lv_lload_n C.1.1 C.1.2.1 d rfl (h3.2.2 1 _ rfl) (k H locs ls h1 h2 h3)
theorem J_lload1 (C : Cx p l e R s m args below meth c cy D ad A nL cc own Ts) {a0 : Option Value} {t : List (Option Value)} {x : Int} (d : decode cc pc = .ok (.lload 1, 2)) (k : JW p l e R s m args below meth c cy D ad A nL cells slots Q σ (pc + 2) (a0 :: some (.long (lI x)) :: t) (.long (lI x) :: st)) : JW p l e R s m args below meth c cy D ad A nL cells slots Q σ pc (a0 :: some (.long (lI x)) :: t) st := by
  intro H locs ls h1 h2 h3
  exact lv_lload C.1.1 C.1.2.1 d (h3.2.2 1 _ rfl) (k H locs ls h1 h2 h3)
theorem J_aload_1 (C : Cx p l e R s m args below meth c cy D ad A nL cc own Ts) {a0 : Option Value} {t : List (Option Value)} {x : Nat} (d : decode cc pc = .ok (.aload_n 1, 1)) (k : JW p l e R s m args below meth c cy D ad A nL cells slots Q σ (pc + 1) (a0 :: some (.ref x) :: t) (.ref x :: st)) : JW p l e R s m args below meth c cy D ad A nL cells slots Q σ pc (a0 :: some (.ref x) :: t) st := by
  intro H locs ls h1 h2 h3
  exact lv_aload_n C.1.1 C.1.2.1 d rfl (h3.2.2 1 _ rfl) (k H locs ls h1 h2 h3)
theorem J_aload1 (C : Cx p l e R s m args below meth c cy D ad A nL cc own Ts) {a0 : Option Value} {t : List (Option Value)} {x : Nat} (d : decode cc pc = .ok (.aload 1, 2)) (k : JW p l e R s m args below meth c cy D ad A nL cells slots Q σ (pc + 2) (a0 :: some (.ref x) :: t) (.ref x :: st)) : JW p l e R s m args below meth c cy D ad A nL cells slots Q σ pc (a0 :: some (.ref x) :: t) st := by
  intro H locs ls h1 h2 h3
  exact lv_aload C.1.1 C.1.2.1 d (h3.2.2 1 _ rfl) (k H locs ls h1 h2 h3)
theorem J_istore_1 (C : Cx p l e R s m args below meth c cy D ad A nL cc own Ts) {a0 : Option Value} {t : List (Option Value)} {b : Option Value} {x : Int} (hn : 1 < nL) (hp : nlo a0 = true) (d : decode cc pc = .ok (.istore_n 1, 1)) (k : JW p l e R s m args below meth c cy D ad A nL cells slots Q σ (pc + 1) (a0 :: some (.int (iI x)) :: t) st) : JW p l e R s m args below meth c cy D ad A nL cells slots Q σ pc (a0 :: b :: t) (.int (iI x) :: st) := by
  intro H locs ls h1 h2 h3
  exact lv_istore_n C.1.1 C.1.2.1 d rfl h3.has hn rfl (fun ls' h' => k H locs ls' h1 h2 (Lh.set1 (show nlat ((a0 :: b :: t)) 1 = true from hp) h'))
theorem J_istore1 (C : Cx p l e R s m args below meth c cy D ad A nL cc own Ts) {a0 : Option Value} {t : List (Option Value)} {b : Option Value} {x : Int} (hn : 1 < nL) (hp : nlo a0 = true) (d : decode cc pc = .ok (.istore 1, 2)) (k : JW p l e R s m args below meth c cy D ad A nL cells slots Q σ (pc + 2) (a0 :: some (.int (iI x)) :: t) st) : JW p l e R s m args below meth c cy D ad A nL cells slots Q σ pc (a0 :: b :: t) (.int (iI x) :: st) := by
  intro H locs ls h1 h2 h3
  exact lv_istore C.1.1 C.1.2.1 d h3.has hn rfl (fun ls' h' => k H locs ls' h1 h2 (Lh.set1 (show nlat ((a0 :: b :: t)) 1 = true from hp) h'))
theorem J_astore_1 (C : Cx p l e R s m args below meth c cy D ad A nL cc own Ts) {a0 : Option Value} {t : List (Option Value)} {b : Option Value} {x : Nat} (hn : 1 < nL) (hp : nlo a0 = true) (d : decode cc pc = .ok (.astore_n 1, 1)) (k : JW p l e R s m args below meth c cy D ad A nL cells slots Q σ (pc + 1) (a0 :: some (.ref x) :: t) st) : JW p l e R s m args below meth c cy D ad A nL cells slots Q σ pc (a0 :: b :: t) (.ref x :: st) := by
  intro H locs ls h1 h2 h3
  exact lv_astore_n C.1.1 C.1.2.1 d rfl h3.has hn rfl (fun ls' h' => k H locs ls' h1 h2 (Lh.set1 (show nlat ((a0 :: b :: t)) 1 = true from hp) h'))
theorem J_astore1 (C : Cx p l e R s m args below meth c cy D ad A nL cc own Ts) {a0 : Option Value} {t : List (Option Value)} {b : Option Value} {x : Nat} (hn : 1 < nL) (hp : nlo a0 = true) (d : decode cc pc = .ok (.astore 1, 2)) (k : JW p l e R s m args below meth c cy D ad A nL cells slots Q σ (pc + 2) (a0 :: some (.ref x) :: t) st) : JW p l e R s m args below meth c cy D ad A nL cells slots Q σ pc (a0 :: b :: t) (.ref x :: st) := by
  intro H locs ls h1 h2 h3
  exact lv_astore C.1.1 C.1.2.1 d h3.has hn rfl (fun ls' h' => k H locs ls' h1 h2 (Lh.set1 (show nlat ((a0 :: b :: t)) 1 = true from hp) h'))
theorem J_lstore_1 (C : Cx p l e R s m args below meth c cy D ad A nL cc own Ts) {a0 : Option Value} {t : List (Option Value)} {b b2 : Option Value} {x : Int} (hn : 1 + 1 < nL) (hp : nlo a0 = true) (d : decode cc pc = .ok (.lstore_n 1, 1)) (k : JW p l e R s m args below meth c cy D ad A nL cells slots Q σ (pc + 1) (a0 :: some (.long (lI x)) :: none :: t) st) : JW p l e R s m args below meth c cy D ad A nL cells slots Q σ pc (a0 :: b :: b2 :: t) (.long (lI x) :: st) := by
  intro H locs ls h1 h2 h3
  exact lv_lstore_n C.1.1 C.1.2.1 d rfl h3.has hn rfl (fun ls' h' => k H locs ls' h1 h2 (Lh.set2 (show nlat ((a0 :: b :: b2 :: t)) 1 = true from hp) h'))
theorem J_lstore1 (C : Cx p l e R s m args below meth c cy D ad A nL cc own Ts) {a0 : Option Value} {t : List (Option Value)} {b b2 : Option Value} {x : Int} (hn : 1 + 1 < nL) (hp : nlo a0 = true) (d : decode cc pc = .ok (.lstore 1, 2)) (k : JW p l e R s m args below meth c cy D ad A nL cells slots Q σ (pc + 2) (a0 :: some (.long (lI x)) :: none :: t) st) : JW p l e R s m args below meth c cy D ad A nL cells slots Q σ pc (a0 :: b :: b2 :: t) (.long (lI x) :: st) := by
  intro H locs ls h1 h2 h3
  exact lv_lstore C.1.1 C.1.2.1 d h3.has hn rfl (fun ls' h' => k H locs ls' h1 h2 (Lh.set2 (show nlat ((a0 :: b :: b2 :: t)) 1 = true from hp) h'))
theorem J_iinc1 (C : Cx p l e R s m args below meth c cy D ad A nL cc own Ts) {a0 : Option Value} {t : List (Option Value)} {x z : Int} (hn : 1 < nL) (hp : nlo a0 = true) (d : decode cc pc = .ok (.iinc 1 z, 3)) (k : JW p l e R s m args below meth c cy D ad A nL cells slots Q σ (pc + 3) (a0 :: some (.int (iI (x + z))) :: t) st) : JW p l e R s m args below meth c cy D ad A nL cells slots Q σ pc (a0 :: some (.int (iI x)) :: t) st := by
  intro H locs ls h1 h2 h3
  obtain ⟨i, hi⟩ := List.getElem?_of_mem (lhL_mem.mpr (show ((a0 :: some (.int (iI x)) :: t))[1]? = some (some (.int (iI x))) from rfl))
  exact lv_iinc (v := iI (x + z)) (k := i) C.1.1 C.1.2.1 d h3.has hi (iI_add x z) hn rfl (fun ls' h' => k H locs ls' h1 h2 (Lh.set1 (show nlat ((a0 :: some (.int (iI x)) :: t)) 1 = true from hp) h'))
theorem J_iload_2 (C : Cx p l e R s m args below meth c cy D ad A nL cc own Ts) {a0 a1 : Option Value} {t : List (Option Value)} {x : Int} (d : decode cc pc = .ok (.iload_n 2, 1)) (k : JW p l e R s m args below meth c cy D ad A nL cells slots Q σ (pc + 1) (a0 :: a1 :: some (.int (iI x)) :: t) (.int (iI x) :: st)) : JW p l e R s m args below meth c cy D ad A nL cells slots Q σ pc (a0 :: a1 :: some (.int (iI x)) :: t) st := by
  intro H locs ls h1 h2 h3
  exact lv_iload_n C.1.1 C.1.2.1 d rfl (h3.2.2 2 _ rfl) (k H locs ls h1 h2 h3)
theorem J_iload2 (C : Cx p l e R s m args below meth c cy D ad A nL cc own Ts) {a0 a1 : Option Value} {t : List (Option Value)} {x : Int} (d : decode cc pc = .ok (.iload 2, 2)) (k : JW p l e R s m args below meth c cy D ad A nL cells slots Q σ (pc + 2) (a0 :: a1 :: some (.int (iI x)) :: t) (.int (iI x) :: st)) : JW p l e R s m args below meth c cy D ad A nL cells slots Q σ pc (a0 :: a1 :: some (.int (iI x)) :: t) st := by
  intro H locs ls h1 h2 h3
  exact lv_iload C.1.1 C.1.2.1 d (h3.2.2 2 _ rfl) (k H locs ls h1 h2 h3)
theorem J_lload_2 (C : Cx p l e R s m args below meth c cy D ad A nL cc own Ts) {a0 a1 : Option Value} {t : List (Option Value)} {x : Int} (d : decode cc pc = .ok (.lload_n 2, 1)) (k : JW p l e R s m args below meth c cy D ad A nL cells slots Q σ (pc + 1) (a0 :: a1 :: some (.long (lI x)) :: t) (.long (lI x) :: st)) : JW p l e R s m args below meth c cy D ad A nL cells slots Q σ pc (a0 :: a1 :: some (.long (lI x)) :: t) st := by
  intro H locs ls h1 h2 h3
  exact lv_lload_n C.1.1 C.1.2.1 d rfl (h3.2.2 2 _ rfl) (k H locs ls h1 h2 h3)
theorem J_lload2 (C : Cx p l e R s m args below meth c cy D ad A nL cc own Ts) {a0 a1 : Option Value} {t : List (Option Value)} {x : Int} (d : decode cc pc = .ok (.lload 2, 2)) (k : JW p l e R s m args below meth c cy D ad A nL cells slots Q σ (pc + 2) (a0 :: a1 :: some (.long (lI x)) :: t) (.long (lI x) :: st)) : JW p l e R s m args below meth c cy D ad A nL cells slots Q σ pc (a0 :: a1 :: some (.long (lI x)) :: t) st := by
  intro H locs ls h1 h2 h3
  exact lv_lload C.1.1 C.1.2.1 d (h3.2.2 2 _ rfl) (k H locs ls h1 h2 h3)
theorem J_aload_2 (C : Cx p l e R s m args below meth c cy D ad A nL cc own Ts) {a0 a1 : Option Value} {t : List (Option Value)} {x : Nat} (d : decode cc pc = .ok (.aload_n 2, 1)) (k : JW p l e R s m args below meth c cy D ad A nL cells slots Q σ (pc + 1) (a0 :: a1 :: some (.ref x) :: t) (.ref x :: st)) : JW p l e R s m args below meth c cy D ad A nL cells slots Q σ pc (a0 :: a1 :: some (.ref x) :: t) st := by
  intro H locs ls h1 h2 h3
  exact lv_aload_n C.1.1 C.1.2.1 d rfl (h3.2.2 2 _ rfl) (k H locs ls h1 h2 h3)
theorem J_aload2 (C : Cx p l e R s m args below meth c cy D ad A nL cc own Ts) {a0 a1 : Option Value} {t : List (Option Value)} {x : Nat} (d : decode cc pc = .ok (.aload 2, 2)) (k : JW p l e R s m args below meth c cy D ad A nL cells slots Q σ (pc + 2) (a0 :: a1 :: some (.ref x) :: t) (.ref x :: st)) : JW p l e R s m args below meth c cy D ad A nL cells slots Q σ pc (a0 :: a1 :: some (.ref x) :: t) st := by
  intro H locs ls h1 h2 h3
  exact lv_aload C.1.1 C.1.2.1 d (h3.2.2 2 _ rfl) (k H locs ls h1 h2 h3)
theorem J_istore_2 (C : Cx p l e R s m args below meth c cy D ad A nL cc own Ts) {a0 a1 : Option Value} {t : List (Option Value)} {b : Option Value} {x : Int} (hn : 2 < nL) (hp : nlo a1 = true) (d : decode cc pc = .ok (.istore_n 2, 1)) (k : JW p l e R s m args below meth c cy D ad A nL cells slots Q σ (pc + 1) (a0 :: a1 :: some (.int (iI x)) :: t) st) : JW p l e R s m args below meth c cy D ad A nL cells slots Q σ pc (a0 :: a1 :: b :: t) (.int (iI x) :: st) := by
  intro H locs ls h1 h2 h3
  exact lv_istore_n C.1.1 C.1.2.1 d rfl h3.has hn rfl (fun ls' h' => k H locs ls' h1 h2 (Lh.set1 (show nlat ((a0 :: a1 :: b :: t)) 2 = true from hp) h'))
theorem J_istore2 (C : Cx p l e R s m args below meth c cy D ad A nL cc own Ts) {a0 a1 : Option Value} {t : List (Option Value)} {b : Option Value} {x : Int} (hn : 2 < nL) (hp : nlo a1 = true) (d : decode cc pc = .ok (.istore 2, 2)) (k : JW p l e R s m args below meth c cy D ad A nL cells slots Q σ (pc + 2) (a0 :: a1 :: some (.int (iI x)) :: t) st) : JW p l e R s m args below meth c cy D ad A nL cells slots Q σ pc (a0 :: a1 :: b :: t) (.int (iI x) :: st) := by
  intro H locs ls h1 h2 h3
  exact lv_istore C.1.1 C.1.2.1 d h3.has hn rfl (fun ls' h' => k H locs ls' h1 h2 (Lh.set1 (show nlat ((a0 :: a1 :: b :: t)) 2 = true from hp) h'))
theorem J_astore_2 (C : Cx p l e R s m args below meth c cy D ad A nL cc own Ts) {a0 a1 : Option Value} {t : List (Option Value)} {b : Option Value} {x : Nat} (hn : 2 < nL) (hp : nlo a1 = true) (d : decode cc pc = .ok (.astore_n 2, 1)) (k : JW p l e R s m args below meth c cy D ad A nL cells slots Q σ (pc + 1) (a0 :: a1 :: some (.ref x) :: t) st) : JW p l e R s m args below meth c cy D ad A nL cells slots Q σ pc (a0 :: a1 :: b :: t) (.ref x :: st) := by
  intro H locs ls h1 h2 h3
  exact lv_astore_n C.1.1 C.1.2.1 d rfl h3.has hn rfl (fun ls' h' => k H locs ls' h1 h2 (Lh.set1 (show nlat ((a0 :: a1 :: b :: t)) 2 = true from hp) h'))
theorem J_astore2 (C : Cx p l e R s m args below meth c cy D ad A nL cc own Ts) {a0 a1 : Option Value} {t : List (Option Value)} {b : Option Value} {x : Nat} (hn : 2 < nL) (hp : nlo a1 = true) (d : decode cc pc = .ok (.astore 2, 2)) (k : JW p l e R s m args below meth c cy D ad A nL cells slots Q σ (pc + 2) (a0 :: a1 :: some (.ref x) :: t) st) : JW p l e R s m args below meth c cy D ad A nL cells slots Q σ pc (a0 :: a1 :: b :: t) (.ref x :: st) := by
  intro H locs ls h1 h2 h3
  exact lv_astore C.1.1 C.1.2.1 d h3.has hn rfl (fun ls' h' => k H locs ls' h1 h2 (Lh.set1 (show nlat ((a0 :: a1 :: b :: t)) 2 = true from hp) h'))
theorem J_lstore_2 (C : Cx p l e R s m args below meth c cy D ad A nL cc own Ts) {a0 a1 : Option Value} {t : List (Option Value)} {b b2 : Option Value} {x : Int} (hn : 2 + 1 < nL) (hp : nlo a1 = true) (d : decode cc pc = .ok (.lstore_n 2, 1)) (k : JW p l e R s m args below meth c cy D ad A nL cells slots Q σ (pc + 1) (a0 :: a1 :: some (.long (lI x)) :: none :: t) st) : JW p l e R s m args below meth c cy D ad A nL cells slots Q σ pc (a0 :: a1 :: b :: b2 :: t) (.long (lI x) :: st) := by
  intro H locs ls h1 h2 h3
  exact lv_lstore_n C.1.1 C.1.2.1 d rfl h3.has hn rfl (fun ls' h' => k H locs ls' h1 h2 (Lh.set2 (show nlat ((a0 :: a1 :: b :: b2 :: t)) 2 = true from hp) h'))
theorem J_lstore2 (C : Cx p l e R s m args below meth c cy D ad A nL cc own Ts) {a0 a1 : Option Value} {t : List (Option Value)} {b b2 : Option Value} {x : Int} (hn : 2 + 1 < nL) (hp : nlo a1 = true) (d : decode cc pc = .ok (.lstore 2, 2)) (k : JW p l e R s m args below meth c cy D ad A nL cells slots Q σ (pc + 2) (a0 :: a1 :: some (.long (lI x)) :: none :: t) st) : JW p l e R s m args below meth c cy D ad A nL cells slots Q σ pc (a0 :: a1 :: b :: b2 :: t) (.long (lI x) :: st) := by
  intro H locs ls h1 h2 h3
  exact lv_lstore C.1.1 C.1.2.1 d h3.has hn rfl (fun ls' h' => k H locs ls' h1 h2 (Lh.set2 (show nlat ((a0 :: a1 :: b :: b2 :: t)) 2 = true from hp) h'))
theorem J_iinc2 (C : Cx p l e R s m args below meth c cy D ad A nL cc own Ts) {a0 a1 : Option Value} {t : List (Option Value)} {x z : Int} (hn : 2 < nL) (hp : nlo a1 = true) (d : decode cc pc = .ok (.iinc 2 z, 3)) (k : JW p l e R s m args below meth c cy D ad A nL cells slots Q σ (pc + 3) (a0 :: a1 :: some (.int (iI (x + z))) :: t) st) : JW p l e R s m args below meth c cy D ad A nL cells slots Q σ pc (a0 :: a1 :: some (.int (iI x)) :: t) st := by
  intro H locs ls h1 h2 h3
  obtain ⟨i, hi⟩ := List.getElem?_of_mem (lhL_mem.mpr (show ((a0 :: a1 :: some (.int (iI x)) :: t))[2]? = some (some (.int (iI x))) from rfl))
  exact lv_iinc (v := iI (x + z)) (k := i) C.1.1 C.1.2.1 d h3.has hi (iI_add x z) hn rfl (fun ls' h' => k H locs ls' h1 h2 (Lh.set1 (show nlat ((a0 :: a1 :: some (.int (iI x)) :: t)) 2 = true from hp) h'))
theorem J_iload_3 (C : Cx p l e R s m args below meth c cy D ad A nL cc own Ts) {a0 a1 a2 : Option Value} {t : List (Option Value)} {x : Int} (d : decode cc pc = .ok (.iload_n 3, 1)) (k : JW p l e R s m args below meth c cy D ad A nL cells slots Q σ (pc + 1) (a0 :: a1 :: a2 :: some (.int (iI x)) :: t) (.int (iI x) :: st)) : JW p l e R s m args below meth c cy D ad A nL cells slots Q σ pc (a0 :: a1 :: a2 :: some (.int (iI x)) :: t) st := by
  intro H locs ls h1 h2 h3
  exact lv_iload_n C.1.1 C.1.2.1 d rfl (h3.2.2 3 _ rfl) (k H locs ls h1 h2 h3)
theorem J_iload3 (C : Cx p l e R s m args below meth c cy D ad A nL cc own Ts) {a0 a1 a2 : Option Value} {t : List (Option Value)} {x : Int} (d : decode cc pc = .ok (.iload 3, 2)) (k : JW p l e R s m args below meth c cy D ad A nL cells slots Q σ (pc + 2) (a0 :: a1 :: a2 :: some (.int (iI x)) :: t) (.int (iI x) :: st)) : JW p l e R s m args below meth c cy D ad A nL cells slots Q σ pc (a0 :: a1 :: a2 :: some (.int (iI x)) :: t) st := by
  intro H locs ls h1 h2 h3
  exact lv_iload C.1.1 C.1.2.1 d (h3.2.2 3 _ rfl) (k H locs ls h1 h2 h3)
theorem J_lload_3 (C : Cx p l e R s m args below meth c cy D ad A nL cc own Ts) {a0 a1 a2 : Option Value} {t : List (Option Value)} {x : Int} (d : decode cc pc = .ok (.lload_n 3, 1)) (k : JW p l e R s m args below meth c cy D ad A nL cells slots Q σ (pc + 1) (a0 :: a1 :: a2 :: some (.long (lI x)) :: t) (.long (lI x) :: st)) : JW p l e R s m args below meth c cy D ad A nL cells slots Q σ pc (a0 :: a1 :: a2 :: some (.long (lI x)) :: t) st := by
  intro H locs ls h1 h2 h3
  exact lv_lload_n C.1.1 C.1.2.1 d rfl (h3.2.2 3 _ rfl) (k H locs ls h1 h2 h3)
theorem J_lload3 (C : Cx p l e R s m args below meth c cy D ad A nL cc own Ts) {a0 a1 a2 : Option Value} {t : List (Option Value)} {x : Int} (d : decode cc pc = .ok (.lload 3, 2)) (k : JW p l e R s m args below meth c cy D ad A nL cells slots Q σ (pc + 2) (a0 :: a1 :: a2 :: some (.long (lI x)) :: t) (.long (lI x) :: st)) : JW p l e R s m args below meth c cy D ad A nL cells slots Q σ pc (a0 :: a1 :: a2 :: some (.long (lI x)) :: t) st := by
  intro H locs ls h1 h2 h3
  exact lv_lload C.1.1 C.1.2.1 d (h3.2.2 3 _ rfl) (k H locs ls h1 h2 h3)
theorem J_aload_3 (C : Cx p l e R s m args below meth c cy D ad A nL cc own Ts) {a0 a1 a2 : Option Value} {t : List (Option Value)} {x : Nat} (d : decode cc pc = .ok (.aload_n 3, 1)) (k : JW p l e R s m args below meth c cy D ad A nL cells slots Q σ (pc + 1) (a0 :: a1 :: a2 :: some (.ref x) :: t) (.ref x :: st)) : JW p l e R s m args below meth c cy D ad A nL cells slots Q σ pc (a0 :: a1 :: a2 :: some (.ref x) :: t) st := by
  intro H locs ls h1 h2 h3
  exact lv_aload_n C.1.1 C.1.2.1 d rfl (h3.2.2 3 _ rfl) (k H locs ls h1 h2 h3)
theorem J_aload3 (C : Cx p l e R s m args below meth c cy D ad A nL cc own Ts) {a0 a1 a2 : Option Value} {t : List (Option Value)} {x : Nat} (d : decode cc pc = .ok (.aload 3, 2)) (k : JW p l e R s m args below meth c cy D ad A nL cells slots Q σ (pc + 2) (a0 :: a1 :: a2 :: some (.ref x) :: t) (.ref x :: st)) : JW p l e R s m args below meth c cy D ad A nL cells slots Q σ pc (a0 :: a1 :: a2 :: some (.ref x) :: t) st := by
  intro H locs ls h1 h2 h3
  exact lv_aload C.1.1 C.1.2.1 d (h3.2.2 3 _ rfl) (k H locs ls h1 h2 h3)
theorem J_istore_3 (C : Cx p l e R s m args below meth c cy D ad A nL cc own Ts) {a0 a1 a2 : Option Value} {t : List (Option Value)} {b : Option Value} {x : Int} (hn : 3 < nL) (hp : nlo a2 = true) (d : decode cc pc = .ok (.istore_n 3, 1)) (k : JW p l e R s m args below meth c cy D ad A nL cells slots Q σ (pc + 1) (a0 :: a1 :: a2 :: some (.int (iI x)) :: t) st) : JW p l e R s m args below meth c cy D ad A nL cells slots Q σ pc (a0 :: a1 :: a2 :: b :: t) (.int (iI x) :: st) := by
  intro H locs ls h1 h2 h3
  exact lv_istore_n C.1.1 C.1.2.1 d rfl h3.has hn rfl (fun ls' h' => k H locs ls' h1 h2 (Lh.set1 (show nlat ((a0 :: a1 :: a2 :: b :: t)) 3 = true from hp) h'))
theorem J_istore3 (C : Cx p l e R s m args below meth c cy D ad A nL cc own Ts) {a0 a1 a2 : Option Value} {t : List (Option Value)} {b : Option Value} {x : Int} (hn : 3 < nL) (hp : nlo a2 = true) (d : decode cc pc = .ok (.istore 3, 2)) (k : JW p l e R s m args below meth c cy D ad A nL cells slots Q σ (pc + 2) (a0 :: a1 :: a2 :: some (.int (iI x)) :: t) st) : JW p l e R s m args below meth c cy D ad A nL cells slots Q σ pc (a0 :: a1 :: a2 :: b :: t) (.int (iI x) :: st) := by
  intro H locs ls h1 h2 h3
  exact lv_istore C.1.1 C.1.2.1 d h3.has hn rfl (fun ls' h' => k H locs ls' h1 h2 (Lh.set1 (show nlat ((a0 :: a1 :: a2 :: b :: t)) 3 = true from hp) h'))
theorem J_astore_3 (C : Cx p l e R s m args below meth c cy D ad A nL cc own Ts) {a0 a1 a2 : Option Value} {t : List (Option Value)} {b : Option Value} {x : Nat} (hn : 3 < nL) (hp : nlo a2 = true) (d : decode cc pc = .ok (.astore_n 3, 1)) (k : JW p l e R s m args below meth c cy D ad A nL cells slots Q σ (pc + 1) (a0 :: a1 :: a2 :: some (.ref x) :: t) st) : JW p l e R s m args below meth c cy D ad A nL cells slots Q σ pc (a0 :: a1 :: a2 :: b :: t) (.ref x :: st) := by
  intro H locs ls h1 h2 h3
  exact lv_astore_n C.1.1 C.1.2.1 d rfl h3.has hn rfl (fun ls' h' => k H locs ls' h1 h2 (Lh.set1 (show nlat ((a0 :: a1 :: a2 :: b :: t)) 3 = true from hp) h'))
theorem J_astore3 (C : Cx p l e R s m args below meth c cy D ad A nL cc own Ts) {a0 a1 a2 : Option Value} {t : List (Option Value)} {b : Option Value} {x : Nat} (hn : 3 < nL) (hp : nlo a2 = true) (d : decode cc pc = .ok (.astore 3, 2)) (k : JW p l e R s m args below meth c cy D ad A nL cells slots Q σ (pc + 2) (a0 :: a1 :: a2 :: some (.ref x) :: t) st) : JW p l e R s m args below meth c cy D ad A nL cells slots Q σ pc (a0 :: a1 :: a2 :: b :: t) (.ref x :: st) := by
  intro H locs ls h1 h2 h3
  exact lv_astore C.1.1 C.1.2.1 d h3.has hn rfl (fun ls' h' => k H locs ls' h1 h2 (Lh.set1 (show nlat ((a0 :: a1 :: a2 :: b :: t)) 3 = true from hp) h'))
theorem J_lstore_3 (C : Cx p l e R s m args below meth c cy D ad A nL cc own Ts) {a0 a1 a2 : Option Value} {t : List (Option Value)} {b b2 : Option Value} {x : Int} (hn : 3 + 1 < nL) (hp : nlo a2 = true) (d : decode cc pc = .ok (.lstore_n 3, 1)) (k : JW p l e R s m args below meth c cy D ad A nL cells slots Q σ (pc + 1) (a0 :: a1 :: a2 :: some (.long (lI x)) :: none :: t) st) : JW p l e R s m args below meth c cy D ad A nL cells slots Q σ pc (a0 :: a1 :: a2 :: b :: b2 :: t) (.long (lI x) :: st) := by
  intro H locs ls h1 h2 h3
  exact lv_lstore_n C.1.1 C.1.2.1 d rfl h3.has hn rfl (fun ls' h' => k H locs ls' h1 h2 (Lh.set2 (show nlat ((a0 :: a1 :: a2 :: b :: b2 :: t)) 3 = true from hp) h'))
theorem J_lstore3 (C : Cx p l e R s m args below meth c cy D ad A nL cc own Ts) {a0 a1 a2 : Option Value} {t : List (Option Value)} {b b2 : Option Value} {x : Int} (hn : 3 + 1 < nL) (hp : nlo a2 = true) (d : decode cc pc = .ok (.lstore 3, 2)) (k : JW p l e R s m args below meth c cy D ad A nL cells slots Q σ (pc + 2) (a0 :: a1 :: a2 :: some (.long (lI x)) :: none :: t) st) : JW p l e R s m args below meth c cy D ad A nL cells slots Q σ pc (a0 :: a1 :: a2 :: b :: b2 :: t) (.long (lI x) :: st) := by
  intro H locs ls h1 h2 h3
  exact lv_lstore C.1.1 C.1.2.1 d h3.has hn rfl (fun ls' h' => k H locs ls' h1 h2 (Lh.set2 (show nlat ((a0 :: a1 :: a2 :: b :: b2 :: t)) 3 = true from hp) h'))
theorem J_iinc3 (C : Cx p l e R s m args below meth c cy D ad A nL cc own Ts) {a0 a1 a2 : Option Value} {t : List (Option Value)} {x z : Int} (hn : 3 < nL) (hp : nlo a2 = true) (d : decode cc pc = .ok (.iinc 3 z, 3)) (k : JW p l e R s m args below meth c cy D ad A nL cells slots Q σ (pc + 3) (a0 :: a1 :: a2 :: some (.int (iI (x + z))) :: t) st) : JW p l e R s m args below meth c cy D ad A nL cells slots Q σ pc (a0 :: a1 :: a2 :: some (.int (iI x)) :: t) st := by
  intro H locs ls h1 h2 h3
  obtain ⟨i, hi⟩ := List.getElem?_of_mem (lhL_mem.mpr (show ((a0 :: a1 :: a2 :: some (.int (iI x)) :: t))[3]? = some (some (.int (iI x))) from rfl))
  exact lv_iinc (v := iI (x + z)) (k := i) C.1.1 C.1.2.1 d h3.has hi (iI_add x z) hn rfl (fun ls' h' => k H locs ls' h1 h2 (Lh.set1 (show nlat ((a0 :: a1 :: a2 :: some (.int (iI x)) :: t)) 3 = true from hp) h'))
theorem J_iload4 (C : Cx p l e R s m args below meth c cy D ad A nL cc own Ts) {a0 a1 a2 a3 : Option Value} {t : List (Option Value)} {x : Int} (d : decode cc pc = .ok (.iload 4, 2)) (k : JW p l e R s m args below meth c cy D ad A nL cells slots Q σ (pc + 2) (a0 :: a1 :: a2 :: a3 :: some (.int (iI x)) :: t) (.int (iI x) :: st)) : JW p l e R s m args below meth c cy D ad A nL cells slots Q σ pc (a0 :: a1 :: a2 :: a3 :: some (.int (iI x)) :: t) st := by
  intro H locs ls h1 h2 h3
  exact lv_iload C.1.1 C.1.2.1 d (h3.2.2 4 _ rfl) (k H locs ls h1 h2 h3)
theorem J_lload4 (C : Cx p l e R s m args below meth c cy D ad A nL cc own Ts) {a0 a1 a2 a3 : Option Value} {t : List (Option Value)} {x : Int} (d : decode cc pc = .ok (.lload 4, 2)) (k : JW p l e R s m args below meth c cy D ad A nL cells slots Q σ (pc + 2) (a0 :: a1 :: a2 :: a3 :: some (.long (lI x)) :: t) (.long (lI x) :: st)) : JW p l e R s m args below meth c cy D ad A nL cells slots Q σ pc (a0 :: a1 :: a2 :: a3 :: some (.long (lI x)) :: t) st := by
  intro H locs ls h1 h2 h3
  exact lv_lload C.1.1 C.1.2.1 d (h3.2.2 4 _ rfl) (k H locs ls h1 h2 h3)
theorem J_aload4 (C : Cx p l e R s m args below meth c cy D ad A nL cc own Ts) {a0 a1 a2 a3 : Option Value} {t : List (Option Value)} {x : Nat} (d : decode cc pc = .ok (.aload 4, 2)) (k : JW p l e R s m args below meth c cy D ad A nL cells slots Q σ (pc + 2) (a0 :: a1 :: a2 :: a3 :: some (.ref x) :: t) (.ref x :: st)) : JW p l e R s m args below meth c cy D ad A nL cells slots Q σ pc (a0 :: a1 :: a2 :: a3 :: some (.ref x) :: t) st := by
  intro H locs ls h1 h2 h3
  exact lv_aload C.1.1 C.1.2.1 d (h3.2.2 4 _ rfl) (k H locs ls h1 h2 h3)
theorem J_istore4 (C : Cx p l e R s m args below meth c cy D ad A nL cc own Ts) {a0 a1 a2 a3 : Option Value} {t : List (Option Value)} {b : Option Value} {x : Int} (hn : 4 < nL) (hp : nlo a3 = true) (d : decode cc pc = .ok (.istore 4, 2)) (k : JW p l e R s m args below meth c cy D ad A nL cells slots Q σ (pc + 2) (a0 :: a1 :: a2 :: a3 :: some (.int (iI x)) :: t) st) : JW p l e R s m args below meth c cy D ad A nL cells slots Q σ pc (a0 :: a1 :: a2 :: a3 :: b :: t) (.int (iI x) :: st) := by
  intro H locs ls h1 h2 h3
  exact lv_istore C.1.1 C.1.2.1 d h3.has hn rfl (fun ls' h' => k H locs ls' h1 h2 (Lh.set1 (show nlat ((a0 :: a1 :: a2 :: a3 :: b :: t)) 4 = true from hp) h'))
theorem J_astore4 (C : Cx p l e R s m args below meth c cy D ad A nL cc own Ts) {a0 a1 a2 a3 : Option Value} {t : List (Option Value)} {b : Option Value} {x : Nat} (hn : 4 < nL) (hp : nlo a3 = true) (d : decode cc pc = .ok (.astore 4, 2)) (k : JW p l e R s m args below meth c cy D ad A nL cells slots Q σ (pc + 2) (a0 :: a1 :: a2 :: a3 :: some (.ref x) :: t) st) : JW p l e R s m args below meth c cy D ad A nL cells slots Q σ pc (a0 :: a1 :: a2 :: a3 :: b :: t) (.ref x :: st) := by
  intro H locs ls h1 h2 h3
  exact lv_astore C.1.1 C.1.2.1 d h3.has hn rfl (fun ls' h' => k H locs ls' h1 h2 (Lh.set1 (show nlat ((a0 :: a1 :: a2 :: a3 :: b :: t)) 4 = true from hp) h'))
theorem J_lstore4 (C : Cx p l e R s m args below meth c cy D ad A nL cc own Ts) {a0 a1 a2 a3 : Option Value} {t : List (Option Value)} {b b2 : Option Value} {x : Int} (hn : 4 + 1 < nL) (hp : nlo a3 = true) (d : decode cc pc = .ok (.lstore 4, 2)) (k : JW p l e R s m args below meth c cy D ad A nL cells slots Q σ (pc + 2) (a0 :: a1 :: a2 :: a3 :: some (.long (lI x)) :: none :: t) st) : JW p l e R s m args below meth c cy D ad A nL cells slots Q σ pc (a0 :: a1 :: a2 :: a3 :: b :: b2 :: t) (.long (lI x) :: st) := by
  intro H locs ls h1 h2 h3
  exact lv_lstore C.1.1 C.1.2.1 d h3.has hn rfl (fun ls' h' => k H locs ls' h1 h2 (Lh.set2 (show nlat ((a0 :: a1 :: a2 :: a3 :: b :: b2 :: t)) 4 = true from hp) h'))
theorem J_iinc4 (C : Cx p l e R s m args below meth c cy D ad A nL cc own Ts) {a0 a1 a2 a3 : Option Value} {t : List (Option Value)} {x z : Int} (hn : 4 < nL) (hp : nlo a3 = true) (d : decode cc pc = .ok (.iinc 4 z, 3)) (k : JW p l e R s m args below meth c cy D ad A nL cells slots Q σ (pc + 3) (a0 :: a1 :: a2 :: a3 :: some (.int (iI (x + z))) :: t) st) : JW p l e R s m args below meth c cy D ad A nL cells slots Q σ pc (a0 :: a1 :: a2 :: a3 :: some (.int (iI x)) :: t) st := by
  intro H locs ls h1 h2 h3
  obtain ⟨i, hi⟩ := List.getElem?_of_mem (lhL_mem.mpr (show ((a0 :: a1 :: a2 :: a3 :: some (.int (iI x)) :: t))[4]? = some (some (.int (iI x))) from rfl))
  exact lv_iinc (v := iI (x + z)) (k := i) C.1.1 C.1.2.1 d h3.has hi (iI_add x z) hn rfl (fun ls' h' => k H locs ls' h1 h2 (Lh.set1 (show nlat ((a0 :: a1 :: a2 :: a3 :: some (.int (iI x)) :: t)) 4 = true from hp) h'))
theorem J_iload5 (C : Cx p l e R s m args below meth c cy D ad A nL cc own Ts) {a0 a1 a2 a3 a4 : Option Value} {t : List (Option Value)} {x : Int} (d : decode cc pc = .ok (.iload 5, 2)) (k : JW p l e R s m args below meth c cy D ad A nL cells slots Q σ (pc + 2) (a0 :: a1 :: a2 :: a3 :: a4 :: some (.int (iI x)) :: t) (.int (iI x) :: st)) : JW p l e R s m args below meth c cy D ad A nL cells slots Q σ pc (a0 :: a1 :: a2 :: a3 :: a4 :: some (.int (iI x)) :: t) st := by
  intro H locs ls h1 h2 h3
  exact lv_iload C.1.1 C.1.2.1 d (h3.2.2 5 _ rfl) (k H locs ls h1 h2 h3)
theorem J_lload5 (C : Cx p l e R s m args below meth c cy D ad A nL cc own Ts) {a0 a1 a2 a3 a4 : Option Value} {t : List (Option Value)} {x : Int} (d : decode cc pc = .ok (.lload 5, 2)) (k : JW p l e R s m args below meth c cy D ad A nL cells slots Q σ (pc + 2) (a0 :: a1 :: a2 :: a3 :: a4 :: some (.long (lI x)) :: t) (.long (lI x) :: st)) : JW p l e R s m args below meth c cy D ad A nL cells slots Q σ pc (a0 :: a1 :: a2 :: a3 :: a4 :: some (.long (lI x)) :: t) st := by
  intro H locs ls h1 h2 h3
  exact lv_lload C.1.1 C.1.2.1 d (h3.2.2 5 _ rfl) (k H locs ls h1 h2 h3)
theorem J_aload5 (C : Cx p l e R s m args below meth c cy D ad A nL cc own Ts) {a0 a1 a2 a3 a4 : Option Value} {t : List (Option Value)} {x : Nat} (d : decode cc pc = .ok (.aload 5, 2)) (k : JW p l e R s m args below meth c cy D ad A nL cells slots Q σ (pc + 2) (a0 :: a1 :: a2 :: a3 :: a4 :: some (.ref x) :: t) (.ref x :: st)) : JW p l e R s m args below meth c cy D ad A nL cells slots Q σ pc (a0 :: a1 :: a2 :: a3 :: a4 :: some (.ref x) :: t) st := by
  intro H locs ls h1 h2 h3
  exact lv_aload C.1.1 C.1.2.1 d (h3.2.2 5 _ rfl) (k H locs ls h1 h2 h3)
theorem J_istore5 (C : Cx p l e R s m args below meth c cy D ad A nL cc own Ts) {a0 a1 a2 a3 a4 : Option Value} {t : List (Option Value)} {b : Option Value} {x : Int} (hn : 5 < nL) (hp : nlo a4 = true) (d : decode cc pc = .ok (.istore 5, 2)) (k : JW p l e R s m args below meth c cy D ad A nL cells slots Q σ (pc + 2) (a0 :: a1 :: a2 :: a3 :: a4 :: some (.int (iI x)) :: t) st) : JW p l e R s m args below meth c cy D ad A nL cells slots Q σ pc (a0 :: a1 :: a2 :: a3 :: a4 :: b :: t) (.int (iI x) :: st) := by
  intro H locs ls h1 h2 h3
  exact lv_istore C.1.1 C.1.2.1 d h3.has hn rfl (fun ls' h' => k H locs ls' h1 h2 (Lh.set1 (show nlat ((a0 :: a1 :: a2 :: a3 :: a4 :: b :: t)) 5 = true from hp) h'))
theorem J_astore5 (C : Cx p l e R s m args below meth c cy D ad A nL cc own Ts) {a0 a1 a2 a3 a4 : Option Value} {t : List (Option Value)} {b : Option Value} {x : Nat} (hn : 5 < nL) (hp : nlo a4 = true) (d : decode cc pc = .ok (.astore 5, 2)) (k : JW p l e R s m args below meth c cy D ad A nL cells slots Q σ (pc + 2) (a0 :: a1 :: a2 :: a3 :: a4 :: some (.ref x) :: t) st) : JW p l e R s m args below meth c cy D ad A nL cells slots Q σ pc (a0 :: a1 :: a2 :: a3 :: a4 :: b :: t) (.ref x :: st) := by
  intro H locs ls h1 h2 h3
  exact lv_astore C.1.1 C.1.2.1 d h3.has hn rfl (fun ls' h' => k H locs ls' h1 h2 (Lh.set1 (show nlat ((a0 :: a1 :: a2 :: a3 :: a4 :: b :: t)) 5 = true from hp) h'))
theorem J_lstore5 (C : Cx p l e R s m args below meth c cy D ad A nL cc own Ts) {a0 a1 a2 a3 a4 : Option Value} {t : List (Option Value)} {b b2 : Option Value} {x : Int} (hn : 5 + 1 < nL) (hp : nlo a4 = true) (d : decode cc pc = .ok (.lstore 5, 2)) (k : JW p l e R s m args below meth c cy D ad A nL cells slots Q σ (pc + 2) (a0 :: a1 :: a2 :: a3 :: a4 :: some (.long (lI x)) :: none :: t) st) : JW p l e R s m args below meth c cy D ad A nL cells slots Q σ pc (a0 :: a1 :: a2 :: a3 :: a4 :: b :: b2 :: t) (.long (lI x) :: st) := by
  intro H locs ls h1 h2 h3
  exact lv_lstore C.1.1 C.1.2.1 d h3.has hn rfl (fun ls' h' => k H locs ls' h1 h2 (Lh.set2 (show nlat ((a0 :: a1 :: a2 :: a3 :: a4 :: b :: b2 :: t)) 5 = true from hp) h'))
theorem J_iinc5 (C : Cx p l e R s m args below meth c cy D ad A nL cc own Ts) {a0 a1 a2 a3 a4 : Option Value} {t : List (Option Value)} {x z : Int} (hn : 5 < nL) (hp : nlo a4 = true) (d : decode cc pc = .ok (.iinc 5 z, 3)) (k : JW p l e R s m args below meth c cy D ad A nL cells slots Q σ (pc + 3) (a0 :: a1 :: a2 :: a3 :: a4 :: some (.int (iI (x + z))) :: t) st) : JW p l e R s m args below meth c cy D ad A nL cells slots Q σ pc (a0 :: a1 :: a2 :: a3 :: a4 :: some (.int (iI x)) :: t) st := by
  intro H locs ls h1 h2 h3
  obtain ⟨i, hi⟩ := List.getElem?_of_mem (lhL_mem.mpr (show ((a0 :: a1 :: a2 :: a3 :: a4 :: some (.int (iI x)) :: t))[5]? = some (some (.int (iI x))) from rfl))
  exact lv_iinc (v := iI (x + z)) (k := i) C.1.1 C.1.2.1 d h3.has hi (iI_add x z) hn rfl (fun ls' h' => k H locs ls' h1 h2 (Lh.set1 (show nlat ((a0 :: a1 :: a2 :: a3 :: a4 :: some (.int (iI x)) :: t)) 5 = true from hp) h'))
theorem J_iload6 (C : Cx p l e R s m args below meth c cy D ad A nL cc own Ts) {a0 a1 a2 a3 a4 a5 : Option Value} {t : List (Option Value)} {x : Int} (d : decode cc pc = .ok (.iload 6, 2)) (k : JW p l e R s m args below meth c cy D ad A nL cells slots Q σ (pc + 2) (a0 :: a1 :: a2 :: a3 :: a4 :: a5 :: some (.int (iI x)) :: t) (.int (iI x) :: st)) : JW p l e R s m args below meth c cy D ad A nL cells slots Q σ pc (a0 :: a1 :: a2 :: a3 :: a4 :: a5 :: some (.int (iI x)) :: t) st := by
  intro H locs ls h1 h2 h3
  exact lv_iload C.1.1 C.1.2.1 d (h3.2.2 6 _ rfl) (k H locs ls h1 h2 h3)
theorem J_lload6 (C : Cx p l e R s m args below meth c cy D ad A nL cc own Ts) {a0 a1 a2 a3 a4 a5 : Option Value} {t : List (Option Value)} {x : Int} (d : decode cc pc = .ok (.lload 6, 2)) (k : JW p l e R s m args below meth c cy D ad A nL cells slots Q σ (pc + 2) (a0 :: a1 :: a2 :: a3 :: a4 :: a5 :: some (.long (lI x)) :: t) (.long (lI x) :: st)) : JW p l e R s m args below meth c cy D ad A nL cells slots Q σ pc (a0 :: a1 :: a2 :: a3 :: a4 :: a5 :: some (.long (lI x)) :: t) st := by
  intro H locs ls h1 h2 h3
  exact lv_lload C.1.1 C.1.2.1 d (h3.2.2 6 _ rfl) (k H locs ls h1 h2 h3)
theorem J_aload6 (C : Cx p l e R s m args below meth c cy D ad A nL cc own Ts) {a0 a1 a2 a3 a4 a5 : Option Value} {t : List (Option Value)} {x : Nat} (d : decode cc pc = .ok (.aload 6, 2)) (k : JW p l e R s m args below meth c cy D ad A nL cells slots Q σ (pc + 2) (a0 :: a1 :: a2 :: a3 :: a4 :: a5 :: some (.ref x) :: t) (.ref x :: st)) : JW p l e R s m args below meth c cy D ad A nL cells slots Q σ pc (a0 :: a1 :: a2 :: a3 :: a4 :: a5 :: some (.ref x) :: t) st := by
  intro H locs ls h1 h2 h3
  exact lv_aload C.1.1 C.1.2.1 d (h3.2.2 6 _ rfl) (k H locs ls h1 h2 h3)
theorem J_istore6 (C : Cx p l e R s m args below meth c cy D ad A nL cc own Ts) {a0 a1 a2 a3 a4 a5 : Option Value} {t : List (Option Value)} {b : Option Value} {x : Int} (hn : 6 < nL) (hp : nlo a5 = true) (d : decode cc pc = .ok (.istore 6, 2)) (k : JW p l e R s m args below meth c cy D ad A nL cells slots Q σ (pc + 2) (a0 :: a1 :: a2 :: a3 :: a4 :: a5 :: some (.int (iI x)) :: t) st) : JW p l e R s m args below meth c cy D ad A nL cells slots Q σ pc (a0 :: a1 :: a2 :: a3 :: a4 :: a5 :: b :: t) (.int (iI x) :: st) := by
  intro H locs ls h1 h2 h3
  exact lv_istore C.1.1 C.1.2.1 d h3.has hn rfl (fun ls' h' => k H locs ls' h1 h2 (Lh.set1 (show nlat ((a0 :: a1 :: a2 :: a3 :: a4 :: a5 :: b :: t)) 6 = true from hp) h'))
theorem J_astore6 (C : Cx p l e R s m args below meth c cy D ad A nL cc own Ts) {a0 a1 a2 a3 a4 a5 : Option Value} {t : List (Option Value)} {b : Option Value} {x : Nat} (hn : 6 < nL) (hp : nlo a5 = true) (d : decode cc pc = .ok (.astore 6, 2)) (k : JW p l e R s m args below meth c cy D ad A nL cells slots Q σ (pc + 2) (a0 :: a1 :: a2 :: a3 :: a4 :: a5 :: some (.ref x) :: t) st) : JW p l e R s m args below meth c cy D ad A nL cells slots Q σ pc (a0 :: a1 :: a2 :: a3 :: a4 :: a5 :: b :: t) (.ref x :: st) := by
  intro H locs ls h1 h2 h3
  exact lv_astore C.1.1 C.1.2.1 d h3.has hn rfl (fun ls' h' => k H locs ls' h1 h2 (Lh.set1 (show nlat ((a0 :: a1 :: a2 :: a3 :: a4 :: a5 :: b :: t)) 6 = true from hp) h'))
theorem J_lstore6 (C : Cx p l e R s m args below meth c cy D ad A nL cc own Ts) {a0 a1 a2 a3 a4 a5 : Option Value} {t : List (Option Value)} {b b2 : Option Value} {x : Int} (hn : 6 + 1 < nL) (hp : nlo a5 = true) (d : decode cc pc = .ok (.lstore 6, 2)) (k : JW p l e R s m args below meth c cy D ad A nL cells slots Q σ (pc + 2) (a0 :: a1 :: a2 :: a3 :: a4 :: a5 :: some (.long (lI x)) :: none :: t) st) : JW p l e R s m args below meth c cy D ad A nL cells slots Q σ pc (a0 :: a1 :: a2 :: a3 :: a4 :: a5 :: b :: b2 :: t) (.long (lI x) :: st) := by
  intro H locs ls h1 h2 h3
  exact lv_lstore C.1.1 C.1.2.1 d h3.has hn rfl (fun ls' h' => k H locs ls' h1 h2 (Lh.set2 (show nlat ((a0 :: a1 :: a2 :: a3 :: a4 :: a5 :: b :: b2 :: t)) 6 = true from hp) h'))
theorem J_iinc6 (C : Cx p l e R s m args below meth c cy D ad A nL cc own Ts) {a0 a1 a2 a3 a4 a5 : Option Value} {t : List (Option Value)} {x z : Int} (hn : 6 < nL) (hp : nlo a5 = true) (d : decode cc pc = .ok (.iinc 6 z, 3)) (k : JW p l e R s m args below meth c cy D ad A nL cells slots Q σ (pc + 3) (a0 :: a1 :: a2 :: a3 :: a4 :: a5 :: some (.int (iI (x + z))) :: t) st) : JW p l e R s m args below meth c cy D ad A nL cells slots Q σ pc (a0 :: a1 :: a2 :: a3 :: a4 :: a5 :: some (.int (iI x)) :: t) st := by
  intro H locs ls h1 h2 h3
  obtain ⟨i, hi⟩ := List.getElem?_of_mem (lhL_mem.mpr (show ((a0 :: a1 :: a2 :: a3 :: a4 :: a5 :: some (.int (iI x)) :: t))[6]? = some (some (.int (iI x))) from rfl))
  exact lv_iinc (v := iI (x + z)) (k := i) C.1.1 C.1.2.1 d h3.has hi (iI_add x z) hn rfl (fun ls' h' => k H locs ls' h1 h2 (Lh.set1 (show nlat ((a0 :: a1 :: a2 :: a3 :: a4 :: a5 :: some (.int (iI x)) :: t)) 6 = true from hp) h'))
theorem J_iload7 (C : Cx p l e R s m args below meth c cy D ad A nL cc own Ts) {a0 a1 a2 a3 a4 a5 a6 : Option Value} {t : List (Option Value)} {x : Int} (d : decode cc pc = .ok (.iload 7, 2)) (k : JW p l e R s m args below meth c cy D ad A nL cells slots Q σ (pc + 2) (a0 :: a1 :: a2 :: a3 :: a4 :: a5 :: a6 :: some (.int (iI x)) :: t) (.int (iI x) :: st)) : JW p l e R s m args below meth c cy D ad A nL cells slots Q σ pc (a0 :: a1 :: a2 :: a3 :: a4 :: a5 :: a6 :: some (.int (iI x)) :: t) st := by
  intro H locs ls h1 h2 h3
  exact lv_iload C.1.1 C.1.2.1 d (h3.2.2 7 _ rfl) (k H locs ls h1 h2 h3)
theorem J_lload7 (C : Cx p l e R s m args below meth c cy D ad A nL cc own Ts) {a0 a1 a2 a3 a4 a5 a6 : Option Value} {t : List (Option Value)} {x : Int} (d : decode cc pc = .ok (.lload 7, 2)) (k : JW p l e R s m args below meth c cy D ad A nL cells slots Q σ (pc + 2) (a0 :: a1 :: a2 :: a3 :: a4 :: a5 :: a6 :: some (.long (lI x)) :: t) (.long (lI x) :: st)) : JW p l e R s m args below meth c cy D ad A nL cells slots Q σ pc (a0 :: a1 :: a2 :: a3 :: a4 :: a5 :: a6 :: some (.long (lI x)) :: t) st := by
  intro H locs ls h1 h2 h3
  exact lv_lload C.1.1 C.1.2.1 d (h3.2.2 7 _ rfl) (k H locs ls h1 h2 h3)
theorem J_aload7 (C : Cx p l e R s m args below meth c cy D ad A nL cc own Ts) {a0 a1 a2 a3 a4 a5 a6 : Option Value} {t : List (Option Value)} {x : Nat} (d : decode cc pc = .ok (.aload 7, 2)) (k : JW p l e R s m args below meth c cy D ad A nL cells slots Q σ (pc + 2) (a0 :: a1 :: a2 :: a3 :: a4 :: a5 :: a6 :: some (.ref x) :: t) (.ref x :: st)) : JW p l e R s m args below meth c cy D ad A nL cells slots Q σ pc (a0 :: a1 :: a2 :: a3 :: a4 :: a5 :: a6 :: some (.ref x) :: t) st := by
  intro H locs ls h1 h2 h3
  exact lv_aload C.1.1 C.1.2.1 d (h3.2.2 7 _ rfl) (k H locs ls h1 h2 h3)
theorem J_istore7 (C : Cx p l e R s m args below meth c cy D ad A nL cc own Ts) {a0 a1 a2 a3 a4 a5 a6 : Option Value} {t : List (Option Value)} {b : Option Value} {x : Int} (hn : 7 < nL) (hp : nlo a6 = true) (d : decode cc pc = .ok (.istore 7, 2)) (k : JW p l e R s m args below meth c cy D ad A nL cells slots Q σ (pc + 2) (a0 :: a1 :: a2 :: a3 :: a4 :: a5 :: a6 :: some (.int (iI x)) :: t) st) : JW p l e R s m args below meth c cy D ad A nL cells slots Q σ pc (a0 :: a1 :: a2 :: a3 :: a4 :: a5 :: a6 :: b :: t) (.int (iI x) :: st) := by
  intro H locs ls h1 h2 h3
  exact lv_istore C.1.1 C.1.2.1 d h3.has hn rfl (fun ls' h' => k H locs ls' h1 h2 (Lh.set1 (show nlat ((a0 :: a1 :: a2 :: a3 :: a4 :: a5 :: a6 :: b :: t)) 7 = true from hp) h'))
theorem J_astore7 (C : Cx p l e R s m args below meth c cy D ad A nL cc own Ts) {a0 a1 a2 a3 a4 a5 a6 : Option Value} {t : List (Option Value)} {b : Option Value} {x : Nat} (hn : 7 < nL) (hp : nlo a6 = true) (d : decode cc pc = .ok (.astore 7, 2)) (k : JW p l e R s m args below meth c cy D ad A nL cells slots Q σ (pc + 2) (a0 :: a1 :: a2 :: a3 :: a4 :: a5 :: a6 :: some (.ref x) :: t) st) : JW p l e R s m args below meth c cy D ad A nL cells slots Q σ pc (a0 :: a1 :: a2 :: a3 :: a4 :: a5 :: a6 :: b :: t) (.ref x :: st) := by
  intro H locs ls h1 h2 h3
  exact lv_astore C.1.1 C.1.2.1 d h3.has hn rfl (fun ls' h' => k H locs ls' h1 h2 (Lh.set1 (show nlat ((a0 :: a1 :: a2 :: a3 :: a4 :: a5 :: a6 :: b :: t)) 7 = true from hp) h'))
theorem J_lstore7 (C : Cx p l e R s m args below meth c cy D ad A nL cc own Ts) {a0 a1 a2 a3 a4 a5 a6 : Option Value} {t : List (Option Value)} {b b2 : Option Value} {x : Int} (hn : 7 + 1 < nL) (hp : nlo a6 = true) (d : decode cc pc = .ok (.lstore 7, 2)) (k : JW p l e R s m args below meth c cy D ad A nL cells slots Q σ (pc + 2) (a0 :: a1 :: a2 :: a3 :: a4 :: a5 :: a6 :: some (.long (lI x)) :: none :: t) st) : JW p l e R s m args below meth c cy D ad A nL cells slots Q σ pc (a0 :: a1 :: a2 :: a3 :: a4 :: a5 :: a6 :: b :: b2 :: t) (.long (lI x) :: st) := by
  intro H locs ls h1 h2 h3
  exact lv_lstore C.1.1 C.1.2.1 d h3.has hn rfl (fun ls' h' => k H locs ls' h1 h2 (Lh.set2 (show nlat ((a0 :: a1 :: a2 :: a3 :: a4 :: a5 :: a6 :: b :: b2 :: t)) 7 = true from hp) h'))
theorem J_iinc7 (C : Cx p l e R s m args below meth c cy D ad A nL cc own Ts) {a0 a1 a2 a3 a4 a5 a6 : Option Value} {t : List (Option Value)} {x z : Int} (hn : 7 < nL) (hp : nlo a6 = true) (d : decode cc pc = .ok (.iinc 7 z, 3)) (k : JW p l e R s m args below meth c cy D ad A nL cells slots Q σ (pc + 3) (a0 :: a1 :: a2 :: a3 :: a4 :: a5 :: a6 :: some (.int (iI (x + z))) :: t) st) : JW p l e R s m args below meth c cy D ad A nL cells slots Q σ pc (a0 :: a1 :: a2 :: a3 :: a4 :: a5 :: a6 :: some (.int (iI x)) :: t) st := by
  intro H locs ls h1 h2 h3
  obtain ⟨i, hi⟩ := List.getElem?_of_mem (lhL_mem.mpr (show ((a0 :: a1 :: a2 :: a3 :: a4 :: a5 :: a6 :: some (.int (iI x)) :: t))[7]? = some (some (.int (iI x))) from rfl))
  exact lv_iinc (v := iI (x + z)) (k := i) C.1.1 C.1.2.1 d h3.has hi (iI_add x z) hn rfl (fun ls' h' => k H locs ls' h1 h2 (Lh.set1 (show nlat ((a0 :: a1 :: a2 :: a3 :: a4 :: a5 :: a6 :: some (.int (iI x)) :: t)) 7 = true from hp) h'))
theorem J_iload8 (C : Cx p l e R s m args below meth c cy D ad A nL cc own Ts) {a0 a1 a2 a3 a4 a5 a6 a7 : Option Value} {t : List (Option Value)} {x : Int} (d : decode cc pc = .ok (.iload 8, 2)) (k : JW p l e R s m args below meth c cy D ad A nL cells slots Q σ (pc + 2) (a0 :: a1 :: a2 :: a3 :: a4 :: a5 :: a6 :: a7 :: some (.int (iI x)) :: t) (.int (iI x) :: st)) : JW p l e R s m args below meth c cy D ad A nL cells slots Q σ pc (a0 :: a1 :: a2 :: a3 :: a4 :: a5 :: a6 :: a7 :: some (.int (iI x)) :: t) st := by
  intro H locs ls h1 h2 h3
  exact lv_iload C.1.1 C.1.2.1 d (h3.2.2 8 _ rfl) (k H locs ls h1 h2 h3)
theorem J_lload8 (C : Cx p l e R s m args below meth c cy D ad A nL cc own Ts) {a0 a1 a2 a3 a4 a5 a6 a7 : Option Value} {t : List (Option Value)} {x : Int} (d : decode cc pc = .ok (.lload 8, 2)) (k : JW p l e R s m args below meth c cy D ad A nL cells slots Q σ (pc + 2) (a0 :: a1 :: a2 :: a3 :: a4 :: a5 :: a6 :: a7 :: some (.long (lI x)) :: t) (.long (lI x) :: st)) : JW p l e R s m args below meth c cy D ad A nL cells slots Q σ pc (a0 :: a1 :: a2 :: a3 :: a4 :: a5 :: a6 :: a7 :: some (.long (lI x)) :: t) st := by
  intro H locs ls h1 h2 h3
  exact lv_lload C.1.1 C.1.2.1 d (h3.2.2 8 _ rfl) (k H locs ls h1 h2 h3)
theorem J_aload8 (C : Cx p l e R s m args below meth c cy D ad A nL cc own Ts) {a0 a1 a2 a3 a4 a5 a6 a7 : Option Value} {t : List (Option Value)} {x : Nat} (d : decode cc pc = .ok (.aload 8, 2)) (k : JW p l e R s m args below meth c cy D ad A nL cells slots Q σ (pc + 2) (a0 :: a1 :: a2 :: a3 :: a4 :: a5 :: a6 :: a7 :: some (.ref x) :: t) (.ref x :: st)) : JW p l e R s m args below meth c cy D ad A nL cells slots Q σ pc (a0 :: a1 :: a2 :: a3 :: a4 :: a5 :: a6 :: a7 :: some (.ref x) :: t) st := by
  intro H locs ls h1 h2 h3
  exact lv_aload C.1.1 C.1.2.1 d (h3.2.2 8 _ rfl) (k H locs ls h1 h2 h3)
theorem J_istore8 (C : Cx p l e R s m args below meth c cy D ad A nL cc own Ts) {a0 a1 a2 a3 a4 a5 a6 a7 : Option Value} {t : List (Option Value)} {b : Option Value} {x : Int} (hn : 8 < nL) (hp : nlo a7 = true) (d : decode cc pc = .ok (.istore 8, 2)) (k : JW p l e R s m args below meth c cy D ad A nL cells slots Q σ (pc + 2) (a0 :: a1 :: a2 :: a3 :: a4 :: a5 :: a6 :: a7 :: some (.int (iI x)) :: t) st) : JW p l e R s m args below meth c cy D ad A nL cells slots Q σ pc (a0 :: a1 :: a2 :: a3 :: a4 :: a5 :: a6 :: a7 :: b :: t) (.int (iI x) :: st) := by
  intro H locs ls h1 h2 h3
  exact lv_istore C.1.1 C.1.2.1 d h3.has hn rfl (fun ls' h' => k H locs ls' h1 h2 (Lh.set1 (show nlat ((a0 :: a1 :: a2 :: a3 :: a4 :: a5 :: a6 :: a7 :: b :: t)) 8 = true from hp) h'))
theorem J_astore8 (C : Cx p l e R s m args below meth c cy D ad A nL cc own Ts) {a0 a1 a2 a3 a4 a5 a6 a7 : Option Value} {t : List (Option Value)} {b : Option Value} {x : Nat} (hn : 8 < nL) (hp : nlo a7 = true) (d : decode cc pc = .ok (.astore 8, 2)) (k : JW p l e R s m args below meth c cy D ad A nL cells slots Q σ (pc + 2) (a0 :: a1 :: a2 :: a3 :: a4 :: a5 :: a6 :: a7 :: some (.ref x) :: t) st) : JW p l e R s m args below meth c cy D ad A nL cells slots Q σ pc (a0 :: a1 :: a2 :: a3 :: a4 :: a5 :: a6 :: a7 :: b :: t) (.ref x :: st) := by
  intro H locs ls h1 h2 h3
  exact lv_astore C.1.1 C.1.2.1 d h3.has hn rfl (fun ls' h' => k H locs ls' h1 h2 (Lh.set1 (show nlat ((a0 :: a1 :: a2 :: a3 :: a4 :: a5 :: a6 :: a7 :: b :: t)) 8 = true from hp) h'))
theorem J_lstore8 (C : Cx p l e R s m args below meth c cy D ad A nL cc own Ts) {a0 a1 a2 a3 a4 a5 a6 a7 : Option Value} {t : List (Option Value)} {b b2 : Option Value} {x : Int} (hn : 8 + 1 < nL) (hp : nlo a7 = true) (d : decode cc pc = .ok (.lstore 8, 2)) (k : JW p l e R s m args below meth c cy D ad A nL cells slots Q σ (pc + 2) (a0 :: a1 :: a2 :: a3 :: a4 :: a5 :: a6 :: a7 :: some (.long (lI x)) :: none :: t) st) : JW p l e R s m args below meth c cy D ad A nL cells slots Q σ pc (a0 :: a1 :: a2 :: a3 :: a4 :: a5 :: a6 :: a7 :: b :: b2 :: t) (.long (lI x) :: st) := by
  intro H locs ls h1 h2 h3
  exact lv_lstore C.1.1 C.1.2.1 d h3.has hn rfl (fun ls' h' => k H locs ls' h1 h2 (Lh.set2 (show nlat ((a0 :: a1 :: a2 :: a3 :: a4 :: a5 :: a6 :: a7 :: b :: b2 :: t)) 8 = true from hp) h'))
theorem J_iinc8 (C : Cx p l e R s m args below meth c cy D ad A nL cc own Ts) {a0 a1 a2 a3 a4 a5 a6 a7 : Option Value} {t : List (Option Value)} {x z : Int} (hn : 8 < nL) (hp : nlo a7 = true) (d : decode cc pc = .ok (.iinc 8 z, 3)) (k : JW p l e R s m args below meth c cy D ad A nL cells slots Q σ (pc + 3) (a0 :: a1 :: a2 :: a3 :: a4 :: a5 :: a6 :: a7 :: some (.int (iI (x + z))) :: t) st) : JW p l e R s m args below meth c cy D ad A nL cells slots Q σ pc (a0 :: a1 :: a2 :: a3 :: a4 :: a5 :: a6 :: a7 :: some (.int (iI x)) :: t) st := by
  intro H locs ls h1 h2 h3
  obtain ⟨i, hi⟩ := List.getElem?_of_mem (lhL_mem.mpr (show ((a0 :: a1 :: a2 :: a3 :: a4 :: a5 :: a6 :: a7 :: some (.int (iI x)) :: t))[8]? = some (some (.int (iI x))) from rfl))
  exact lv_iinc (v := iI (x + z)) (k := i) C.1.1 C.1.2.1 d h3.has hi (iI_add x z) hn rfl (fun ls' h' => k H locs ls' h1 h2 (Lh.set1 (show nlat ((a0 :: a1 :: a2 :: a3 :: a4 :: a5 :: a6 :: a7 :: some (.int (iI x)) :: t)) 8 = true from hp) h'))
theorem J_iload9 (C : Cx p l e R s m args below meth c cy D ad A nL cc own Ts) {a0 a1 a2 a3 a4 a5 a6 a7 a8 : Option Value} {t : List (Option Value)} {x : Int} (d : decode cc pc = .ok (.iload 9, 2)) (k : JW p l e R s m args below meth c cy D ad A nL cells slots Q σ (pc + 2) (a0 :: a1 :: a2 :: a3 :: a4 :: a5 :: a6 :: a7 :: a8 :: some (.int (iI x)) :: t) (.int (iI x) :: st)) : JW p l e R s m args below meth c cy D ad A nL cells slots Q σ pc (a0 :: a1 :: a2 :: a3 :: a4 :: a5 :: a6 :: a7 :: a8 :: some (.int (iI x)) :: t) st := by
  intro H locs ls h1 h2 h3
  exact lv_iload C.1.1 C.1.2.1 d (h3.2.2 9 _ rfl) (k H locs ls h1 h2 h3)
theorem J_lload9 (C : Cx p l e R s m args below meth c cy D ad A nL cc own Ts) {a0 a1 a2 a3 a4 a5 a6 a7 a8 : Option Value} {t : List (Option Value)} {x : Int} (d : decode cc pc = .ok (.lload 9, 2)) (k : JW p l e R s m args below meth c cy D ad A nL cells slots Q σ (pc + 2) (a0 :: a1 :: a2 :: a3 :: a4 :: a5 :: a6 :: a7 :: a8 :: some (.long (lI x)) :: t) (.long (lI x) :: st)) : JW p l e R s m args below meth c cy D ad A nL cells slots Q σ pc (a0 :: a1 :: a2 :: a3 :: a4 :: a5 :: a6 :: a7 :: a8 :: some (.long (lI x)) :: t) st := by
  intro H locs ls h1 h2 h3
  exact lv_lload C.1.1 C.1.2.1 d (h3.2.2 9 _ rfl) (k H locs ls h1 h2 h3)
theorem J_aload9 (C : Cx p l e R s m args below meth c cy D ad A nL cc own Ts) {a0 a1 a2 a3 a4 a5 a6 a7 a8 : Option Value} {t : List (Option Value)} {x : Nat} (d : decode cc pc = .ok (.aload 9, 2)) (k : JW p l e R s m args below meth c cy D ad A nL cells slots Q σ (pc + 2) (a0 :: a1 :: a2 :: a3 :: a4 :: a5 :: a6 :: a7 :: a8 :: some (.ref x) :: t) (.ref x :: st)) : JW p l e R s m args below meth c cy D ad A nL cells slots Q σ pc (a0 :: a1 :: a2 :: a3 :: a4 :: a5 :: a6 :: a7 :: a8 :: some (.ref x) :: t) st := by
  intro H locs ls h1 h2 h3
  exact lv_aload C.1.1 C.1.2.1 d (h3.2.2 9 _ rfl) (k H locs ls h1 h2 h3)
theorem J_istore9 (C : Cx p l e R s m args below meth c cy D ad A nL cc own Ts) {a0 a1 a2 a3 a4 a5 a6 a7 a8 : Option Value} {t : List (Option Value)} {b : Option Value} {x : Int} (hn : 9 < nL) (hp : nlo a8 = true) (d : decode cc pc = .ok (.istore 9, 2)) (k : JW p l e R s m args below meth c cy D ad A nL cells slots Q σ (pc + 2) (a0 :: a1 :: a2 :: a3 :: a4 :: a5 :: a6 :: a7 :: a8 :: some (.int (iI x)) :: t) st) : JW p l e R s m args below meth c cy D ad A nL cells slots Q σ pc (a0 :: a1 :: a2 :: a3 :: a4 :: a5 :: a6 :: a7 :: a8 :: b :: t) (.int (iI x) :: st) := by
  intro H locs ls h1 h2 h3
  exact lv_istore C.1.1 C.1.2.1 d h3.has hn rfl (fun ls' h' => k H locs ls' h1 h2 (Lh.set1 (show nlat ((a0 :: a1 :: a2 :: a3 :: a4 :: a5 :: a6 :: a7 :: a8 :: b :: t)) 9 = true from hp) h'))
theorem J_astore9 (C : Cx p l e R s m args below meth c cy D ad A nL cc own Ts) {a0 a1 a2 a3 a4 a5 a6 a7 a8 : Option Value} {t : List (Option Value)} {b : Option Value} {x : Nat} (hn : 9 < nL) (hp : nlo a8 = true) (d : decode cc pc = .ok (.astore 9, 2)) (k : JW p l e R s m args below meth c cy D ad A nL cells slots Q σ (pc + 2) (a0 :: a1 :: a2 :: a3 :: a4 :: a5 :: a6 :: a7 :: a8 :: some (.ref x) :: t) st) : JW p l e R s m args below meth c cy D ad A nL cells slots Q σ pc (a0 :: a1 :: a2 :: a3 :: a4 :: a5 :: a6 :: a7 :: a8 :: b :: t) (.ref x :: st) := by
  intro H locs ls h1 h2 h3
  exact lv_astore C.1.1 C.1.2.1 d h3.has hn rfl (fun ls' h' => k H locs ls' h1 h2 (Lh.set1 (show nlat ((a0 :: a1 :: a2 :: a3 :: a4 :: a5 :: a6 :: a7 :: a8 :: b :: t)) 9 = true from hp) h'))
theorem J_lstore9 (C : Cx p l e R s m args below meth c cy D ad A nL cc own Ts) {a0 a1 a2 a3 a4 a5 a6 a7 a8 : Option Value} {t : List (Option Value)} {b b2 : Option Value} {x : Int} (hn : 9 + 1 < nL) (hp : nlo a8 = true) (d : decode cc pc = .ok (.lstore 9, 2)) (k : JW p l e R s m args below meth c cy D ad A nL cells slots Q σ (pc + 2) (a0 :: a1 :: a2 :: a3 :: a4 :: a5 :: a6 :: a7 :: a8 :: some (.long (lI x)) :: none :: t) st) : JW p l e R s m args below meth c cy D ad A nL cells slots Q σ pc (a0 :: a1 :: a2 :: a3 :: a4 :: a5 :: a6 :: a7 :: a8 :: b :: b2 :: t) (.long (lI x) :: st) := by
  intro H locs ls h1 h2 h3
  exact lv_lstore C.1.1 C.1.2.1 d h3.has hn rfl (fun ls' h' => k H locs ls' h1 h2 (Lh.set2 (show nlat ((a0 :: a1 :: a2 :: a3 :: a4 :: a5 :: a6 :: a7 :: a8 :: b :: b2 :: t)) 9 = true from hp) h'))
theorem J_iinc9 (C : Cx p l e R s m args below meth c cy D ad A nL cc own Ts) {a0 a1 a2 a3 a4 a5 a6 a7 a8 : Option Value} {t : List (Option Value)} {x z : Int} (hn : 9 < nL) (hp : nlo a8 = true) (d : decode cc pc = .ok (.iinc 9 z, 3)) (k : JW p l e R s m args below meth c cy D ad A nL cells slots Q σ (pc + 3) (a0 :: a1 :: a2 :: a3 :: a4 :: a5 :: a6 :: a7 :: a8 :: some (.int (iI (x + z))) :: t) st) : JW p l e R s m args below meth c cy D ad A nL cells slots Q σ pc (a0 :: a1 :: a2 :: a3 :: a4 :: a5 :: a6 :: a7 :: a8 :: some (.int (iI x)) :: t) st := by
  intro H locs ls h1 h2 h3
  obtain ⟨i, hi⟩ := List.getElem?_of_mem (lhL_mem.mpr (show ((a0 :: a1 :: a2 :: a3 :: a4 :: a5 :: a6 :: a7 :: a8 :: some (.int (iI x)) :: t))[9]? = some (some (.int (iI x))) from rfl))
  exact lv_iinc (v := iI (x + z)) (k := i) C.1.1 C.1.2.1 d h3.has hi (iI_add x z) hn rfl (fun ls' h' => k H locs ls' h1 h2 (Lh.set1 (show nlat ((a0 :: a1 :: a2 :: a3 :: a4 :: a5 :: a6 :: a7 :: a8 :: some (.int (iI x)) :: t)) 9 = true from hp) h'))
theorem J_iload10 (C : Cx p l e R s m args below meth c cy D ad A nL cc own Ts) {a0 a1 a2 a3 a4 a5 a6 a7 a8 a9 : Option Value} {t : List (Option Value)} {x : Int} (d : decode cc pc = .ok (.iload 10, 2)) (k : JW p l e R s m args below meth c cy D ad A nL cells slots Q σ (pc + 2) (a0 :: a1 :: a2 :: a3 :: a4 :: a5 :: a6 :: a7 :: a8 :: a9 :: some (.int (iI x)) :: t) (.int (iI x) :: st)) : JW p l e R s m args below meth c cy D ad A nL cells slots Q σ pc (a0 :: a1 :: a2 :: a3 :: a4 :: a5 :: a6 :: a7 :: a8 :: a9 :: some (.int (iI x)) :: t) st := by
  intro H locs ls h1 h2 h3
  exact lv_iload C.1.1 C.1.2.1 d (h3.2.2 10 _ rfl) (k H locs ls h1 h2 h3)
theorem J_lload10 (C : Cx p l e R s m args below meth c cy D ad A nL cc own Ts) {a0 a1 a2 a3 a4 a5 a6 a7 a8 a9 : Option Value} {t : List (Option Value)} {x : Int} (d : decode cc pc = .ok (.lload 10, 2)) (k : JW p l e R s m args below meth c cy D ad A nL cells slots Q σ (pc + 2) (a0 :: a1 :: a2 :: a3 :: a4 :: a5 :: a6 :: a7 :: a8 :: a9 :: some (.long (lI x)) :: t) (.long (lI x) :: st)) : JW p l e R s m args below meth c cy D ad A nL cells slots Q σ pc (a0 :: a1 :: a2 :: a3 :: a4 :: a5 :: a6 :: a7 :: a8 :: a9 :: some (.long (lI x)) :: t) st := by
  intro H locs ls h1 h2 h3
  exact lv_lload C.1.1 C.1.2.1 d (h3.2.2 10 _ rfl) (k H locs ls h1 h2 h3)
theorem J_aload10 (C : Cx p l e R s m args below meth c cy D ad A nL cc own Ts) {a0 a1 a2 a3 a4 a5 a6 a7 a8 a9 : Option Value} {t : List (Option Value)} {x : Nat} (d : decode cc pc = .ok (.aload 10, 2)) (k : JW p l e R s m args below meth c cy D ad A nL cells slots Q σ (pc + 2) (a0 :: a1 :: a2 :: a3 :: a4 :: a5 :: a6 :: a7 :: a8 :: a9 :: some (.ref x) :: t) (.ref x :: st)) : JW p l e R s m args below meth c cy D ad A nL cells slots Q σ pc (a0 :: a1 :: a2 :: a3 :: a4 :: a5 :: a6 :: a7 :: a8 :: a9 :: some (.ref x) :: t) st := by
  intro H locs ls h1 h2 h3
  exact lv_aload C.1.1 C.1.2.1 d (h3.2.2 10 _ rfl) (k H locs ls h1 h2 h3)
theorem J_istore10 (C : Cx p l e R s m args below meth c cy D ad A nL cc own Ts) {a0 a1 a2 a3 a4 a5 a6 a7 a8 a9 : Option Value} {t : List (Option Value)} {b : Option Value} {x : Int} (hn : 10 < nL) (hp : nlo a9 = true) (d : decode cc pc = .ok (.istore 10, 2)) (k : JW p l e R s m args below meth c cy D ad A nL cells slots Q σ (pc + 2) (a0 :: a1 :: a2 :: a3 :: a4 :: a5 :: a6 :: a7 :: a8 :: a9 :: some (.int (iI x)) :: t) st) : JW p l e R s m args below meth c cy D ad A nL cells slots Q σ pc (a0 :: a1 :: a2 :: a3 :: a4 :: a5 :: a6 :: a7 :: a8 :: a9 :: b :: t) (.int (iI x) :: st) := by
  intro H locs ls h1 h2 h3
  exact lv_istore C.1.1 C.1.2.1 d h3.has hn rfl (fun ls' h' => k H locs ls' h1 h2 (Lh.set1 (show nlat ((a0 :: a1 :: a2 :: a3 :: a4 :: a5 :: a6 :: a7 :: a8 :: a9 :: b :: t)) 10 = true from hp) h'))
theorem J_astore10 (C : Cx p l e R s m args below meth c cy D ad A nL cc own Ts) {a0 a1 a2 a3 a4 a5 a6 a7 a8 a9 : Option Value} {t : List (Option Value)} {b : Option Value} {x : Nat} (hn : 10 < nL) (hp : nlo a9 = true) (d : decode cc pc = .ok (.astore 10, 2)) (k : JW p l e R s m args below meth c cy D ad A nL cells slots Q σ (pc + 2) (a0 :: a1 :: a2 :: a3 :: a4 :: a5 :: a6 :: a7 :: a8 :: a9 :: some (.ref x) :: t) st) : JW p l e R s m args below meth c cy D ad A nL cells slots Q σ pc (a0 :: a1 :: a2 :: a3 :: a4 :: a5 :: a6 :: a7 :: a8 :: a9 :: b :: t) (.ref x :: st) := by
  intro H locs ls h1 h2 h3
  exact lv_astore C.1.1 C.1.2.1 d h3.has hn rfl (fun ls' h' => k H locs ls' h1 h2 (Lh.set1 (show nlat ((a0 :: a1 :: a2 :: a3 :: a4 :: a5 :: a6 :: a7 :: a8 :: a9 :: b :: t)) 10 = true from hp) h'))
theorem J_lstore10 (C : Cx p l e R s m args below meth c cy D ad A nL cc own Ts) {a0 a1 a2 a3 a4 a5 a6 a7 a8 a9 : Option Value} {t : List (Option Value)} {b b2 : Option Value} {x : Int} (hn : 10 + 1 < nL) (hp : nlo a9 = true) (d : decode cc pc = .ok (.lstore 10, 2)) (k : JW p l e R s m args below meth c cy D ad A nL cells slots Q σ (pc + 2) (a0 :: a1 :: a2 :: a3 :: a4 :: a5 :: a6 :: a7 :: a8 :: a9 :: some (.long (lI x)) :: none :: t) st) : JW p l e R s m args below meth c cy D ad A nL cells slots Q σ pc (a0 :: a1 :: a2 :: a3 :: a4 :: a5 :: a6 :: a7 :: a8 :: a9 :: b :: b2 :: t) (.long (lI x) :: st) := by
  intro H locs ls h1 h2 h3
  exact lv_lstore C.1.1 C.1.2.1 d h3.has hn rfl (fun ls' h' => k H locs ls' h1 h2 (Lh.set2 (show nlat ((a0 :: a1 :: a2 :: a3 :: a4 :: a5 :: a6 :: a7 :: a8 :: a9 :: b :: b2 :: t)) 10 = true from hp) h'))
theorem J_iinc10 (C : Cx p l e R s m args below meth c cy D ad A nL cc own Ts) {a0 a1 a2 a3 a4 a5 a6 a7 a8 a9 : Option Value} {t : List (Option Value)} {x z : Int} (hn : 10 < nL) (hp : nlo a9 = true) (d : decode cc pc = .ok (.iinc 10 z, 3)) (k : JW p l e R s m args below meth c cy D ad A nL cells slots Q σ (pc + 3) (a0 :: a1 :: a2 :: a3 :: a4 :: a5 :: a6 :: a7 :: a8 :: a9 :: some (.int (iI (x + z))) :: t) st) : JW p l e R s m args below meth c cy D ad A nL cells slots Q σ pc (a0 :: a1 :: a2 :: a3 :: a4 :: a5 :: a6 :: a7 :: a8 :: a9 :: some (.int (iI x)) :: t) st := by
  intro H locs ls h1 h2 h3
  obtain ⟨i, hi⟩ := List.getElem?_of_mem (lhL_mem.mpr (show ((a0 :: a1 :: a2 :: a3 :: a4 :: a5 :: a6 :: a7 :: a8 :: a9 :: some (.int (iI x)) :: t))[10]? = some (some (.int (iI x))) from rfl))
  exact lv_iinc (v := iI (x + z)) (k := i) C.1.1 C.1.2.1 d h3.has hi (iI_add x z) hn rfl (fun ls' h' => k H locs ls' h1 h2 (Lh.set1 (show nlat ((a0 :: a1 :: a2 :: a3 :: a4 :: a5 :: a6 :: a7 :: a8 :: a9 :: some (.int (iI x)) :: t)) 10 = true from hp) h'))
theorem J_iload11 (C : Cx p l e R s m args below meth c cy D ad A nL cc own Ts) {a0 a1 a2 a3 a4 a5 a6 a7 a8 a9 a10 : Option Value} {t : List (Option Value)} {x : Int} (d : decode cc pc = .ok (.iload 11, 2)) (k : JW p l e R s m args below meth c cy D ad A nL cells slots Q σ (pc + 2) (a0 :: a1 :: a2 :: a3 :: a4 :: a5 :: a6 :: a7 :: a8 :: a9 :: a10 :: some (.int (iI x)) :: t) (.int (iI x) :: st)) : JW p l e R s m args below meth c cy D ad A nL cells slots Q σ pc (a0 :: a1 :: a2 :: a3 :: a4 :: a5 :: a6 :: a7 :: a8 :: a9 :: a10 :: some (.int (iI x)) :: t) st := by
  intro H locs ls h1 h2 h3
  exact lv_iload C.1.1 C.1.2.1 d (h3.2.2 11 _ rfl) (k H locs ls h1 h2 h3)
theorem J_lload11 (C : Cx p l e R s m args below meth c cy D ad A nL cc own Ts) {a0 a1 a2 a3 a4 a5 a6 a7 a8 a9 a10 : Option Value} {t : List (Option Value)} {x : Int} (d : decode cc pc = .ok (.lload 11, 2)) (k : JW p l e R s m args below meth c cy D ad A nL cells slots Q σ (pc + 2) (a0 :: a1 :: a2 :: a3 :: a4 :: a5 :: a6 :: a7 :: a8 :: a9 :: a10 :: some (.long (lI x)) :: t) (.long (lI x) :: st)) : JW p l e R s m args below meth c cy D ad A nL cells slots Q σ pc (a0 :: a1 :: a2 :: a3 :: a4 :: a5 :: a6 :: a7 :: a8 :: a9 :: a10 :: some (.long (lI x)) :: t) st := by
  intro H locs ls h1 h2 h3
  exact lv_lload C.1.1 C.1.2.1 d (h3.2.2 11 _ rfl) (k H locs ls h1 h2 h3)
theorem J_aload11 (C : Cx p l e R s m args below meth c cy D ad A nL cc own Ts) {a0 a1 a2 a3 a4 a5 a6 a7 a8 a9 a10 : Option Value} {t : List (Option Value)} {x : Nat} (d : decode cc pc = .ok (.aload 11, 2)) (k : JW p l e R s m args below meth c cy D ad A nL cells slots Q σ (pc + 2) (a0 :: a1 :: a2 :: a3 :: a4 :: a5 :: a6 :: a7 :: a8 :: a9 :: a10 :: some (.ref x) :: t) (.ref x :: st)) : JW p l e R s m args below meth c cy D ad A nL cells slots Q σ pc (a0 :: a1 :: a2 :: a3 :: a4 :: a5 :: a6 :: a7 :: a8 :: a9 :: a10 :: some (.ref x) :: t) st := by
  intro H locs ls h1 h2 h3
  exact lv_aload C.1.1 C.1.2.1 d (h3.2.2 11 _ rfl) (k H locs ls h1 h2 h3)
theorem J_istore11 (C : Cx p l e R s m args below meth c cy D ad A nL cc own Ts) {a0 a1 a2 a3 a4 a5 a6 a7 a8 a9 a10 : Option Value} {t : List (Option Value)} {b : Option Value} {x : Int} (hn : 11 < nL) (hp : nlo a10 = true) (d : decode cc pc = .ok (.istore 11, 2)) (k : JW p l e R s m args below meth c cy D ad A nL cells slots Q σ (pc + 2) (a0 :: a1 :: a2 :: a3 :: a4 :: a5 :: a6 :: a7 :: a8 :: a9 :: a10 :: some (.int (iI x)) :: t) st) : JW p l e R s m args below meth c cy D ad A nL cells slots Q σ pc (a0 :: a1 :: a2 :: a3 :: a4 :: a5 :: a6 :: a7 :: a8 :: a9 :: a10 :: b :: t) (.int (iI x) :: st) := by
  intro H locs ls h1 h2 h3
  exact lv_istore C.1.1 C.1.2.1 d h3.has hn rfl (fun ls' h' => k H locs ls' h1 h2 (Lh.set1 (show nlat ((a0 :: a1 :: a2 :: a3 :: a4 :: a5 :: a6 :: a7 :: a8 :: a9 :: a10 :: b :: t)) 11 = true from hp) h'))
theorem J_astore11 (C : Cx p l e R s m args below meth c cy D ad A nL cc own Ts) {a0 a1 a2 a3 a4 a5 a6 a7 a8 a9 a10 : Option Value} {t : List (Option Value)} {b : Option Value} {x : Nat} (hn : 11 < nL) (hp : nlo a10 = true) (d : decode cc pc = .ok (.astore 11, 2)) (k : JW p l e R s m args below meth c cy D ad A nL cells slots Q σ (pc + 2) (a0 :: a1 :: a2 :: a3 :: a4 :: a5 :: a6 :: a7 :: a8 :: a9 :: a10 :: some (.ref x) :: t) st) : JW p l e R s m args below meth c cy D ad A nL cells slots Q σ pc (a0 :: a1 :: a2 :: a3 :: a4 :: a5 :: a6 :: a7 :: a8 :: a9 :: a10 :: b :: t) (.ref x :: st) := by
  intro H locs ls h1 h2 h3
  exact lv_astore C.1.1 C.1.2.1 d h3.has hn rfl (fun ls' h' => k H locs ls' h1 h2 (Lh.set1 (show nlat ((a0 :: a1 :: a2 :: a3 :: a4 :: a5 :: a6 :: a7 :: a8 :: a9 :: a10 :: b :: t)) 11 = true from hp) h'))
theorem J_lstore11 (C : Cx p l e R s m args below meth c cy D ad A nL cc own Ts) {a0 a1 a2 a3 a4 a5 a6 a7 a8 a9 a10 : Option Value} {t : List (Option Value)} {b b2 : Option Value} {x : Int} (hn : 11 + 1 < nL) (hp : nlo a10 = true) (d : decode cc pc = .ok (.lstore 11, 2)) (k : JW p l e R s m args below meth c cy D ad A nL cells slots Q σ (pc + 2) (a0 :: a1 :: a2 :: a3 :: a4 :: a5 :: a6 :: a7 :: a8 :: a9 :: a10 :: some (.long (lI x)) :: none :: t) st) : JW p l e R s m args below meth c cy D ad A nL cells slots Q σ pc (a0 :: a1 :: a2 :: a3 :: a4 :: a5 :: a6 :: a7 :: a8 :: a9 :: a10 :: b :: b2 :: t) (.long (lI x) :: st) := by
  intro H locs ls h1 h2 h3
  exact lv_lstore C.1.1 C.1.2.1 d h3.has hn rfl (fun ls' h' => k H locs ls' h1 h2 (Lh.set2 (show nlat ((a0 :: a1 :: a2 :: a3 :: a4 :: a5 :: a6 :: a7 :: a8 :: a9 :: a10 :: b :: b2 :: t)) 11 = true from hp) h'))
theorem J_iinc11 (C : Cx p l e R s m args below meth c cy D ad A nL cc own Ts) {a0 a1 a2 a3 a4 a5 a6 a7 a8 a9 a10 : Option Value} {t : List (Option Value)} {x z : Int} (hn : 11 < nL) (hp : nlo a10 = true) (d : decode cc pc = .ok (.iinc 11 z, 3)) (k : JW p l e R s m args below meth c cy D ad A nL cells slots Q σ (pc + 3) (a0 :: a1 :: a2 :: a3 :: a4 :: a5 :: a6 :: a7 :: a8 :: a9 :: a10 :: some (.int (iI (x + z))) :: t) st) : JW p l e R s m args below meth c cy D ad A nL cells slots Q σ pc (a0 :: a1 :: a2 :: a3 :: a4 :: a5 :: a6 :: a7 :: a8 :: a9 :: a10 :: some (.int (iI x)) :: t) st := by
  intro H locs ls h1 h2 h3
  obtain ⟨i, hi⟩ := List.getElem?_of_mem (lhL_mem.mpr (show ((a0 :: a1 :: a2 :: a3 :: a4 :: a5 :: a6 :: a7 :: a8 :: a9 :: a10 :: some (.int (iI x)) :: t))[11]? = some (some (.int (iI x))) from rfl))
  exact lv_iinc (v := iI (x + z)) (k := i) C.1.1 C.1.2.1 d h3.has hi (iI_add x z) hn rfl (fun ls' h' => k H locs ls' h1 h2 (Lh.set1 (show nlat ((a0 :: a1 :: a2 :: a3 :: a4 :: a5 :: a6 :: a7 :: a8 :: a9 :: a10 :: some (.int (iI x)) :: t)) 11 = true from hp) h'))
theorem J_iload12 (C : Cx p l e R s m args below meth c cy D ad A nL cc own Ts) {a0 a1 a2 a3 a4 a5 a6 a7 a8 a9 a10 a11 : Option Value} {t : List (Option Value)} {x : Int} (d : decode cc pc = .ok (.iload 12, 2)) (k : JW p l e R s m args below meth c cy D ad A nL cells slots Q σ (pc + 2) (a0 :: a1 :: a2 :: a3 :: a4 :: a5 :: a6 :: a7 :: a8 :: a9 :: a10 :: a11 :: some (.int (iI x)) :: t) (.int (iI x) :: st)) : JW p l e R s m args below meth c cy D ad A nL cells slots Q σ pc (a0 :: a1 :: a2 :: a3 :: a4 :: a5 :: a6 :: a7 :: a8 :: a9 :: a10 :: a11 :: some (.int (iI x)) :: t) st := by
  intro H locs ls h1 h2 h3
  exact lv_iload C.1.1 C.1.2.1 d (h3.2.2 12 _ rfl) (k H locs ls h1 h2 h3)
theorem J_lload12 (C : Cx p l e R s m args below meth c cy D ad A nL cc own Ts) {a0 a1 a2 a3 a4 a5 a6 a7 a8 a9 a10 a11 : Option Value} {t : List (Option Value)} {x : Int} (d : decode cc pc = .ok (.lload 12, 2)) (k : JW p l e R s m args below meth c cy D ad A nL cells slots Q σ (pc + 2) (a0 :: a1 :: a2 :: a3 :: a4 :: a5 :: a6 :: a7 :: a8 :: a9 :: a10 :: a11 :: some (.long (lI x)) :: t) (.long (lI x) :: st)) : JW p l e R s m args below meth c cy D ad A nL cells slots Q σ pc (a0 :: a1 :: a2 :: a3 :: a4 :: a5 :: a6 :: a7 :: a8 :: a9 :: a10 :: a11 :: some (.long (lI x)) :: t) st := by
  intro H locs ls h1 h2 h3
  exact lv_lload C.1.1 C.1.2.1 d (h3.2.2 12 _ rfl) (k H locs ls h1 h2 h3)
theorem J_aload12 (C : Cx p l e R s m args below meth c cy D ad A nL cc own Ts) {a0 a1 a2 a3 a4 a5 a6 a7 a8 a9 a10 a11 : Option Value} {t : List (Option Value)} {x : Nat} (d : decode cc pc = .ok (.aload 12, 2)) (k : JW p l e R s m args below meth c cy D ad A nL cells slots Q σ (pc + 2) (a0 :: a1 :: a2 :: a3 :: a4 :: a5 :: a6 :: a7 :: a8 :: a9 :: a10 :: a11 :: some (.ref x) :: t) (.ref x :: st)) : JW p l e R s m args below meth c cy D ad A nL cells slots Q σ pc (a0 :: a1 :: a2 :: a3 :: a4 :: a5 :: a6 :: a7 :: a8 :: a9 :: a10 :: a11 :: some (.ref x) :: t) st := by
  intro H locs ls h1 h2 h3
  exact lv_aload C.1.1 C.1.2.1 d (h3.2.2 12 _ rfl) (k H locs ls h1 h2 h3)
theorem J_istore12 (C : Cx p l e R s m args below meth c cy D ad A nL cc own Ts) {a0 a1 a2 a3 a4 a5 a6 a7 a8 a9 a10 a11 : Option Value} {t : List (Option Value)} {b : Option Value} {x : Int} (hn : 12 < nL) (hp : nlo a11 = true) (d : decode cc pc = .ok (.istore 12, 2)) (k : JW p l e R s m args below meth c cy D ad A nL cells slots Q σ (pc + 2) (a0 :: a1 :: a2 :: a3 :: a4 :: a5 :: a6 :: a7 :: a8 :: a9 :: a10 :: a11 :: some (.int (iI x)) :: t) st) : JW p l e R s m args below meth c cy D ad A nL cells slots Q σ pc (a0 :: a1 :: a2 :: a3 :: a4 :: a5 :: a6 :: a7 :: a8 :: a9 :: a10 :: a11 :: b :: t) (.int (iI x) :: st) := by
  intro H locs ls h1 h2 h3
  exact lv_istore C.1.1 C.1.2.1 d h3.has hn rfl (fun ls' h' => k H locs ls' h1 h2 (Lh.set1 (show nlat ((a0 :: a1 :: a2 :: a3 :: a4 :: a5 :: a6 :: a7 :: a8 :: a9 :: a10 :: a11 :: b :: t)) 12 = true from hp) h'))
theorem J_astore12 (C : Cx p l e R s m args below meth c cy D ad A nL cc own Ts) {a0 a1 a2 a3 a4 a5 a6 a7 a8 a9 a10 a11 : Option Value} {t : List (Option Value)} {b : Option Value} {x : Nat} (hn : 12 < nL) (hp : nlo a11 = true) (d : decode cc pc = .ok (.astore 12, 2)) (k : JW p l e R s m args below meth c cy D ad A nL cells slots Q σ (pc + 2) (a0 :: a1 :: a2 :: a3 :: a4 :: a5 :: a6 :: a7 :: a8 :: a9 :: a10 :: a11 :: some (.ref x) :: t) st) : JW p l e R s m args below meth c cy D ad A nL cells slots Q σ pc (a0 :: a1 :: a2 :: a3 :: a4 :: a5 :: a6 :: a7 :: a8 :: a9 :: a10 :: a11 :: b :: t) (.ref x :: st) := by
  intro H locs ls h1 h2 h3
  exact lv_astore C.1.1 C.1.2.1 d h3.has hn rfl (fun ls' h' => k H locs ls' h1 h2 (Lh.set1 (show nlat ((a0 :: a1 :: a2 :: a3 :: a4 :: a5 :: a6 :: a7 :: a8 :: a9 :: a10 :: a11 :: b :: t)) 12 = true from hp) h'))
theorem J_lstore12 (C : Cx p l e R s m args below meth c cy D ad A nL cc own Ts) {a0 a1 a2 a3 a4 a5 a6 a7 a8 a9 a10 a11 : Option Value} {t : List (Option Value)} {b b2 : Option Value} {x : Int} (hn : 12 + 1 < nL) (hp : nlo a11 = true) (d : decode cc pc = .ok (.lstore 12, 2)) (k : JW p l e R s m args below meth c cy D ad A nL cells slots Q σ (pc + 2) (a0 :: a1 :: a2 :: a3 :: a4 :: a5 :: a6 :: a7 :: a8 :: a9 :: a10 :: a11 :: some (.long (lI x)) :: none :: t) st) : JW p l e R s m args below meth c cy D ad A nL cells slots Q σ pc (a0 :: a1 :: a2 :: a3 :: a4 :: a5 :: a6 :: a7 :: a8 :: a9 :: a10 :: a11 :: b :: b2 :: t) (.long (lI x) :: st) := by
  intro H locs ls h1 h2 h3
  exact lv_lstore C.1.1 C.1.2.1 d h3.has hn rfl (fun ls' h' => k H locs ls' h1 h2 (Lh.set2 (show nlat ((a0 :: a1 :: a2 :: a3 :: a4 :: a5 :: a6 :: a7 :: a8 :: a9 :: a10 :: a11 :: b :: b2 :: t)) 12 = true from hp) h'))
theorem J_iinc12 (C : Cx p l e R s m args below meth c cy D ad A nL cc own Ts) {a0 a1 a2 a3 a4 a5 a6 a7 a8 a9 a10 a11 : Option Value} {t : List (Option Value)} {x z : Int} (hn : 12 < nL) (hp : nlo a11 = true) (d : decode cc pc = .ok (.iinc 12 z, 3)) (k : JW p l e R s m args below meth c cy D ad A nL cells slots Q σ (pc + 3) (a0 :: a1 :: a2 :: a3 :: a4 :: a5 :: a6 :: a7 :: a8 :: a9 :: a10 :: a11 :: some (.int (iI (x + z))) :: t) st) : JW p l e R s m args below meth c cy D ad A nL cells slots Q σ pc (a0 :: a1 :: a2 :: a3 :: a4 :: a5 :: a6 :: a7 :: a8 :: a9 :: a10 :: a11 :: some (.int (iI x)) :: t) st := by
  intro H locs ls h1 h2 h3
  obtain ⟨i, hi⟩ := List.getElem?_of_mem (lhL_mem.mpr (show ((a0 :: a1 :: a2 :: a3 :: a4 :: a5 :: a6 :: a7 :: a8 :: a9 :: a10 :: a11 :: some (.int (iI x)) :: t))[12]? = some (some (.int (iI x))) from rfl))
  exact lv_iinc (v := iI (x + z)) (k := i) C.1.1 C.1.2.1 d h3.has hi (iI_add x z) hn rfl (fun ls' h' => k H locs ls' h1 h2 (Lh.set1 (show nlat ((a0 :: a1 :: a2 :: a3 :: a4 :: a5 :: a6 :: a7 :: a8 :: a9 :: a10 :: a11 :: some (.int (iI x)) :: t)) 12 = true from hp) h'))
theorem J_iload13 (C : Cx p l e R s m args below meth c cy D ad A nL cc own Ts) {a0 a1 a2 a3 a4 a5 a6 a7 a8 a9 a10 a11 a12 : Option Value} {t : List (Option Value)} {x : Int} (d : decode cc pc = .ok (.iload 13, 2)) (k : JW p l e R s m args below meth c cy D ad A nL cells slots Q σ (pc + 2) (a0 :: a1 :: a2 :: a3 :: a4 :: a5 :: a6 :: a7 :: a8 :: a9 :: a10 :: a11 :: a12 :: some (.int (iI x)) :: t) (.int (iI x) :: st)) : JW p l e R s m args below meth c cy D ad A nL cells slots Q σ pc (a0 :: a1 :: a2 :: a3 :: a4 :: a5 :: a6 :: a7 :: a8 :: a9 :: a10 :: a11 :: a12 :: some (.int (iI x)) :: t) st := by
  intro H locs ls h1 h2 h3
  exact lv_iload C.1.1 C.1.2.1 d (h3.2.2 13 _ rfl) (k H locs ls h1 h2 h3)
theorem J_lload13 (C : Cx p l e R s m args below meth c cy D ad A nL cc own Ts) {a0 a1 a2 a3 a4 a5 a6 a7 a8 a9 a10 a11 a12 : Option Value} {t : List (Option Value)} {x : Int} (d : decode cc pc = .ok (.lload 13, 2)) (k : JW p l e R s m args below meth c cy D ad A nL cells slots Q σ (pc + 2) (a0 :: a1 :: a2 :: a3 :: a4 :: a5 :: a6 :: a7 :: a8 :: a9 :: a10 :: a11 :: a12 :: some (.long (lI x)) :: t) (.long (lI x) :: st)) : JW p l e R s m args below meth c cy D ad A nL cells slots Q σ pc (a0 :: a1 :: a2 :: a3 :: a4 :: a5 :: a6 :: a7 :: a8 :: a9 :: a10 :: a11 :: a12 :: some (.long (lI x)) :: t) st := by
  intro H locs ls h1 h2 h3
  exact lv_lload C.1.1 C.1.2.1 d (h3.2.2 13 _ rfl) (k H locs ls h1 h2 h3)
theorem J_aload13 (C : Cx p l e R s m args below meth c cy D ad A nL cc own Ts) {a0 a1 a2 a3 a4 a5 a6 a7 a8 a9 a10 a11 a12 : Option Value} {t : List (Option Value)} {x : Nat} (d : decode cc pc = .ok (.aload 13, 2)) (k : JW p l e R s m args below meth c cy D ad A nL cells slots Q σ (pc + 2) (a0 :: a1 :: a2 :: a3 :: a4 :: a5 :: a6 :: a7 :: a8 :: a9 :: a10 :: a11 :: a12 :: some (.ref x) :: t) (.ref x :: st)) : JW p l e R s m args below meth c cy D ad A nL cells slots Q σ pc (a0 :: a1 :: a2 :: a3 :: a4 :: a5 :: a6 :: a7 :: a8 :: a9 :: a10 :: a11 :: a12 :: some (.ref x) :: t) st := by
  intro H locs ls h1 h2 h3
  exact lv_aload C.1.1 C.1.2.1 d (h3.2.2 13 _ rfl) (k H locs ls h1 h2 h3)
theorem J_istore13 (C : Cx p l e R s m args below meth c cy D ad A nL cc own Ts) {a0 a1 a2 a3 a4 a5 a6 a7 a8 a9 a10 a11 a12 : Option Value} {t : List (Option Value)} {b : Option Value} {x : Int} (hn : 13 < nL) (hp : nlo a12 = true) (d : decode cc pc = .ok (.istore 13, 2)) (k : JW p l e R s m args below meth c cy D ad A nL cells slots Q σ (pc + 2) (a0 :: a1 :: a2 :: a3 :: a4 :: a5 :: a6 :: a7 :: a8 :: a9 :: a10 :: a11 :: a12 :: some (.int (iI x)) :: t) st) : JW p l e R s m args below meth c cy D ad A nL cells slots Q σ pc (a0 :: a1 :: a2 :: a3 :: a4 :: a5 :: a6 :: a7 :: a8 :: a9 :: a10 :: a11 :: a12 :: b :: t) (.int (iI x) :: st) := by
  intro H locs ls h1 h2 h3
  exact lv_istore C.1.1 C.1.2.1 d h3.has hn rfl (fun ls' h' => k H locs ls' h1 h2 (Lh.set1 (show nlat ((a0 :: a1 :: a2 :: a3 :: a4 :: a5 :: a6 :: a7 :: a8 :: a9 :: a10 :: a11 :: a12 :: b :: t)) 13 = true from hp) h'))
theorem J_astore13 (C : Cx p l e R s m args below meth c cy D ad A nL cc own Ts) {a0 a1 a2 a3 a4 a5 a6 a7 a8 a9 a10 a11 a12 : Option Value} {t : List (Option Value)} {b : Option Value} {x : Nat} (hn : 13 < nL) (hp : nlo a12 = true) (d : decode cc pc = .ok (.astore 13, 2)) (k : JW p l e R s m args below meth c cy D ad A nL cells slots Q σ (pc + 2) (a0 :: a1 :: a2 :: a3 :: a4 :: a5 :: a6 :: a7 :: a8 :: a9 :: a10 :: a11 :: a12 :: some (.ref x) :: t) st) : JW p l e R s m args below meth c cy D ad A nL cells slots Q σ pc (a0 :: a1 :: a2 :: a3 :: a4 :: a5 :: a6 :: a7 :: a8 :: a9 :: a10 :: a11 :: a12 :: b :: t) (.ref x :: st) := by
  intro H locs ls h1 h2 h3
  exact lv_astore C.1.1 C.1.2.1 d h3.has hn rfl (fun ls' h' => k H locs ls' h1 h2 (Lh.set1 (show nlat ((a0 :: a1 :: a2 :: a3 :: a4 :: a5 :: a6 :: a7 :: a8 :: a9 :: a10 :: a11 :: a12 :: b :: t)) 13 = true from hp) h'))
theorem J_lstore13 (C : Cx p l e R s m args below meth c cy D ad A nL cc own Ts) {a0 a1 a2 a3 a4 a5 a6 a7 a8 a9 a10 a11 a12 : Option Value} {t : List (Option Value)} {b b2 : Option Value} {x : Int} (hn : 13 + 1 < nL) (hp : nlo a12 = true) (d : decode cc pc = .ok (.lstore 13, 2)) (k : JW p l e R s m args below meth c cy D ad A nL cells slots Q σ (pc + 2) (a0 :: a1 :: a2 :: a3 :: a4 :: a5 :: a6 :: a7 :: a8 :: a9 :: a10 :: a11 :: a12 :: some (.long (lI x)) :: none :: t) st) : JW p l e R s m args below meth c cy D ad A nL cells slots Q σ pc (a0 :: a1 :: a2 :: a3 :: a4 :: a5 :: a6 :: a7 :: a8 :: a9 :: a10 :: a11 :: a12 :: b :: b2 :: t) (.long (lI x) :: st) := by
  intro H locs ls h1 h2 h3
  exact lv_lstore C.1.1 C.1.2.1 d h3.has hn rfl (fun ls' h' => k H locs ls' h1 h2 (Lh.set2 (show nlat ((a0 :: a1 :: a2 :: a3 :: a4 :: a5 :: a6 :: a7 :: a8 :: a9 :: a10 :: a11 :: a12 :: b :: b2 :: t)) 13 = true from hp) h'))
theorem J_iinc13 (C : Cx p l e R s m args below meth c cy D ad A nL cc own Ts) {a0 a1 a2 a3 a4 a5 a6 a7 a8 a9 a10 a11 a12 : Option Value} {t : List (Option Value)} {x z : Int} (hn : 13 < nL) (hp : nlo a12 = true) (d : decode cc pc = .ok (.iinc 13 z, 3)) (k : JW p l e R s m args below meth c cy D ad A nL cells slots Q σ (pc + 3) (a0 :: a1 :: a2 :: a3 :: a4 :: a5 :: a6 :: a7 :: a8 :: a9 :: a10 :: a11 :: a12 :: some (.int (iI (x + z))) :: t) st) : JW p l e R s m args below meth c cy D ad A nL cells slots Q σ pc (a0 :: a1 :: a2 :: a3 :: a4 :: a5 :: a6 :: a7 :: a8 :: a9 :: a10 :: a11 :: a12 :: some (.int (iI x)) :: t) st := by
  intro H locs ls h1 h2 h3
  obtain ⟨i, hi⟩ := List.getElem?_of_mem (lhL_mem.mpr (show ((a0 :: a1 :: a2 :: a3 :: a4 :: a5 :: a6 :: a7 :: a8 :: a9 :: a10 :: a11 :: a12 :: some (.int (iI x)) :: t))[13]? = some (some (.int (iI x))) from rfl))
  exact lv_iinc (v := iI (x + z)) (k := i) C.1.1 C.1.2.1 d h3.has hi (iI_add x z) hn rfl (fun ls' h' => k H locs ls' h1 h2 (Lh.set1 (show nlat ((a0 :: a1 :: a2 :: a3 :: a4 :: a5 :: a6 :: a7 :: a8 :: a9 :: a10 :: a11 :: a12 :: some (.int (iI x)) :: t)) 13 = true from hp) h'))
theorem J_iload14 (C : Cx p l e R s m args below meth c cy D ad A nL cc own Ts) {a0 a1 a2 a3 a4 a5 a6 a7 a8 a9 a10 a11 a12 a13 : Option Value} {t : List (Option Value)} {x : Int} (d : decode cc pc = .ok (.iload 14, 2)) (k : JW p l e R s m args below meth c cy D ad A nL cells slots Q σ (pc + 2) (a0 :: a1 :: a2 :: a3 :: a4 :: a5 :: a6 :: a7 :: a8 :: a9 :: a10 :: a11 :: a12 :: a13 :: some (.int (iI x)) :: t) (.int (iI x) :: st)) : JW p l e R s m args below meth c cy D ad A nL cells slots Q σ pc (a0 :: a1 :: a2 :: a3 :: a4 :: a5 :: a6 :: a7 :: a8 :: a9 :: a10 :: a11 :: a12 :: a13 :: some (.int (iI x)) :: t) st := by
  intro H locs ls h1 h2 h3
  exact lv_iload C.1.1 C.1.2.1 d (h3.2.2 14 _ rfl) (k H locs ls h1 h2 h3)
theorem J_lload14 (C : Cx p l e R s m args below meth c cy D ad A nL cc own Ts) {a0 a1 a2 a3 a4 a5 a6 a7 a8 a9 a10 a11 a12 a13 : Option Value} {t : List (Option Value)} {x : Int} (d : decode cc pc = .ok (.lload 14, 2)) (k : JW p l e R s m args below meth c cy D ad A nL cells slots Q σ (pc + 2) (a0 :: a1 :: a2 :: a3 :: a4 :: a5 :: a6 :: a7 :: a8 :: a9 :: a10 :: a11 :: a12 :: a13 :: some (.long (lI x)) :: t) (.long (lI x) :: st)) : JW p l e R s m args below meth c cy D ad A nL cells slots Q σ pc (a0 :: a1 :: a2 :: a3 :: a4 :: a5 :: a6 :: a7 :: a8 :: a9 :: a10 :: a11 :: a12 :: a13 :: some (.long (lI x)) :: t) st := by
  intro H locs ls h1 h2 h3
  exact lv_lload C.1.1 C.1.2.1 d (h3.2.2 14 _ rfl) (k H locs ls h1 h2 h3)
theorem J_aload14 (C : Cx p l e R s m args below meth c cy D ad A nL cc own Ts) {a0 a1 a2 a3 a4 a5 a6 a7 a8 a9 a10 a11 a12 a13 : Option Value} {t : List (Option Value)} {x : Nat} (d : decode cc pc = .ok (.aload 14, 2)) (k : JW p l e R s m args below meth c cy D ad A nL cells slots Q σ (pc + 2) (a0 :: a1 :: a2 :: a3 :: a4 :: a5 :: a6 :: a7 :: a8 :: a9 :: a10 :: a11 :: a12 :: a13 :: some (.ref x) :: t) (.ref x :: st)) : JW p l e R s m args below meth c cy D ad A nL cells slots Q σ pc (a0 :: a1 :: a2 :: a3 :: a4 :: a5 :: a6 :: a7 :: a8 :: a9 :: a10 :: a11 :: a12 :: a13 :: some (.ref x) :: t) st := by
  intro H locs ls h1 h2 h3
  exact lv_aload C.1.1 C.1.2.1 d (h3.2.2 14 _ rfl) (k H locs ls h1 h2 h3)
theorem J_istore14 (C : Cx p l e R s m args below meth c cy D ad A nL cc own Ts) {a0 a1 a2 a3 a4 a5 a6 a7 a8 a9 a10 a11 a12 a13 : Option Value} {t : List (Option Value)} {b : Option Value} {x : Int} (hn : 14 < nL) (hp : nlo a13 = true) (d : decode cc pc = .ok (.istore 14, 2)) (k : JW p l e R s m args below meth c cy D ad A nL cells slots Q σ (pc + 2) (a0 :: a1 :: a2 :: a3 :: a4 :: a5 :: a6 :: a7 :: a8 :: a9 :: a10 :: a11 :: a12 :: a13 :: some (.int (iI x)) :: t) st) : JW p l e R s m args below meth c cy D ad A nL cells slots Q σ pc (a0 :: a1 :: a2 :: a3 :: a4 :: a5 :: a6 :: a7 :: a8 :: a9 :: a10 :: a11 :: a12 :: a13 :: b :: t) (.int (iI x) :: st) := by
  intro H locs ls h1 h2 h3
  exact lv_istore C.1.1 C.1.2.1 d h3.has hn rfl (fun ls' h' => k H locs ls' h1 h2 (Lh.set1 (show nlat ((a0 :: a1 :: a2 :: a3 :: a4 :: a5 :: a6 :: a7 :: a8 :: a9 :: a10 :: a11 :: a12 :: a13 :: b :: t)) 14 = true from hp) h'))
theorem J_astore14 (C : Cx p l e R s m args below meth c cy D ad A nL cc own Ts) {a0 a1 a2 a3 a4 a5 a6 a7 a8 a9 a10 a11 a12 a13 : Option Value} {t : List (Option Value)} {b : Option Value} {x : Nat} (hn : 14 < nL) (hp : nlo a13 = true) (d : decode cc pc = .ok (.astore 14, 2)) (k : JW p l e R s m args below meth c cy D ad A nL cells slots Q σ (pc + 2) (a0 :: a1 :: a2 :: a3 :: a4 :: a5 :: a6 :: a7 :: a8 :: a9 :: a10 :: a11 :: a12 :: a13 :: some (.ref x) :: t) st) : JW p l e R s m args below meth c cy D ad A nL cells slots Q σ pc (a0 :: a1 :: a2 :: a3 :: a4 :: a5 :: a6 :: a7 :: a8 :: a9 :: a10 :: a11 :: a12 :: a13 :: b :: t) (.ref x :: st) := by
  intro H locs ls h1 h2 h3
  exact lv_astore C.1.1 C.1.2.1 d h3.has hn rfl (fun ls' h' => k H locs ls' h1 h2 (Lh.set1 (show nlat ((a0 :: a1 :: a2 :: a3 :: a4 :: a5 :: a6 :: a7 :: a8 :: a9 :: a10 :: a11 :: a12 :: a13 :: b :: t)) 14 = true from hp) h'))
theorem J_lstore14 (C : Cx p l e R s m args below meth c cy D ad A nL cc own Ts) {a0 a1 a2 a3 a4 a5 a6 a7 a8 a9 a10 a11 a12 a13 : Option Value} {t : List (Option Value)} {b b2 : Option Value} {x : Int} (hn : 14 + 1 < nL) (hp : nlo a13 = true) (d : decode cc pc = .ok (.lstore 14, 2)) (k : JW p l e R s m args below meth c cy D ad A nL cells slots Q σ (pc + 2) (a0 :: a1 :: a2 :: a3 :: a4 :: a5 :: a6 :: a7 :: a8 :: a9 :: a10 :: a11 :: a12 :: a13 :: some (.long (lI x)) :: none :: t) st) : JW p l e R s m args below meth c cy D ad A nL cells slots Q σ pc (a0 :: a1 :: a2 :: a3 :: a4 :: a5 :: a6 :: a7 :: a8 :: a9 :: a10 :: a11 :: a12 :: a13 :: b :: b2 :: t) (.long (lI x) :: st) := by
  intro H locs ls h1 h2 h3
  exact lv_lstore C.1.1 C.1.2.1 d h3.has hn rfl (fun ls' h' => k H locs ls' h1 h2 (Lh.set2 (show nlat ((a0 :: a1 :: a2 :: a3 :: a4 :: a5 :: a6 :: a7 :: a8 :: a9 :: a10 :: a11 :: a12 :: a13 :: b :: b2 :: t)) 14 = true from hp) h'))
theorem J_iinc14 (C : Cx p l e R s m args below meth c cy D ad A nL cc own Ts) {a0 a1 a2 a3 a4 a5 a6 a7 a8 a9 a10 a11 a12 a13 : Option Value} {t : List (Option Value)} {x z : Int} (hn : 14 < nL) (hp : nlo a13 = true) (d : decode cc pc = .ok (.iinc 14 z, 3)) (k : JW p l e R s m args below meth c cy D ad A nL cells slots Q σ (pc + 3) (a0 :: a1 :: a2 :: a3 :: a4 :: a5 :: a6 :: a7 :: a8 :: a9 :: a10 :: a11 :: a12 :: a13 :: some (.int (iI (x + z))) :: t) st) : JW p l e R s m args below meth c cy D ad A nL cells slots Q σ pc (a0 :: a1 :: a2 :: a3 :: a4 :: a5 :: a6 :: a7 :: a8 :: a9 :: a10 :: a11 :: a12 :: a13 :: some (.int (iI x)) :: t) st := by
  intro H locs ls h1 h2 h3
  obtain ⟨i, hi⟩ := List.getElem?_of_mem (lhL_mem.mpr (show ((a0 :: a1 :: a2 :: a3 :: a4 :: a5 :: a6 :: a7 :: a8 :: a9 :: a10 :: a11 :: a12 :: a13 :: some (.int (iI x)) :: t))[14]? = some (some (.int (iI x))) from rfl))
  exact lv_iinc (v := iI (x + z)) (k := i) C.1.1 C.1.2.1 d h3.has hi (iI_add x z) hn rfl (fun ls' h' => k H locs ls' h1 h2 (Lh.set1 (show nlat ((a0 :: a1 :: a2 :: a3 :: a4 :: a5 :: a6 :: a7 :: a8 :: a9 :: a10 :: a11 :: a12 :: a13 :: some (.int (iI x)) :: t)) 14 = true from hp) h'))
theorem J_iload15 (C : Cx p l e R s m args below meth c cy D ad A nL cc own Ts) {a0 a1 a2 a3 a4 a5 a6 a7 a8 a9 a10 a11 a12 a13 a14 : Option Value} {t : List (Option Value)} {x : Int} (d : decode cc pc = .ok (.iload 15, 2)) (k : JW p l e R s m args below meth c cy D ad A nL cells slots Q σ (pc + 2) (a0 :: a1 :: a2 :: a3 :: a4 :: a5 :: a6 :: a7 :: a8 :: a9 :: a10 :: a11 :: a12 :: a13 :: a14 :: some (.int (iI x)) :: t) (.int (iI x) :: st)) : JW p l e R s m args below meth c cy D ad A nL cells slots Q σ pc (a0 :: a1 :: a2 :: a3 :: a4 :: a5 :: a6 :: a7 :: a8 :: a9 :: a10 :: a11 :: a12 :: a13 :: a14 :: some (.int (iI x)) :: t) st := by
  intro H locs ls h1 h2 h3
  exact lv_iload C.1.1 C.1.2.1 d (h3.2.2 15 _ rfl) (k H locs ls h1 h2 h3)
theorem J_lload15 (C : Cx p l e R s m args below meth c cy D ad A nL cc own Ts) {a0 a1 a2 a3 a4 a5 a6 a7 a8 a9 a10 a11 a12 a13 a14 : Option Value} {t : List (Option Value)} {x : Int} (d : decode cc pc = .ok (.lload 15, 2)) (k : JW p l e R s m args below meth c cy D ad A nL cells slots Q σ (pc + 2) (a0 :: a1 :: a2 :: a3 :: a4 :: a5 :: a6 :: a7 :: a8 :: a9 :: a10 :: a11 :: a12 :: a13 :: a14 :: some (.long (lI x)) :: t) (.long (lI x) :: st)) : JW p l e R s m args below meth c cy D ad A nL cells slots Q σ pc (a0 :: a1 :: a2 :: a3 :: a4 :: a5 :: a6 :: a7 :: a8 :: a9 :: a10 :: a11 :: a12 :: a13 :: a14 :: some (.long (lI x)) :: t) st := by
  intro H locs ls h1 h2 h3
  exact lv_lload C.1.1 C.1.2.1 d (h3.2.2 15 _ rfl) (k H locs ls h1 h2 h3)
theorem J_aload15 (C : Cx p l e R s m args below meth c cy D ad A nL cc own Ts) {a0 a1 a2 a3 a4 a5 a6 a7 a8 a9 a10 a11 a12 a13 a14 : Option Value} {t : List (Option Value)} {x : Nat} (d : decode cc pc = .ok (.aload 15, 2)) (k : JW p l e R s m args below meth c cy D ad A nL cells slots Q σ (pc + 2) (a0 :: a1 :: a2 :: a3 :: a4 :: a5 :: a6 :: a7 :: a8 :: a9 :: a10 :: a11 :: a12 :: a13 :: a14 :: some (.ref x) :: t) (.ref x :: st)) : JW p l e R s m args below meth c cy D ad A nL cells slots Q σ pc (a0 :: a1 :: a2 :: a3 :: a4 :: a5 :: a6 :: a7 :: a8 :: a9 :: a10 :: a11 :: a12 :: a13 :: a14 :: some (.ref x) :: t) st := by
  intro H locs ls h1 h2 h3
  exact lv_aload C.1.1 C.1.2.1 d (h3.2.2 15 _ rfl) (k H locs ls h1 h2 h3)
theorem J_istore15 (C : Cx p l e R s m args below meth c cy D ad A nL cc own Ts) {a0 a1 a2 a3 a4 a5 a6 a7 a8 a9 a10 a11 a12 a13 a14 : Option Value} {t : List (Option Value)} {b : Option Value} {x : Int} (hn : 15 < nL) (hp : nlo a14 = true) (d : decode cc pc = .ok (.istore 15, 2)) (k : JW p l e R s m args below meth c cy D ad A nL cells slots Q σ (pc + 2) (a0 :: a1 :: a2 :: a3 :: a4 :: a5 :: a6 :: a7 :: a8 :: a9 :: a10 :: a11 :: a12 :: a13 :: a14 :: some (.int (iI x)) :: t) st) : JW p l e R s m args below meth c cy D ad A nL cells slots Q σ pc (a0 :: a1 :: a2 :: a3 :: a4 :: a5 :: a6 :: a7 :: a8 :: a9 :: a10 :: a11 :: a12 :: a13 :: a14 :: b :: t) (.int (iI x) :: st) := by
  intro H locs ls h1 h2 h3
  exact lv_istore C.1.1 C.1.2.1 d h3.has hn rfl (fun ls' h' => k H locs ls' h1 h2 (Lh.set1 (show nlat ((a0 :: a1 :: a2 :: a3 :: a4 :: a5 :: a6 :: a7 :: a8 :: a9 :: a10 :: a11 :: a12 :: a13 :: a14 :: b :: t)) 15 = true from hp) h'))
theorem J_astore15 (C : Cx p l e R s m args below meth c cy D ad A nL cc own Ts) {a0 a1 a2 a3 a4 a5 a6 a7 a8 a9 a10 a11 a12 a13 a14 : Option Value} {t : List (Option Value)} {b : Option Value} {x : Nat} (hn : 15 < nL) (hp : nlo a14 = true) (d : decode cc pc = .ok (.astore 15, 2)) (k : JW p l e R s m args below meth c cy D ad A nL cells slots Q σ (pc + 2) (a0 :: a1 :: a2 :: a3 :: a4 :: a5 :: a6 :: a7 :: a8 :: a9 :: a10 :: a11 :: a12 :: a13 :: a14 :: some (.ref x) :: t) st) : JW p l e R s m args below meth c cy D ad A nL cells slots Q σ pc (a0 :: a1 :: a2 :: a3 :: a4 :: a5 :: a6 :: a7 :: a8 :: a9 :: a10 :: a11 :: a12 :: a13 :: a14 :: b :: t) (.ref x :: st) := by
  intro H locs ls h1 h2 h3
  exact lv_astore C.1.1 C.1.2.1 d h3.has hn rfl (fun ls' h' => k H locs ls' h1 h2 (Lh.set1 (show nlat ((a0 :: a1 :: a2 :: a3 :: a4 :: a5 :: a6 :: a7 :: a8 :: a9 :: a10 :: a11 :: a12 :: a13 :: a14 :: b :: t)) 15 = true from hp) h'))
theorem J_lstore15 (C : Cx p l e R s m args below meth c cy D ad A nL cc own Ts) {a0 a1 a2 a3 a4 a5 a6 a7 a8 a9 a10 a11 a12 a13 a14 : Option Value} {t : List (Option Value)} {b b2 : Option Value} {x : Int} (hn : 15 + 1 < nL) (hp : nlo a14 = true) (d : decode cc pc = .ok (.lstore 15, 2)) (k : JW p l e R s m args below meth c cy D ad A nL cells slots Q σ (pc + 2) (a0 :: a1 :: a2 :: a3 :: a4 :: a5 :: a6 :: a7 :: a8 :: a9 :: a10 :: a11 :: a12 :: a13 :: a14 :: some (.long (lI x)) :: none :: t) st) : JW p l e R s m args below meth c cy D ad A nL cells slots Q σ pc (a0 :: a1 :: a2 :: a3 :: a4 :: a5 :: a6 :: a7 :: a8 :: a9 :: a10 :: a11 :: a12 :: a13 :: a14 :: b :: b2 :: t) (.long (lI x) :: st) := by
  intro H locs ls h1 h2 h3
  exact lv_lstore C.1.1 C.1.2.1 d h3.has hn rfl (fun ls' h' => k H locs ls' h1 h2 (Lh.set2 (show nlat ((a0 :: a1 :: a2 :: a3 :: a4 :: a5 :: a6 :: a7 :: a8 :: a9 :: a10 :: a11 :: a12 :: a13 :: a14 :: b :: b2 :: t)) 15 = true from hp) h'))
theorem J_iinc15 (C : Cx p l e R s m args below meth c cy D ad A nL cc own Ts) {a0 a1 a2 a3 a4 a5 a6 a7 a8 a9 a10 a11 a12 a13 a14 : Option Value} {t : List (Option Value)} {x z : Int} (hn : 15 < nL) (hp : nlo a14 = true) (d : decode cc pc = .ok (.iinc 15 z, 3)) (k : JW p l e R s m args below meth c cy D ad A nL cells slots Q σ (pc + 3) (a0 :: a1 :: a2 :: a3 :: a4 :: a5 :: a6 :: a7 :: a8 :: a9 :: a10 :: a11 :: a12 :: a13 :: a14 :: some (.int (iI (x + z))) :: t) st) : JW p l e R s m args below meth c cy D ad A nL cells slots Q σ pc (a0 :: a1 :: a2 :: a3 :: a4 :: a5 :: a6 :: a7 :: a8 :: a9 :: a10 :: a11 :: a12 :: a13 :: a14 :: some (.int (iI x)) :: t) st := by
  intro H locs ls h1 h2 h3
  obtain ⟨i, hi⟩ := List.getElem?_of_mem (lhL_mem.mpr (show ((a0 :: a1 :: a2 :: a3 :: a4 :: a5 :: a6 :: a7 :: a8 :: a9 :: a10 :: a11 :: a12 :: a13 :: a14 :: some (.int (iI x)) :: t))[15]? = some (some (.int (iI x))) from rfl))
  exact lv_iinc (v := iI (x + z)) (k := i) C.1.1 C.1.2.1 d h3.has hi (iI_add x z) hn rfl (fun ls' h' => k H locs ls' h1 h2 (Lh.set1 (show nlat ((a0 :: a1 :: a2 :: a3 :: a4 :: a5 :: a6 :: a7 :: a8 :: a9 :: a10 :: a11 :: a12 :: a13 :: a14 :: some (.int (iI x)) :: t)) 15 = true from hp) h'))
theorem J_iload16 (C : Cx p l e R s m args below meth c cy D ad A nL cc own Ts) {a0 a1 a2 a3 a4 a5 a6 a7 a8 a9 a10 a11 a12 a13 a14 a15 : Option Value} {t : List (Option Value)} {x : Int} (d : decode cc pc = .ok (.iload 16, 2)) (k : JW p l e R s m args below meth c cy D ad A nL cells slots Q σ (pc + 2) (a0 :: a1 :: a2 :: a3 :: a4 :: a5 :: a6 :: a7 :: a8 :: a9 :: a10 :: a11 :: a12 :: a13 :: a14 :: a15 :: some (.int (iI x)) :: t) (.int (iI x) :: st)) : JW p l e R s m args below meth c cy D ad A nL cells slots Q σ pc (a0 :: a1 :: a2 :: a3 :: a4 :: a5 :: a6 :: a7 :: a8 :: a9 :: a10 :: a11 :: a12 :: a13 :: a14 :: a15 :: some (.int (iI x)) :: t) st := by
  intro H locs ls h1 h2 h3
  exact lv_iload C.1.1 C.1.2.1 d (h3.2.2 16 _ rfl) (k H locs ls h1 h2 h3)
theorem J_lload16 (C : Cx p l e R s m args below meth c cy D ad A nL cc own Ts) {a0 a1 a2 a3 a4 a5 a6 a7 a8 a9 a10 a11 a12 a13 a14 a15 : Option Value} {t : List (Option Value)} {x : Int} (d : decode cc pc = .ok (.lload 16, 2)) (k : JW p l e R s m args below meth c cy D ad A nL cells slots Q σ (pc + 2) (a0 :: a1 :: a2 :: a3 :: a4 :: a5 :: a6 :: a7 :: a8 :: a9 :: a10 :: a11 :: a12 :: a13 :: a14 :: a15 :: some (.long (lI x)) :: t) (.long (lI x) :: st)) : JW p l e R s m args below meth c cy D ad A nL cells slots Q σ pc (a0 :: a1 :: a2 :: a3 :: a4 :: a5 :: a6 :: a7 :: a8 :: a9 :: a10 :: a11 :: a12 :: a13 :: a14 :: a15 :: some (.long (lI x)) :: t) st := by
  intro H locs ls h1 h2 h3
  exact lv_lload C.1.1 C.1.2.1 d (h3.2.2 16 _ rfl) (k H locs ls h1 h2 h3)
theorem J_aload16 (C : Cx p l e R s m args below meth c cy D ad A nL cc own Ts) {a0 a1 a2 a3 a4 a5 a6 a7 a8 a9 a10 a11 a12 a13 a14 a15 : Option Value} {t : List (Option Value)} {x : Nat} (d : decode cc pc = .ok (.aload 16, 2)) (k : JW p l e R s m args below meth c cy D ad A nL cells slots Q σ (pc + 2) (a0 :: a1 :: a2 :: a3 :: a4 :: a5 :: a6 :: a7 :: a8 :: a9 :: a10 :: a11 :: a12 :: a13 :: a14 :: a15 :: some (.ref x) :: t) (.ref x :: st)) : JW p l e R s m args below meth c cy D ad A nL cells slots Q σ pc (a0 :: a1 :: a2 :: a3 :: a4 :: a5 :: a6 :: a7 :: a8 :: a9 :: a10 :: a11 :: a12 :: a13 :: a14 :: a15 :: some (.ref x) :: t) st := by
  intro H locs ls h1 h2 h3
  exact lv_aload C.1.1 C.1.2.1 d (h3.2.2 16 _ rfl) (k H locs ls h1 h2 h3)
theorem J_istore16 (C : Cx p l e R s m args below meth c cy D ad A nL cc own Ts) {a0 a1 a2 a3 a4 a5 a6 a7 a8 a9 a10 a11 a12 a13 a14 a15 : Option Value} {t : List (Option Value)} {b : Option Value} {x : Int} (hn : 16 < nL) (hp : nlo a15 = true) (d : decode cc pc = .ok (.istore 16, 2)) (k : JW p l e R s m args below meth c cy D ad A nL cells slots Q σ (pc + 2) (a0 :: a1 :: a2 :: a3 :: a4 :: a5 :: a6 :: a7 :: a8 :: a9 :: a10 :: a11 :: a12 :: a13 :: a14 :: a15 :: some (.int (iI x)) :: t) st) : JW p l e R s m args below meth c cy D ad A nL cells slots Q σ pc (a0 :: a1 :: a2 :: a3 :: a4 :: a5 :: a6 :: a7 :: a8 :: a9 :: a10 :: a11 :: a12 :: a13 :: a14 :: a15 :: b :: t) (.int (iI x) :: st) := by
  intro H locs ls h1 h2 h3
  exact lv_istore C.1.1 C.1.2.1 d h3.has hn rfl (fun ls' h' => k H locs ls' h1 h2 (Lh.set1 (show nlat ((a0 :: a1 :: a2 :: a3 :: a4 :: a5 :: a6 :: a7 :: a8 :: a9 :: a10 :: a11 :: a12 :: a13 :: a14 :: a15 :: b :: t)) 16 = true from hp) h'))
theorem J_astore16 (C : Cx p l e R s m args below meth c cy D ad A nL cc own Ts) {a0 a1 a2 a3 a4 a5 a6 a7 a8 a9 a10 a11 a12 a13 a14 a15 : Option Value} {t : List (Option Value)} {b : Option Value} {x : Nat} (hn : 16 < nL) (hp : nlo a15 = true) (d : decode cc pc = .ok (.astore 16, 2)) (k : JW p l e R s m args below meth c cy D ad A nL cells slots Q σ (pc + 2) (a0 :: a1 :: a2 :: a3 :: a4 :: a5 :: a6 :: a7 :: a8 :: a9 :: a10 :: a11 :: a12 :: a13 :: a14 :: a15 :: some (.ref x) :: t) st) : JW p l e R s m args below meth c cy D ad A nL cells slots Q σ pc (a0 :: a1 :: a2 :: a3 :: a4 :: a5 :: a6 :: a7 :: a8 :: a9 :: a10 :: a11 :: a12 :: a13 :: a14 :: a15 :: b :: t) (.ref x :: st) := by
  intro H locs ls h1 h2 h3
  exact lv_astore C.1.1 C.1.2.1 d h3.has hn rfl (fun ls' h' => k H locs ls' h1 h2 (Lh.set1 (show nlat ((a0 :: a1 :: a2 :: a3 :: a4 :: a5 :: a6 :: a7 :: a8 :: a9 :: a10 :: a11 :: a12 :: a13 :: a14 :: a15 :: b :: t)) 16 = true from hp) h'))
theorem J_lstore16 (C : Cx p l e R s m args below meth c cy D ad A nL cc own Ts) {a0 a1 a2 a3 a4 a5 a6 a7 a8 a9 a10 a11 a12 a13 a14 a15 : Option Value} {t : List (Option Value)} {b b2 : Option Value} {x : Int} (hn : 16 + 1 < nL) (hp : nlo a15 = true) (d : decode cc pc = .ok (.lstore 16, 2)) (k : JW p l e R s m args below meth c cy D ad A nL cells slots Q σ (pc + 2) (a0 :: a1 :: a2 :: a3 :: a4 :: a5 :: a6 :: a7 :: a8 :: a9 :: a10 :: a11 :: a12 :: a13 :: a14 :: a15 :: some (.long (lI x)) :: none :: t) st) : JW p l e R s m args below meth c cy D ad A nL cells slots Q σ pc (a0 :: a1 :: a2 :: a3 :: a4 :: a5 :: a6 :: a7 :: a8 :: a9 :: a10 :: a11 :: a12 :: a13 :: a14 :: a15 :: b :: b2 :: t) (.long (lI x) :: st) := by
  intro H locs ls h1 h2 h3
  exact lv_lstore C.1.1 C.1.2.1 d h3.has hn rfl (fun ls' h' => k H locs ls' h1 h2 (Lh.set2 (show nlat ((a0 :: a1 :: a2 :: a3 :: a4 :: a5 :: a6 :: a7 :: a8 :: a9 :: a10 :: a11 :: a12 :: a13 :: a14 :: a15 :: b :: b2 :: t)) 16 = true from hp) h'))
theorem J_iinc16 (C : Cx p l e R s m args below meth c cy D ad A nL cc own Ts) {a0 a1 a2 a3 a4 a5 a6 a7 a8 a9 a10 a11 a12 a13 a14 a15 : Option Value} {t : List (Option Value)} {x z : Int} (hn : 16 < nL) (hp : nlo a15 = true) (d : decode cc pc = .ok (.iinc 16 z, 3)) (k : JW p l e R s m args below meth c cy D ad A nL cells slots Q σ (pc + 3) (a0 :: a1 :: a2 :: a3 :: a4 :: a5 :: a6 :: a7 :: a8 :: a9 :: a10 :: a11 :: a12 :: a13 :: a14 :: a15 :: some (.int (iI (x + z))) :: t) st) : JW p l e R s m args below meth c cy D ad A nL cells slots Q σ pc (a0 :: a1 :: a2 :: a3 :: a4 :: a5 :: a6 :: a7 :: a8 :: a9 :: a10 :: a11 :: a12 :: a13 :: a14 :: a15 :: some (.int (iI x)) :: t) st := by
  intro H locs ls h1 h2 h3
  obtain ⟨i, hi⟩ := List.getElem?_of_mem (lhL_mem.mpr (show ((a0 :: a1 :: a2 :: a3 :: a4 :: a5 :: a6 :: a7 :: a8 :: a9 :: a10 :: a11 :: a12 :: a13 :: a14 :: a15 :: some (.int (iI x)) :: t))[16]? = some (some (.int (iI x))) from rfl))
  exact lv_iinc (v := iI (x + z)) (k := i) C.1.1 C.1.2.1 d h3.has hi (iI_add x z) hn rfl (fun ls' h' => k H locs ls' h1 h2 (Lh.set1 (show nlat ((a0 :: a1 :: a2 :: a3 :: a4 :: a5 :: a6 :: a7 :: a8 :: a9 :: a10 :: a11 :: a12 :: a13 :: a14 :: a15 :: some (.int (iI x)) :: t)) 16 = true from hp) h'))
theorem J_iload17 (C : Cx p l e R s m args below meth c cy D ad A nL cc own Ts) {a0 a1 a2 a3 a4 a5 a6 a7 a8 a9 a10 a11 a12 a13 a14 a15 a16 : Option Value} {t : List (Option Value)} {x : Int} (d : decode cc pc = .ok (.iload 17, 2)) (k : JW p l e R s m args below meth c cy D ad A nL cells slots Q σ (pc + 2) (a0 :: a1 :: a2 :: a3 :: a4 :: a5 :: a6 :: a7 :: a8 :: a9 :: a10 :: a11 :: a12 :: a13 :: a14 :: a15 :: a16 :: some (.int (iI x)) :: t) (.int (iI x) :: st)) : JW p l e R s m args below meth c cy D ad A nL cells slots Q σ pc (a0 :: a1 :: a2 :: a3 :: a4 :: a5 :: a6 :: a7 :: a8 :: a9 :: a10 :: a11 :: a12 :: a13 :: a14 :: a15 :: a16 :: some (.int (iI x)) :: t) st := by
  intro H locs ls h1 h2 h3
  exact lv_iload C.1.1 C.1.2.1 d (h3.2.2 17 _ rfl) (k H locs ls h1 h2 h3)
theorem J_lload17 (C : Cx p l e R s m args below meth c cy D ad A nL cc own Ts) {a0 a1 a2 a3 a4 a5 a6 a7 a8 a9 a10 a11 a12 a13 a14 a15 a16 : Option Value} {t : List (Option Value)} {x : Int} (d : decode cc pc = .ok (.lload 17, 2)) (k : JW p l e R s m args below meth c cy D ad A nL cells slots Q σ (pc + 2) (a0 :: a1 :: a2 :: a3 :: a4 :: a5 :: a6 :: a7 :: a8 :: a9 :: a10 :: a11 :: a12 :: a13 :: a14 :: a15 :: a16 :: some (.long (lI x)) :: t) (.long (lI x) :: st)) : JW p l e R s m args below meth c cy D ad A nL cells slots Q σ pc (a0 :: a1 :: a2 :: a3 :: a4 :: a5 :: a6 :: a7 :: a8 :: a9 :: a10 :: a11 :: a12 :: a13 :: a14 :: a15 :: a16 :: some (.long (lI x)) :: t) st := by
  intro H locs ls h1 h2 h3
  exact lv_lload C.1.1 C.1.2.1 d (h3.2.2 17 _ rfl) (k H locs ls h1 h2 h3)
theorem J_aload17 (C : Cx p l e R s m args below meth c cy D ad A nL cc own Ts) {a0 a1 a2 a3 a4 a5 a6 a7 a8 a9 a10 a11 a12 a13 a14 a15 a16 : Option Value} {t : List (Option Value)} {x : Nat} (d : decode cc pc = .ok (.aload 17, 2)) (k : JW p l e R s m args below meth c cy D ad A nL cells slots Q σ (pc + 2) (a0 :: a1 :: a2 :: a3 :: a4 :: a5 :: a6 :: a7 :: a8 :: a9 :: a10 :: a11 :: a12 :: a13 :: a14 :: a15 :: a16 :: some (.ref x) :: t) (.ref x :: st)) : JW p l e R s m args below meth c cy D ad A nL cells slots Q σ pc (a0 :: a1 :: a2 :: a3 :: a4 :: a5 :: a6 :: a7 :: a8 :: a9 :: a10 :: a11 :: a12 :: a13 :: a14 :: a15 :: a16 :: some (.ref x) :: t) st := by
  intro H locs ls h1 h2 h3
  exact lv_aload C.1.1 C.1.2.1 d (h3.2.2 17 _ rfl) (k H locs ls h1 h2 h3)
theorem J_istore17 (C : Cx p l e R s m args below meth c cy D ad A nL cc own Ts) {a0 a1 a2 a3 a4 a5 a6 a7 a8 a9 a10 a11 a12 a13 a14 a15 a16 : Option Value} {t : List (Option Value)} {b : Option Value} {x : Int} (hn : 17 < nL) (hp : nlo a16 = true) (d : decode cc pc = .ok (.istore 17, 2)) (k : JW p l e R s m args below meth c cy D ad A nL cells slots Q σ (pc + 2) (a0 :: a1 :: a2 :: a3 :: a4 :: a5 :: a6 :: a7 :: a8 :: a9 :: a10 :: a11 :: a12 :: a13 :: a14 :: a15 :: a16 :: some (.int (iI x)) :: t) st) : JW p l e R s m args below meth c cy D ad A nL cells slots Q σ pc (a0 :: a1 :: a2 :: a3 :: a4 :: a5 :: a6 :: a7 :: a8 :: a9 :: a10 :: a11 :: a12 :: a13 :: a14 :: a15 :: a16 :: b :: t) (.int (iI x) :: st) := by
  intro H locs ls h1 h2 h3
  exact lv_istore C.1.1 C.1.2.1 d h3.has hn rfl (fun ls' h' => k H locs ls' h1 h2 (Lh.set1 (show nlat ((a0 :: a1 :: a2 :: a3 :: a4 :: a5 :: a6 :: a7 :: a8 :: a9 :: a10 :: a11 :: a12 :: a13 :: a14 :: a15 :: a16 :: b :: t)) 17 = true from hp) h'))
theorem J_astore17 (C : Cx p l e R s m args below meth c cy D ad A nL cc own Ts) {a0 a1 a2 a3 a4 a5 a6 a7 a8 a9 a10 a11 a12 a13 a14 a15 a16 : Option Value} {t : List (Option Value)} {b : Option Value} {x : Nat} (hn : 17 < nL) (hp : nlo a16 = true) (d : decode cc pc = .ok (.astore 17, 2)) (k : JW p l e R s m args below meth c cy D ad A nL cells slots Q σ (pc + 2) (a0 :: a1 :: a2 :: a3 :: a4 :: a5 :: a6 :: a7 :: a8 :: a9 :: a10 :: a11 :: a12 :: a13 :: a14 :: a15 :: a16 :: some (.ref x) :: t) st) : JW p l e R s m args below meth c cy D ad A nL cells slots Q σ pc (a0 :: a1 :: a2 :: a3 :: a4 :: a5 :: a6 :: a7 :: a8 :: a9 :: a10 :: a11 :: a12 :: a13 :: a14 :: a15 :: a16 :: b :: t) (.ref x :: st) := by
  intro H locs ls h1 h2 h3
  exact lv_astore C.1.1 C.1.2.1 d h3.has hn rfl (fun ls' h' => k H locs ls' h1 h2 (Lh.set1 (show nlat ((a0 :: a1 :: a2 :: a3 :: a4 :: a5 :: a6 :: a7 :: a8 :: a9 :: a10 :: a11 :: a12 :: a13 :: a14 :: a15 :: a16 :: b :: t)) 17 = true from hp) h'))
theorem J_lstore17 (C : Cx p l e R s m args below meth c cy D ad A nL cc own Ts) {a0 a1 a2 a3 a4 a5 a6 a7 a8 a9 a10 a11 a12 a13 a14 a15 a16 : Option Value} {t : List (Option Value)} {b b2 : Option Value} {x : Int} (hn : 17 + 1 < nL) (hp : nlo a16 = true) (d : decode cc pc = .ok (.lstore 17, 2)) (k : JW p l e R s m args below meth c cy D ad A nL cells slots Q σ (pc + 2) (a0 :: a1 :: a2 :: a3 :: a4 :: a5 :: a6 :: a7 :: a8 :: a9 :: a10 :: a11 :: a12 :: a13 :: a14 :: a15 :: a16 :: some (.long (lI x)) :: none :: t) st) : JW p l e R s m args below meth c cy D ad A nL cells slots Q σ pc (a0 :: a1 :: a2 :: a3 :: a4 :: a5 :: a6 :: a7 :: a8 :: a9 :: a10 :: a11 :: a12 :: a13 :: a14 :: a15 :: a16 :: b :: b2 :: t) (.long (lI x) :: st) := by
  intro H locs ls h1 h2 h3
  exact lv_lstore C.1.1 C.1.2.1 d h3.has hn rfl (fun ls' h' => k H locs ls' h1 h2 (Lh.set2 (show nlat ((a0 :: a1 :: a2 :: a3 :: a4 :: a5 :: a6 :: a7 :: a8 :: a9 :: a10 :: a11 :: a12 :: a13 :: a14 :: a15 :: a16 :: b :: b2 :: t)) 17 = true from hp) h'))
theorem J_iinc17 (C : Cx p l e R s m args below meth c cy D ad A nL cc own Ts) {a0 a1 a2 a3 a4 a5 a6 a7 a8 a9 a10 a11 a12 a13 a14 a15 a16 : Option Value} {t : List (Option Value)} {x z : Int} (hn : 17 < nL) (hp : nlo a16 = true) (d : decode cc pc = .ok (.iinc 17 z, 3)) (k : JW p l e R s m args below meth c cy D ad A nL cells slots Q σ (pc + 3) (a0 :: a1 :: a2 :: a3 :: a4 :: a5 :: a6 :: a7 :: a8 :: a9 :: a10 :: a11 :: a12 :: a13 :: a14 :: a15 :: a16 :: some (.int (iI (x + z))) :: t) st) : JW p l e R s m args below meth c cy D ad A nL cells slots Q σ pc (a0 :: a1 :: a2 :: a3 :: a4 :: a5 :: a6 :: a7 :: a8 :: a9 :: a10 :: a11 :: a12 :: a13 :: a14 :: a15 :: a16 :: some (.int (iI x)) :: t) st := by
  intro H locs ls h1 h2 h3
  obtain ⟨i, hi⟩ := List.getElem?_of_mem (lhL_mem.mpr (show ((a0 :: a1 :: a2 :: a3 :: a4 :: a5 :: a6 :: a7 :: a8 :: a9 :: a10 :: a11 :: a12 :: a13 :: a14 :: a15 :: a16 :: some (.int (iI x)) :: t))[17]? = some (some (.int (iI x))) from rfl))
  exact lv_iinc (v := iI (x + z)) (k := i) C.1.1 C.1.2.1 d h3.has hi (iI_add x z) hn rfl (fun ls' h' => k H locs ls' h1 h2 (Lh.set1 (show nlat ((a0 :: a1 :: a2 :: a3 :: a4 :: a5 :: a6 :: a7 :: a8 :: a9 :: a10 :: a11 :: a12 :: a13 :: a14 :: a15 :: a16 :: some (.int (iI x)) :: t)) 17 = true from hp) h'))
theorem J_iload18 (C : Cx p l e R s m args below meth c cy D ad A nL cc own Ts) {a0 a1 a2 a3 a4 a5 a6 a7 a8 a9 a10 a11 a12 a13 a14 a15 a16 a17 : Option Value} {t : List (Option Value)} {x : Int} (d : decode cc pc = .ok (.iload 18, 2)) (k : JW p l e R s m args below meth c cy D ad A nL cells slots Q σ (pc + 2) (a0 :: a1 :: a2 :: a3 :: a4 :: a5 :: a6 :: a7 :: a8 :: a9 :: a10 :: a11 :: a12 :: a13 :: a14 :: a15 :: a16 :: a17 :: some (.int (iI x)) :: t) (.int (iI x) :: st)) : JW p l e R s m args below meth c cy D ad A nL cells slots Q σ pc (a0 :: a1 :: a2 :: a3 :: a4 :: a5 :: a6 :: a7 :: a8 :: a9 :: a10 :: a11 :: a12 :: a13 :: a14 :: a15 :: a16 :: a17 :: some (.int (iI x)) :: t) st := by
  intro H locs ls h1 h2 h3
  exact lv_iload C.1.1 C.1.2.1 d (h3.2.2 18 _ rfl) (k H locs ls h1 h2 h3)
theorem J_lload18 (C : Cx p l e R s m args below meth c cy D ad A nL cc own Ts) {a0 a1 a2 a3 a4 a5 a6 a7 a8 a9 a10 a11 a12 a13 a14 a15 a16 a17 : Option Value} {t : List (Option Value)} {x : Int} (d : decode cc pc = .ok (.lload 18, 2)) (k : JW p l e R s m args below meth c cy D ad A nL cells slots Q σ (pc + 2) (a0 :: a1 :: a2 :: a3 :: a4 :: a5 :: a6 :: a7 :: a8 :: a9 :: a10 :: a11 :: a12 :: a13 :: a14 :: a15 :: a16 :: a17 :: some (.long (lI x)) :: t) (.long (lI x) :: st)) : JW p l e R s m args below meth c cy D ad A nL cells slots Q σ pc (a0 :: a1 :: a2 :: a3 :: a4 :: a5 :: a6 :: a7 :: a8 :: a9 :: a10 :: a11 :: a12 :: a13 :: a14 :: a15 :: a16 :: a17 :: some (.long (lI x)) :: t) st := by
  intro H locs ls h1 h2 h3
  exact lv_lload C.1.1 C.1.2.1 d (h3.2.2 18 _ rfl) (k H locs ls h1 h2 h3)
theorem J_aload18 (C : Cx p l e R s m args below meth c cy D ad A nL cc own Ts) {a0 a1 a2 a3 a4 a5 a6 a7 a8 a9 a10 a11 a12 a13 a14 a15 a16 a17 : Option Value} {t : List (Option Value)} {x : Nat} (d : decode cc pc = .ok (.aload 18, 2)) (k : JW p l e R s m args below meth c cy D ad A nL cells slots Q σ (pc + 2) (a0 :: a1 :: a2 :: a3 :: a4 :: a5 :: a6 :: a7 :: a8 :: a9 :: a10 :: a11 :: a12 :: a13 :: a14 :: a15 :: a16 :: a17 :: some (.ref x) :: t) (.ref x :: st)) : JW p l e R s m args below meth c cy D ad A nL cells slots Q σ pc (a0 :: a1 :: a2 :: a3 :: a4 :: a5 :: a6 :: a7 :: a8 :: a9 :: a10 :: a11 :: a12 :: a13 :: a14 :: a15 :: a16 :: a17 :: some (.ref x) :: t) st := by
  intro H locs ls h1 h2 h3
  exact lv_aload C.1.1 C.1.2.1 d (h3.2.2 18 _ rfl) (k H locs ls h1 h2 h3)
theorem J_istore18 (C : Cx p l e R s m args below meth c cy D ad A nL cc own Ts) {a0 a1 a2 a3 a4 a5 a6 a7 a8 a9 a10 a11 a12 a13 a14 a15 a16 a17 : Option Value} {t : List (Option Value)} {b : Option Value} {x : Int} (hn : 18 < nL) (hp : nlo a17 = true) (d : decode cc pc = .ok (.istore 18, 2)) (k : JW p l e R s m args below meth c cy D ad A nL cells slots Q σ (pc + 2) (a0 :: a1 :: a2 :: a3 :: a4 :: a5 :: a6 :: a7 :: a8 :: a9 :: a10 :: a11 :: a12 :: a13 :: a14 :: a15 :: a16 :: a17 :: some (.int (iI x)) :: t) st) : JW p l e R s m args below meth c cy D ad A nL cells slots Q σ pc (a0 :: a1 :: a2 :: a3 :: a4 :: a5 :: a6 :: a7 :: a8 :: a9 :: a10 :: a11 :: a12 :: a13 :: a14 :: a15 :: a16 :: a17 :: b :: t) (.int (iI x) :: st) := by
  intro H locs ls h1 h2 h3
  exact lv_istore C.1.1 C.1.2.1 d h3.has hn rfl (fun ls' h' => k H locs ls' h1 h2 (Lh.set1 (show nlat ((a0 :: a1 :: a2 :: a3 :: a4 :: a5 :: a6 :: a7 :: a8 :: a9 :: a10 :: a11 :: a12 :: a13 :: a14 :: a15 :: a16 :: a17 :: b :: t)) 18 = true from hp) h'))
theorem J_astore18 (C : Cx p l e R s m args below meth c cy D ad A nL cc own Ts) {a0 a1 a2 a3 a4 a5 a6 a7 a8 a9 a10 a11 a12 a13 a14 a15 a16 a17 : Option Value} {t : List (Option Value)} {b : Option Value} {x : Nat} (hn : 18 < nL) (hp : nlo a17 = true) (d : decode cc pc = .ok (.astore 18, 2)) (k : JW p l e R s m args below meth c cy D ad A nL cells slots Q σ (pc + 2) (a0 :: a1 :: a2 :: a3 :: a4 :: a5 :: a6 :: a7 :: a8 :: a9 :: a10 :: a11 :: a12 :: a13 :: a14 :: a15 :: a16 :: a17 :: some (.ref x) :: t) st) : JW p l e R s m args below meth c cy D ad A nL cells slots Q σ pc (a0 :: a1 :: a2 :: a3 :: a4 :: a5 :: a6 :: a7 :: a8 :: a9 :: a10 :: a11 :: a12 :: a13 :: a14 :: a15 :: a16 :: a17 :: b :: t) (.ref x :: st) := by
  intro H locs ls h1 h2 h3
  exact lv_astore C.1.1 C.1.2.1 d h3.has hn rfl (fun ls' h' => k H locs ls' h1 h2 (Lh.set1 (show nlat ((a0 :: a1 :: a2 :: a3 :: a4 :: a5 :: a6 :: a7 :: a8 :: a9 :: a10 :: a11 :: a12 :: a13 :: a14 :: a15 :: a16 :: a17 :: b :: t)) 18 = true from hp) h'))
theorem J_lstore18 (C : Cx p l e R s m args below meth c cy D ad A nL cc own Ts) {a0 a1 a2 a3 a4 a5 a6 a7 a8 a9 a10 a11 a12 a13 a14 a15 a16 a17 : Option Value} {t : List (Option Value)} {b b2 : Option Value} {x : Int} (hn : 18 + 1 < nL) (hp : nlo a17 = true) (d : decode cc pc = .ok (.lstore 18, 2)) (k : JW p l e R s m args below meth c cy D ad A nL cells slots Q σ (pc + 2) (a0 :: a1 :: a2 :: a3 :: a4 :: a5 :: a6 :: a7 :: a8 :: a9 :: a10 :: a11 :: a12 :: a13 :: a14 :: a15 :: a16 :: a17 :: some (.long (lI x)) :: none :: t) st) : JW p l e R s m args below meth c cy D ad A nL cells slots Q σ pc (a0 :: a1 :: a2 :: a3 :: a4 :: a5 :: a6 :: a7 :: a8 :: a9 :: a10 :: a11 :: a12 :: a13 :: a14 :: a15 :: a16 :: a17 :: b :: b2 :: t) (.long (lI x) :: st) := by
  intro H locs ls h1 h2 h3
  exact lv_lstore C.1.1 C.1.2.1 d h3.has hn rfl (fun ls' h' => k H locs ls' h1 h2 (Lh.set2 (show nlat ((a0 :: a1 :: a2 :: a3 :: a4 :: a5 :: a6 :: a7 :: a8 :: a9 :: a10 :: a11 :: a12 :: a13 :: a14 :: a15 :: a16 :: a17 :: b :: b2 :: t)) 18 = true from hp) h'))
theorem J_iinc18 (C : Cx p l e R s m args below meth c cy D ad A nL cc own Ts) {a0 a1 a2 a3 a4 a5 a6 a7 a8 a9 a10 a11 a12 a13 a14 a15 a16 a17 : Option Value} {t : List (Option Value)} {x z : Int} (hn : 18 < nL) (hp : nlo a17 = true) (d : decode cc pc = .ok (.iinc 18 z, 3)) (k : JW p l e R s m args below meth c cy D ad A nL cells slots Q σ (pc + 3) (a0 :: a1 :: a2 :: a3 :: a4 :: a5 :: a6 :: a7 :: a8 :: a9 :: a10 :: a11 :: a12 :: a13 :: a14 :: a15 :: a16 :: a17 :: some (.int (iI (x + z))) :: t) st) : JW p l e R s m args below meth c cy D ad A nL cells slots Q σ pc (a0 :: a1 :: a2 :: a3 :: a4 :: a5 :: a6 :: a7 :: a8 :: a9 :: a10 :: a11 :: a12 :: a13 :: a14 :: a15 :: a16 :: a17 :: some (.int (iI x)) :: t) st := by
  intro H locs ls h1 h2 h3
  obtain ⟨i, hi⟩ := List.getElem?_of_mem (lhL_mem.mpr (show ((a0 :: a1 :: a2 :: a3 :: a4 :: a5 :: a6 :: a7 :: a8 :: a9 :: a10 :: a11 :: a12 :: a13 :: a14 :: a15 :: a16 :: a17 :: some (.int (iI x)) :: t))[18]? = some (some (.int (iI x))) from rfl))
  exact lv_iinc (v := iI (x + z)) (k := i) C.1.1 C.1.2.1 d h3.has hi (iI_add x z) hn rfl (fun ls' h' => k H locs ls' h1 h2 (Lh.set1 (show nlat ((a0 :: a1 :: a2 :: a3 :: a4 :: a5 :: a6 :: a7 :: a8 :: a9 :: a10 :: a11 :: a12 :: a13 :: a14 :: a15 :: a16 :: a17 :: some (.int (iI x)) :: t)) 18 = true from hp) h'))
theorem J_iload19 (C : Cx p l e R s m args below meth c cy D ad A nL cc own Ts) {a0 a1 a2 a3 a4 a5 a6 a7 a8 a9 a10 a11 a12 a13 a14 a15 a16 a17 a18 : Option Value} {t : List (Option Value)} {x : Int} (d : decode cc pc = .ok (.iload 19, 2)) (k : JW p l e R s m args below meth c cy D ad A nL cells slots Q σ (pc + 2) (a0 :: a1 :: a2 :: a3 :: a4 :: a5 :: a6 :: a7 :: a8 :: a9 :: a10 :: a11 :: a12 :: a13 :: a14 :: a15 :: a16 :: a17 :: a18 :: some (.int (iI x)) :: t) (.int (iI x) :: st)) : JW p l e R s m args below meth c cy D ad A nL cells slots Q σ pc (a0 :: a1 :: a2 :: a3 :: a4 :: a5 :: a6 :: a7 :: a8 :: a9 :: a10 :: a11 :: a12 :: a13 :: a14 :: a15 :: a16 :: a17 :: a18 :: some (.int (iI x)) :: t) st := by
  intro H locs ls h1 h2 h3
  exact lv_iload C.1.1 C.1.2.1 d (h3.2.2 19 _ rfl) (k H locs ls h1 h2 h3)
theorem J_lload19 (C : Cx p l e R s m args below meth c cy D ad A nL cc own Ts) {a0 a1 a2 a3 a4 a5 a6 a7 a8 a9 a10 a11 a12 a13 a14 a15 a16 a17 a18 : Option Value} {t : List (Option Value)} {x : Int} (d : decode cc pc = .ok (.lload 19, 2)) (k : JW p l e R s m args below meth c cy D ad A nL cells slots Q σ (pc + 2) (a0 :: a1 :: a2 :: a3 :: a4 :: a5 :: a6 :: a7 :: a8 :: a9 :: a10 :: a11 :: a12 :: a13 :: a14 :: a15 :: a16 :: a17 :: a18 :: some (.long (lI x)) :: t) (.long (lI x) :: st)) : JW p l e R s m args below meth c cy D ad A nL cells slots Q σ pc (a0 :: a1 :: a2 :: a3 :: a4 :: a5 :: a6 :: a7 :: a8 :: a9 :: a10 :: a11 :: a12 :: a13 :: a14 :: a15 :: a16 :: a17 :: a18 :: some (.long (lI x)) :: t) st := by
  intro H locs ls h1 h2 h3
  exact lv_lload C.1.1 C.1.2.1 d (h3.2.2 19 _ rfl) (k H locs ls h1 h2 h3)
theorem J_aload19 (C : Cx p l e R s m args below meth c cy D ad A nL cc own Ts) {a0 a1 a2 a3 a4 a5 a6 a7 a8 a9 a10 a11 a12 a13 a14 a15 a16 a17 a18 : Option Value} {t : List (Option Value)} {x : Nat} (d : decode cc pc = .ok (.aload 19, 2)) (k : JW p l e R s m args below meth c cy D ad A nL cells slots Q σ (pc + 2) (a0 :: a1 :: a2 :: a3 :: a4 :: a5 :: a6 :: a7 :: a8 :: a9 :: a10 :: a11 :: a12 :: a13 :: a14 :: a15 :: a16 :: a17 :: a18 :: some (.ref x) :: t) (.ref x :: st)) : JW p l e R s m args below meth c cy D ad A nL cells slots Q σ pc (a0 :: a1 :: a2 :: a3 :: a4 :: a5 :: a6 :: a7 :: a8 :: a9 :: a10 :: a11 :: a12 :: a13 :: a14 :: a15 :: a16 :: a17 :: a18 :: some (.ref x) :: t) st := by
  intro H locs ls h1 h2 h3
  exact lv_aload C.1.1 C.1.2.1 d (h3.2.2 19 _ rfl) (k H locs ls h1 h2 h3)
theorem J_istore19 (C : Cx p l e R s m args below meth c cy D ad A nL cc own Ts) {a0 a1 a2 a3 a4 a5 a6 a7 a8 a9 a10 a11 a12 a13 a14 a15 a16 a17 a18 : Option Value} {t : List (Option Value)} {b : Option Value} {x : Int} (hn : 19 < nL) (hp : nlo a18 = true) (d : decode cc pc = .ok (.istore 19, 2)) (k : JW p l e R s m args below meth c cy D ad A nL cells slots Q σ (pc + 2) (a0 :: a1 :: a2 :: a3 :: a4 :: a5 :: a6 :: a7 :: a8 :: a9 :: a10 :: a11 :: a12 :: a13 :: a14 :: a15 :: a16 :: a17 :: a18 :: some (.int (iI x)) :: t) st) : JW p l e R s m args below meth c cy D ad A nL cells slots Q σ pc (a0 :: a1 :: a2 :: a3 :: a4 :: a5 :: a6 :: a7 :: a8 :: a9 :: a10 :: a11 :: a12 :: a13 :: a14 :: a15 :: a16 :: a17 :: a18 :: b :: t) (.int (iI x) :: st) := by
  intro H locs ls h1 h2 h3
  exact lv_istore C.1.1 C.1.2.1 d h3.has hn rfl (fun ls' h' => k H locs ls' h1 h2 (Lh.set1 (show nlat ((a0 :: a1 :: a2 :: a3 :: a4 :: a5 :: a6 :: a7 :: a8 :: a9 :: a10 :: a11 :: a12 :: a13 :: a14 :: a15 :: a16 :: a17 :: a18 :: b :: t)) 19 = true from hp) h'))
theorem J_astore19 (C : Cx p l e R s m args below meth c cy D ad A nL cc own Ts) {a0 a1 a2 a3 a4 a5 a6 a7 a8 a9 a10 a11 a12 a13 a14 a15 a16 a17 a18 : Option Value} {t : List (Option Value)} {b : Option Value} {x : Nat} (hn : 19 < nL) (hp : nlo a18 = true) (d : decode cc pc = .ok (.astore 19, 2)) (k : JW p l e R s m args below meth c cy D ad A nL cells slots Q σ (pc + 2) (a0 :: a1 :: a2 :: a3 :: a4 :: a5 :: a6 :: a7 :: a8 :: a9 :: a10 :: a11 :: a12 :: a13 :: a14 :: a15 :: a16 :: a17 :: a18 :: some (.ref x) :: t) st) : JW p l e R s m args below meth c cy D ad A nL cells slots Q σ pc (a0 :: a1 :: a2 :: a3 :: a4 :: a5 :: a6 :: a7 :: a8 :: a9 :: a10 :: a11 :: a12 :: a13 :: a14 :: a15 :: a16 :: a17 :: a18 :: b :: t) (.ref x :: st) := by
  intro H locs ls h1 h2 h3
  exact lv_astore C.1.1 C.1.2.1 d h3.has hn rfl (fun ls' h' => k H locs ls' h1 h2 (Lh.set1 (show nlat ((a0 :: a1 :: a2 :: a3 :: a4 :: a5 :: a6 :: a7 :: a8 :: a9 :: a10 :: a11 :: a12 :: a13 :: a14 :: a15 :: a16 :: a17 :: a18 :: b :: t)) 19 = true from hp) h'))
theorem J_lstore19 (C : Cx p l e R s m args below meth c cy D ad A nL cc own Ts) {a0 a1 a2 a3 a4 a5 a6 a7 a8 a9 a10 a11 a12 a13 a14 a15 a16 a17 a18 : Option Value} {t : List (Option Value)} {b b2 : Option Value} {x : Int} (hn : 19 + 1 < nL) (hp : nlo a18 = true) (d : decode cc pc = .ok (.lstore 19, 2)) (k : JW p l e R s m args below meth c cy D ad A nL cells slots Q σ (pc + 2) (a0 :: a1 :: a2 :: a3 :: a4 :: a5 :: a6 :: a7 :: a8 :: a9 :: a10 :: a11 :: a12 :: a13 :: a14 :: a15 :: a16 :: a17 :: a18 :: some (.long (lI x)) :: none :: t) st) : JW p l e R s m args below meth c cy D ad A nL cells slots Q σ pc (a0 :: a1 :: a2 :: a3 :: a4 :: a5 :: a6 :: a7 :: a8 :: a9 :: a10 :: a11 :: a12 :: a13 :: a14 :: a15 :: a16 :: a17 :: a18 :: b :: b2 :: t) (.long (lI x) :: st) := by
  intro H locs ls h1 h2 h3
  exact lv_lstore C.1.1 C.1.2.1 d h3.has hn rfl (fun ls' h' => k H locs ls' h1 h2 (Lh.set2 (show nlat ((a0 :: a1 :: a2 :: a3 :: a4 :: a5 :: a6 :: a7 :: a8 :: a9 :: a10 :: a11 :: a12 :: a13 :: a14 :: a15 :: a16 :: a17 :: a18 :: b :: b2 :: t)) 19 = true from hp) h'))
theorem J_iinc19 (C : Cx p l e R s m args below meth c cy D ad A nL cc own Ts) {a0 a1 a2 a3 a4 a5 a6 a7 a8 a9 a10 a11 a12 a13 a14 a15 a16 a17 a18 : Option Value} {t : List (Option Value)} {x z : Int} (hn : 19 < nL) (hp : nlo a18 = true) (d : decode cc pc = .ok (.iinc 19 z, 3)) (k : JW p l e R s m args below meth c cy D ad A nL cells slots Q σ (pc + 3) (a0 :: a1 :: a2 :: a3 :: a4 :: a5 :: a6 :: a7 :: a8 :: a9 :: a10 :: a11 :: a12 :: a13 :: a14 :: a15 :: a16 :: a17 :: a18 :: some (.int (iI (x + z))) :: t) st) : JW p l e R s m args below meth c cy D ad A nL cells slots Q σ pc (a0 :: a1 :: a2 :: a3 :: a4 :: a5 :: a6 :: a7 :: a8 :: a9 :: a10 :: a11 :: a12 :: a13 :: a14 :: a15 :: a16 :: a17 :: a18 :: some (.int (iI x)) :: t) st := by
  intro H locs ls h1 h2 h3
  obtain ⟨i, hi⟩ := List.getElem?_of_mem (lhL_mem.mpr (show ((a0 :: a1 :: a2 :: a3 :: a4 :: a5 :: a6 :: a7 :: a8 :: a9 :: a10 :: a11 :: a12 :: a13 :: a14 :: a15 :: a16 :: a17 :: a18 :: some (.int (iI x)) :: t))[19]? = some (some (.int (iI x))) from rfl))
  exact lv_iinc (v := iI (x + z)) (k := i) C.1.1 C.1.2.1 d h3.has hi (iI_add x z) hn rfl (fun ls' h' => k H locs ls' h1 h2 (Lh.set1 (show nlat ((a0 :: a1 :: a2 :: a3 :: a4 :: a5 :: a6 :: a7 :: a8 :: a9 :: a10 :: a11 :: a12 :: a13 :: a14 :: a15 :: a16 :: a17 :: a18 :: some (.int (iI x)) :: t)) 19 = true from hp) h'))
theorem J_iload20 (C : Cx p l e R s m args below meth c cy D ad A nL cc own Ts) {a0 a1 a2 a3 a4 a5 a6 a7 a8 a9 a10 a11 a12 a13 a14 a15 a16 a17 a18 a19 : Option Value} {t : List (Option Value)} {x : Int} (d : decode cc pc = .ok (.iload 20, 2)) (k : JW p l e R s m args below meth c cy D ad A nL cells slots Q σ (pc + 2) (a0 :: a1 :: a2 :: a3 :: a4 :: a5 :: a6 :: a7 :: a8 :: a9 :: a10 :: a11 :: a12 :: a13 :: a14 :: a15 :: a16 :: a17 :: a18 :: a19 :: some (.int (iI x)) :: t) (.int (iI x) :: st)) : JW p l e R s m args below meth c cy D ad A nL cells slots Q σ pc (a0 :: a1 :: a2 :: a3 :: a4 :: a5 :: a6 :: a7 :: a8 :: a9 :: a10 :: a11 :: a12 :: a13 :: a14 :: a15 :: a16 :: a17 :: a18 :: a19 :: some (.int (iI x)) :: t) st := by
  intro H locs ls h1 h2 h3
  exact lv_iload C.1.1 C.1.2.1 d (h3.2.2 20 _ rfl) (k H locs ls h1 h2 h3)
theorem J_lload20 (C : Cx p l e R s m args below meth c cy D ad A nL cc own Ts) {a0 a1 a2 a3 a4 a5 a6 a7 a8 a9 a10 a11 a12 a13 a14 a15 a16 a17 a18 a19 : Option Value} {t : List (Option Value)} {x : Int} (d : decode cc pc = .ok (.lload 20, 2)) (k : JW p l e R s m args below meth c cy D ad A nL cells slots Q σ (pc + 2) (a0 :: a1 :: a2 :: a3 :: a4 :: a5 :: a6 :: a7 :: a8 :: a9 :: a10 :: a11 :: a12 :: a13 :: a14 :: a15 :: a16 :: a17 :: a18 :: a19 :: some (.long (lI x)) :: t) (.long (lI x) :: st)) : JW p l e R s m args below meth c cy D ad A nL cells slots Q σ pc (a0 :: a1 :: a2 :: a3 :: a4 :: a5 :: a6 :: a7 :: a8 :: a9 :: a10 :: a11 :: a12 :: a13 :: a14 :: a15 :: a16 :: a17 :: a18 :: a19 :: some (.long (lI x)) :: t) st := by
  intro H locs ls h1 h2 h3
  exact lv_lload C.1.1 C.1.2.1 d (h3.2.2 20 _ rfl) (k H locs ls h1 h2 h3)
theorem J_aload20 (C : Cx p l e R s m args below meth c cy D ad A nL cc own Ts) {a0 a1 a2 a3 a4 a5 a6 a7 a8 a9 a10 a11 a12 a13 a14 a15 a16 a17 a18 a19 : Option Value} {t : List (Option Value)} {x : Nat} (d : decode cc pc = .ok (.aload 20, 2)) (k : JW p l e R s m args below meth c cy D ad A nL cells slots Q σ (pc + 2) (a0 :: a1 :: a2 :: a3 :: a4 :: a5 :: a6 :: a7 :: a8 :: a9 :: a10 :: a11 :: a12 :: a13 :: a14 :: a15 :: a16 :: a17 :: a18 :: a19 :: some (.ref x) :: t) (.ref x :: st)) : JW p l e R s m args below meth c cy D ad A nL cells slots Q σ pc (a0 :: a1 :: a2 :: a3 :: a4 :: a5 :: a6 :: a7 :: a8 :: a9 :: a10 :: a11 :: a12 :: a13 :: a14 :: a15 :: a16 :: a17 :: a18 :: a19 :: some (.ref x) :: t) st := by
  intro H locs ls h1 h2 h3
  exact lv_aload C.1.1 C.1.2.1 d (h3.2.2 20 _ rfl) (k H locs ls h1 h2 h3)
theorem J_istore20 (C : Cx p l e R s m args below meth c cy D ad A nL cc own Ts) {a0 a1 a2 a3 a4 a5 a6 a7 a8 a9 a10 a11 a12 a13 a14 a15 a16 a17 a18 a19 : Option Value} {t : List (Option Value)} {b : Option Value} {x : Int} (hn : 20 < nL) (hp : nlo a19 = true) (d : decode cc pc = .ok (.istore 20, 2)) (k : JW p l e R s m args below meth c cy D ad A nL cells slots Q σ (pc + 2) (a0 :: a1 :: a2 :: a3 :: a4 :: a5 :: a6 :: a7 :: a8 :: a9 :: a10 :: a11 :: a12 :: a13 :: a14 :: a15 :: a16 :: a17 :: a18 :: a19 :: some (.int (iI x)) :: t) st) : JW p l e R s m args below meth c cy D ad A nL cells slots Q σ pc (a0 :: a1 :: a2 :: a3 :: a4 :: a5 :: a6 :: a7 :: a8 :: a9 :: a10 :: a11 :: a12 :: a13 :: a14 :: a15 :: a16 :: a17 :: a18 :: a19 :: b :: t) (.int (iI x) :: st) := by
  intro H locs ls h1 h2 h3
  exact lv_istore C.1.1 C.1.2.1 d h3.has hn rfl (fun ls' h' => k H locs ls' h1 h2 (Lh.set1 (show nlat ((a0 :: a1 :: a2 :: a3 :: a4 :: a5 :: a6 :: a7 :: a8 :: a9 :: a10 :: a11 :: a12 :: a13 :: a14 :: a15 :: a16 :: a17 :: a18 :: a19 :: b :: t)) 20 = true from hp) h'))
theorem J_astore20 (C : Cx p l e R s m args below meth c cy D ad A nL cc own Ts) {a0 a1 a2 a3 a4 a5 a6 a7 a8 a9 a10 a11 a12 a13 a14 a15 a16 a17 a18 a19 : Option Value} {t : List (Option Value)} {b : Option Value} {x : Nat} (hn : 20 < nL) (hp : nlo a19 = true) (d : decode cc pc = .ok (.astore 20, 2)) (k : JW p l e R s m args below meth c cy D ad A nL cells slots Q σ (pc + 2) (a0 :: a1 :: a2 :: a3 :: a4 :: a5 :: a6 :: a7 :: a8 :: a9 :: a10 :: a11 :: a12 :: a13 :: a14 :: a15 :: a16 :: a17 :: a18 :: a19 :: some (.ref x) :: t) st) : JW p l e R s m args below meth c cy D ad A nL cells slots Q σ pc (a0 :: a1 :: a2 :: a3 :: a4 :: a5 :: a6 :: a7 :: a8 :: a9 :: a10 :: a11 :: a12 :: a13 :: a14 :: a15 :: a16 :: a17 :: a18 :: a19 :: b :: t) (.ref x :: st) := by
  intro H locs ls h1 h2 h3
  exact lv_astore C.1.1 C.1.2.1 d h3.has hn rfl (fun ls' h' => k H locs ls' h1 h2 (Lh.set1 (show nlat ((a0 :: a1 :: a2 :: a3 :: a4 :: a5 :: a6 :: a7 :: a8 :: a9 :: a10 :: a11 :: a12 :: a13 :: a14 :: a15 :: a16 :: a17 :: a18 :: a19 :: b :: t)) 20 = true from hp) h'))
theorem J_lstore20 (C : Cx p l e R s m args below meth c cy D ad A nL cc own Ts) {a0 a1 a2 a3 a4 a5 a6 a7 a8 a9 a10 a11 a12 a13 a14 a15 a16 a17 a18 a19 : Option Value} {t : List (Option Value)} {b b2 : Option Value} {x : Int} (hn : 20 + 1 < nL) (hp : nlo a19 = true) (d : decode cc pc = .ok (.lstore 20, 2)) (k : JW p l e R s m args below meth c cy D ad A nL cells slots Q σ (pc + 2) (a0 :: a1 :: a2 :: a3 :: a4 :: a5 :: a6 :: a7 :: a8 :: a9 :: a10 :: a11 :: a12 :: a13 :: a14 :: a15 :: a16 :: a17 :: a18 :: a19 :: some (.long (lI x)) :: none :: t) st) : JW p l e R s m args below meth c cy D ad A nL cells slots Q σ pc (a0 :: a1 :: a2 :: a3 :: a4 :: a5 :: a6 :: a7 :: a8 :: a9 :: a10 :: a11 :: a12 :: a13 :: a14 :: a15 :: a16 :: a17 :: a18 :: a19 :: b :: b2 :: t) (.long (lI x) :: st) := by
  intro H locs ls h1 h2 h3
  exact lv_lstore C.1.1 C.1.2.1 d h3.has hn rfl (fun ls' h' => k H locs ls' h1 h2 (Lh.set2 (show nlat ((a0 :: a1 :: a2 :: a3 :: a4 :: a5 :: a6 :: a7 :: a8 :: a9 :: a10 :: a11 :: a12 :: a13 :: a14 :: a15 :: a16 :: a17 :: a18 :: a19 :: b :: b2 :: t)) 20 = true from hp) h'))
theorem J_iinc20 (C : Cx p l e R s m args below meth c cy D ad A nL cc own Ts) {a0 a1 a2 a3 a4 a5 a6 a7 a8 a9 a10 a11 a12 a13 a14 a15 a16 a17 a18 a19 : Option Value} {t : List (Option Value)} {x z : Int} (hn : 20 < nL) (hp : nlo a19 = true) (d : decode cc pc = .ok (.iinc 20 z, 3)) (k : JW p l e R s m args below meth c cy D ad A nL cells slots Q σ (pc + 3) (a0 :: a1 :: a2 :: a3 :: a4 :: a5 :: a6 :: a7 :: a8 :: a9 :: a10 :: a11 :: a12 :: a13 :: a14 :: a15 :: a16 :: a17 :: a18 :: a19 :: some (.int (iI (x + z))) :: t) st) : JW p l e R s m args below meth c cy D ad A nL cells slots Q σ pc (a0 :: a1 :: a2 :: a3 :: a4 :: a5 :: a6 :: a7 :: a8 :: a9 :: a10 :: a11 :: a12 :: a13 :: a14 :: a15 :: a16 :: a17 :: a18 :: a19 :: some (.int (iI x)) :: t) st := by
  intro H locs ls h1 h2 h3
  obtain ⟨i, hi⟩ := List.getElem?_of_mem (lhL_mem.mpr (show ((a0 :: a1 :: a2 :: a3 :: a4 :: a5 :: a6 :: a7 :: a8 :: a9 :: a10 :: a11 :: a12 :: a13 :: a14 :: a15 :: a16 :: a17 :: a18 :: a19 :: some (.int (iI x)) :: t))[20]? = some (some (.int (iI x))) from rfl))
  exact lv_iinc (v := iI (x + z)) (k := i) C.1.1 C.1.2.1 d h3.has hi (iI_add x z) hn rfl (fun ls' h' => k H locs ls' h1 h2 (Lh.set1 (show nlat ((a0 :: a1 :: a2 :: a3 :: a4 :: a5 :: a6 :: a7 :: a8 :: a9 :: a10 :: a11 :: a12 :: a13 :: a14 :: a15 :: a16 :: a17 :: a18 :: a19 :: some (.int (iI x)) :: t)) 20 = true from hp) h'))
theorem J_iload21 (C : Cx p l e R s m args below meth c cy D ad A nL cc own Ts) {a0 a1 a2 a3 a4 a5 a6 a7 a8 a9 a10 a11 a12 a13 a14 a15 a16 a17 a18 a19 a20 : Option Value} {t : List (Option Value)} {x : Int} (d : decode cc pc = .ok (.iload 21, 2)) (k : JW p l e R s m args below meth c cy D ad A nL cells slots Q σ (pc + 2) (a0 :: a1 :: a2 :: a3 :: a4 :: a5 :: a6 :: a7 :: a8 :: a9 :: a10 :: a11 :: a12 :: a13 :: a14 :: a15 :: a16 :: a17 :: a18 :: a19 :: a20 :: some (.int (iI x)) :: t) (.int (iI x) :: st)) : JW p l e R s m args below meth c cy D ad A nL cells slots Q σ pc (a0 :: a1 :: a2 :: a3 :: a4 :: a5 :: a6 :: a7 :: a8 :: a9 :: a10 :: a11 :: a12 :: a13 :: a14 :: a15 :: a16 :: a17 :: a18 :: a19 :: a20 :: some (.int (iI x)) :: t) st := by
  intro H locs ls h1 h2 h3
  exact lv_iload C.1.1 C.1.2.1 d (h3.2.2 21 _ rfl) (k H locs ls h1 h2 h3)
theorem J_lload21 (C : Cx p l e R s m args below meth c cy D ad A nL cc own Ts) {a0 a1 a2 a3 a4 a5 a6 a7 a8 a9 a10 a11 a12 a13 a14 a15 a16 a17 a18 a19 a20 : Option Value} {t : List (Option Value)} {x : Int} (d : decode cc pc = .ok (.lload 21, 2)) (k : JW p l e R s m args below meth c cy D ad A nL cells slots Q σ (pc + 2) (a0 :: a1 :: a2 :: a3 :: a4 :: a5 :: a6 :: a7 :: a8 :: a9 :: a10 :: a11 :: a12 :: a13 :: a14 :: a15 :: a16 :: a17 :: a18 :: a19 :: a20 :: some (.long (lI x)) :: t) (.long (lI x) :: st)) : JW p l e R s m args below meth c cy D ad A nL cells slots Q σ pc (a0 :: a1 :: a2 :: a3 :: a4 :: a5 :: a6 :: a7 :: a8 :: a9 :: a10 :: a11 :: a12 :: a13 :: a14 :: a15 :: a16 :: a17 :: a18 :: a19 :: a20 :: some (.long (lI x)) :: t) st := by
  intro H locs ls h1 h2 h3
  exact lv_lload C.1.1 C.1.2.1 d (h3.2.2 21 _ rfl) (k H locs ls h1 h2 h3)
theorem J_aload21 (C : Cx p l e R s m args below meth c cy D ad A nL cc own Ts) {a0 a1 a2 a3 a4 a5 a6 a7 a8 a9 a10 a11 a12 a13 a14 a15 a16 a17 a18 a19 a20 : Option Value} {t : List (Option Value)} {x : Nat} (d : decode cc pc = .ok (.aload 21, 2)) (k : JW p l e R s m args below meth c cy D ad A nL cells slots Q σ (pc + 2) (a0 :: a1 :: a2 :: a3 :: a4 :: a5 :: a6 :: a7 :: a8 :: a9 :: a10 :: a11 :: a12 :: a13 :: a14 :: a15 :: a16 :: a17 :: a18 :: a19 :: a20 :: some (.ref x) :: t) (.ref x :: st)) : JW p l e R s m args below meth c cy D ad A nL cells slots Q σ pc (a0 :: a1 :: a2 :: a3 :: a4 :: a5 :: a6 :: a7 :: a8 :: a9 :: a10 :: a11 :: a12 :: a13 :: a14 :: a15 :: a16 :: a17 :: a18 :: a19 :: a20 :: some (.ref x) :: t) st := by
  intro H locs ls h1 h2 h3
  exact lv_aload C.1.1 C.1.2.1 d (h3.2.2 21 _ rfl) (k H locs ls h1 h2 h3)
theorem J_istore21 (C : Cx p l e R s m args below meth c cy D ad A nL cc own Ts) {a0 a1 a2 a3 a4 a5 a6 a7 a8 a9 a10 a11 a12 a13 a14 a15 a16 a17 a18 a19 a20 : Option Value} {t : List (Option Value)} {b : Option Value} {x : Int} (hn : 21 < nL) (hp : nlo a20 = true) (d : decode cc pc = .ok (.istore 21, 2)) (k : JW p l e R s m args below meth c cy D ad A nL cells slots Q σ (pc + 2) (a0 :: a1 :: a2 :: a3 :: a4 :: a5 :: a6 :: a7 :: a8 :: a9 :: a10 :: a11 :: a12 :: a13 :: a14 :: a15 :: a16 :: a17 :: a18 :: a19 :: a20 :: some (.int (iI x)) :: t) st) : JW p l e R s m args below meth c cy D ad A nL cells slots Q σ pc (a0 :: a1 :: a2 :: a3 :: a4 :: a5 :: a6 :: a7 :: a8 :: a9 :: a10 :: a11 :: a12 :: a13 :: a14 :: a15 :: a16 :: a17 :: a18 :: a19 :: a20 :: b :: t) (.int (iI x) :: st) := by
  intro H locs ls h1 h2 h3
  exact lv_istore C.1.1 C.1.2.1 d h3.has hn rfl (fun ls' h' => k H locs ls' h1 h2 (Lh.set1 (show nlat ((a0 :: a1 :: a2 :: a3 :: a4 :: a5 :: a6 :: a7 :: a8 :: a9 :: a10 :: a11 :: a12 :: a13 :: a14 :: a15 :: a16 :: a17 :: a18 :: a19 :: a20 :: b :: t)) 21 = true from hp) h'))
theorem J_astore21 (C : Cx p l e R s m args below meth c cy D ad A nL cc own Ts) {a0 a1 a2 a3 a4 a5 a6 a7 a8 a9 a10 a11 a12 a13 a14 a15 a16 a17 a18 a19 a20 : Option Value} {t : List (Option Value)} {b : Option Value} {x : Nat} (hn : 21 < nL) (hp : nlo a20 = true) (d : decode cc pc = .ok (.astore 21, 2)) (k : JW p l e R s m args below meth c cy D ad A nL cells slots Q σ (pc + 2) (a0 :: a1 :: a2 :: a3 :: a4 :: a5 :: a6 :: a7 :: a8 :: a9 :: a10 :: a11 :: a12 :: a13 :: a14 :: a15 :: a16 :: a17 :: a18 :: a19 :: a20 :: some (.ref x) :: t) st) : JW p l e R s m args below meth c cy D ad A nL cells slots Q σ pc (a0 :: a1 :: a2 :: a3 :: a4 :: a5 :: a6 :: a7 :: a8 :: a9 :: a10 :: a11 :: a12 :: a13 :: a14 :: a15 :: a16 :: a17 :: a18 :: a19 :: a20 :: b :: t) (.ref x :: st) := by
  intro H locs ls h1 h2 h3
  exact lv_astore C.1.1 C.1.2.1 d h3.has hn rfl (fun ls' h' => k H locs ls' h1 h2 (Lh.set1 (show nlat ((a0 :: a1 :: a2 :: a3 :: a4 :: a5 :: a6 :: a7 :: a8 :: a9 :: a10 :: a11 :: a12 :: a13 :: a14 :: a15 :: a16 :: a17 :: a18 :: a19 :: a20 :: b :: t)) 21 = true from hp) h'))
theorem J_lstore21 (C : Cx p l e R s m args below meth c cy D ad A nL cc own Ts) {a0 a1 a2 a3 a4 a5 a6 a7 a8 a9 a10 a11 a12 a13 a14 a15 a16 a17 a18 a19 a20 : Option Value} {t : List (Option Value)} {b b2 : Option Value} {x : Int} (hn : 21 + 1 < nL) (hp : nlo a20 = true) (d : decode cc pc = .ok (.lstore 21, 2)) (k : JW p l e R s m args below meth c cy D ad A nL cells slots Q σ (pc + 2) (a0 :: a1 :: a2 :: a3 :: a4 :: a5 :: a6 :: a7 :: a8 :: a9 :: a10 :: a11 :: a12 :: a13 :: a14 :: a15 :: a16 :: a17 :: a18 :: a19 :: a20 :: some (.long (lI x)) :: none :: t) st) : JW p l e R s m args below meth c cy D ad A nL cells slots Q σ pc (a0 :: a1 :: a2 :: a3 :: a4 :: a5 :: a6 :: a7 :: a8 :: a9 :: a10 :: a11 :: a12 :: a13 :: a14 :: a15 :: a16 :: a17 :: a18 :: a19 :: a20 :: b :: b2 :: t) (.long (lI x) :: st) := by
  intro H locs ls h1 h2 h3
  exact lv_lstore C.1.1 C.1.2.1 d h3.has hn rfl (fun ls' h' => k H locs ls' h1 h2 (Lh.set2 (show nlat ((a0 :: a1 :: a2 :: a3 :: a4 :: a5 :: a6 :: a7 :: a8 :: a9 :: a10 :: a11 :: a12 :: a13 :: a14 :: a15 :: a16 :: a17 :: a18 :: a19 :: a20 :: b :: b2 :: t)) 21 = true from hp) h'))
theorem J_iinc21 (C : Cx p l e R s m args below meth c cy D ad A nL cc own Ts) {a0 a1 a2 a3 a4 a5 a6 a7 a8 a9 a10 a11 a12 a13 a14 a15 a16 a17 a18 a19 a20 : Option Value} {t : List (Option Value)} {x z : Int} (hn : 21 < nL) (hp : nlo a20 = true) (d : decode cc pc = .ok (.iinc 21 z, 3)) (k : JW p l e R s m args below meth c cy D ad A nL cells slots Q σ (pc + 3) (a0 :: a1 :: a2 :: a3 :: a4 :: a5 :: a6 :: a7 :: a8 :: a9 :: a10 :: a11 :: a12 :: a13 :: a14 :: a15 :: a16 :: a17 :: a18 :: a19 :: a20 :: some (.int (iI (x + z))) :: t) st) : JW p l e R s m args below meth c cy D ad A nL cells slots Q σ pc (a0 :: a1 :: a2 :: a3 :: a4 :: a5 :: a6 :: a7 :: a8 :: a9 :: a10 :: a11 :: a12 :: a13 :: a14 :: a15 :: a16 :: a17 :: a18 :: a19 :: a20 :: some (.int (iI x)) :: t) st := by
  intro H locs ls h1 h2 h3
  obtain ⟨i, hi⟩ := List.getElem?_of_mem (lhL_mem.mpr (show ((a0 :: a1 :: a2 :: a3 :: a4 :: a5 :: a6 :: a7 :: a8 :: a9 :: a10 :: a11 :: a12 :: a13 :: a14 :: a15 :: a16 :: a17 :: a18 :: a19 :: a20 :: some (.int (iI x)) :: t))[21]? = some (some (.int (iI x))) from rfl))
  exact lv_iinc (v := iI (x + z)) (k := i) C.1.1 C.1.2.1 d h3.has hi (iI_add x z) hn rfl (fun ls' h' => k H locs ls' h1 h2 (Lh.set1 (show nlat ((a0 :: a1 :: a2 :: a3 :: a4 :: a5 :: a6 :: a7 :: a8 :: a9 :: a10 :: a11 :: a12 :: a13 :: a14 :: a15 :: a16 :: a17 :: a18 :: a19 :: a20 :: some (.int (iI x)) :: t)) 21 = true from hp) h'))
theorem J_iload22 (C : Cx p l e R s m args below meth c cy D ad A nL cc own Ts) {a0 a1 a2 a3 a4 a5 a6 a7 a8 a9 a10 a11 a12 a13 a14 a15 a16 a17 a18 a19 a20 a21 : Option Value} {t : List (Option Value)} {x : Int} (d : decode cc pc = .ok (.iload 22, 2)) (k : JW p l e R s m args below meth c cy D ad A nL cells slots Q σ (pc + 2) (a0 :: a1 :: a2 :: a3 :: a4 :: a5 :: a6 :: a7 :: a8 :: a9 :: a10 :: a11 :: a12 :: a13 :: a14 :: a15 :: a16 :: a17 :: a18 :: a19 :: a20 :: a21 :: some (.int (iI x)) :: t) (.int (iI x) :: st)) : JW p l e R s m args below meth c cy D ad A nL cells slots Q σ pc (a0 :: a1 :: a2 :: a3 :: a4 :: a5 :: a6 :: a7 :: a8 :: a9 :: a10 :: a11 :: a12 :: a13 :: a14 :: a15 :: a16 :: a17 :: a18 :: a19 :: a20 :: a21 :: some (.int (iI x)) :: t) st := by
  intro H locs ls h1 h2 h3
  exact lv_iload C.1.1 C.1.2.1 d (h3.2.2 22 _ rfl) (k H locs ls h1 h2 h3)
theorem J_lload22 (C : Cx p l e R s m args below meth c cy D ad A nL cc own Ts) {a0 a1 a2 a3 a4 a5 a6 a7 a8 a9 a10 a11 a12 a13 a14 a15 a16 a17 a18 a19 a20 a21 : Option Value} {t : List (Option Value)} {x : Int} (d : decode cc pc = .ok (.lload 22, 2)) (k : JW p l e R s m args below meth c cy D ad A nL cells slots Q σ (pc + 2) (a0 :: a1 :: a2 :: a3 :: a4 :: a5 :: a6 :: a7 :: a8 :: a9 :: a10 :: a11 :: a12 :: a13 :: a14 :: a15 :: a16 :: a17 :: a18 :: a19 :: a20 :: a21 :: some (.long (lI x)) :: t) (.long (lI x) :: st)) : JW p l e R s m args below meth c cy D ad A nL cells slots Q σ pc (a0 :: a1 :: a2 :: a3 :: a4 :: a5 :: a6 :: a7 :: a8 :: a9 :: a10 :: a11 :: a12 :: a13 :: a14 :: a15 :: a16 :: a17 :: a18 :: a19 :: a20 :: a21 :: some (.long (lI x)) :: t) st := by
  intro H locs ls h1 h2 h3
  exact lv_lload C.1.1 C.1.2.1 d (h3.2.2 22 _ rfl) (k H locs ls h1 h2 h3)
theorem J_aload22 (C : Cx p l e R s m args below meth c cy D ad A nL cc own Ts) {a0 a1 a2 a3 a4 a5 a6 a7 a8 a9 a10 a11 a12 a13 a14 a15 a16 a17 a18 a19 a20 a21 : Option Value} {t : List (Option Value)} {x : Nat} (d : decode cc pc = .ok (.aload 22, 2)) (k : JW p l e R s m args below meth c cy D ad A nL cells slots Q σ (pc + 2) (a0 :: a1 :: a2 :: a3 :: a4 :: a5 :: a6 :: a7 :: a8 :: a9 :: a10 :: a11 :: a12 :: a13 :: a14 :: a15 :: a16 :: a17 :: a18 :: a19 :: a20 :: a21 :: some (.ref x) :: t) (.ref x :: st)) : JW p l e R s m args below meth c cy D ad A nL cells slots Q σ pc (a0 :: a1 :: a2 :: a3 :: a4 :: a5 :: a6 :: a7 :: a8 :: a9 :: a10 :: a11 :: a12 :: a13 :: a14 :: a15 :: a16 :: a17 :: a18 :: a19 :: a20 :: a21 :: some (.ref x) :: t) st := by
  intro H locs ls h1 h2 h3
  exact lv_aload C.1.1 C.1.2.1 d (h3.2.2 22 _ rfl) (k H locs ls h1 h2 h3)
theorem J_istore22 (C : Cx p l e R s m args below meth c cy D ad A nL cc own Ts) {a0 a1 a2 a3 a4 a5 a6 a7 a8 a9 a10 a11 a12 a13 a14 a15 a16 a17 a18 a19 a20 a21 : Option Value} {t : List (Option Value)} {b : Option Value} {x : Int} (hn : 22 < nL) (hp : nlo a21 = true) (d : decode cc pc = .ok (.istore 22, 2)) (k : JW p l e R s m args below meth c cy D ad A nL cells slots Q σ (pc + 2) (a0 :: a1 :: a2 :: a3 :: a4 :: a5 :: a6 :: a7 :: a8 :: a9 :: a10 :: a11 :: a12 :: a13 :: a14 :: a15 :: a16 :: a17 :: a18 :: a19 :: a20 :: a21 :: some (.int (iI x)) :: t) st) : JW p l e R s m args below meth c cy D ad A nL cells slots Q σ pc (a0 :: a1 :: a2 :: a3 :: a4 :: a5 :: a6 :: a7 :: a8 :: a9 :: a10 :: a11 :: a12 :: a13 :: a14 :: a15 :: a16 :: a17 :: a18 :: a19 :: a20 :: a21 :: b :: t) (.int (iI x) :: st) := by
  intro H locs ls h1 h2 h3
  exact lv_istore C.1.1 C.1.2.1 d h3.has hn rfl (fun ls' h' => k H locs ls' h1 h2 (Lh.set1 (show nlat ((a0 :: a1 :: a2 :: a3 :: a4 :: a5 :: a6 :: a7 :: a8 :: a9 :: a10 :: a11 :: a12 :: a13 :: a14 :: a15 :: a16 :: a17 :: a18 :: a19 :: a20 :: a21 :: b :: t)) 22 = true from hp) h'))
theorem J_astore22 (C : Cx p l e R s m args below meth c cy D ad A nL cc own Ts) {a0 a1 a2 a3 a4 a5 a6 a7 a8 a9 a10 a11 a12 a13 a14 a15 a16 a17 a18 a19 a20 a21 : Option Value} {t : List (Option Value)} {b : Option Value} {x : Nat} (hn : 22 < nL) (hp : nlo a21 = true) (d : decode cc pc = .ok (.astore 22, 2)) (k : JW p l e R s m args below meth c cy D ad A nL cells slots Q σ (pc + 2) (a0 :: a1 :: a2 :: a3 :: a4 :: a5 :: a6 :: a7 :: a8 :: a9 :: a10 :: a11 :: a12 :: a13 :: a14 :: a15 :: a16 :: a17 :: a18 :: a19 :: a20 :: a21 :: some (.ref x) :: t) st) : JW p l e R s m args below meth c cy D ad A nL cells slots Q σ pc (a0 :: a1 :: a2 :: a3 :: a4 :: a5 :: a6 :: a7 :: a8 :: a9 :: a10 :: a11 :: a12 :: a13 :: a14 :: a15 :: a16 :: a17 :: a18 :: a19 :: a20 :: a21 :: b :: t) (.ref x :: st) := by
  intro H locs ls h1 h2 h3
  exact lv_astore C.1.1 C.1.2.1 d h3.has hn rfl (fun ls' h' => k H locs ls' h1 h2 (Lh.set1 (show nlat ((a0 :: a1 :: a2 :: a3 :: a4 :: a5 :: a6 :: a7 :: a8 :: a9 :: a10 :: a11 :: a12 :: a13 :: a14 :: a15 :: a16 :: a17 :: a18 :: a19 :: a20 :: a21 :: b :: t)) 22 = true from hp) h'))
theorem J_lstore22 (C : Cx p l e R s m args below meth c cy D ad A nL cc own Ts) {a0 a1 a2 a3 a4 a5 a6 a7 a8 a9 a10 a11 a12 a13 a14 a15 a16 a17 a18 a19 a20 a21 : Option Value} {t : List (Option Value)} {b b2 : Option Value} {x : Int} (hn : 22 + 1 < nL) (hp : nlo a21 = true) (d : decode cc pc = .ok (.lstore 22, 2)) (k : JW p l e R s m args below meth c cy D ad A nL cells slots Q σ (pc + 2) (a0 :: a1 :: a2 :: a3 :: a4 :: a5 :: a6 :: a7 :: a8 :: a9 :: a10 :: a11 :: a12 :: a13 :: a14 :: a15 :: a16 :: a17 :: a18 :: a19 :: a20 :: a21 :: some (.long (lI x)) :: none :: t) st) : JW p l e R s m args below meth c cy D ad A nL cells slots Q σ pc (a0 :: a1 :: a2 :: a3 :: a4 :: a5 :: a6 :: a7 :: a8 :: a9 :: a10 :: a11 :: a12 :: a13 :: a14 :: a15 :: a16 :: a17 :: a18 :: a19 :: a20 :: a21 :: b :: b2 :: t) (.long (lI x) :: st) := by
  intro H locs ls h1 h2 h3
  exact lv_lstore C.1.1 C.1.2.1 d h3.has hn rfl (fun ls' h' => k H locs ls' h1 h2 (Lh.set2 (show nlat ((a0 :: a1 :: a2 :: a3 :: a4 :: a5 :: a6 :: a7 :: a8 :: a9 :: a10 :: a11 :: a12 :: a13 :: a14 :: a15 :: a16 :: a17 :: a18 :: a19 :: a20 :: a21 :: b :: b2 :: t)) 22 = true from hp) h'))
theorem J_iinc22 (C : Cx p l e R s m args below meth c cy D ad A nL cc own Ts) {a0 a1 a2 a3 a4 a5 a6 a7 a8 a9 a10 a11 a12 a13 a14 a15 a16 a17 a18 a19 a20 a21 : Option Value} {t : List (Option Value)} {x z : Int} (hn : 22 < nL) (hp : nlo a21 = true) (d : decode cc pc = .ok (.iinc 22 z, 3)) (k : JW p l e R s m args below meth c cy D ad A nL cells slots Q σ (pc + 3) (a0 :: a1 :: a2 :: a3 :: a4 :: a5 :: a6 :: a7 :: a8 :: a9 :: a10 :: a11 :: a12 :: a13 :: a14 :: a15 :: a16 :: a17 :: a18 :: a19 :: a20 :: a21 :: some (.int (iI (x + z))) :: t) st) : JW p l e R s m args below meth c cy D ad A nL cells slots Q σ pc (a0 :: a1 :: a2 :: a3 :: a4 :: a5 :: a6 :: a7 :: a8 :: a9 :: a10 :: a11 :: a12 :: a13 :: a14 :: a15 :: a16 :: a17 :: a18 :: a19 :: a20 :: a21 :: some (.int (iI x)) :: t) st := by
  intro H locs ls h1 h2 h3
  obtain ⟨i, hi⟩ := List.getElem?_of_mem (lhL_mem.mpr (show ((a0 :: a1 :: a2 :: a3 :: a4 :: a5 :: a6 :: a7 :: a8 :: a9 :: a10 :: a11 :: a12 :: a13 :: a14 :: a15 :: a16 :: a17 :: a18 :: a19 :: a20 :: a21 :: some (.int (iI x)) :: t))[22]? = some (some (.int (iI x))) from rfl))
  exact lv_iinc (v := iI (x + z)) (k := i) C.1.1 C.1.2.1 d h3.has hi (iI_add x z) hn rfl (fun ls' h' => k H locs ls' h1 h2 (Lh.set1 (show nlat ((a0 :: a1 :: a2 :: a3 :: a4 :: a5 :: a6 :: a7 :: a8 :: a9 :: a10 :: a11 :: a12 :: a13 :: a14 :: a15 :: a16 :: a17 :: a18 :: a19 :: a20 :: a21 :: some (.int (iI x)) :: t)) 22 = true from hp) h'))
theorem J_iload23 (C : Cx p l e R s m args below meth c cy D ad A nL cc own Ts) {a0 a1 a2 a3 a4 a5 a6 a7 a8 a9 a10 a11 a12 a13 a14 a15 a16 a17 a18 a19 a20 a21 a22 : Option Value} {t : List (Option Value)} {x : Int} (d : decode cc pc = .ok (.iload 23, 2)) (k : JW p l e R s m args below meth c cy D ad A nL cells slots Q σ (pc + 2) (a0 :: a1 :: a2 :: a3 :: a4 :: a5 :: a6 :: a7 :: a8 :: a9 :: a10 :: a11 :: a12 :: a13 :: a14 :: a15 :: a16 :: a17 :: a18 :: a19 :: a20 :: a21 :: a22 :: some (.int (iI x)) :: t) (.int (iI x) :: st)) : JW p l e R s m args below meth c cy D ad A nL cells slots Q σ pc (a0 :: a1 :: a2 :: a3 :: a4 :: a5 :: a6 :: a7 :: a8 :: a9 :: a10 :: a11 :: a12 :: a13 :: a14 :: a15 :: a16 :: a17 :: a18 :: a19 :: a20 :: a21 :: a22 :: some (.int (iI x)) :: t) st := by
  intro H locs ls h1 h2 h3
  exact lv_iload C.1.1 C.1.2.1 d (h3.2.2 23 _ rfl) (k H locs ls h1 h2 h3)
theorem J_lload23 (C : Cx p l e R s m args below meth c cy D ad A nL cc own Ts) {a0 a1 a2 a3 a4 a5 a6 a7 a8 a9 a10 a11 a12 a13 a14 a15 a16 a17 a18 a19 a20 a21 a22 : Option Value} {t : List (Option Value)} {x : Int} (d : decode cc pc = .ok (.lload 23, 2)) (k : JW p l e R s m args below meth c cy D ad A nL cells slots Q σ (pc + 2) (a0 :: a1 :: a2 :: a3 :: a4 :: a5 :: a6 :: a7 :: a8 :: a9 :: a10 :: a11 :: a12 :: a13 :: a14 :: a15 :: a16 :: a17 :: a18 :: a19 :: a20 :: a21 :: a22 :: some (.long (lI x)) :: t) (.long (lI x) :: st)) : JW p l e R s m args below meth c cy D ad A nL cells slots Q σ pc (a0 :: a1 :: a2 :: a3 :: a4 :: a5 :: a6 :: a7 :: a8 :: a9 :: a10 :: a11 :: a12 :: a13 :: a14 :: a15 :: a16 :: a17 :: a18 :: a19 :: a20 :: a21 :: a22 :: some (.long (lI x)) :: t) st := by
  intro H locs ls h1 h2 h3
  exact lv_lload C.1.1 C.1.2.1 d (h3.2.2 23 _ rfl) (k H locs ls h1 h2 h3)
theorem J_aload23 (C : Cx p l e R s m args below meth c cy D ad A nL cc own Ts) {a0 a1 a2 a3 a4 a5 a6 a7 a8 a9 a10 a11 a12 a13 a14 a15 a16 a17 a18 a19 a20 a21 a22 : Option Value} {t : List (Option Value)} {x : Nat} (d : decode cc pc = .ok (.aload 23, 2)) (k : JW p l e R s m args below meth c cy D ad A nL cells slots Q σ (pc + 2) (a0 :: a1 :: a2 :: a3 :: a4 :: a5 :: a6 :: a7 :: a8 :: a9 :: a10 :: a11 :: a12 :: a13 :: a14 :: a15 :: a16 :: a17 :: a18 :: a19 :: a20 :: a21 :: a22 :: some (.ref x) :: t) (.ref x :: st)) : JW p l e R s m args below meth c cy D ad A nL cells slots Q σ pc (a0 :: a1 :: a2 :: a3 :: a4 :: a5 :: a6 :: a7 :: a8 :: a9 :: a10 :: a11 :: a12 :: a13 :: a14 :: a15 :: a16 :: a17 :: a18 :: a19 :: a20 :: a21 :: a22 :: some (.ref x) :: t) st := by
  intro H locs ls h1 h2 h3
  exact lv_aload C.1.1 C.1.2.1 d (h3.2.2 23 _ rfl) (k H locs ls h1 h2 h3)
theorem J_istore23 (C : Cx p l e R s m args below meth c cy D ad A nL cc own Ts) {a0 a1 a2 a3 a4 a5 a6 a7 a8 a9 a10 a11 a12 a13 a14 a15 a16 a17 a18 a19 a20 a21 a22 : Option Value} {t : List (Option Value)} {b : Option Value} {x : Int} (hn : 23 < nL) (hp : nlo a22 = true) (d : decode cc pc = .ok (.istore 23, 2)) (k : JW p l e R s m args below meth c cy D ad A nL cells slots Q σ (pc + 2) (a0 :: a1 :: a2 :: a3 :: a4 :: a5 :: a6 :: a7 :: a8 :: a9 :: a10 :: a11 :: a12 :: a13 :: a14 :: a15 :: a16 :: a17 :: a18 :: a19 :: a20 :: a21 :: a22 :: some (.int (iI x)) :: t) st) : JW p l e R s m args below meth c cy D ad A nL cells slots Q σ pc (a0 :: a1 :: a2 :: a3 :: a4 :: a5 :: a6 :: a7 :: a8 :: a9 :: a10 :: a11 :: a12 :: a13 :: a14 :: a15 :: a16 :: a17 :: a18 :: a19 :: a20 :: a21 :: a22 :: b :: t) (.int (iI x) :: st) := by
  intro H locs ls h1 h2 h3
  exact lv_istore C.1.1 C.1.2.1 d h3.has hn rfl (fun ls' h' => k H locs ls' h1 h2 (Lh.set1 (show nlat ((a0 :: a1 :: a2 :: a3 :: a4 :: a5 :: a6 :: a7 :: a8 :: a9 :: a10 :: a11 :: a12 :: a13 :: a14 :: a15 :: a16 :: a17 :: a18 :: a19 :: a20 :: a21 :: a22 :: b :: t)) 23 = true from hp) h'))
theorem J_astore23 (C : Cx p l e R s m args below meth c cy D ad A nL cc own Ts) {a0 a1 a2 a3 a4 a5 a6 a7 a8 a9 a10 a11 a12 a13 a14 a15 a16 a17 a18 a19 a20 a21 a22 : Option Value} {t : List (Option Value)} {b : Option Value} {x : Nat} (hn : 23 < nL) (hp : nlo a22 = true) (d : decode cc pc = .ok (.astore 23, 2)) (k : JW p l e R s m args below meth c cy D ad A nL cells slots Q σ (pc + 2) (a0 :: a1 :: a2 :: a3 :: a4 :: a5 :: a6 :: a7 :: a8 :: a9 :: a10 :: a11 :: a12 :: a13 :: a14 :: a15 :: a16 :: a17 :: a18 :: a19 :: a20 :: a21 :: a22 :: some (.ref x) :: t) st) : JW p l e R s m args below meth c cy D ad A nL cells slots Q σ pc (a0 :: a1 :: a2 :: a3 :: a4 :: a5 :: a6 :: a7 :: a8 :: a9 :: a10 :: a11 :: a12 :: a13 :: a14 :: a15 :: a16 :: a17 :: a18 :: a19 :: a20 :: a21 :: a22 :: b :: t) (.ref x :: st) := by
  intro H locs ls h1 h2 h3
  exact lv_astore C.1.1 C.1.2.1 d h3.has hn rfl (fun ls' h' => k H locs ls' h1 h2 (Lh.set1 (show nlat ((a0 :: a1 :: a2 :: a3 :: a4 :: a5 :: a6 :: a7 :: a8 :: a9 :: a10 :: a11 :: a12 :: a13 :: a14 :: a15 :: a16 :: a17 :: a18 :: a19 :: a20 :: a21 :: a22 :: b :: t)) 23 = true from hp) h'))
theorem J_lstore23 (C : Cx p l e R s m args below meth c cy D ad A nL cc own Ts) {a0 a1 a2 a3 a4 a5 a6 a7 a8 a9 a10 a11 a12 a13 a14 a15 a16 a17 a18 a19 a20 a21 a22 : Option Value} {t : List (Option Value)} {b b2 : Option Value} {x : Int} (hn : 23 + 1 < nL) (hp : nlo a22 = true) (d : decode cc pc = .ok (.lstore 23, 2)) (k : JW p l e R s m args below meth c cy D ad A nL cells slots Q σ (pc + 2) (a0 :: a1 :: a2 :: a3 :: a4 :: a5 :: a6 :: a7 :: a8 :: a9 :: a10 :: a11 :: a12 :: a13 :: a14 :: a15 :: a16 :: a17 :: a18 :: a19 :: a20 :: a21 :: a22 :: some (.long (lI x)) :: none :: t) st) : JW p l e R s m args below meth c cy D ad A nL cells slots Q σ pc (a0 :: a1 :: a2 :: a3 :: a4 :: a5 :: a6 :: a7 :: a8 :: a9 :: a10 :: a11 :: a12 :: a13 :: a14 :: a15 :: a16 :: a17 :: a18 :: a19 :: a20 :: a21 :: a22 :: b :: b2 :: t) (.long (lI x) :: st) := by
  intro H locs ls h1 h2 h3
  exact lv_lstore C.1.1 C.1.2.1 d h3.has hn rfl (fun ls' h' => k H locs ls' h1 h2 (Lh.set2 (show nlat ((a0 :: a1 :: a2 :: a3 :: a4 :: a5 :: a6 :: a7 :: a8 :: a9 :: a10 :: a11 :: a12 :: a13 :: a14 :: a15 :: a16 :: a17 :: a18 :: a19 :: a20 :: a21 :: a22 :: b :: b2 :: t)) 23 = true from hp) h'))
theorem J_iinc23 (C : Cx p l e R s m args below meth c cy D ad A nL cc own Ts) {a0 a1 a2 a3 a4 a5 a6 a7 a8 a9 a10 a11 a12 a13 a14 a15 a16 a17 a18 a19 a20 a21 a22 : Option Value} {t : List (Option Value)} {x z : Int} (hn : 23 < nL) (hp : nlo a22 = true) (d : decode cc pc = .ok (.iinc 23 z, 3)) (k : JW p l e R s m args below meth c cy D ad A nL cells slots Q σ (pc + 3) (a0 :: a1 :: a2 :: a3 :: a4 :: a5 :: a6 :: a7 :: a8 :: a9 :: a10 :: a11 :: a12 :: a13 :: a14 :: a15 :: a16 :: a17 :: a18 :: a19 :: a20 :: a21 :: a22 :: some (.int (iI (x + z))) :: t) st) : JW p l e R s m args below meth c cy D ad A nL cells slots Q σ pc (a0 :: a1 :: a2 :: a3 :: a4 :: a5 :: a6 :: a7 :: a8 :: a9 :: a10 :: a11 :: a12 :: a13 :: a14 :: a15 :: a16 :: a17 :: a18 :: a19 :: a20 :: a21 :: a22 :: some (.int (iI x)) :: t) st := by
  intro H locs ls h1 h2 h3
  obtain ⟨i, hi⟩ := List.getElem?_of_mem (lhL_mem.mpr (show ((a0 :: a1 :: a2 :: a3 :: a4 :: a5 :: a6 :: a7 :: a8 :: a9 :: a10 :: a11 :: a12 :: a13 :: a14 :: a15 :: a16 :: a17 :: a18 :: a19 :: a20 :: a21 :: a22 :: some (.int (iI x)) :: t))[23]? = some (some (.int (iI x))) from rfl))
  exact lv_iinc (v := iI (x + z)) (k := i) C.1.1 C.1.2.1 d h3.has hi (iI_add x z) hn rfl (fun ls' h' => k H locs ls' h1 h2 (Lh.set1 (show nlat ((a0 :: a1 :: a2 :: a3 :: a4 :: a5 :: a6 :: a7 :: a8 :: a9 :: a10 :: a11 :: a12 :: a13 :: a14 :: a15 :: a16 :: a17 :: a18 :: a19 :: a20 :: a21 :: a22 :: some (.int (iI x)) :: t)) 23 = true from hp) h'))
theorem J_less {lv' : List (Option Value)} (hs : ∀ (i : Nat) (v : Value), lv'[i]? = some (some v) → lv[i]? = some (some v)) (k : JW p l e R s m args below meth c cy D ad A nL cells slots Q σ pc lv' st) : JW p l e R s m args below meth c cy D ad A nL cells slots Q σ pc lv st := fun H locs ls h1 h2 h3 => k H locs ls h1 h2 (h3.less hs)
theorem J_widen {k n : Nat} (h1 : cells ≤ k) (h2 : slots ≤ n) (kk : JW p l e R s m args below meth c cy D ad A nL k n Q σ pc lv st) : JW p l e R s m args below meth c cy D ad A nL cells slots Q σ pc lv st := fun H locs ls a b c => W.widen h1 h2 (kk H locs ls a b c)
theorem J_eq {σ' : Sg} {lv' : List (Option Value)} {st' : List Value} (h1 : σ = σ') (h2 : lv = lv') (h3 : st = st') (kk : JW p l e R s m args below meth c cy D ad A nL cells slots Q σ' pc lv' st') : JW p l e R s m args below meth c cy D ad A nL cells slots Q σ pc lv st := by subst h1; subst h2; subst h3; exact kk
theorem one_P {H : Heap} {kd : Nat} {k : Int} {w : va_E} (h : Wd cy D ad σ H) (h0 : 0 ≤ k) (h1 : k < cnt kd) (hx : Ex ad kd) (hw : wM cy ad σ kd k = w) : va_P D vwCl [(ad kd k, w)] H := by
  intro i q hq
  cases i with
  | zero => cases hq; rw [← hw]; exact h kd k h0 h1 hx
  | succ i => simp at hq
theorem nat_z {z : Int} (h : 0 ≤ z) : ((z.toNat : Nat) : Int) = z := by omega
theorem J_iaload (C : Cx p l e R s m args below meth c cy D ad A nL cc own Ts) {kd n : Nat} {k z : Int} (hK : IsI ad kd n) (hk : 0 ≤ k ∧ k < cnt kd) (hz : 0 ≤ z ∧ z < n) (d : decode cc pc = .ok (.iaload, 1)) (kk : JW p l e R s m args below meth c cy D ad A nL cells slots Q σ (pc + 1) lv (.int (iI (σ kd k z)) :: st)) : JW p l e R s m args below meth c cy D ad A nL cells slots Q σ pc lv (.int (iI z) :: .ref (ad kd k) :: st) := by
  intro H locs ls h1 h2 h3
  obtain ⟨hi, hc⟩ := iI_ix hz.1 hz.2 hK.1
  refine va_iald C.1.1 C.1.2.1 C.2.2.2.1.1 (one_P h1 hk.1 hk.2 hK.2.1 (hK.2.2 cy σ k)) 0 0 rfl rfl hi d ?_
  rw [hc, nat_z hz.1]
  exact kk H locs ls h1 h2 h3
theorem J_baload (C : Cx p l e R s m args below meth c cy D ad A nL cc own Ts) {kd n : Nat} {k z : Int} (hK : IsZ ad kd n) (hk : 0 ≤ k ∧ k < cnt kd) (hz : 0 ≤ z ∧ z < n) (d : decode cc pc = .ok (.baload, 1)) (kk : JW p l e R s m args below meth c cy D ad A nL cells slots Q σ (pc + 1) lv (.int (iI (σ kd k z)) :: st)) : JW p l e R s m args below meth c cy D ad A nL cells slots Q σ pc lv (.int (iI z) :: .ref (ad kd k) :: st) := by
  intro H locs ls h1 h2 h3
  obtain ⟨hi, hc⟩ := iI_ix hz.1 hz.2 hK.1
  refine va_zald C.1.1 C.1.2.1 C.2.2.2.1.1 (one_P h1 hk.1 hk.2 hK.2.1 (hK.2.2 cy σ k)) 0 2 rfl rfl hi d ?_
  rw [hc, nat_z hz.1]
  exact kk H locs ls h1 h2 h3
theorem J_laload (C : Cx p l e R s m args below meth c cy D ad A nL cc own Ts) {kd n : Nat} {k z : Int} (hK : IsL ad kd n) (hk : 0 ≤ k ∧ k < cnt kd) (hz : 0 ≤ z ∧ z < n) (d : decode cc pc = .ok (.laload, 1)) (kk : JW p l e R s m args below meth c cy D ad A nL cells slots Q σ (pc + 1) lv (.long (lI (σ kd k z)) :: st)) : JW p l e R s m args below meth c cy D ad A nL cells slots Q σ pc lv (.int (iI z) :: .ref (ad kd k) :: st) := by
  intro H locs ls h1 h2 h3
  obtain ⟨hi, hc⟩ := iI_ix hz.1 hz.2 hK.1
  refine va_lald C.1.1 C.1.2.1 C.2.2.2.1.1 (one_P h1 hk.1 hk.2 hK.2.1 (hK.2.2 cy σ k)) 0 1 rfl rfl hi d ?_
  rw [hc, nat_z hz.1]
  exact kk H locs ls h1 h2 h3
theorem J_aaloadW (C : Cx p l e R s m args below meth c cy D ad A nL cc own Ts) {z : Int} (hz : 0 ≤ z ∧ z < 6) (d : decode cc pc = .ok (.aaload, 1)) (k : JW p l e R s m args below meth c cy D ad A nL cells slots Q σ (pc + 1) lv (.ref (ad 12 z) :: st)) : JW p l e R s m args below meth c cy D ad A nL cells slots Q σ pc lv (.int (iI z) :: .ref (ad 2 0) :: st) := by
  intro H locs ls h1 h2 h3
  obtain ⟨hi, hc⟩ := iI_ix (n := 6) hz.1 hz.2 (by decide)
  refine va_aldq (C := "JointVenture$Well") C.1.1 C.1.2.1 C.2.2.2.1.1 (one_P (kd := 2) (k := 0) h1 (by decide) (by decide) (Or.inl (by decide)) rfl) 0 3 rfl rfl hi d ?_
  rw [hc, nat_z hz.1]
  exact k H locs ls h1 h2 h3
theorem J_aaloadC (C : Cx p l e R s m args below meth c cy D ad A nL cc own Ts) {z : Int} (hz : 0 ≤ z ∧ z < 20) (d : decode cc pc = .ok (.aaload, 1)) (k : JW p l e R s m args below meth c cy D ad A nL cells slots Q σ (pc + 1) lv (.ref (ad 19 z) :: st)) : JW p l e R s m args below meth c cy D ad A nL cells slots Q σ pc lv (.int (iI z) :: .ref (ad 5 0) :: st) := by
  intro H locs ls h1 h2 h3
  obtain ⟨hi, hc⟩ := iI_ix (n := 20) hz.1 hz.2 (by decide)
  refine va_aldq (C := "JointVenture$CashCall") C.1.1 C.1.2.1 C.2.2.2.1.1 (one_P (kd := 5) (k := 0) h1 (by decide) (by decide) (Or.inl (by decide)) rfl) 0 4 rfl rfl hi d ?_
  rw [hc, nat_z hz.1]
  exact k H locs ls h1 h2 h3
theorem i32_clamp {z : Int} {n : Nat} (h0 : 0 ≤ z) (h : z < n) (hn : n ≤ 1000) : (iI z).toNatClampNeg = z.toNat := (iI_ix h0 h hn).2
theorem su_row {β : Type} (g : Int → β) {σ : Sg} {kd : Nat} {k z v : Int} (h0 : 0 ≤ z) : (fun q : Nat => if q = z.toNat then g v else g (σ kd k (q : Int))) = fun q : Nat => g (su σ kd k z v kd k (q : Int)) := by
  funext q
  unfold su
  by_cases h : q = z.toNat
  · rw [if_pos h, if_pos ⟨rfl, rfl, by omega⟩]
  · rw [if_neg h, if_neg (fun w => h (by omega))]
theorem J_iastore (C : Cx p l e R s m args below meth c cy D ad A nL cc own Ts) {kd n : Nat} {k z v : Int} (hK : IsI ad kd n) (hk : 0 ≤ k ∧ k < cnt kd) (hz : 0 ≤ z ∧ z < n) (d : decode cc pc = .ok (.iastore, 1)) (kk : JW p l e R s m args below meth c cy D ad A nL cells slots Q (su σ kd k z v) (pc + 1) lv st) : JW p l e R s m args below meth c cy D ad A nL cells slots Q σ pc lv (.int (iI v) :: .int (iI z) :: .ref (ad kd k) :: st) := by
  intro H locs ls h1 h2 h3
  obtain ⟨hi, hc⟩ := iI_ix hz.1 hz.2 hK.1
  have hP := h1 kd k hk.1 hk.2 hK.2.1
  rw [hK.2.2 cy σ k] at hP
  have hP : H[ad kd k]? = some (arrV (cy 0) n (fun j => .int (iI (σ kd k (j : Int))))) := hP
  refine W.iast C.1.1 C.1.2.1 hP ((C.2.2.2.1.1.2 0 _ rfl).1 n (fun j => .int (iI (σ kd k (j : Int))))) (fun q => by cases q) (by rw [arrV_size]; exact hi) rfl rfl d fun H1 e1 zs oq => ?_
  rw [hc, arrV_store] at e1
  refine kk H1 _ ls (h1.put C.2.1 hk.1 hk.2 hK.2.1 ?_ oq) (h2.put zs oq (C.2.2.1 _ (Or.inl ⟨kd, k, hk.1, hk.2, hK.2.1, rfl⟩))) h3
  rw [hK.2.2 cy (su σ kd k z v) k]
  show H1[ad kd k]? = some (arrV (cy 0) n (fun j => .int (iI (su σ kd k z v kd k (j : Int)))))
  rw [e1]
  congr 2
  exact su_row (fun x => Value.int (iI x)) hz.1
theorem J_bastore (C : Cx p l e R s m args below meth c cy D ad A nL cc own Ts) {kd n : Nat} {k z v : Int} (hK : IsZ ad kd n) (hk : 0 ≤ k ∧ k < cnt kd) (hz : 0 ≤ z ∧ z < n) (hb : v = 0 ∨ v = 1) (d : decode cc pc = .ok (.bastore, 1)) (kk : JW p l e R s m args below meth c cy D ad A nL cells slots Q (su σ kd k z v) (pc + 1) lv st) : JW p l e R s m args below meth c cy D ad A nL cells slots Q σ pc lv (.int (iI v) :: .int (iI z) :: .ref (ad kd k) :: st) := by
  intro H locs ls h1 h2 h3
  obtain ⟨hi, hc⟩ := iI_ix hz.1 hz.2 hK.1
  have hP := h1 kd k hk.1 hk.2 hK.2.1
  rw [hK.2.2 cy σ k] at hP
  have hP : H[ad kd k]? = some (arrV (cy 2) n (fun j => .int (iI (σ kd k (j : Int))))) := hP
  refine W.zast C.1.1 C.1.2.1 hP ((C.2.2.2.1.1.2 2 _ rfl).1 n (fun j => .int (iI (σ kd k (j : Int))))) (fun q => by cases q) (by rw [arrV_size]; exact hi) rfl rfl d fun H1 e1 zs oq => ?_
  rw [hc, arrV_store] at e1
  rw [show narrow .boolean (.int (iI v)) = .int (iI v) by rcases hb with rfl | rfl <;> rfl] at e1
  refine kk H1 _ ls (h1.put C.2.1 hk.1 hk.2 hK.2.1 ?_ oq) (h2.put zs oq (C.2.2.1 _ (Or.inl ⟨kd, k, hk.1, hk.2, hK.2.1, rfl⟩))) h3
  rw [hK.2.2 cy (su σ kd k z v) k]
  show H1[ad kd k]? = some (arrV (cy 2) n (fun j => .int (iI (su σ kd k z v kd k (j : Int)))))
  rw [e1]
  congr 2
  exact su_row (fun x => Value.int (iI x)) hz.1
theorem J_lastore (C : Cx p l e R s m args below meth c cy D ad A nL cc own Ts) {kd n : Nat} {k z v : Int} (hK : IsL ad kd n) (hk : 0 ≤ k ∧ k < cnt kd) (hz : 0 ≤ z ∧ z < n) (d : decode cc pc = .ok (.lastore, 1)) (kk : JW p l e R s m args below meth c cy D ad A nL cells slots Q (su σ kd k z v) (pc + 1) lv st) : JW p l e R s m args below meth c cy D ad A nL cells slots Q σ pc lv (.long (lI v) :: .int (iI z) :: .ref (ad kd k) :: st) := by
  intro H locs ls h1 h2 h3
  obtain ⟨hi, hc⟩ := iI_ix hz.1 hz.2 hK.1
  have hP := h1 kd k hk.1 hk.2 hK.2.1
  rw [hK.2.2 cy σ k] at hP
  have hP : H[ad kd k]? = some (arrV (cy 1) n (fun j => .long (lI (σ kd k (j : Int))))) := hP
  refine W.last C.1.1 C.1.2.1 hP ((C.2.2.2.1.1.2 1 _ rfl).1 n (fun j => .long (lI (σ kd k (j : Int))))) (fun q => by cases q) (by rw [arrV_size]; exact hi) rfl rfl d fun H1 e1 zs oq => ?_
  rw [hc, arrV_store] at e1
  refine kk H1 _ ls (h1.put C.2.1 hk.1 hk.2 hK.2.1 ?_ oq) (h2.put zs oq (C.2.2.1 _ (Or.inl ⟨kd, k, hk.1, hk.2, hK.2.1, rfl⟩))) h3
  rw [hK.2.2 cy (su σ kd k z v) k]
  show H1[ad kd k]? = some (arrV (cy 1) n (fun j => .long (lI (su σ kd k z v kd k (j : Int)))))
  rw [e1]
  congr 2
  exact su_row (fun x => Value.long (lI x)) hz.1
theorem put_gen (C : Cx p l e R s m args below meth c cy D ad A nL cc own Ts) {Cn ref : String} {T : u_T} {N ci idx kd f : Nat} {k v : Int} {fsF : Sg → List Value} {ty : FieldType} (hin : ∀ w ∈ u_ws Cn T N, w ∈ Ts) (ty0 : Nat → FieldType) (hty : ∀ k, k < N → parseFieldDescriptor (T k).2.2.1 = some (ty0 k)) (hnm : ∀ a, a < N → ∀ b, b < N → a ≠ b → (T a).2.1 ≠ (T b).2.1) (hc : vwCl[ci]? = some (Cn, T, N)) (hf : f < N) (hl : Cond.fieldLink own idx ref (T f).2.1 (T f).2.2.1 ∈ Ts) (hs : (T f).1 = ref) (hfin : (T f).2.2.2 = false) (hd : parseFieldDescriptor (T f).2.2.1 = some ty) (hn : narrow ty (.int (iI v)) = .int (iI v)) (hfit : fits ty (.int (iI v)) = true) (hw : ∀ σ : Sg, wM cy ad σ kd k = .inr (ci, fsF σ)) (hlen : f < (fsF σ).length) (hset : fsF (su σ kd k f v) = (fsF σ).set f (.int (iI v))) (hx : Ex ad kd) (hk : 0 ≤ k ∧ k < cnt kd) (d : decode cc pc = .ok (.putfield idx, 3)) (kk : JW p l e R s m args below meth c cy D ad A nL cells slots Q (su σ kd k f v) (pc + 3) lv st) : JW p l e R s m args below meth c cy D ad A nL cells slots Q σ pc lv (.int (iI v) :: .ref (ad kd k) :: st) := by
  intro H locs ls h1 h2 h3
  have hK := C.2.2.2.1.1
  have hts := C.1.2.2.2.2
  have hown := C.1.2.2.2.1
  have hap := va_apart (own := own) hts hin ty0 hty hnm hK hc
  have hP := h1 kd k hk.1 hk.2 hx
  rw [hw σ] at hP
  obtain ⟨r, g1, cell, q1, q2, q3, q4⟩ := hP
  have hr : r = (Cn, T, N) := Option.some.inj (g1.symm.trans hc)
  subst hr
  obtain ⟨hS, hfc, kC, hkC, hkind⟩ := hK.1 ci _ hc
  obtain ⟨cf, kf, fi, f9, hi, hsl⟩ := hS f hf
  have hlay := hts _ (hin _ (u_in_lay hf))
  unfold u_lay at hlay
  rw [if_neg (by rw [hfin]; decide)] at hlay
  have hst := (u_facts hfc hkC (u_lays hts hin hf) hi).1
  have h6 := u_store hfc hkC hkind hlay hi hd hn hfit
  refine W.putK C.1.1 C.1.2.1 (f := f9) ⟨hown, hts _ hl, ⟨_, _, _, (by rw [hs] at hi; exact hi)⟩, hst⟩ (by rw [q2]; exact h6) q1 q3 (by rw [hsl]; exact k2_hasslot (q4 f hf)) rfl rfl d fun H' e1 e2 e3 => ?_
  rw [hsl] at e1 ⊢
  refine kk H' _ ls (h1.put C.2.1 hk.1 hk.2 hx ?_ e3) (h2.put e2 e3 (C.2.2.1 _ (Or.inl ⟨kd, k, hk.1, hk.2, hx, rfl⟩))) h3
  rw [hw, hset]
  exact ⟨_, hc, t_OB.to (V := updV (vp_V (fsF σ)) f (.int (iI v))) ⟨_, e1, q2, q3, t_set q4 hap hf _⟩ (fun j _ => vp_updV_set hlen _ j)⟩
theorem J_get_3_0 (C : Cx p l e R s m args below meth c cy D ad A nL cc own Ts) {idx : Nat} {k : Int} (hin : ∀ w ∈ wsX30, w ∈ Ts) (hl : Cond.fieldLink own idx "JointVenture" "shares" "[I" ∈ Ts) (hk : 0 ≤ k ∧ k < cnt 0) (d : decode cc pc = .ok (.getfield idx, 3)) (kk : JW p l e R s m args below meth c cy D ad A nL cells slots Q σ (pc + 3) lv (.ref (ad 1 0) :: st)) : JW p l e R s m args below meth c cy D ad A nL cells slots Q σ pc lv (.ref (ad 0 k) :: st) := by
  intro H locs ls h1 h2 h3
  exact va_get C.1.1 C.1.2.1 C.1.2.2.2.2 hin C.1.2.2.2.1 C.2.2.2.1.1 (one_P h1 hk.1 hk.2 (Or.inl (by decide)) rfl) 0 rfl rfl 0 (by decide) (C.1.2.2.2.2 _ hl) (fun _ h => h) rfl d (kk H locs ls h1 h2 h3)
theorem J_get_3_1 (C : Cx p l e R s m args below meth c cy D ad A nL cc own Ts) {idx : Nat} {k : Int} (hin : ∀ w ∈ wsX30, w ∈ Ts) (hl : Cond.fieldLink own idx "JointVenture" "newPenalty" "I" ∈ Ts) (hk : 0 ≤ k ∧ k < cnt 0) (d : decode cc pc = .ok (.getfield idx, 3)) (kk : JW p l e R s m args below meth c cy D ad A nL cells slots Q σ (pc + 3) lv (.int (iI (σ 0 k 1)) :: st)) : JW p l e R s m args below meth c cy D ad A nL cells slots Q σ pc lv (.ref (ad 0 k) :: st) := by
  intro H locs ls h1 h2 h3
  exact va_get C.1.1 C.1.2.1 C.1.2.2.2.2 hin C.1.2.2.2.1 C.2.2.2.1.1 (one_P h1 hk.1 hk.2 (Or.inl (by decide)) rfl) 0 rfl rfl 1 (by decide) (C.1.2.2.2.2 _ hl) (fun _ h => h) rfl d (kk H locs ls h1 h2 h3)
theorem J_put_3_1 (C : Cx p l e R s m args below meth c cy D ad A nL cc own Ts) {idx : Nat} {k v : Int} (hin : ∀ w ∈ wsX30, w ∈ Ts) (hl : Cond.fieldLink own idx "JointVenture" "newPenalty" "I" ∈ Ts) (hk : 0 ≤ k ∧ k < cnt 0) (d : decode cc pc = .ok (.putfield idx, 3)) (kk : JW p l e R s m args below meth c cy D ad A nL cells slots Q (su σ 0 k 1 v) (pc + 3) lv st) : JW p l e R s m args below meth c cy D ad A nL cells slots Q σ pc lv (.int (iI v) :: .ref (ad 0 k) :: st) :=
  put_gen (fsF := fun σ => [.ref (ad 1 0), .int (iI (σ 0 k 1)), .int (iI (σ 0 k 2)), .ref (ad 2 0), .int (iI (σ 0 k 4)), .ref (ad 3 0), .ref (ad 4 0), .int (iI (σ 0 k 7)), .ref (ad 5 0), .int (iI (σ 0 k 9)), .ref (ad 6 0), .ref (ad 7 0), .ref (ad 9 0), .ref (ad 10 0), .ref (ad 11 0)]) C hin tyX3 tyX3_ok nmX3 (ci := 3) rfl (by decide) hl rfl rfl (ty := .int) (by decide +kernel) rfl rfl (fun _ => rfl) (by show 1 < 15; decide) (by simp [su]) (Or.inl (by decide)) hk d kk
theorem J_get_3_2 (C : Cx p l e R s m args below meth c cy D ad A nL cc own Ts) {idx : Nat} {k : Int} (hin : ∀ w ∈ wsX30, w ∈ Ts) (hl : Cond.fieldLink own idx "JointVenture" "monthlyOverhead" "I" ∈ Ts) (hk : 0 ≤ k ∧ k < cnt 0) (d : decode cc pc = .ok (.getfield idx, 3)) (kk : JW p l e R s m args below meth c cy D ad A nL cells slots Q σ (pc + 3) lv (.int (iI (σ 0 k 2)) :: st)) : JW p l e R s m args below meth c cy D ad A nL cells slots Q σ pc lv (.ref (ad 0 k) :: st) := by
  intro H locs ls h1 h2 h3
  exact va_get C.1.1 C.1.2.1 C.1.2.2.2.2 hin C.1.2.2.2.1 C.2.2.2.1.1 (one_P h1 hk.1 hk.2 (Or.inl (by decide)) rfl) 0 rfl rfl 2 (by decide) (C.1.2.2.2.2 _ hl) (fun _ h => h) rfl d (kk H locs ls h1 h2 h3)
theorem J_put_3_2 (C : Cx p l e R s m args below meth c cy D ad A nL cc own Ts) {idx : Nat} {k v : Int} (hin : ∀ w ∈ wsX30, w ∈ Ts) (hl : Cond.fieldLink own idx "JointVenture" "monthlyOverhead" "I" ∈ Ts) (hk : 0 ≤ k ∧ k < cnt 0) (d : decode cc pc = .ok (.putfield idx, 3)) (kk : JW p l e R s m args below meth c cy D ad A nL cells slots Q (su σ 0 k 2 v) (pc + 3) lv st) : JW p l e R s m args below meth c cy D ad A nL cells slots Q σ pc lv (.int (iI v) :: .ref (ad 0 k) :: st) :=
  put_gen (fsF := fun σ => [.ref (ad 1 0), .int (iI (σ 0 k 1)), .int (iI (σ 0 k 2)), .ref (ad 2 0), .int (iI (σ 0 k 4)), .ref (ad 3 0), .ref (ad 4 0), .int (iI (σ 0 k 7)), .ref (ad 5 0), .int (iI (σ 0 k 9)), .ref (ad 6 0), .ref (ad 7 0), .ref (ad 9 0), .ref (ad 10 0), .ref (ad 11 0)]) C hin tyX3 tyX3_ok nmX3 (ci := 3) rfl (by decide) hl rfl rfl (ty := .int) (by decide +kernel) rfl rfl (fun _ => rfl) (by show 2 < 15; decide) (by simp [su]) (Or.inl (by decide)) hk d kk
theorem J_get_3_3 (C : Cx p l e R s m args below meth c cy D ad A nL cc own Ts) {idx : Nat} {k : Int} (hin : ∀ w ∈ wsX30, w ∈ Ts) (hl : Cond.fieldLink own idx "JointVenture" "wells" "[LJointVenture$Well;" ∈ Ts) (hk : 0 ≤ k ∧ k < cnt 0) (d : decode cc pc = .ok (.getfield idx, 3)) (kk : JW p l e R s m args below meth c cy D ad A nL cells slots Q σ (pc + 3) lv (.ref (ad 2 0) :: st)) : JW p l e R s m args below meth c cy D ad A nL cells slots Q σ pc lv (.ref (ad 0 k) :: st) := by
  intro H locs ls h1 h2 h3
  exact va_get C.1.1 C.1.2.1 C.1.2.2.2.2 hin C.1.2.2.2.1 C.2.2.2.1.1 (one_P h1 hk.1 hk.2 (Or.inl (by decide)) rfl) 0 rfl rfl 3 (by decide) (C.1.2.2.2.2 _ hl) (fun _ h => h) rfl d (kk H locs ls h1 h2 h3)
theorem J_get_3_4 (C : Cx p l e R s m args below meth c cy D ad A nL cc own Ts) {idx : Nat} {k : Int} (hin : ∀ w ∈ wsX30, w ∈ Ts) (hl : Cond.fieldLink own idx "JointVenture" "wellCount" "I" ∈ Ts) (hk : 0 ≤ k ∧ k < cnt 0) (d : decode cc pc = .ok (.getfield idx, 3)) (kk : JW p l e R s m args below meth c cy D ad A nL cells slots Q σ (pc + 3) lv (.int (iI (σ 0 k 4)) :: st)) : JW p l e R s m args below meth c cy D ad A nL cells slots Q σ pc lv (.ref (ad 0 k) :: st) := by
  intro H locs ls h1 h2 h3
  exact va_get C.1.1 C.1.2.1 C.1.2.2.2.2 hin C.1.2.2.2.1 C.2.2.2.1.1 (one_P h1 hk.1 hk.2 (Or.inl (by decide)) rfl) 0 rfl rfl 4 (by decide) (C.1.2.2.2.2 _ hl) (fun _ h => h) rfl d (kk H locs ls h1 h2 h3)
theorem J_put_3_4 (C : Cx p l e R s m args below meth c cy D ad A nL cc own Ts) {idx : Nat} {k v : Int} (hin : ∀ w ∈ wsX30, w ∈ Ts) (hl : Cond.fieldLink own idx "JointVenture" "wellCount" "I" ∈ Ts) (hk : 0 ≤ k ∧ k < cnt 0) (d : decode cc pc = .ok (.putfield idx, 3)) (kk : JW p l e R s m args below meth c cy D ad A nL cells slots Q (su σ 0 k 4 v) (pc + 3) lv st) : JW p l e R s m args below meth c cy D ad A nL cells slots Q σ pc lv (.int (iI v) :: .ref (ad 0 k) :: st) :=
  put_gen (fsF := fun σ => [.ref (ad 1 0), .int (iI (σ 0 k 1)), .int (iI (σ 0 k 2)), .ref (ad 2 0), .int (iI (σ 0 k 4)), .ref (ad 3 0), .ref (ad 4 0), .int (iI (σ 0 k 7)), .ref (ad 5 0), .int (iI (σ 0 k 9)), .ref (ad 6 0), .ref (ad 7 0), .ref (ad 9 0), .ref (ad 10 0), .ref (ad 11 0)]) C hin tyX3 tyX3_ok nmX3 (ci := 3) rfl (by decide) hl rfl rfl (ty := .int) (by decide +kernel) rfl rfl (fun _ => rfl) (by show 4 < 15; decide) (by simp [su]) (Or.inl (by decide)) hk d kk
theorem J_get_3_5 (C : Cx p l e R s m args below meth c cy D ad A nL cc own Ts) {idx : Nat} {k : Int} (hin : ∀ w ∈ wsX30, w ∈ Ts) (hl : Cond.fieldLink own idx "JointVenture" "voucherWells" "[I" ∈ Ts) (hk : 0 ≤ k ∧ k < cnt 0) (d : decode cc pc = .ok (.getfield idx, 3)) (kk : JW p l e R s m args below meth c cy D ad A nL cells slots Q σ (pc + 3) lv (.ref (ad 3 0) :: st)) : JW p l e R s m args below meth c cy D ad A nL cells slots Q σ pc lv (.ref (ad 0 k) :: st) := by
  intro H locs ls h1 h2 h3
  exact va_get C.1.1 C.1.2.1 C.1.2.2.2.2 hin C.1.2.2.2.1 C.2.2.2.1.1 (one_P h1 hk.1 hk.2 (Or.inl (by decide)) rfl) 0 rfl rfl 5 (by decide) (C.1.2.2.2.2 _ hl) (fun _ h => h) rfl d (kk H locs ls h1 h2 h3)
theorem J_get_3_6 (C : Cx p l e R s m args below meth c cy D ad A nL cc own Ts) {idx : Nat} {k : Int} (hin : ∀ w ∈ wsX30, w ∈ Ts) (hl : Cond.fieldLink own idx "JointVenture" "voucherAmounts" "[I" ∈ Ts) (hk : 0 ≤ k ∧ k < cnt 0) (d : decode cc pc = .ok (.getfield idx, 3)) (kk : JW p l e R s m args below meth c cy D ad A nL cells slots Q σ (pc + 3) lv (.ref (ad 4 0) :: st)) : JW p l e R s m args below meth c cy D ad A nL cells slots Q σ pc lv (.ref (ad 0 k) :: st) := by
  intro H locs ls h1 h2 h3
  exact va_get C.1.1 C.1.2.1 C.1.2.2.2.2 hin C.1.2.2.2.1 C.2.2.2.1.1 (one_P h1 hk.1 hk.2 (Or.inl (by decide)) rfl) 0 rfl rfl 6 (by decide) (C.1.2.2.2.2 _ hl) (fun _ h => h) rfl d (kk H locs ls h1 h2 h3)
theorem J_get_3_7 (C : Cx p l e R s m args below meth c cy D ad A nL cc own Ts) {idx : Nat} {k : Int} (hin : ∀ w ∈ wsX30, w ∈ Ts) (hl : Cond.fieldLink own idx "JointVenture" "voucherCount" "I" ∈ Ts) (hk : 0 ≤ k ∧ k < cnt 0) (d : decode cc pc = .ok (.getfield idx, 3)) (kk : JW p l e R s m args below meth c cy D ad A nL cells slots Q σ (pc + 3) lv (.int (iI (σ 0 k 7)) :: st)) : JW p l e R s m args below meth c cy D ad A nL cells slots Q σ pc lv (.ref (ad 0 k) :: st) := by
  intro H locs ls h1 h2 h3
  exact va_get C.1.1 C.1.2.1 C.1.2.2.2.2 hin C.1.2.2.2.1 C.2.2.2.1.1 (one_P h1 hk.1 hk.2 (Or.inl (by decide)) rfl) 0 rfl rfl 7 (by decide) (C.1.2.2.2.2 _ hl) (fun _ h => h) rfl d (kk H locs ls h1 h2 h3)
theorem J_put_3_7 (C : Cx p l e R s m args below meth c cy D ad A nL cc own Ts) {idx : Nat} {k v : Int} (hin : ∀ w ∈ wsX30, w ∈ Ts) (hl : Cond.fieldLink own idx "JointVenture" "voucherCount" "I" ∈ Ts) (hk : 0 ≤ k ∧ k < cnt 0) (d : decode cc pc = .ok (.putfield idx, 3)) (kk : JW p l e R s m args below meth c cy D ad A nL cells slots Q (su σ 0 k 7 v) (pc + 3) lv st) : JW p l e R s m args below meth c cy D ad A nL cells slots Q σ pc lv (.int (iI v) :: .ref (ad 0 k) :: st) :=
  put_gen (fsF := fun σ => [.ref (ad 1 0), .int (iI (σ 0 k 1)), .int (iI (σ 0 k 2)), .ref (ad 2 0), .int (iI (σ 0 k 4)), .ref (ad 3 0), .ref (ad 4 0), .int (iI (σ 0 k 7)), .ref (ad 5 0), .int (iI (σ 0 k 9)), .ref (ad 6 0), .ref (ad 7 0), .ref (ad 9 0), .ref (ad 10 0), .ref (ad 11 0)]) C hin tyX3 tyX3_ok nmX3 (ci := 3) rfl (by decide) hl rfl rfl (ty := .int) (by decide +kernel) rfl rfl (fun _ => rfl) (by show 7 < 15; decide) (by simp [su]) (Or.inl (by decide)) hk d kk
theorem J_get_3_8 (C : Cx p l e R s m args below meth c cy D ad A nL cc own Ts) {idx : Nat} {k : Int} (hin : ∀ w ∈ wsX30, w ∈ Ts) (hl : Cond.fieldLink own idx "JointVenture" "cashCalls" "[LJointVenture$CashCall;" ∈ Ts) (hk : 0 ≤ k ∧ k < cnt 0) (d : decode cc pc = .ok (.getfield idx, 3)) (kk : JW p l e R s m args below meth c cy D ad A nL cells slots Q σ (pc + 3) lv (.ref (ad 5 0) :: st)) : JW p l e R s m args below meth c cy D ad A nL cells slots Q σ pc lv (.ref (ad 0 k) :: st) := by
  intro H locs ls h1 h2 h3
  exact va_get C.1.1 C.1.2.1 C.1.2.2.2.2 hin C.1.2.2.2.1 C.2.2.2.1.1 (one_P h1 hk.1 hk.2 (Or.inl (by decide)) rfl) 0 rfl rfl 8 (by decide) (C.1.2.2.2.2 _ hl) (fun _ h => h) rfl d (kk H locs ls h1 h2 h3)
theorem J_get_3_9 (C : Cx p l e R s m args below meth c cy D ad A nL cc own Ts) {idx : Nat} {k : Int} (hin : ∀ w ∈ wsX30, w ∈ Ts) (hl : Cond.fieldLink own idx "JointVenture" "cashCallCount" "I" ∈ Ts) (hk : 0 ≤ k ∧ k < cnt 0) (d : decode cc pc = .ok (.getfield idx, 3)) (kk : JW p l e R s m args below meth c cy D ad A nL cells slots Q σ (pc + 3) lv (.int (iI (σ 0 k 9)) :: st)) : JW p l e R s m args below meth c cy D ad A nL cells slots Q σ pc lv (.ref (ad 0 k) :: st) := by
  intro H locs ls h1 h2 h3
  exact va_get C.1.1 C.1.2.1 C.1.2.2.2.2 hin C.1.2.2.2.1 C.2.2.2.1.1 (one_P h1 hk.1 hk.2 (Or.inl (by decide)) rfl) 0 rfl rfl 9 (by decide) (C.1.2.2.2.2 _ hl) (fun _ h => h) rfl d (kk H locs ls h1 h2 h3)
theorem J_put_3_9 (C : Cx p l e R s m args below meth c cy D ad A nL cc own Ts) {idx : Nat} {k v : Int} (hin : ∀ w ∈ wsX30, w ∈ Ts) (hl : Cond.fieldLink own idx "JointVenture" "cashCallCount" "I" ∈ Ts) (hk : 0 ≤ k ∧ k < cnt 0) (d : decode cc pc = .ok (.putfield idx, 3)) (kk : JW p l e R s m args below meth c cy D ad A nL cells slots Q (su σ 0 k 9 v) (pc + 3) lv st) : JW p l e R s m args below meth c cy D ad A nL cells slots Q σ pc lv (.int (iI v) :: .ref (ad 0 k) :: st) :=
  put_gen (fsF := fun σ => [.ref (ad 1 0), .int (iI (σ 0 k 1)), .int (iI (σ 0 k 2)), .ref (ad 2 0), .int (iI (σ 0 k 4)), .ref (ad 3 0), .ref (ad 4 0), .int (iI (σ 0 k 7)), .ref (ad 5 0), .int (iI (σ 0 k 9)), .ref (ad 6 0), .ref (ad 7 0), .ref (ad 9 0), .ref (ad 10 0), .ref (ad 11 0)]) C hin tyX3 tyX3_ok nmX3 (ci := 3) rfl (by decide) hl rfl rfl (ty := .int) (by decide +kernel) rfl rfl (fun _ => rfl) (by show 9 < 15; decide) (by simp [su]) (Or.inl (by decide)) hk d kk
theorem J_get_3_10 (C : Cx p l e R s m args below meth c cy D ad A nL cc own Ts) {idx : Nat} {k : Int} (hin : ∀ w ∈ wsX30, w ∈ Ts) (hl : Cond.fieldLink own idx "JointVenture" "owed" "[I" ∈ Ts) (hk : 0 ≤ k ∧ k < cnt 0) (d : decode cc pc = .ok (.getfield idx, 3)) (kk : JW p l e R s m args below meth c cy D ad A nL cells slots Q σ (pc + 3) lv (.ref (ad 6 0) :: st)) : JW p l e R s m args below meth c cy D ad A nL cells slots Q σ pc lv (.ref (ad 0 k) :: st) := by
  intro H locs ls h1 h2 h3
  exact va_get C.1.1 C.1.2.1 C.1.2.2.2.2 hin C.1.2.2.2.1 C.2.2.2.1.1 (one_P h1 hk.1 hk.2 (Or.inl (by decide)) rfl) 0 rfl rfl 10 (by decide) (C.1.2.2.2.2 _ hl) (fun _ h => h) rfl d (kk H locs ls h1 h2 h3)
theorem J_get_3_11 (C : Cx p l e R s m args below meth c cy D ad A nL cc own Ts) {idx : Nat} {k : Int} (hin : ∀ w ∈ wsX30, w ∈ Ts) (hl : Cond.fieldLink own idx "JointVenture" "division" "LJointVenture$Division;" ∈ Ts) (hk : 0 ≤ k ∧ k < cnt 0) (d : decode cc pc = .ok (.getfield idx, 3)) (kk : JW p l e R s m args below meth c cy D ad A nL cells slots Q σ (pc + 3) lv (.ref (ad 7 0) :: st)) : JW p l e R s m args below meth c cy D ad A nL cells slots Q σ pc lv (.ref (ad 0 k) :: st) := by
  intro H locs ls h1 h2 h3
  exact va_get C.1.1 C.1.2.1 C.1.2.2.2.2 hin C.1.2.2.2.1 C.2.2.2.1.1 (one_P h1 hk.1 hk.2 (Or.inl (by decide)) rfl) 0 rfl rfl 11 (by decide) (C.1.2.2.2.2 _ hl) (fun _ h => h) rfl d (kk H locs ls h1 h2 h3)
theorem J_get_3_12 (C : Cx p l e R s m args below meth c cy D ad A nL cc own Ts) {idx : Nat} {k : Int} (hin : ∀ w ∈ wsX30, w ∈ Ts) (hl : Cond.fieldLink own idx "JointVenture" "ownParts" "[I" ∈ Ts) (hk : 0 ≤ k ∧ k < cnt 0) (d : decode cc pc = .ok (.getfield idx, 3)) (kk : JW p l e R s m args below meth c cy D ad A nL cells slots Q σ (pc + 3) lv (.ref (ad 9 0) :: st)) : JW p l e R s m args below meth c cy D ad A nL cells slots Q σ pc lv (.ref (ad 0 k) :: st) := by
  intro H locs ls h1 h2 h3
  exact va_get C.1.1 C.1.2.1 C.1.2.2.2.2 hin C.1.2.2.2.1 C.2.2.2.1.1 (one_P h1 hk.1 hk.2 (Or.inl (by decide)) rfl) 0 rfl rfl 12 (by decide) (C.1.2.2.2.2 _ hl) (fun _ h => h) rfl d (kk H locs ls h1 h2 h3)
theorem J_get_3_13 (C : Cx p l e R s m args below meth c cy D ad A nL cc own Ts) {idx : Nat} {k : Int} (hin : ∀ w ∈ wsX30, w ∈ Ts) (hl : Cond.fieldLink own idx "JointVenture" "weights" "[I" ∈ Ts) (hk : 0 ≤ k ∧ k < cnt 0) (d : decode cc pc = .ok (.getfield idx, 3)) (kk : JW p l e R s m args below meth c cy D ad A nL cells slots Q σ (pc + 3) lv (.ref (ad 10 0) :: st)) : JW p l e R s m args below meth c cy D ad A nL cells slots Q σ pc lv (.ref (ad 0 k) :: st) := by
  intro H locs ls h1 h2 h3
  exact va_get C.1.1 C.1.2.1 C.1.2.2.2.2 hin C.1.2.2.2.1 C.2.2.2.1.1 (one_P h1 hk.1 hk.2 (Or.inl (by decide)) rfl) 0 rfl rfl 13 (by decide) (C.1.2.2.2.2 _ hl) (fun _ h => h) rfl d (kk H locs ls h1 h2 h3)
theorem J_get_3_14 (C : Cx p l e R s m args below meth c cy D ad A nL cc own Ts) {idx : Nat} {k : Int} (hin : ∀ w ∈ wsX30, w ∈ Ts) (hl : Cond.fieldLink own idx "JointVenture" "portions" "[I" ∈ Ts) (hk : 0 ≤ k ∧ k < cnt 0) (d : decode cc pc = .ok (.getfield idx, 3)) (kk : JW p l e R s m args below meth c cy D ad A nL cells slots Q σ (pc + 3) lv (.ref (ad 11 0) :: st)) : JW p l e R s m args below meth c cy D ad A nL cells slots Q σ pc lv (.ref (ad 0 k) :: st) := by
  intro H locs ls h1 h2 h3
  exact va_get C.1.1 C.1.2.1 C.1.2.2.2.2 hin C.1.2.2.2.1 C.2.2.2.1.1 (one_P h1 hk.1 hk.2 (Or.inl (by decide)) rfl) 0 rfl rfl 14 (by decide) (C.1.2.2.2.2 _ hl) (fun _ h => h) rfl d (kk H locs ls h1 h2 h3)
theorem J_get_1_0 (C : Cx p l e R s m args below meth c cy D ad A nL cc own Ts) {idx : Nat} {k : Int} (hin : ∀ w ∈ wsX10, w ∈ Ts) (hl : Cond.fieldLink own idx "JointVenture$Division" "remainders" "[J" ∈ Ts) (hk : 0 ≤ k ∧ k < cnt 7) (d : decode cc pc = .ok (.getfield idx, 3)) (kk : JW p l e R s m args below meth c cy D ad A nL cells slots Q σ (pc + 3) lv (.ref (ad 8 0) :: st)) : JW p l e R s m args below meth c cy D ad A nL cells slots Q σ pc lv (.ref (ad 7 k) :: st) := by
  intro H locs ls h1 h2 h3
  exact va_get C.1.1 C.1.2.1 C.1.2.2.2.2 hin C.1.2.2.2.1 C.2.2.2.1.1 (one_P h1 hk.1 hk.2 (Or.inl (by decide)) rfl) 0 rfl rfl 0 (by decide) (C.1.2.2.2.2 _ hl) (fun _ h => h) rfl d (kk H locs ls h1 h2 h3)
theorem J_get_2_0 (C : Cx p l e R s m args below meth c cy D ad A nL cc own Ts) {idx : Nat} {k : Int} (hin : ∀ w ∈ wsX20, w ∈ Ts) (hl : Cond.fieldLink own idx "JointVenture$Well" "penalty" "I" ∈ Ts) (hk : 0 ≤ k ∧ k < cnt 12) (d : decode cc pc = .ok (.getfield idx, 3)) (kk : JW p l e R s m args below meth c cy D ad A nL cells slots Q σ (pc + 3) lv (.int (iI (σ 12 k 0)) :: st)) : JW p l e R s m args below meth c cy D ad A nL cells slots Q σ pc lv (.ref (ad 12 k) :: st) := by
  intro H locs ls h1 h2 h3
  exact va_get C.1.1 C.1.2.1 C.1.2.2.2.2 hin C.1.2.2.2.1 C.2.2.2.1.1 (one_P h1 hk.1 hk.2 (Or.inl (by decide)) rfl) 0 rfl rfl 0 (by decide) (C.1.2.2.2.2 _ hl) (fun _ h => h) rfl d (kk H locs ls h1 h2 h3)
theorem J_put_2_0 (C : Cx p l e R s m args below meth c cy D ad A nL cc own Ts) {idx : Nat} {k v : Int} (hin : ∀ w ∈ wsX20, w ∈ Ts) (hl : Cond.fieldLink own idx "JointVenture$Well" "penalty" "I" ∈ Ts) (hk : 0 ≤ k ∧ k < cnt 12) (d : decode cc pc = .ok (.putfield idx, 3)) (kk : JW p l e R s m args below meth c cy D ad A nL cells slots Q (su σ 12 k 0 v) (pc + 3) lv st) : JW p l e R s m args below meth c cy D ad A nL cells slots Q σ pc lv (.int (iI v) :: .ref (ad 12 k) :: st) :=
  put_gen (fsF := fun σ => [.int (iI (σ 12 k 0)), .int (iI (σ 12 k 1)), .ref (ad 13 k), .ref (ad 14 k), .ref (ad 15 k), .ref (ad 16 k), .ref (ad 17 k), .ref (ad 18 k)]) C hin tyX2 tyX2_ok nmX2 (ci := 2) rfl (by decide) hl rfl rfl (ty := .int) (by decide +kernel) rfl rfl (fun _ => rfl) (by show 0 < 8; decide) (by simp [su]) (Or.inl (by decide)) hk d kk
theorem J_get_2_1 (C : Cx p l e R s m args below meth c cy D ad A nL cc own Ts) {idx : Nat} {k : Int} (hin : ∀ w ∈ wsX20, w ∈ Ts) (hl : Cond.fieldLink own idx "JointVenture$Well" "hadVoucher" "Z" ∈ Ts) (hk : 0 ≤ k ∧ k < cnt 12) (d : decode cc pc = .ok (.getfield idx, 3)) (kk : JW p l e R s m args below meth c cy D ad A nL cells slots Q σ (pc + 3) lv (.int (iI (σ 12 k 1)) :: st)) : JW p l e R s m args below meth c cy D ad A nL cells slots Q σ pc lv (.ref (ad 12 k) :: st) := by
  intro H locs ls h1 h2 h3
  exact va_get C.1.1 C.1.2.1 C.1.2.2.2.2 hin C.1.2.2.2.1 C.2.2.2.1.1 (one_P h1 hk.1 hk.2 (Or.inl (by decide)) rfl) 0 rfl rfl 1 (by decide) (C.1.2.2.2.2 _ hl) (fun _ h => h) rfl d (kk H locs ls h1 h2 h3)
theorem J_put_2_1 (C : Cx p l e R s m args below meth c cy D ad A nL cc own Ts) {idx : Nat} {k v : Int} (hb : v = 0 ∨ v = 1) (hin : ∀ w ∈ wsX20, w ∈ Ts) (hl : Cond.fieldLink own idx "JointVenture$Well" "hadVoucher" "Z" ∈ Ts) (hk : 0 ≤ k ∧ k < cnt 12) (d : decode cc pc = .ok (.putfield idx, 3)) (kk : JW p l e R s m args below meth c cy D ad A nL cells slots Q (su σ 12 k 1 v) (pc + 3) lv st) : JW p l e R s m args below meth c cy D ad A nL cells slots Q σ pc lv (.int (iI v) :: .ref (ad 12 k) :: st) :=
  put_gen (fsF := fun σ => [.int (iI (σ 12 k 0)), .int (iI (σ 12 k 1)), .ref (ad 13 k), .ref (ad 14 k), .ref (ad 15 k), .ref (ad 16 k), .ref (ad 17 k), .ref (ad 18 k)]) C hin tyX2 tyX2_ok nmX2 (ci := 2) rfl (by decide) hl rfl rfl (ty := .boolean) (by decide +kernel) (by rcases hb with rfl | rfl <;> rfl) (by rcases hb with rfl | rfl <;> rfl) (fun _ => rfl) (by show 1 < 8; decide) (by simp [su]) (Or.inl (by decide)) hk d kk
theorem J_get_2_2 (C : Cx p l e R s m args below meth c cy D ad A nL cc own Ts) {idx : Nat} {k : Int} (hin : ∀ w ∈ wsX20, w ∈ Ts) (hl : Cond.fieldLink own idx "JointVenture$Well" "electedOut" "[Z" ∈ Ts) (hk : 0 ≤ k ∧ k < cnt 12) (d : decode cc pc = .ok (.getfield idx, 3)) (kk : JW p l e R s m args below meth c cy D ad A nL cells slots Q σ (pc + 3) lv (.ref (ad 13 k) :: st)) : JW p l e R s m args below meth c cy D ad A nL cells slots Q σ pc lv (.ref (ad 12 k) :: st) := by
  intro H locs ls h1 h2 h3
  exact va_get C.1.1 C.1.2.1 C.1.2.2.2.2 hin C.1.2.2.2.1 C.2.2.2.1.1 (one_P h1 hk.1 hk.2 (Or.inl (by decide)) rfl) 0 rfl rfl 2 (by decide) (C.1.2.2.2.2 _ hl) (fun _ h => h) rfl d (kk H locs ls h1 h2 h3)
theorem J_get_2_3 (C : Cx p l e R s m args below meth c cy D ad A nL cc own Ts) {idx : Nat} {k : Int} (hin : ∀ w ∈ wsX20, w ∈ Ts) (hl : Cond.fieldLink own idx "JointVenture$Well" "out" "[Z" ∈ Ts) (hk : 0 ≤ k ∧ k < cnt 12) (d : decode cc pc = .ok (.getfield idx, 3)) (kk : JW p l e R s m args below meth c cy D ad A nL cells slots Q σ (pc + 3) lv (.ref (ad 14 k) :: st)) : JW p l e R s m args below meth c cy D ad A nL cells slots Q σ pc lv (.ref (ad 12 k) :: st) := by
  intro H locs ls h1 h2 h3
  exact va_get C.1.1 C.1.2.1 C.1.2.2.2.2 hin C.1.2.2.2.1 C.2.2.2.1.1 (one_P h1 hk.1 hk.2 (Or.inl (by decide)) rfl) 0 rfl rfl 3 (by decide) (C.1.2.2.2.2 _ hl) (fun _ h => h) rfl d (kk H locs ls h1 h2 h3)
theorem J_get_2_4 (C : Cx p l e R s m args below meth c cy D ad A nL cc own Ts) {idx : Nat} {k : Int} (hin : ∀ w ∈ wsX20, w ∈ Ts) (hl : Cond.fieldLink own idx "JointVenture$Well" "toEarn" "[J" ∈ Ts) (hk : 0 ≤ k ∧ k < cnt 12) (d : decode cc pc = .ok (.getfield idx, 3)) (kk : JW p l e R s m args below meth c cy D ad A nL cells slots Q σ (pc + 3) lv (.ref (ad 15 k) :: st)) : JW p l e R s m args below meth c cy D ad A nL cells slots Q σ pc lv (.ref (ad 12 k) :: st) := by
  intro H locs ls h1 h2 h3
  exact va_get C.1.1 C.1.2.1 C.1.2.2.2.2 hin C.1.2.2.2.1 C.2.2.2.1.1 (one_P h1 hk.1 hk.2 (Or.inl (by decide)) rfl) 0 rfl rfl 4 (by decide) (C.1.2.2.2.2 _ hl) (fun _ h => h) rfl d (kk H locs ls h1 h2 h3)
theorem J_get_2_5 (C : Cx p l e R s m args below meth c cy D ad A nL cc own Ts) {idx : Nat} {k : Int} (hin : ∀ w ∈ wsX20, w ∈ Ts) (hl : Cond.fieldLink own idx "JointVenture$Well" "backAt" "[I" ∈ Ts) (hk : 0 ≤ k ∧ k < cnt 12) (d : decode cc pc = .ok (.getfield idx, 3)) (kk : JW p l e R s m args below meth c cy D ad A nL cells slots Q σ (pc + 3) lv (.ref (ad 16 k) :: st)) : JW p l e R s m args below meth c cy D ad A nL cells slots Q σ pc lv (.ref (ad 12 k) :: st) := by
  intro H locs ls h1 h2 h3
  exact va_get C.1.1 C.1.2.1 C.1.2.2.2.2 hin C.1.2.2.2.1 C.2.2.2.1.1 (one_P h1 hk.1 hk.2 (Or.inl (by decide)) rfl) 0 rfl rfl 5 (by decide) (C.1.2.2.2.2 _ hl) (fun _ h => h) rfl d (kk H locs ls h1 h2 h3)
theorem J_get_2_6 (C : Cx p l e R s m args below meth c cy D ad A nL cc own Ts) {idx : Nat} {k : Int} (hin : ∀ w ∈ wsX20, w ∈ Ts) (hl : Cond.fieldLink own idx "JointVenture$Well" "charged" "[I" ∈ Ts) (hk : 0 ≤ k ∧ k < cnt 12) (d : decode cc pc = .ok (.getfield idx, 3)) (kk : JW p l e R s m args below meth c cy D ad A nL cells slots Q σ (pc + 3) lv (.ref (ad 17 k) :: st)) : JW p l e R s m args below meth c cy D ad A nL cells slots Q σ pc lv (.ref (ad 12 k) :: st) := by
  intro H locs ls h1 h2 h3
  exact va_get C.1.1 C.1.2.1 C.1.2.2.2.2 hin C.1.2.2.2.1 C.2.2.2.1.1 (one_P h1 hk.1 hk.2 (Or.inl (by decide)) rfl) 0 rfl rfl 6 (by decide) (C.1.2.2.2.2 _ hl) (fun _ h => h) rfl d (kk H locs ls h1 h2 h3)
theorem J_get_2_7 (C : Cx p l e R s m args below meth c cy D ad A nL cc own Ts) {idx : Nat} {k : Int} (hin : ∀ w ∈ wsX20, w ∈ Ts) (hl : Cond.fieldLink own idx "JointVenture$Well" "credited" "[I" ∈ Ts) (hk : 0 ≤ k ∧ k < cnt 12) (d : decode cc pc = .ok (.getfield idx, 3)) (kk : JW p l e R s m args below meth c cy D ad A nL cells slots Q σ (pc + 3) lv (.ref (ad 18 k) :: st)) : JW p l e R s m args below meth c cy D ad A nL cells slots Q σ pc lv (.ref (ad 12 k) :: st) := by
  intro H locs ls h1 h2 h3
  exact va_get C.1.1 C.1.2.1 C.1.2.2.2.2 hin C.1.2.2.2.1 C.2.2.2.1.1 (one_P h1 hk.1 hk.2 (Or.inl (by decide)) rfl) 0 rfl rfl 7 (by decide) (C.1.2.2.2.2 _ hl) (fun _ h => h) rfl d (kk H locs ls h1 h2 h3)
theorem J_get_0_0 (C : Cx p l e R s m args below meth c cy D ad A nL cc own Ts) {idx : Nat} {k : Int} (hin : ∀ w ∈ wsX00, w ∈ Ts) (hl : Cond.fieldLink own idx "JointVenture$CashCall" "asked" "[I" ∈ Ts) (hk : 0 ≤ k ∧ k < cnt 19) (d : decode cc pc = .ok (.getfield idx, 3)) (kk : JW p l e R s m args below meth c cy D ad A nL cells slots Q σ (pc + 3) lv (.ref (ad 20 k) :: st)) : JW p l e R s m args below meth c cy D ad A nL cells slots Q σ pc lv (.ref (ad 19 k) :: st) := by
  intro H locs ls h1 h2 h3
  exact va_get C.1.1 C.1.2.1 C.1.2.2.2.2 hin C.1.2.2.2.1 C.2.2.2.1.1 (one_P h1 hk.1 hk.2 (Or.inl (by decide)) rfl) 0 rfl rfl 0 (by decide) (C.1.2.2.2.2 _ hl) (fun _ h => h) rfl d (kk H locs ls h1 h2 h3)
theorem J_get_0_1 (C : Cx p l e R s m args below meth c cy D ad A nL cc own Ts) {idx : Nat} {k : Int} (hin : ∀ w ∈ wsX00, w ∈ Ts) (hl : Cond.fieldLink own idx "JointVenture$CashCall" "paid" "[I" ∈ Ts) (hk : 0 ≤ k ∧ k < cnt 19) (d : decode cc pc = .ok (.getfield idx, 3)) (kk : JW p l e R s m args below meth c cy D ad A nL cells slots Q σ (pc + 3) lv (.ref (ad 21 k) :: st)) : JW p l e R s m args below meth c cy D ad A nL cells slots Q σ pc lv (.ref (ad 19 k) :: st) := by
  intro H locs ls h1 h2 h3
  exact va_get C.1.1 C.1.2.1 C.1.2.2.2.2 hin C.1.2.2.2.1 C.2.2.2.1.1 (one_P h1 hk.1 hk.2 (Or.inl (by decide)) rfl) 0 rfl rfl 1 (by decide) (C.1.2.2.2.2 _ hl) (fun _ h => h) rfl d (kk H locs ls h1 h2 h3)
theorem thw_face : thw.all (fun w => w.keepsFace && w.onTables) = true := by decide +kernel
theorem thw_ot : thw.all vx_ot = true := by decide +kernel
theorem before_warm {w : Cond} (hk : w.keepsFace = true) (ho : w.onTables = true) {a a' : Array Value} {s U : State} (hW : s.WarmedH U.vm) (h : w.before a s = true) : w.before a' U = true :=
  va_tabs (u := s.setVm U.vm) ho rfl (Cond.before_shiftedFace (State.Shifted.of_warmed hW) w hk h)
theorem Sx.warm {H : Heap} {U : State} (hW : s.WarmedH U.vm) (h : Sx cy D ad s H) : Sx cy D ad U H := by
  obtain ⟨g1, g2, g3, g4, g5, g6⟩ := h
  refine ⟨va_K.moved hW.alike g1, vx_Zq.moved hW.alike g2, vx_Zq.moved hW.alike g3, fun q hq => ?_, fun w hw => ?_, fun E hE T hT hn => va_Nc.moved hW.alike (g6 E hE T hT hn)⟩
  · obtain ⟨a, ha⟩ := g4 q hq
    exact ⟨a, vk_R.warm hW ha⟩
  · have h1 := List.all_eq_true.mp thw_face w hw
    simp only [Bool.and_eq_true] at h1
    exact before_warm h1.1 h1.2 hW (g5 w hw)
theorem Sx.calling {U : State} {g : JFrame} {mk : MethodId} {a : Array Value} {H : Heap} (h : Sx cy D ad U H) : Sx cy D ad (U.calling g mk a) H := by
  obtain ⟨g1, g2, g3, g4, g5, g6⟩ := h
  refine ⟨va_K.moved (u := U) (Vm.Alike.refl U.vm) g1, vx_Zq.moved (u := U) (Vm.Alike.refl U.vm) g2, vx_Zq.moved (u := U) (Vm.Alike.refl U.vm) g3, fun q hq => ?_, fun w hw => ?_, fun E hE T hT hn => va_Nc.moved (u := U) (Vm.Alike.refl U.vm) (g6 E hE T hT hn)⟩
  · obtain ⟨b, hb⟩ := g4 q hq
    exact ⟨b, vk_R.same (u := U) rfl hb⟩
  · have h1 := List.all_eq_true.mp thw_face w hw
    simp only [Bool.and_eq_true] at h1
    exact va_tabs (u := U) h1.2 rfl (g5 w hw)
theorem Zq_up {C n d : String} {U : State} {H : Heap} (h : vx_Zq C n d (Aw ad) U H) : vx_Zq C n d (Ar ad H.size) U H := by
  have key : ∀ (a : Nat) (cell : Cell), H[a]? = some cell → ¬ Aw ad a → ¬ Ar ad H.size a := by
    intro a cell hc ha z
    have hl : a < H.size := (Array.getElem?_eq_some_iff.mp hc).1
    exact z.elim ha (fun z => by omega)
  obtain ⟨h1, c0, k0, i0, f0, a0, cell0, e1, e2, e3, e4, e5, e6, e7, e8, e9, e10⟩ := h
  refine ⟨?_, c0, k0, i0, f0, a0, cell0, e1, e2, e3, e4, e5, e6, e7, e8, e9, key _ _ e5 e10⟩
  rcases h1 with ⟨cf, kf, fi, f, a, cell, u1, u2, u3, u4, u5, u6, u7, u8⟩ | ⟨t, cf, kf, fi, f, a, cell, u1, u2, u3, u4, u5, u6, u7, u8⟩
  · exact Or.inl ⟨cf, kf, fi, f, a, cell, u1, u2, u3, u4, u5, u6, u7, key _ _ u5 u8⟩
  · exact Or.inr ⟨t, cf, kf, fi, f, a, cell, u1, u2, u3, u4, u5, u6, u7, key _ _ u5 u8⟩
theorem Sx.at_ {H0 H : Heap} {U : State} {locs : List Loc} (hA : ∀ q, A q → Ar ad H0.size q) (hS : va_S A H0 H locs) (h : Sx cy D ad U H0) : Sx cy D ad U H := by
  obtain ⟨g1, g2, g3, g4, g5, g6⟩ := h
  have kept : ∀ q : Nat, q < H0.size → ¬ Ar ad H0.size q → H[q]? = H0[q]? := fun q h1 h2 => hS.2.1 q h1 (fun z => h2 (hA q z))
  exact ⟨g1, vx_Zq.narrow (vx_Zq.kept (Zq_up g2) kept) (fun q z => Or.inl z), vx_Zq.narrow (vx_Zq.kept (Zq_up g3) kept) (fun q z => Or.inl z), g4, g5, g6⟩
abbrev PcW (cy : Nat → ClassId) (D : va_G) (ad : Ad) (σ : Sg) (av : List Value) (sz : Nat) : Array Value → State → Prop := va_Pc av (fun U => U.heap.size = sz ∧ Wd cy D ad σ U.heap ∧ Sx cy D ad U U.heap)
abbrev QcI (cy : Nat → ClassId) (D : va_G) (ad : Ad) (post : Int → Sg → Prop) (sz : Nat) : Array Value → State → Outcome → State → Prop := va_Qi (fun (r : Int32) (σ' : Sg) => ∃ z : Int, r = iI z ∧ post z σ') (fun (σ' : Sg) (t : State) => Wd cy D ad σ' t.heap) (Ar ad sz)
abbrev QcL (cy : Nat → ClassId) (D : va_G) (ad : Ad) (post : Int → Sg → Prop) (sz : Nat) : Array Value → State → Outcome → State → Prop := va_Ql (fun (r : Int64) (σ' : Sg) => ∃ z : Int, r = lI z ∧ post z σ') (fun (σ' : Sg) (t : State) => Wd cy D ad σ' t.heap) (Ar ad sz)
abbrev QcV (cy : Nat → ClassId) (D : va_G) (ad : Ad) (post : Sg → Prop) (sz : Nat) : Array Value → State → Outcome → State → Prop := va_Qv (fun (σ' : Sg) => post σ') (fun (σ' : Sg) (t : State) => Wd cy D ad σ' t.heap) (Ar ad sz)
abbrev XcW (cy : Nat → ClassId) (D : va_G) (ad : Ad) (xp : String → Sg → Prop) (sz : Nat) : String → State → State → Prop := vx_X (fun (u : Sg × String) => xp u.2 u.1) (fun (E : String) (u : Sg × String) (t : State) => E = u.2 ∧ Wd cy D ad u.1 t.heap) (Ar ad sz)
theorem J_forb {av : List Value} {sz : Nat} : FrameBlind (PcW cy D ad σ av sz) := fun _ _ _ _ q => ⟨q.1, q.2.1, q.2.2.1, q.2.2.2.calling⟩
theorem J_recv {Cn : String} {kd : Nat} {k : Int} {H : Heap} (hr : Rcv Cn kd) (hk : 0 ≤ k ∧ k < cnt kd) (hK : va_K D vwCl (tysO cy) s) (h1 : Wd cy D ad σ H) : ∃ cell : Cell, H[ad kd k]? = some cell ∧ cell.vm.isStatics = false ∧ s.vm.findClass Cn = some cell.cls := by
  obtain ⟨hl22, ci, T, N, hc, hw⟩ := hr
  obtain ⟨fs, hfs⟩ := hw cy ad σ k
  exact va_recv (q := (Cn, T, N)) hK (one_P h1 hk.1 hk.2 (Or.inl hl22) hfs) hc (q0 := 0) rfl
theorem J_nlt (hf : (fun _ : Nat => True) 0) : True := trivial
def KI (l : Launch) (y : MethodName) (ws : List Cond) (rm : Room) (cy : Nat → ClassId) (D : va_G) (ad : Ad) (σ : Sg) (av : List Value) (post : Int → Sg → Prop) (mc ms : Nat) : Prop := ∀ sz : Nat, Met l y ws rm (PcW cy D ad σ av sz) (QcI cy D ad post sz) mc ms (Ar ad sz)
def XI (l : Launch) (y : MethodName) (ws : List Cond) (rm : Room) (cy : Nat → ClassId) (D : va_G) (ad : Ad) (σ : Sg) (av : List Value) (post : Int → Sg → Prop) (xp : String → Sg → Prop) (mc ms : Nat) : Prop := ∀ sz : Nat, vx_Met l y ws rm (PcW cy D ad σ av sz) (QcI cy D ad post sz) (XcW cy D ad xp sz) mc ms (Ar ad sz)
def KL (l : Launch) (y : MethodName) (ws : List Cond) (rm : Room) (cy : Nat → ClassId) (D : va_G) (ad : Ad) (σ : Sg) (av : List Value) (post : Int → Sg → Prop) (mc ms : Nat) : Prop := ∀ sz : Nat, Met l y ws rm (PcW cy D ad σ av sz) (QcL cy D ad post sz) mc ms (Ar ad sz)
def XL (l : Launch) (y : MethodName) (ws : List Cond) (rm : Room) (cy : Nat → ClassId) (D : va_G) (ad : Ad) (σ : Sg) (av : List Value) (post : Int → Sg → Prop) (xp : String → Sg → Prop) (mc ms : Nat) : Prop := ∀ sz : Nat, vx_Met l y ws rm (PcW cy D ad σ av sz) (QcL cy D ad post sz) (XcW cy D ad xp sz) mc ms (Ar ad sz)
def KV (l : Launch) (y : MethodName) (ws : List Cond) (rm : Room) (cy : Nat → ClassId) (D : va_G) (ad : Ad) (σ : Sg) (av : List Value) (post : Sg → Prop) (mc ms : Nat) : Prop := ∀ sz : Nat, Met l y ws rm (PcW cy D ad σ av sz) (QcV cy D ad post sz) mc ms (Ar ad sz)
def XV (l : Launch) (y : MethodName) (ws : List Cond) (rm : Room) (cy : Nat → ClassId) (D : va_G) (ad : Ad) (σ : Sg) (av : List Value) (post : Sg → Prop) (xp : String → Sg → Prop) (mc ms : Nat) : Prop := ∀ sz : Nat, vx_Met l y ws rm (PcW cy D ad σ av sz) (QcV cy D ad post sz) (XcW cy D ad xp sz) mc ms (Ar ad sz)
theorem J_KVI (C : Cx p l e R s m args below meth c cy D ad A nL cc own Ts) {y : MethodName} {bytes : ByteArray} {maxL mc ms n idx : Nat} {ret : Option FieldType} {ws' : List Cond} {rm : Room} {As rest : List Value} {Cn : String} {kd : Nat} {k : Int} {post : Int → Sg → Prop} (hM : KI l y ws' rm cy D ad σ (.ref (ad kd k) :: As) post mc ms) (cw : CallW R s args own Cn idx y bytes maxL ret ws' rm mc ms n) (hr : Rcv Cn kd) (hk : 0 ≤ k ∧ k < cnt kd) (hst : st = As.reverse ++ .ref (ad kd k) :: rest) (hn : As.length = n) (hW : (rest.map fun v => v.category).sum ≤ 8) (d : decode cc pc = .ok (.invokevirtual idx, 3)) (hf : cells + mc ≤ R.cells ∧ slots + ms ≤ R.slots) (kk : ∀ (z : Int) (σ' : Sg), post z σ' → JW p l e R s m args below meth c cy D ad A nL (cells + mc) (slots + ms) Q σ' (pc + 3) lv (.int (iI z) :: rest)) : JW p l e R s m args below meth c cy D ad A nL cells slots Q σ pc lv st := by
  intro H locs ls h1 h2 h3
  subst hst
  have hA : ∀ q, Ar ad H.size q → A q := fun q hq => C.2.2.1 q (hq.imp id (fun z => Nat.le_trans h2.1 z))
  refine va_calli (va_runV (As := As) (rest := rest) C.1 (hM H.size) cw ⟨J_forb, J_recv hr hk C.2.2.2.1.1 h1, fun U hU hW => ⟨rfl, by rw [hU], by rw [hU]; exact h1, by rw [hU]; exact (Sx.at_ C.2.2.2.2.2.2 h2 C.2.2.2.1).warm hW⟩⟩ rfl hn h3.1 rfl (lv_room hW) d hf) h2 (fun q _ h => hA q h) hA ?_
  rintro r σ' t H1 locs1 ht hvm ⟨z, rfl, hp⟩ hB hz1 hk1 hS
  rw [ht] at hB
  exact kk z σ' hp H1 locs1 ls hB hS h3
theorem J_KSI (C : Cx p l e R s m args below meth c cy D ad A nL cc own Ts) {y : MethodName} {bytes : ByteArray} {maxL mc ms n idx : Nat} {ret : Option FieldType} {ws' : List Cond} {rm : Room} {As rest : List Value} {post : Int → Sg → Prop} (hM : KI l y ws' rm cy D ad σ As post mc ms) (cw : CallB R s args own idx y bytes maxL ret ws' rm mc ms n ∧ (Cond.static y).before args s = true) (hst : st = As.reverse ++ rest) (hn : As.length = n) (hW : (rest.map fun v => v.category).sum ≤ 8) (d : decode cc pc = .ok (.invokestatic idx, 3)) (hf : cells + mc ≤ R.cells ∧ slots + ms ≤ R.slots) (kk : ∀ (z : Int) (σ' : Sg), post z σ' → JW p l e R s m args below meth c cy D ad A nL (cells + mc) (slots + ms) Q σ' (pc + 3) lv (.int (iI z) :: rest)) : JW p l e R s m args below meth c cy D ad A nL cells slots Q σ pc lv st := by
  intro H locs ls h1 h2 h3
  subst hst
  have hA : ∀ q, Ar ad H.size q → A q := fun q hq => C.2.2.1 q (hq.imp id (fun z => Nat.le_trans h2.1 z))
  refine va_calli (va_runS (As := As) (rest := rest) C.1 (hM H.size) cw ⟨J_forb, fun U hU hW => ⟨rfl, by rw [hU], by rw [hU]; exact h1, by rw [hU]; exact (Sx.at_ C.2.2.2.2.2.2 h2 C.2.2.2.1).warm hW⟩⟩ rfl hn h3.1 rfl (lv_room hW) d hf) h2 (fun q _ h => hA q h) hA ?_
  rintro r σ' t H1 locs1 ht hvm ⟨z, rfl, hp⟩ hB hz1 hk1 hS
  rw [ht] at hB
  exact kk z σ' hp H1 locs1 ls hB hS h3
theorem J_KWI (C : Cx p l e R s m args below meth c cy D ad A nL cc own Ts) {y : MethodName} {bytes : ByteArray} {maxL mc ms n idx : Nat} {ret : Option FieldType} {ws' : List Cond} {rm : Room} {As rest : List Value} {hh : List (Nat × Nat × Nat × Nat)} {post : Int → Sg → Prop} (hM : KI l y ws' rm cy D ad σ As post mc ms) (cw : vx_CSW R s args own idx y bytes maxL ret hh ws' rm mc ms n) (hst : st = As.reverse ++ rest) (hn : As.length = n) (hW : (rest.map fun v => v.category).sum ≤ 8) (d : decode cc pc = .ok (.invokestatic idx, 3)) (hf : cells + mc ≤ R.cells ∧ slots + ms ≤ R.slots) (kk : ∀ (z : Int) (σ' : Sg), post z σ' → JW p l e R s m args below meth c cy D ad A nL (cells + mc) (slots + ms) Q σ' (pc + 3) lv (.int (iI z) :: rest)) : JW p l e R s m args below meth c cy D ad A nL cells slots Q σ pc lv st := by
  intro H locs ls h1 h2 h3
  subst hst
  have hA : ∀ q, Ar ad H.size q → A q := fun q hq => C.2.2.1 q (hq.imp id (fun z => Nat.le_trans h2.1 z))
  refine va_calli (vx_runSW (As := As) (rest := rest) C.1 (hM H.size) cw ⟨J_forb, fun U hU hW => ⟨rfl, by rw [hU], by rw [hU]; exact h1, by rw [hU]; exact (Sx.at_ C.2.2.2.2.2.2 h2 C.2.2.2.1).warm hW⟩⟩ rfl hn h3.1 rfl (lv_room hW) d hf) h2 (fun q _ h => hA q h) hA ?_
  rintro r σ' t H1 locs1 ht hvm ⟨z, rfl, hp⟩ hB hz1 hk1 hS
  rw [ht] at hB
  exact kk z σ' hp H1 locs1 ls hB hS h3
theorem J_XVI (C : Cx p l e R s m args below meth c cy D ad A nL cc own Ts) {y : MethodName} {bytes : ByteArray} {maxL mc ms n idx : Nat} {ret : Option FieldType} {ws' : List Cond} {rm : Room} {As rest : List Value} {Cn : String} {kd : Nat} {k : Int} {post : Int → Sg → Prop} {xp : String → Sg → Prop} (hM : XI l y ws' rm cy D ad σ (.ref (ad kd k) :: As) post xp mc ms) (cw : CallW R s args own Cn idx y bytes maxL ret ws' rm mc ms n) (hr : Rcv Cn kd) (hk : 0 ≤ k ∧ k < cnt kd) (hst : st = As.reverse ++ .ref (ad kd k) :: rest) (hn : As.length = n) (hW : (rest.map fun v => v.category).sum ≤ 8) (d : decode cc pc = .ok (.invokevirtual idx, 3)) (hf : cells + mc ≤ R.cells ∧ slots + ms ≤ R.slots) (kx : ∀ (E : String) (σ' : Sg), xp E σ' → JX p l e R s m args below meth c cy D ad A nL (cells + mc) (slots + ms) Q σ' pc lv rest E) (kk : ∀ (z : Int) (σ' : Sg), post z σ' → JW p l e R s m args below meth c cy D ad A nL (cells + mc) (slots + ms) Q σ' (pc + 3) lv (.int (iI z) :: rest)) : JW p l e R s m args below meth c cy D ad A nL cells slots Q σ pc lv st := by
  intro H locs ls h1 h2 h3
  subst hst
  have hA : ∀ q, Ar ad H.size q → A q := fun q hq => C.2.2.1 q (hq.imp id (fun z => Nat.le_trans h2.1 z))
  refine vx_calli (vx_runV (As := As) (rest := rest) C.1 (hM H.size) cw ⟨J_forb, J_recv hr hk C.2.2.2.1.1 h1, fun U hU hW => ⟨rfl, by rw [hU], by rw [hU]; exact h1, by rw [hU]; exact (Sx.at_ C.2.2.2.2.2.2 h2 C.2.2.2.1).warm hW⟩⟩ rfl hn h3.1 rfl (lv_room hW) d hf) h2 (fun q _ h => hA q h) hA (fun q _ h => hA q h) ?_ ?_
  · rintro E ce q9 ⟨σ', E'⟩ t H1 locs1 ht hvm hp ⟨hE, hB⟩ hz1 hk1 hS hc9 hv9 hcl9
    rw [ht] at hB
    dsimp only at hE hp hB
    subst hE
    exact kx _ σ' hp H1 locs1 ls ce q9 hB hS h3 hc9 hv9 hcl9
  · rintro r σ' t H1 locs1 ht hvm ⟨z, rfl, hp⟩ hB hz1 hk1 hS
    rw [ht] at hB
    exact kk z σ' hp H1 locs1 ls hB hS h3
theorem J_XSI (C : Cx p l e R s m args below meth c cy D ad A nL cc own Ts) {y : MethodName} {bytes : ByteArray} {maxL mc ms n idx : Nat} {ret : Option FieldType} {ws' : List Cond} {rm : Room} {As rest : List Value} {post : Int → Sg → Prop} {xp : String → Sg → Prop} (hM : XI l y ws' rm cy D ad σ As post xp mc ms) (cw : CallB R s args own idx y bytes maxL ret ws' rm mc ms n ∧ (Cond.static y).before args s = true) (hst : st = As.reverse ++ rest) (hn : As.length = n) (hW : (rest.map fun v => v.category).sum ≤ 8) (d : decode cc pc = .ok (.invokestatic idx, 3)) (hf : cells + mc ≤ R.cells ∧ slots + ms ≤ R.slots) (kx : ∀ (E : String) (σ' : Sg), xp E σ' → JX p l e R s m args below meth c cy D ad A nL (cells + mc) (slots + ms) Q σ' pc lv rest E) (kk : ∀ (z : Int) (σ' : Sg), post z σ' → JW p l e R s m args below meth c cy D ad A nL (cells + mc) (slots + ms) Q σ' (pc + 3) lv (.int (iI z) :: rest)) : JW p l e R s m args below meth c cy D ad A nL cells slots Q σ pc lv st := by
  intro H locs ls h1 h2 h3
  subst hst
  have hA : ∀ q, Ar ad H.size q → A q := fun q hq => C.2.2.1 q (hq.imp id (fun z => Nat.le_trans h2.1 z))
  refine vx_calli (vx_runS (As := As) (rest := rest) C.1 (hM H.size) cw ⟨J_forb, fun U hU hW => ⟨rfl, by rw [hU], by rw [hU]; exact h1, by rw [hU]; exact (Sx.at_ C.2.2.2.2.2.2 h2 C.2.2.2.1).warm hW⟩⟩ rfl hn h3.1 rfl (lv_room hW) d hf) h2 (fun q _ h => hA q h) hA (fun q _ h => hA q h) ?_ ?_
  · rintro E ce q9 ⟨σ', E'⟩ t H1 locs1 ht hvm hp ⟨hE, hB⟩ hz1 hk1 hS hc9 hv9 hcl9
    rw [ht] at hB
    dsimp only at hE hp hB
    subst hE
    exact kx _ σ' hp H1 locs1 ls ce q9 hB hS h3 hc9 hv9 hcl9
  · rintro r σ' t H1 locs1 ht hvm ⟨z, rfl, hp⟩ hB hz1 hk1 hS
    rw [ht] at hB
    exact kk z σ' hp H1 locs1 ls hB hS h3
theorem J_KVL (C : Cx p l e R s m args below meth c cy D ad A nL cc own Ts) {y : MethodName} {bytes : ByteArray} {maxL mc ms n idx : Nat} {ret : Option FieldType} {ws' : List Cond} {rm : Room} {As rest : List Value} {Cn : String} {kd : Nat} {k : Int} {post : Int → Sg → Prop} (hM : KL l y ws' rm cy D ad σ (.ref (ad kd k) :: As) post mc ms) (cw : CallW R s args own Cn idx y bytes maxL ret ws' rm mc ms n) (hr : Rcv Cn kd) (hk : 0 ≤ k ∧ k < cnt kd) (hst : st = As.reverse ++ .ref (ad kd k) :: rest) (hn : As.length = n) (hW : (rest.map fun v => v.category).sum ≤ 8) (d : decode cc pc = .ok (.invokevirtual idx, 3)) (hf : cells + mc ≤ R.cells ∧ slots + ms ≤ R.slots) (kk : ∀ (z : Int) (σ' : Sg), post z σ' → JW p l e R s m args below meth c cy D ad A nL (cells + mc) (slots + ms) Q σ' (pc + 3) lv (.long (lI z) :: rest)) : JW p l e R s m args below meth c cy D ad A nL cells slots Q σ pc lv st := by
  intro H locs ls h1 h2 h3
  subst hst
  have hA : ∀ q, Ar ad H.size q → A q := fun q hq => C.2.2.1 q (hq.imp id (fun z => Nat.le_trans h2.1 z))
  refine va_calll (va_runV (As := As) (rest := rest) C.1 (hM H.size) cw ⟨J_forb, J_recv hr hk C.2.2.2.1.1 h1, fun U hU hW => ⟨rfl, by rw [hU], by rw [hU]; exact h1, by rw [hU]; exact (Sx.at_ C.2.2.2.2.2.2 h2 C.2.2.2.1).warm hW⟩⟩ rfl hn h3.1 rfl (lv_room hW) d hf) h2 (fun q _ h => hA q h) hA ?_
  rintro r σ' t H1 locs1 ht hvm ⟨z, rfl, hp⟩ hB hz1 hk1 hS
  rw [ht] at hB
  exact kk z σ' hp H1 locs1 ls hB hS h3
theorem J_KSL (C : Cx p l e R s m args below meth c cy D ad A nL cc own Ts) {y : MethodName} {bytes : ByteArray} {maxL mc ms n idx : Nat} {ret : Option FieldType} {ws' : List Cond} {rm : Room} {As rest : List Value} {post : Int → Sg → Prop} (hM : KL l y ws' rm cy D ad σ As post mc ms) (cw : CallB R s args own idx y bytes maxL ret ws' rm mc ms n ∧ (Cond.static y).before args s = true) (hst : st = As.reverse ++ rest) (hn : As.length = n) (hW : (rest.map fun v => v.category).sum ≤ 8) (d : decode cc pc = .ok (.invokestatic idx, 3)) (hf : cells + mc ≤ R.cells ∧ slots + ms ≤ R.slots) (kk : ∀ (z : Int) (σ' : Sg), post z σ' → JW p l e R s m args below meth c cy D ad A nL (cells + mc) (slots + ms) Q σ' (pc + 3) lv (.long (lI z) :: rest)) : JW p l e R s m args below meth c cy D ad A nL cells slots Q σ pc lv st := by
  intro H locs ls h1 h2 h3
  subst hst
  have hA : ∀ q, Ar ad H.size q → A q := fun q hq => C.2.2.1 q (hq.imp id (fun z => Nat.le_trans h2.1 z))
  refine va_calll (va_runS (As := As) (rest := rest) C.1 (hM H.size) cw ⟨J_forb, fun U hU hW => ⟨rfl, by rw [hU], by rw [hU]; exact h1, by rw [hU]; exact (Sx.at_ C.2.2.2.2.2.2 h2 C.2.2.2.1).warm hW⟩⟩ rfl hn h3.1 rfl (lv_room hW) d hf) h2 (fun q _ h => hA q h) hA ?_
  rintro r σ' t H1 locs1 ht hvm ⟨z, rfl, hp⟩ hB hz1 hk1 hS
  rw [ht] at hB
  exact kk z σ' hp H1 locs1 ls hB hS h3
theorem J_KWL (C : Cx p l e R s m args below meth c cy D ad A nL cc own Ts) {y : MethodName} {bytes : ByteArray} {maxL mc ms n idx : Nat} {ret : Option FieldType} {ws' : List Cond} {rm : Room} {As rest : List Value} {hh : List (Nat × Nat × Nat × Nat)} {post : Int → Sg → Prop} (hM : KL l y ws' rm cy D ad σ As post mc ms) (cw : vx_CSW R s args own idx y bytes maxL ret hh ws' rm mc ms n) (hst : st = As.reverse ++ rest) (hn : As.length = n) (hW : (rest.map fun v => v.category).sum ≤ 8) (d : decode cc pc = .ok (.invokestatic idx, 3)) (hf : cells + mc ≤ R.cells ∧ slots + ms ≤ R.slots) (kk : ∀ (z : Int) (σ' : Sg), post z σ' → JW p l e R s m args below meth c cy D ad A nL (cells + mc) (slots + ms) Q σ' (pc + 3) lv (.long (lI z) :: rest)) : JW p l e R s m args below meth c cy D ad A nL cells slots Q σ pc lv st := by
  intro H locs ls h1 h2 h3
  subst hst
  have hA : ∀ q, Ar ad H.size q → A q := fun q hq => C.2.2.1 q (hq.imp id (fun z => Nat.le_trans h2.1 z))
  refine va_calll (vx_runSW (As := As) (rest := rest) C.1 (hM H.size) cw ⟨J_forb, fun U hU hW => ⟨rfl, by rw [hU], by rw [hU]; exact h1, by rw [hU]; exact (Sx.at_ C.2.2.2.2.2.2 h2 C.2.2.2.1).warm hW⟩⟩ rfl hn h3.1 rfl (lv_room hW) d hf) h2 (fun q _ h => hA q h) hA ?_
  rintro r σ' t H1 locs1 ht hvm ⟨z, rfl, hp⟩ hB hz1 hk1 hS
  rw [ht] at hB
  exact kk z σ' hp H1 locs1 ls hB hS h3
theorem J_XVL (C : Cx p l e R s m args below meth c cy D ad A nL cc own Ts) {y : MethodName} {bytes : ByteArray} {maxL mc ms n idx : Nat} {ret : Option FieldType} {ws' : List Cond} {rm : Room} {As rest : List Value} {Cn : String} {kd : Nat} {k : Int} {post : Int → Sg → Prop} {xp : String → Sg → Prop} (hM : XL l y ws' rm cy D ad σ (.ref (ad kd k) :: As) post xp mc ms) (cw : CallW R s args own Cn idx y bytes maxL ret ws' rm mc ms n) (hr : Rcv Cn kd) (hk : 0 ≤ k ∧ k < cnt kd) (hst : st = As.reverse ++ .ref (ad kd k) :: rest) (hn : As.length = n) (hW : (rest.map fun v => v.category).sum ≤ 8) (d : decode cc pc = .ok (.invokevirtual idx, 3)) (hf : cells + mc ≤ R.cells ∧ slots + ms ≤ R.slots) (kx : ∀ (E : String) (σ' : Sg), xp E σ' → JX p l e R s m args below meth c cy D ad A nL (cells + mc) (slots + ms) Q σ' pc lv rest E) (kk : ∀ (z : Int) (σ' : Sg), post z σ' → JW p l e R s m args below meth c cy D ad A nL (cells + mc) (slots + ms) Q σ' (pc + 3) lv (.long (lI z) :: rest)) : JW p l e R s m args below meth c cy D ad A nL cells slots Q σ pc lv st := by
  intro H locs ls h1 h2 h3
  subst hst
  have hA : ∀ q, Ar ad H.size q → A q := fun q hq => C.2.2.1 q (hq.imp id (fun z => Nat.le_trans h2.1 z))
  refine vx_calll (vx_runV (As := As) (rest := rest) C.1 (hM H.size) cw ⟨J_forb, J_recv hr hk C.2.2.2.1.1 h1, fun U hU hW => ⟨rfl, by rw [hU], by rw [hU]; exact h1, by rw [hU]; exact (Sx.at_ C.2.2.2.2.2.2 h2 C.2.2.2.1).warm hW⟩⟩ rfl hn h3.1 rfl (lv_room hW) d hf) h2 (fun q _ h => hA q h) hA (fun q _ h => hA q h) ?_ ?_
  · rintro E ce q9 ⟨σ', E'⟩ t H1 locs1 ht hvm hp ⟨hE, hB⟩ hz1 hk1 hS hc9 hv9 hcl9
    rw [ht] at hB
    dsimp only at hE hp hB
    subst hE
    exact kx _ σ' hp H1 locs1 ls ce q9 hB hS h3 hc9 hv9 hcl9
  · rintro r σ' t H1 locs1 ht hvm ⟨z, rfl, hp⟩ hB hz1 hk1 hS
    rw [ht] at hB
    exact kk z σ' hp H1 locs1 ls hB hS h3
theorem J_XSL (C : Cx p l e R s m args below meth c cy D ad A nL cc own Ts) {y : MethodName} {bytes : ByteArray} {maxL mc ms n idx : Nat} {ret : Option FieldType} {ws' : List Cond} {rm : Room} {As rest : List Value} {post : Int → Sg → Prop} {xp : String → Sg → Prop} (hM : XL l y ws' rm cy D ad σ As post xp mc ms) (cw : CallB R s args own idx y bytes maxL ret ws' rm mc ms n ∧ (Cond.static y).before args s = true) (hst : st = As.reverse ++ rest) (hn : As.length = n) (hW : (rest.map fun v => v.category).sum ≤ 8) (d : decode cc pc = .ok (.invokestatic idx, 3)) (hf : cells + mc ≤ R.cells ∧ slots + ms ≤ R.slots) (kx : ∀ (E : String) (σ' : Sg), xp E σ' → JX p l e R s m args below meth c cy D ad A nL (cells + mc) (slots + ms) Q σ' pc lv rest E) (kk : ∀ (z : Int) (σ' : Sg), post z σ' → JW p l e R s m args below meth c cy D ad A nL (cells + mc) (slots + ms) Q σ' (pc + 3) lv (.long (lI z) :: rest)) : JW p l e R s m args below meth c cy D ad A nL cells slots Q σ pc lv st := by
  intro H locs ls h1 h2 h3
  subst hst
  have hA : ∀ q, Ar ad H.size q → A q := fun q hq => C.2.2.1 q (hq.imp id (fun z => Nat.le_trans h2.1 z))
  refine vx_calll (vx_runS (As := As) (rest := rest) C.1 (hM H.size) cw ⟨J_forb, fun U hU hW => ⟨rfl, by rw [hU], by rw [hU]; exact h1, by rw [hU]; exact (Sx.at_ C.2.2.2.2.2.2 h2 C.2.2.2.1).warm hW⟩⟩ rfl hn h3.1 rfl (lv_room hW) d hf) h2 (fun q _ h => hA q h) hA (fun q _ h => hA q h) ?_ ?_
  · rintro E ce q9 ⟨σ', E'⟩ t H1 locs1 ht hvm hp ⟨hE, hB⟩ hz1 hk1 hS hc9 hv9 hcl9
    rw [ht] at hB
    dsimp only at hE hp hB
    subst hE
    exact kx _ σ' hp H1 locs1 ls ce q9 hB hS h3 hc9 hv9 hcl9
  · rintro r σ' t H1 locs1 ht hvm ⟨z, rfl, hp⟩ hB hz1 hk1 hS
    rw [ht] at hB
    exact kk z σ' hp H1 locs1 ls hB hS h3
theorem J_KVV (C : Cx p l e R s m args below meth c cy D ad A nL cc own Ts) {y : MethodName} {bytes : ByteArray} {maxL mc ms n idx : Nat} {ret : Option FieldType} {ws' : List Cond} {rm : Room} {As rest : List Value} {Cn : String} {kd : Nat} {k : Int} {post : Sg → Prop} (hM : KV l y ws' rm cy D ad σ (.ref (ad kd k) :: As) post mc ms) (cw : CallW R s args own Cn idx y bytes maxL ret ws' rm mc ms n) (hr : Rcv Cn kd) (hk : 0 ≤ k ∧ k < cnt kd) (hst : st = As.reverse ++ .ref (ad kd k) :: rest) (hn : As.length = n) (hW : (rest.map fun v => v.category).sum ≤ 8) (d : decode cc pc = .ok (.invokevirtual idx, 3)) (hf : cells + mc ≤ R.cells ∧ slots + ms ≤ R.slots) (kk : ∀ (σ' : Sg), post σ' → JW p l e R s m args below meth c cy D ad A nL (cells + mc) (slots + ms) Q σ' (pc + 3) lv (rest)) : JW p l e R s m args below meth c cy D ad A nL cells slots Q σ pc lv st := by
  intro H locs ls h1 h2 h3
  subst hst
  have hA : ∀ q, Ar ad H.size q → A q := fun q hq => C.2.2.1 q (hq.imp id (fun z => Nat.le_trans h2.1 z))
  refine va_callv (va_runV (As := As) (rest := rest) C.1 (hM H.size) cw ⟨J_forb, J_recv hr hk C.2.2.2.1.1 h1, fun U hU hW => ⟨rfl, by rw [hU], by rw [hU]; exact h1, by rw [hU]; exact (Sx.at_ C.2.2.2.2.2.2 h2 C.2.2.2.1).warm hW⟩⟩ rfl hn h3.1 rfl (lv_room hW) d hf) h2 (fun q _ h => hA q h) hA ?_
  rintro σ' t H1 locs1 ht hvm hp hB hz1 hk1 hS
  rw [ht] at hB
  exact kk σ' hp H1 locs1 ls hB hS h3
theorem J_KSV (C : Cx p l e R s m args below meth c cy D ad A nL cc own Ts) {y : MethodName} {bytes : ByteArray} {maxL mc ms n idx : Nat} {ret : Option FieldType} {ws' : List Cond} {rm : Room} {As rest : List Value} {post : Sg → Prop} (hM : KV l y ws' rm cy D ad σ As post mc ms) (cw : CallB R s args own idx y bytes maxL ret ws' rm mc ms n ∧ (Cond.static y).before args s = true) (hst : st = As.reverse ++ rest) (hn : As.length = n) (hW : (rest.map fun v => v.category).sum ≤ 8) (d : decode cc pc = .ok (.invokestatic idx, 3)) (hf : cells + mc ≤ R.cells ∧ slots + ms ≤ R.slots) (kk : ∀ (σ' : Sg), post σ' → JW p l e R s m args below meth c cy D ad A nL (cells + mc) (slots + ms) Q σ' (pc + 3) lv (rest)) : JW p l e R s m args below meth c cy D ad A nL cells slots Q σ pc lv st := by
  intro H locs ls h1 h2 h3
  subst hst
  have hA : ∀ q, Ar ad H.size q → A q := fun q hq => C.2.2.1 q (hq.imp id (fun z => Nat.le_trans h2.1 z))
  refine va_callv (va_runS (As := As) (rest := rest) C.1 (hM H.size) cw ⟨J_forb, fun U hU hW => ⟨rfl, by rw [hU], by rw [hU]; exact h1, by rw [hU]; exact (Sx.at_ C.2.2.2.2.2.2 h2 C.2.2.2.1).warm hW⟩⟩ rfl hn h3.1 rfl (lv_room hW) d hf) h2 (fun q _ h => hA q h) hA ?_
  rintro σ' t H1 locs1 ht hvm hp hB hz1 hk1 hS
  rw [ht] at hB
  exact kk σ' hp H1 locs1 ls hB hS h3
theorem J_KWV (C : Cx p l e R s m args below meth c cy D ad A nL cc own Ts) {y : MethodName} {bytes : ByteArray} {maxL mc ms n idx : Nat} {ret : Option FieldType} {ws' : List Cond} {rm : Room} {As rest : List Value} {hh : List (Nat × Nat × Nat × Nat)} {post : Sg → Prop} (hM : KV l y ws' rm cy D ad σ As post mc ms) (cw : vx_CSW R s args own idx y bytes maxL ret hh ws' rm mc ms n) (hst : st = As.reverse ++ rest) (hn : As.length = n) (hW : (rest.map fun v => v.category).sum ≤ 8) (d : decode cc pc = .ok (.invokestatic idx, 3)) (hf : cells + mc ≤ R.cells ∧ slots + ms ≤ R.slots) (kk : ∀ (σ' : Sg), post σ' → JW p l e R s m args below meth c cy D ad A nL (cells + mc) (slots + ms) Q σ' (pc + 3) lv (rest)) : JW p l e R s m args below meth c cy D ad A nL cells slots Q σ pc lv st := by
  intro H locs ls h1 h2 h3
  subst hst
  have hA : ∀ q, Ar ad H.size q → A q := fun q hq => C.2.2.1 q (hq.imp id (fun z => Nat.le_trans h2.1 z))
  refine va_callv (vx_runSW (As := As) (rest := rest) C.1 (hM H.size) cw ⟨J_forb, fun U hU hW => ⟨rfl, by rw [hU], by rw [hU]; exact h1, by rw [hU]; exact (Sx.at_ C.2.2.2.2.2.2 h2 C.2.2.2.1).warm hW⟩⟩ rfl hn h3.1 rfl (lv_room hW) d hf) h2 (fun q _ h => hA q h) hA ?_
  rintro σ' t H1 locs1 ht hvm hp hB hz1 hk1 hS
  rw [ht] at hB
  exact kk σ' hp H1 locs1 ls hB hS h3
theorem J_XVV (C : Cx p l e R s m args below meth c cy D ad A nL cc own Ts) {y : MethodName} {bytes : ByteArray} {maxL mc ms n idx : Nat} {ret : Option FieldType} {ws' : List Cond} {rm : Room} {As rest : List Value} {Cn : String} {kd : Nat} {k : Int} {post : Sg → Prop} {xp : String → Sg → Prop} (hM : XV l y ws' rm cy D ad σ (.ref (ad kd k) :: As) post xp mc ms) (cw : CallW R s args own Cn idx y bytes maxL ret ws' rm mc ms n) (hr : Rcv Cn kd) (hk : 0 ≤ k ∧ k < cnt kd) (hst : st = As.reverse ++ .ref (ad kd k) :: rest) (hn : As.length = n) (hW : (rest.map fun v => v.category).sum ≤ 8) (d : decode cc pc = .ok (.invokevirtual idx, 3)) (hf : cells + mc ≤ R.cells ∧ slots + ms ≤ R.slots) (kx : ∀ (E : String) (σ' : Sg), xp E σ' → JX p l e R s m args below meth c cy D ad A nL (cells + mc) (slots + ms) Q σ' pc lv rest E) (kk : ∀ (σ' : Sg), post σ' → JW p l e R s m args below meth c cy D ad A nL (cells + mc) (slots + ms) Q σ' (pc + 3) lv (rest)) : JW p l e R s m args below meth c cy D ad A nL cells slots Q σ pc lv st := by
  intro H locs ls h1 h2 h3
  subst hst
  have hA : ∀ q, Ar ad H.size q → A q := fun q hq => C.2.2.1 q (hq.imp id (fun z => Nat.le_trans h2.1 z))
  refine vx_callv (vx_runV (As := As) (rest := rest) C.1 (hM H.size) cw ⟨J_forb, J_recv hr hk C.2.2.2.1.1 h1, fun U hU hW => ⟨rfl, by rw [hU], by rw [hU]; exact h1, by rw [hU]; exact (Sx.at_ C.2.2.2.2.2.2 h2 C.2.2.2.1).warm hW⟩⟩ rfl hn h3.1 rfl (lv_room hW) d hf) h2 (fun q _ h => hA q h) hA (fun q _ h => hA q h) ?_ ?_
  · rintro E ce q9 ⟨σ', E'⟩ t H1 locs1 ht hvm hp ⟨hE, hB⟩ hz1 hk1 hS hc9 hv9 hcl9
    rw [ht] at hB
    dsimp only at hE hp hB
    subst hE
    exact kx _ σ' hp H1 locs1 ls ce q9 hB hS h3 hc9 hv9 hcl9
  · rintro σ' t H1 locs1 ht hvm hp hB hz1 hk1 hS
    rw [ht] at hB
    exact kk σ' hp H1 locs1 ls hB hS h3
theorem J_XSV (C : Cx p l e R s m args below meth c cy D ad A nL cc own Ts) {y : MethodName} {bytes : ByteArray} {maxL mc ms n idx : Nat} {ret : Option FieldType} {ws' : List Cond} {rm : Room} {As rest : List Value} {post : Sg → Prop} {xp : String → Sg → Prop} (hM : XV l y ws' rm cy D ad σ As post xp mc ms) (cw : CallB R s args own idx y bytes maxL ret ws' rm mc ms n ∧ (Cond.static y).before args s = true) (hst : st = As.reverse ++ rest) (hn : As.length = n) (hW : (rest.map fun v => v.category).sum ≤ 8) (d : decode cc pc = .ok (.invokestatic idx, 3)) (hf : cells + mc ≤ R.cells ∧ slots + ms ≤ R.slots) (kx : ∀ (E : String) (σ' : Sg), xp E σ' → JX p l e R s m args below meth c cy D ad A nL (cells + mc) (slots + ms) Q σ' pc lv rest E) (kk : ∀ (σ' : Sg), post σ' → JW p l e R s m args below meth c cy D ad A nL (cells + mc) (slots + ms) Q σ' (pc + 3) lv (rest)) : JW p l e R s m args below meth c cy D ad A nL cells slots Q σ pc lv st := by
  intro H locs ls h1 h2 h3
  subst hst
  have hA : ∀ q, Ar ad H.size q → A q := fun q hq => C.2.2.1 q (hq.imp id (fun z => Nat.le_trans h2.1 z))
  refine vx_callv (vx_runS (As := As) (rest := rest) C.1 (hM H.size) cw ⟨J_forb, fun U hU hW => ⟨rfl, by rw [hU], by rw [hU]; exact h1, by rw [hU]; exact (Sx.at_ C.2.2.2.2.2.2 h2 C.2.2.2.1).warm hW⟩⟩ rfl hn h3.1 rfl (lv_room hW) d hf) h2 (fun q _ h => hA q h) hA (fun q _ h => hA q h) ?_ ?_
  · rintro E ce q9 ⟨σ', E'⟩ t H1 locs1 ht hvm hp ⟨hE, hB⟩ hz1 hk1 hS hc9 hv9 hcl9
    rw [ht] at hB
    dsimp only at hE hp hB
    subst hE
    exact kx _ σ' hp H1 locs1 ls ce q9 hB hS h3 hc9 hv9 hcl9
  · rintro σ' t H1 locs1 ht hvm hp hB hz1 hk1 hS
    rw [ht] at hB
    exact kk σ' hp H1 locs1 ls hB hS h3
theorem J_retI {l : Launch} (C : Cx p l e R s m args below meth c cy D ad (Ar ad s.heap.size) nL cc own Ts) {post : Int → Sg → Prop} {mc ms : Nat} {z : Int} (hr : meth.sig.returnType = some .int) (hc : cells ≤ mc) (hs : slots ≤ ms) (d : decode cc pc = .ok (.ireturn, 1)) (hp : post z σ) : JW p l e R s m args below meth c cy D ad (Ar ad s.heap.size) nL cells slots (MQ below (QcI cy D ad post s.heap.size) args s mc ms (Ar ad s.heap.size)) σ pc lv [.int (iI z)] := by
  intro H locs ls h1 h2 h3
  refine W.widen hc hs ?_
  exact W.iret C.1.1 C.1.2.1 hr (fun t ht hW => ⟨⟨_, σ, rfl, ⟨z, rfl, hp⟩, by show Wd cy D ad σ t.heap; rw [ht]; exact h1⟩, h2.F ht⟩) h2.2.2 d C.2.2.2.2.1
theorem J_retZ {l : Launch} (C : Cx p l e R s m args below meth c cy D ad (Ar ad s.heap.size) nL cc own Ts) {post : Int → Sg → Prop} {mc ms : Nat} {z : Int} (hr : meth.sig.returnType = some .boolean) (hb : z = 0 ∨ z = 1) (hc : cells ≤ mc) (hs : slots ≤ ms) (d : decode cc pc = .ok (.ireturn, 1)) (hp : post z σ) : JW p l e R s m args below meth c cy D ad (Ar ad s.heap.size) nL cells slots (MQ below (QcI cy D ad post s.heap.size) args s mc ms (Ar ad s.heap.size)) σ pc lv [.int (iI z)] := by
  intro H locs ls h1 h2 h3
  refine W.widen hc hs ?_
  exact W.zret C.1.1 C.1.2.1 hr (by rcases hb with rfl | rfl <;> rfl) (fun t ht hW => ⟨⟨_, σ, rfl, ⟨z, rfl, hp⟩, by show Wd cy D ad σ t.heap; rw [ht]; exact h1⟩, h2.F ht⟩) h2.2.2 d C.2.2.2.2.1
theorem J_retL {l : Launch} (C : Cx p l e R s m args below meth c cy D ad (Ar ad s.heap.size) nL cc own Ts) {post : Int → Sg → Prop} {mc ms : Nat} {z : Int} (hr : meth.sig.returnType = some .long) (hc : cells ≤ mc) (hs : slots ≤ ms) (d : decode cc pc = .ok (.lreturn, 1)) (hp : post z σ) : JW p l e R s m args below meth c cy D ad (Ar ad s.heap.size) nL cells slots (MQ below (QcL cy D ad post s.heap.size) args s mc ms (Ar ad s.heap.size)) σ pc lv [.long (lI z)] := by
  intro H locs ls h1 h2 h3
  refine W.widen hc hs ?_
  exact W.lret C.1.1 C.1.2.1 hr (fun t ht hW => ⟨⟨_, σ, rfl, ⟨z, rfl, hp⟩, by show Wd cy D ad σ t.heap; rw [ht]; exact h1⟩, h2.F ht⟩) h2.2.2 d C.2.2.2.2.1
theorem J_retV {l : Launch} (C : Cx p l e R s m args below meth c cy D ad (Ar ad s.heap.size) nL cc own Ts) {post : Sg → Prop} {mc ms : Nat} (hr : meth.sig.returnType = none) (hc : cells ≤ mc) (hs : slots ≤ ms) (d : decode cc pc = .ok (.return_, 1)) (hp : post σ) : JW p l e R s m args below meth c cy D ad (Ar ad s.heap.size) nL cells slots (MQ below (QcV cy D ad post s.heap.size) args s mc ms (Ar ad s.heap.size)) σ pc lv [] := by
  intro H locs ls h1 h2 h3
  refine W.widen hc hs ?_
  exact W.vret C.1.1 C.1.2.1 hr (fun t ht hW => ⟨⟨σ, rfl, hp, by show Wd cy D ad σ t.heap; rw [ht]; exact h1⟩, h2.F ht⟩) h2.2.2 d C.2.2.2.2.1
theorem J_vx {Qc : Array Value → State → Outcome → State → Prop} {XC : String → State → State → Prop} {mc ms : Nat} {free : Addr → Prop} (k : JW p l e R s m args below meth c cy D ad A nL cells slots (MQ below Qc args s mc ms free) σ pc lv st) : JW p l e R s m args below meth c cy D ad A nL cells slots (vx_MQ below Qc XC args s mc ms free) σ pc lv st := fun H locs ls h1 h2 h3 => vx_ret (k H locs ls h1 h2 h3)
theorem J_out {l : Launch} (C : Cx p l e R s m args below meth c cy D ad (Ar ad s.heap.size) nL cc own Ts) {Qc : Array Value → State → Outcome → State → Prop} {xp : String → Sg → Prop} {mc ms : Nat} {E : String} (hT : ∀ x ∈ c.exceptionTable.toList, False) (hc : cells ≤ mc) (hs : slots ≤ ms) (hp : xp E σ) : JX p l e R s m args below meth c cy D ad (Ar ad s.heap.size) nL cells slots (vx_MQ below Qc (XcW cy D ad xp s.heap.size) args s mc ms (Ar ad s.heap.size)) σ pc lv st E := by
  intro H locs ls ce q h1 h2 h3 hc9 hv9 hcl9
  exact vx_out (fun x hx => (hT x hx).elim) C.2.2.2.2.1 hc9 hv9 hcl9 (fun t ht hW => ⟨(σ, E), hp, ⟨rfl, by show Wd cy D ad σ t.heap; rw [ht]; exact h1⟩, h2.F ht⟩) h2.2.2 hc hs
theorem thw_IAE : ∀ w ∈ vx_atS RX3 76 nIAE nms, w ∈ thw := by
  intro w hw
  unfold thw
  exact List.mem_append_left _ hw
theorem J_throw_IAE {l : Launch} (C : Cx p l e R s m args below meth c cy D ad (Ar ad s.heap.size) nL cc RX3 Ts) {Qc : Array Value → State → Outcome → State → Prop} {xp : String → Sg → Prop} {mc ms ik is : Nat} {text : String} (hT : ∀ x ∈ c.exceptionTable.toList, False) (hk : Cond.classLink RX3 ik nIAE ∈ Ts) (hi : Cond.initialized nIAE ∈ Ts) (hstr : (is, text) ∈ strs) (hc : cells + 1 ≤ mc) (hs : slots + 6 ≤ ms) (hrf : 5 < R.frames) (hrl : 82 ≤ R.locals) (hf : cells + 1 ≤ R.cells ∧ slots + 6 ≤ R.slots) (d0 : decode cc pc = .ok (.new ik, 3)) (d3 : decode cc (pc + 3) = .ok (.dup, 1)) (d4 : decode cc (pc + 4) = .ok (.ldc is, 2)) (d6 : decode cc (pc + 6) = .ok (.invokespecial 76, 3)) (d9 : decode cc (pc + 9) = .ok (.athrow, 1)) (hp : xp nIAE σ) : JW p l e R s m args below meth c cy D ad (Ar ad s.heap.size) nL cells slots (vx_MQ below Qc (XcW cy D ad xp s.heap.size) args s mc ms (Ar ad s.heap.size)) σ pc lv [] := by
  intro H locs ls h1 h2 h3
  obtain ⟨sa, hsa⟩ := C.2.2.2.1.2.2.2.1 (is, text) hstr
  refine vx_throwS (cls := nIAE) (text := text) (names := nms) (sa := sa) (ik := ik) (is := is) (ic := 76) C.1.1 C.1.2.1 C.2.2.2.2.2.1 C.1.2.2.2.1 (by decide +kernel) (by decide +kernel) (C.1.2.2.2.2 _ hk) (C.1.2.2.2.2 _ hi) hsa (fun w hw => ?_) (fun w hw => ?_) (Zq_up C.2.2.2.1.2.1) (Zq_up C.2.2.2.1.2.2.1) h2 (h3.1.trans C.1.2.2.1.symm) d0 d3 d4 d6 d9 (fun x hx => (hT x hx).elim) hrf hrl hf.1 hf.2 C.2.2.2.2.1 (fun t hW hz hk9 => ?_) h2.2.2 hc hs
  · have h5 := List.all_eq_true.mp thw_face w (thw_IAE w hw)
    simp only [Bool.and_eq_true] at h5
    exact va_tabs (u := s) h5.2 rfl (C.2.2.2.1.2.2.2.2.1 w (thw_IAE w hw))
  · rcases List.mem_cons.mp hw with rfl | hw
    · rfl
    · rcases List.mem_cons.mp hw with rfl | hw
      · rfl
      · exact List.all_eq_true.mp thw_ot w (thw_IAE w hw)
  · refine ⟨(σ, nIAE), hp, ⟨rfl, fun a b e1 e2 e3 => (h1 a b e1 e2 e3).kept (hk9 _ (h1 a b e1 e2 e3).lt)⟩, Nat.le_trans h2.1 hz, fun q e1 e2 => ?_⟩
    rw [hk9 q (Nat.lt_of_lt_of_le e1 h2.1)]
    exact h2.2.1 q e1 e2
theorem thw_ISE : ∀ w ∈ vx_atS RX3 83 nISE nms, w ∈ thw := by
  intro w hw
  unfold thw
  exact List.mem_append_right _ (List.mem_append_left _ hw)
theorem J_throw_ISE {l : Launch} (C : Cx p l e R s m args below meth c cy D ad (Ar ad s.heap.size) nL cc RX3 Ts) {Qc : Array Value → State → Outcome → State → Prop} {xp : String → Sg → Prop} {mc ms ik is : Nat} {text : String} (hT : ∀ x ∈ c.exceptionTable.toList, False) (hk : Cond.classLink RX3 ik nISE ∈ Ts) (hi : Cond.initialized nISE ∈ Ts) (hstr : (is, text) ∈ strs) (hc : cells + 1 ≤ mc) (hs : slots + 6 ≤ ms) (hrf : 5 < R.frames) (hrl : 82 ≤ R.locals) (hf : cells + 1 ≤ R.cells ∧ slots + 6 ≤ R.slots) (d0 : decode cc pc = .ok (.new ik, 3)) (d3 : decode cc (pc + 3) = .ok (.dup, 1)) (d4 : decode cc (pc + 4) = .ok (.ldc is, 2)) (d6 : decode cc (pc + 6) = .ok (.invokespecial 83, 3)) (d9 : decode cc (pc + 9) = .ok (.athrow, 1)) (hp : xp nISE σ) : JW p l e R s m args below meth c cy D ad (Ar ad s.heap.size) nL cells slots (vx_MQ below Qc (XcW cy D ad xp s.heap.size) args s mc ms (Ar ad s.heap.size)) σ pc lv [] := by
  intro H locs ls h1 h2 h3
  obtain ⟨sa, hsa⟩ := C.2.2.2.1.2.2.2.1 (is, text) hstr
  refine vx_throwS (cls := nISE) (text := text) (names := nms) (sa := sa) (ik := ik) (is := is) (ic := 83) C.1.1 C.1.2.1 C.2.2.2.2.2.1 C.1.2.2.2.1 (by decide +kernel) (by decide +kernel) (C.1.2.2.2.2 _ hk) (C.1.2.2.2.2 _ hi) hsa (fun w hw => ?_) (fun w hw => ?_) (Zq_up C.2.2.2.1.2.1) (Zq_up C.2.2.2.1.2.2.1) h2 (h3.1.trans C.1.2.2.1.symm) d0 d3 d4 d6 d9 (fun x hx => (hT x hx).elim) hrf hrl hf.1 hf.2 C.2.2.2.2.1 (fun t hW hz hk9 => ?_) h2.2.2 hc hs
  · have h5 := List.all_eq_true.mp thw_face w (thw_ISE w hw)
    simp only [Bool.and_eq_true] at h5
    exact va_tabs (u := s) h5.2 rfl (C.2.2.2.1.2.2.2.2.1 w (thw_ISE w hw))
  · rcases List.mem_cons.mp hw with rfl | hw
    · rfl
    · rcases List.mem_cons.mp hw with rfl | hw
      · rfl
      · exact List.all_eq_true.mp thw_ot w (thw_ISE w hw)
  · refine ⟨(σ, nISE), hp, ⟨rfl, fun a b e1 e2 e3 => (h1 a b e1 e2 e3).kept (hk9 _ (h1 a b e1 e2 e3).lt)⟩, Nat.le_trans h2.1 hz, fun q e1 e2 => ?_⟩
    rw [hk9 q (Nat.lt_of_lt_of_le e1 h2.1)]
    exact h2.2.1 q e1 e2
theorem thw_IOE : ∀ w ∈ vx_atS RX3 200 nIOE nms, w ∈ thw := by
  intro w hw
  unfold thw
  exact List.mem_append_right _ (List.mem_append_right _ hw)
theorem J_throw_IOE {l : Launch} (C : Cx p l e R s m args below meth c cy D ad (Ar ad s.heap.size) nL cc RX3 Ts) {Qc : Array Value → State → Outcome → State → Prop} {xp : String → Sg → Prop} {mc ms ik is : Nat} {text : String} (hT : ∀ x ∈ c.exceptionTable.toList, False) (hk : Cond.classLink RX3 ik nIOE ∈ Ts) (hi : Cond.initialized nIOE ∈ Ts) (hstr : (is, text) ∈ strs) (hc : cells + 1 ≤ mc) (hs : slots + 6 ≤ ms) (hrf : 5 < R.frames) (hrl : 82 ≤ R.locals) (hf : cells + 1 ≤ R.cells ∧ slots + 6 ≤ R.slots) (d0 : decode cc pc = .ok (.new ik, 3)) (d3 : decode cc (pc + 3) = .ok (.dup, 1)) (d4 : decode cc (pc + 4) = .ok (.ldc is, 2)) (d6 : decode cc (pc + 6) = .ok (.invokespecial 200, 3)) (d9 : decode cc (pc + 9) = .ok (.athrow, 1)) (hp : xp nIOE σ) : JW p l e R s m args below meth c cy D ad (Ar ad s.heap.size) nL cells slots (vx_MQ below Qc (XcW cy D ad xp s.heap.size) args s mc ms (Ar ad s.heap.size)) σ pc lv [] := by
  intro H locs ls h1 h2 h3
  obtain ⟨sa, hsa⟩ := C.2.2.2.1.2.2.2.1 (is, text) hstr
  refine vx_throwS (cls := nIOE) (text := text) (names := nms) (sa := sa) (ik := ik) (is := is) (ic := 200) C.1.1 C.1.2.1 C.2.2.2.2.2.1 C.1.2.2.2.1 (by decide +kernel) (by decide +kernel) (C.1.2.2.2.2 _ hk) (C.1.2.2.2.2 _ hi) hsa (fun w hw => ?_) (fun w hw => ?_) (Zq_up C.2.2.2.1.2.1) (Zq_up C.2.2.2.1.2.2.1) h2 (h3.1.trans C.1.2.2.1.symm) d0 d3 d4 d6 d9 (fun x hx => (hT x hx).elim) hrf hrl hf.1 hf.2 C.2.2.2.2.1 (fun t hW hz hk9 => ?_) h2.2.2 hc hs
  · have h5 := List.all_eq_true.mp thw_face w (thw_IOE w hw)
    simp only [Bool.and_eq_true] at h5
    exact va_tabs (u := s) h5.2 rfl (C.2.2.2.1.2.2.2.2.1 w (thw_IOE w hw))
  · rcases List.mem_cons.mp hw with rfl | hw
    · rfl
    · rcases List.mem_cons.mp hw with rfl | hw
      · rfl
      · exact List.all_eq_true.mp thw_ot w (thw_IOE w hw)
  · refine ⟨(σ, nIOE), hp, ⟨rfl, fun a b e1 e2 e3 => (h1 a b e1 e2 e3).kept (hk9 _ (h1 a b e1 e2 e3).lt)⟩, Nat.le_trans h2.1 hz, fun q e1 e2 => ?_⟩
    rw [hk9 q (Nat.lt_of_lt_of_le e1 h2.1)]
    exact h2.2.1 q e1 e2
theorem KI.of {l : Launch} {y : MethodName} {ws ws0 : List Cond} {rm : Room} {cc : ByteArray} {maxL : Nat} {ret : Option FieldType} {σ : Sg} {av : List Value} {post : Int → Sg → Prop} {mc ms : Nat} {lv0 : List (Option Value)} (hl : l.stackTraces = false) (hI : Inj ad) (hy : plainName y.cls = true) (hw : ws = Cond.code y cc maxL ret :: ws0) (hlen : (lg_sl av).length ≤ maxL) (hlv : lhL lv0 = lv_args 0 av)
    (body : ∀ (p : Program) (e : Env) (s : State) (m : MethodId) (args : Array Value) (below : List Frame) (meth : Method) (c : Code), Cx p l e rm s m args below meth c cy D ad (Ar ad s.heap.size) maxL cc y.cls ws → meth.sig.returnType = ret → JW p l e rm s m args below meth c cy D ad (Ar ad s.heap.size) maxL 0 0 (MQ below (QcI cy D ad post s.heap.size) args s mc ms (Ar ad s.heap.size)) σ 0 lv0 []) : KI l y ws rm cy D ad σ av post mc ms := by
  intro sz
  refine Met.ofW (cc := cc) (maxL := maxL) (ret := ret) hy hw ?_
  intro p e s m args below meth c s₁ B hml hv
  obtain ⟨rfl, hsz, hP, hX⟩ := hv
  subst hsz
  have C : Cx p l e rm s m av.toArray below meth c cy D ad (Ar ad s.heap.size) maxL cc y.cls ws := ⟨⟨B.exec, B.bytes, hml, findClass_of_methodNamed B.named, atoms_spec (ws := ws) B.pre⟩, hI, fun _ h => h, hX, B.notSynchronized, hl, fun _ h => h⟩
  have hl := lv_entry av (n := maxL) hlen
  rw [lg_entry_eq]
  generalize (lg_sl av ++ List.replicate (maxL - (lg_sl av).length) Slot.unset).toArray = ls at hl ⊢
  exact body p e s m av.toArray below meth c C B.returns s.heap [] ls hP va_S.rf ⟨hl.1, hl.2.1, fun i v h => hl.2.2 (i, v) (by rw [← hlv]; exact lhL_mem.mpr h)⟩
theorem XI.of {l : Launch} {y : MethodName} {ws ws0 : List Cond} {rm : Room} {cc : ByteArray} {maxL : Nat} {ret : Option FieldType} {σ : Sg} {av : List Value} {post : Int → Sg → Prop} {xp : String → Sg → Prop} {mc ms : Nat} {lv0 : List (Option Value)} (hl : l.stackTraces = false) (hI : Inj ad) (hy : plainName y.cls = true) (hw : ws = Cond.code y cc maxL ret :: ws0) (hlen : (lg_sl av).length ≤ maxL) (hlv : lhL lv0 = lv_args 0 av)
    (body : ∀ (p : Program) (e : Env) (s : State) (m : MethodId) (args : Array Value) (below : List Frame) (meth : Method) (c : Code), Cx p l e rm s m args below meth c cy D ad (Ar ad s.heap.size) maxL cc y.cls ws → meth.sig.returnType = ret → (∀ x ∈ c.exceptionTable.toList, False) → JW p l e rm s m args below meth c cy D ad (Ar ad s.heap.size) maxL 0 0 (vx_MQ below (QcI cy D ad post s.heap.size) (XcW cy D ad xp s.heap.size) args s mc ms (Ar ad s.heap.size)) σ 0 lv0 []) : XI l y ws rm cy D ad σ av post xp mc ms := by
  intro sz
  refine vx_ofW (cc := cc) (maxL := maxL) (ret := ret) hy hw ?_
  intro p e s m args below meth c s₁ B hml hT hv
  obtain ⟨rfl, hsz, hP, hX⟩ := hv
  subst hsz
  have C : Cx p l e rm s m av.toArray below meth c cy D ad (Ar ad s.heap.size) maxL cc y.cls ws := ⟨⟨B.exec, B.bytes, hml, findClass_of_methodNamed B.named, atoms_spec (ws := ws) B.pre⟩, hI, fun _ h => h, hX, B.notSynchronized, hl, fun _ h => h⟩
  have hl := lv_entry av (n := maxL) hlen
  rw [lg_entry_eq]
  generalize (lg_sl av ++ List.replicate (maxL - (lg_sl av).length) Slot.unset).toArray = ls at hl ⊢
  exact body p e s m av.toArray below meth c C B.returns hT s.heap [] ls hP va_S.rf ⟨hl.1, hl.2.1, fun i v h => hl.2.2 (i, v) (by rw [← hlv]; exact lhL_mem.mpr h)⟩
theorem WI.of {l : Launch} {y : MethodName} {ws ws0 : List Cond} {rm : Room} {cc : ByteArray} {maxL : Nat} {ret : Option FieldType} {hh : List (Nat × Nat × Nat × Nat)} {σ : Sg} {av : List Value} {post : Int → Sg → Prop} {mc ms : Nat} {lv0 : List (Option Value)} (hl : l.stackTraces = false) (hI : Inj ad) (hy : plainName y.cls = true) (hw : ws = Cond.codeWith y cc maxL ret hh :: ws0) (hlen : (lg_sl av).length ≤ maxL) (hlv : lhL lv0 = lv_args 0 av)
    (body : ∀ (p : Program) (e : Env) (s : State) (m : MethodId) (args : Array Value) (below : List Frame) (meth : Method) (c : Code), Cx p l e rm s m args below meth c cy D ad (Ar ad s.heap.size) maxL cc y.cls ws → meth.sig.returnType = ret → c.exceptionTable.toList = tableOf hh → JW p l e rm s m args below meth c cy D ad (Ar ad s.heap.size) maxL 0 0 (MQ below (QcI cy D ad post s.heap.size) args s mc ms (Ar ad s.heap.size)) σ 0 lv0 []) : KI l y ws rm cy D ad σ av post mc ms := by
  intro sz
  refine va_MetW (cc := cc) (maxL := maxL) (ret := ret) (hh := hh) hy hw ?_
  intro p e s m args below meth c s₁ B hml hv
  obtain ⟨rfl, hsz, hP, hX⟩ := hv
  subst hsz
  have C : Cx p l e rm s m av.toArray below meth c cy D ad (Ar ad s.heap.size) maxL cc y.cls ws := ⟨⟨B.exec, B.bytes, hml, findClass_of_methodNamed B.named, atoms_spec (ws := ws) B.pre⟩, hI, fun _ h => h, hX, B.notSynchronized, hl, fun _ h => h⟩
  have hl := lv_entry av (n := maxL) hlen
  rw [lg_entry_eq]
  generalize (lg_sl av ++ List.replicate (maxL - (lg_sl av).length) Slot.unset).toArray = ls at hl ⊢
  exact body p e s m av.toArray below meth c C B.returns (vx_table (x := y) B (atoms_spec (ws := ws) B.pre _ (by rw [hw]; exact List.mem_cons_self))) s.heap [] ls hP va_S.rf ⟨hl.1, hl.2.1, fun i v h => hl.2.2 (i, v) (by rw [← hlv]; exact lhL_mem.mpr h)⟩
theorem KL.of {l : Launch} {y : MethodName} {ws ws0 : List Cond} {rm : Room} {cc : ByteArray} {maxL : Nat} {ret : Option FieldType} {σ : Sg} {av : List Value} {post : Int → Sg → Prop} {mc ms : Nat} {lv0 : List (Option Value)} (hl : l.stackTraces = false) (hI : Inj ad) (hy : plainName y.cls = true) (hw : ws = Cond.code y cc maxL ret :: ws0) (hlen : (lg_sl av).length ≤ maxL) (hlv : lhL lv0 = lv_args 0 av)
    (body : ∀ (p : Program) (e : Env) (s : State) (m : MethodId) (args : Array Value) (below : List Frame) (meth : Method) (c : Code), Cx p l e rm s m args below meth c cy D ad (Ar ad s.heap.size) maxL cc y.cls ws → meth.sig.returnType = ret → JW p l e rm s m args below meth c cy D ad (Ar ad s.heap.size) maxL 0 0 (MQ below (QcL cy D ad post s.heap.size) args s mc ms (Ar ad s.heap.size)) σ 0 lv0 []) : KL l y ws rm cy D ad σ av post mc ms := by
  intro sz
  refine Met.ofW (cc := cc) (maxL := maxL) (ret := ret) hy hw ?_
  intro p e s m args below meth c s₁ B hml hv
  obtain ⟨rfl, hsz, hP, hX⟩ := hv
  subst hsz
  have C : Cx p l e rm s m av.toArray below meth c cy D ad (Ar ad s.heap.size) maxL cc y.cls ws := ⟨⟨B.exec, B.bytes, hml, findClass_of_methodNamed B.named, atoms_spec (ws := ws) B.pre⟩, hI, fun _ h => h, hX, B.notSynchronized, hl, fun _ h => h⟩
  have hl := lv_entry av (n := maxL) hlen
  rw [lg_entry_eq]
  generalize (lg_sl av ++ List.replicate (maxL - (lg_sl av).length) Slot.unset).toArray = ls at hl ⊢
  exact body p e s m av.toArray below meth c C B.returns s.heap [] ls hP va_S.rf ⟨hl.1, hl.2.1, fun i v h => hl.2.2 (i, v) (by rw [← hlv]; exact lhL_mem.mpr h)⟩
theorem XL.of {l : Launch} {y : MethodName} {ws ws0 : List Cond} {rm : Room} {cc : ByteArray} {maxL : Nat} {ret : Option FieldType} {σ : Sg} {av : List Value} {post : Int → Sg → Prop} {xp : String → Sg → Prop} {mc ms : Nat} {lv0 : List (Option Value)} (hl : l.stackTraces = false) (hI : Inj ad) (hy : plainName y.cls = true) (hw : ws = Cond.code y cc maxL ret :: ws0) (hlen : (lg_sl av).length ≤ maxL) (hlv : lhL lv0 = lv_args 0 av)
    (body : ∀ (p : Program) (e : Env) (s : State) (m : MethodId) (args : Array Value) (below : List Frame) (meth : Method) (c : Code), Cx p l e rm s m args below meth c cy D ad (Ar ad s.heap.size) maxL cc y.cls ws → meth.sig.returnType = ret → (∀ x ∈ c.exceptionTable.toList, False) → JW p l e rm s m args below meth c cy D ad (Ar ad s.heap.size) maxL 0 0 (vx_MQ below (QcL cy D ad post s.heap.size) (XcW cy D ad xp s.heap.size) args s mc ms (Ar ad s.heap.size)) σ 0 lv0 []) : XL l y ws rm cy D ad σ av post xp mc ms := by
  intro sz
  refine vx_ofW (cc := cc) (maxL := maxL) (ret := ret) hy hw ?_
  intro p e s m args below meth c s₁ B hml hT hv
  obtain ⟨rfl, hsz, hP, hX⟩ := hv
  subst hsz
  have C : Cx p l e rm s m av.toArray below meth c cy D ad (Ar ad s.heap.size) maxL cc y.cls ws := ⟨⟨B.exec, B.bytes, hml, findClass_of_methodNamed B.named, atoms_spec (ws := ws) B.pre⟩, hI, fun _ h => h, hX, B.notSynchronized, hl, fun _ h => h⟩
  have hl := lv_entry av (n := maxL) hlen
  rw [lg_entry_eq]
  generalize (lg_sl av ++ List.replicate (maxL - (lg_sl av).length) Slot.unset).toArray = ls at hl ⊢
  exact body p e s m av.toArray below meth c C B.returns hT s.heap [] ls hP va_S.rf ⟨hl.1, hl.2.1, fun i v h => hl.2.2 (i, v) (by rw [← hlv]; exact lhL_mem.mpr h)⟩
theorem WL.of {l : Launch} {y : MethodName} {ws ws0 : List Cond} {rm : Room} {cc : ByteArray} {maxL : Nat} {ret : Option FieldType} {hh : List (Nat × Nat × Nat × Nat)} {σ : Sg} {av : List Value} {post : Int → Sg → Prop} {mc ms : Nat} {lv0 : List (Option Value)} (hl : l.stackTraces = false) (hI : Inj ad) (hy : plainName y.cls = true) (hw : ws = Cond.codeWith y cc maxL ret hh :: ws0) (hlen : (lg_sl av).length ≤ maxL) (hlv : lhL lv0 = lv_args 0 av)
    (body : ∀ (p : Program) (e : Env) (s : State) (m : MethodId) (args : Array Value) (below : List Frame) (meth : Method) (c : Code), Cx p l e rm s m args below meth c cy D ad (Ar ad s.heap.size) maxL cc y.cls ws → meth.sig.returnType = ret → c.exceptionTable.toList = tableOf hh → JW p l e rm s m args below meth c cy D ad (Ar ad s.heap.size) maxL 0 0 (MQ below (QcL cy D ad post s.heap.size) args s mc ms (Ar ad s.heap.size)) σ 0 lv0 []) : KL l y ws rm cy D ad σ av post mc ms := by
  intro sz
  refine va_MetW (cc := cc) (maxL := maxL) (ret := ret) (hh := hh) hy hw ?_
  intro p e s m args below meth c s₁ B hml hv
  obtain ⟨rfl, hsz, hP, hX⟩ := hv
  subst hsz
  have C : Cx p l e rm s m av.toArray below meth c cy D ad (Ar ad s.heap.size) maxL cc y.cls ws := ⟨⟨B.exec, B.bytes, hml, findClass_of_methodNamed B.named, atoms_spec (ws := ws) B.pre⟩, hI, fun _ h => h, hX, B.notSynchronized, hl, fun _ h => h⟩
  have hl := lv_entry av (n := maxL) hlen
  rw [lg_entry_eq]
  generalize (lg_sl av ++ List.replicate (maxL - (lg_sl av).length) Slot.unset).toArray = ls at hl ⊢
  exact body p e s m av.toArray below meth c C B.returns (vx_table (x := y) B (atoms_spec (ws := ws) B.pre _ (by rw [hw]; exact List.mem_cons_self))) s.heap [] ls hP va_S.rf ⟨hl.1, hl.2.1, fun i v h => hl.2.2 (i, v) (by rw [← hlv]; exact lhL_mem.mpr h)⟩
theorem KV.of {l : Launch} {y : MethodName} {ws ws0 : List Cond} {rm : Room} {cc : ByteArray} {maxL : Nat} {ret : Option FieldType} {σ : Sg} {av : List Value} {post : Sg → Prop} {mc ms : Nat} {lv0 : List (Option Value)} (hl : l.stackTraces = false) (hI : Inj ad) (hy : plainName y.cls = true) (hw : ws = Cond.code y cc maxL ret :: ws0) (hlen : (lg_sl av).length ≤ maxL) (hlv : lhL lv0 = lv_args 0 av)
    (body : ∀ (p : Program) (e : Env) (s : State) (m : MethodId) (args : Array Value) (below : List Frame) (meth : Method) (c : Code), Cx p l e rm s m args below meth c cy D ad (Ar ad s.heap.size) maxL cc y.cls ws → meth.sig.returnType = ret → JW p l e rm s m args below meth c cy D ad (Ar ad s.heap.size) maxL 0 0 (MQ below (QcV cy D ad post s.heap.size) args s mc ms (Ar ad s.heap.size)) σ 0 lv0 []) : KV l y ws rm cy D ad σ av post mc ms := by
  intro sz
  refine Met.ofW (cc := cc) (maxL := maxL) (ret := ret) hy hw ?_
  intro p e s m args below meth c s₁ B hml hv
  obtain ⟨rfl, hsz, hP, hX⟩ := hv
  subst hsz
  have C : Cx p l e rm s m av.toArray below meth c cy D ad (Ar ad s.heap.size) maxL cc y.cls ws := ⟨⟨B.exec, B.bytes, hml, findClass_of_methodNamed B.named, atoms_spec (ws := ws) B.pre⟩, hI, fun _ h => h, hX, B.notSynchronized, hl, fun _ h => h⟩
  have hl := lv_entry av (n := maxL) hlen
  rw [lg_entry_eq]
  generalize (lg_sl av ++ List.replicate (maxL - (lg_sl av).length) Slot.unset).toArray = ls at hl ⊢
  exact body p e s m av.toArray below meth c C B.returns s.heap [] ls hP va_S.rf ⟨hl.1, hl.2.1, fun i v h => hl.2.2 (i, v) (by rw [← hlv]; exact lhL_mem.mpr h)⟩
theorem XV.of {l : Launch} {y : MethodName} {ws ws0 : List Cond} {rm : Room} {cc : ByteArray} {maxL : Nat} {ret : Option FieldType} {σ : Sg} {av : List Value} {post : Sg → Prop} {xp : String → Sg → Prop} {mc ms : Nat} {lv0 : List (Option Value)} (hl : l.stackTraces = false) (hI : Inj ad) (hy : plainName y.cls = true) (hw : ws = Cond.code y cc maxL ret :: ws0) (hlen : (lg_sl av).length ≤ maxL) (hlv : lhL lv0 = lv_args 0 av)
    (body : ∀ (p : Program) (e : Env) (s : State) (m : MethodId) (args : Array Value) (below : List Frame) (meth : Method) (c : Code), Cx p l e rm s m args below meth c cy D ad (Ar ad s.heap.size) maxL cc y.cls ws → meth.sig.returnType = ret → (∀ x ∈ c.exceptionTable.toList, False) → JW p l e rm s m args below meth c cy D ad (Ar ad s.heap.size) maxL 0 0 (vx_MQ below (QcV cy D ad post s.heap.size) (XcW cy D ad xp s.heap.size) args s mc ms (Ar ad s.heap.size)) σ 0 lv0 []) : XV l y ws rm cy D ad σ av post xp mc ms := by
  intro sz
  refine vx_ofW (cc := cc) (maxL := maxL) (ret := ret) hy hw ?_
  intro p e s m args below meth c s₁ B hml hT hv
  obtain ⟨rfl, hsz, hP, hX⟩ := hv
  subst hsz
  have C : Cx p l e rm s m av.toArray below meth c cy D ad (Ar ad s.heap.size) maxL cc y.cls ws := ⟨⟨B.exec, B.bytes, hml, findClass_of_methodNamed B.named, atoms_spec (ws := ws) B.pre⟩, hI, fun _ h => h, hX, B.notSynchronized, hl, fun _ h => h⟩
  have hl := lv_entry av (n := maxL) hlen
  rw [lg_entry_eq]
  generalize (lg_sl av ++ List.replicate (maxL - (lg_sl av).length) Slot.unset).toArray = ls at hl ⊢
  exact body p e s m av.toArray below meth c C B.returns hT s.heap [] ls hP va_S.rf ⟨hl.1, hl.2.1, fun i v h => hl.2.2 (i, v) (by rw [← hlv]; exact lhL_mem.mpr h)⟩
theorem WV.of {l : Launch} {y : MethodName} {ws ws0 : List Cond} {rm : Room} {cc : ByteArray} {maxL : Nat} {ret : Option FieldType} {hh : List (Nat × Nat × Nat × Nat)} {σ : Sg} {av : List Value} {post : Sg → Prop} {mc ms : Nat} {lv0 : List (Option Value)} (hl : l.stackTraces = false) (hI : Inj ad) (hy : plainName y.cls = true) (hw : ws = Cond.codeWith y cc maxL ret hh :: ws0) (hlen : (lg_sl av).length ≤ maxL) (hlv : lhL lv0 = lv_args 0 av)
    (body : ∀ (p : Program) (e : Env) (s : State) (m : MethodId) (args : Array Value) (below : List Frame) (meth : Method) (c : Code), Cx p l e rm s m args below meth c cy D ad (Ar ad s.heap.size) maxL cc y.cls ws → meth.sig.returnType = ret → c.exceptionTable.toList = tableOf hh → JW p l e rm s m args below meth c cy D ad (Ar ad s.heap.size) maxL 0 0 (MQ below (QcV cy D ad post s.heap.size) args s mc ms (Ar ad s.heap.size)) σ 0 lv0 []) : KV l y ws rm cy D ad σ av post mc ms := by
  intro sz
  refine va_MetW (cc := cc) (maxL := maxL) (ret := ret) (hh := hh) hy hw ?_
  intro p e s m args below meth c s₁ B hml hv
  obtain ⟨rfl, hsz, hP, hX⟩ := hv
  subst hsz
  have C : Cx p l e rm s m av.toArray below meth c cy D ad (Ar ad s.heap.size) maxL cc y.cls ws := ⟨⟨B.exec, B.bytes, hml, findClass_of_methodNamed B.named, atoms_spec (ws := ws) B.pre⟩, hI, fun _ h => h, hX, B.notSynchronized, hl, fun _ h => h⟩
  have hl := lv_entry av (n := maxL) hlen
  rw [lg_entry_eq]
  generalize (lg_sl av ++ List.replicate (maxL - (lg_sl av).length) Slot.unset).toArray = ls at hl ⊢
  exact body p e s m av.toArray below meth c C B.returns (vx_table (x := y) B (atoms_spec (ws := ws) B.pre _ (by rw [hw]; exact List.mem_cons_self))) s.heap [] ls hP va_S.rf ⟨hl.1, hl.2.1, fun i v h => hl.2.2 (i, v) (by rw [← hlv]; exact lhL_mem.mpr h)⟩
theorem thw_cast : ∀ E ∈ [nIAE, nISE, nIOE], Cond.castable E E ∈ thw := by decide +kernel
theorem J_catch (C : Cx p l e R s m args below meth c cy D ad A nL cc own Ts) {E : String} (pre : List ExceptionTableEntry) (x : ExceptionTableEntry) (suf : List ExceptionTableEntry) (hsplit : c.exceptionTable.toList = pre ++ x :: suf) (hE : E ∈ [nIAE, nISE, nIOE]) (hpass : ∀ z ∈ pre, z.catchType ≠ 0 ∧ ∃ nm : String, nm ∈ [nIAE, nISE, nIOE] ∧ Cond.classLink own z.catchType nm ∈ Ts ∧ E ≠ nm) (hx : covers x pc = true) (h0 : x.catchType ≠ 0) (hl : Cond.classLink own x.catchType E ∈ Ts) (kk : ∀ q : Nat, JW p l e R s m args below meth c cy D ad A nL cells slots Q σ x.handlerPc lv [.ref q]) : JX p l e R s m args below meth c cy D ad A nL cells slots Q σ pc lv st E := by
  intro H locs ls ce q h1 h2 h3 hc9 hv9 hcl9
  refine vx_catch (name := E) C.1.2.2.2.1 pre x suf hsplit (fun z hz => ?_) hx h0 (C.1.2.2.2.2 _ hl) ?_ hc9 hv9 hcl9 (kk q H locs ls h1 h2 h3)
  · obtain ⟨g1, nm, g2, g3, g4⟩ := hpass z hz
    exact Or.inr ⟨g1, nm, C.1.2.2.2.2 _ g3, C.2.2.2.1.2.2.2.2.2 E hE nm g2 g4⟩
  · have g := thw_cast E hE
    have h5 := List.all_eq_true.mp thw_face _ g
    simp only [Bool.and_eq_true] at h5
    exact va_tabs (u := s) h5.2 rfl (C.2.2.2.1.2.2.2.2.1 _ g)
end JJ
end
section
def wsX0_init : List Cond := .code yX0_init cX0_init 1 none :: ([.methodLink RX0 3 objectInit, .instanceMethod objectInit, .code objectInit ⟨#[0xb1]⟩ 1 none, .arrayClass .int, .fieldLink RX0 9 "JointVenture$CashCall" "asked" "[I", .fieldLink RX0 15 "JointVenture$CashCall" "paid" "[I"] ++ wsX00)
def wsX0_hasPayer : List Cond := .code yX0_hasPayer cX0_hasPayer 2 (some .boolean) :: ([.fieldLink RX0 15 "JointVenture$CashCall" "paid" "[I"] ++ wsX00)
def wsX0_askedOfNonPayers : List Cond := .code yX0_askedOfNonPayers cX0_askedOfNonPayers 3 (some .int) :: ([.fieldLink RX0 15 "JointVenture$CashCall" "paid" "[I", .fieldLink RX0 9 "JointVenture$CashCall" "asked" "[I"] ++ wsX00)
def wsX1_init : List Cond := .code yX1_init cX1_init 1 none :: ([.methodLink RX1 3 objectInit, .instanceMethod objectInit, .code objectInit ⟨#[0xb1]⟩ 1 none, .arrayClass .long, .fieldLink RX1 9 "JointVenture$Division" "remainders" "[J"] ++ wsX10)
def wsJ7_fill_53178 : List Cond := .code yJ7_fill_53178 cJ7_fill_53178 4 none :: ([])
def wsX1_firstWithGreatestRemainder : List Cond := .code yX1_firstWithGreatestRemainder cX1_firstWithGreatestRemainder 3 (some .int) :: ([.fieldLink RX1 9 "JointVenture$Division" "remainders" "[J"] ++ wsX10)
def wsX1_divide : List Cond := .code yX1_divide cX1_divide 10 none :: ([.fieldLink RX1 9 "JointVenture$Division" "remainders" "[J", .constantLong RX1 25 (-1), .methodLink RX1 15 yJ7_fill_53178, .static yJ7_fill_53178, .initialized RJ7, .code yJ7_fill_53178 cJ7_fill_53178 4 none, .methodLink RX1 21 yX1_firstWithGreatestRemainder, .instanceMethod yX1_firstWithGreatestRemainder, .selects RX1 yX1_firstWithGreatestRemainder yX1_firstWithGreatestRemainder, .initialized RX1, .code yX1_firstWithGreatestRemainder cX1_firstWithGreatestRemainder 3 (some .int)] ++ wsX10)
def wsX2_init : List Cond := .code yX2_init cX2_init 1 none :: ([.methodLink RX2 3 objectInit, .instanceMethod objectInit, .code objectInit ⟨#[0xb1]⟩ 1 none, .fieldLink RX2 9 "JointVenture$Well" "penalty" "I", .fieldLink RX2 15 "JointVenture$Well" "hadVoucher" "Z", .arrayClass .boolean, .fieldLink RX2 19 "JointVenture$Well" "electedOut" "[Z", .fieldLink RX2 23 "JointVenture$Well" "out" "[Z", .arrayClass .long, .fieldLink RX2 26 "JointVenture$Well" "toEarn" "[J", .arrayClass .int, .fieldLink RX2 30 "JointVenture$Well" "backAt" "[I", .fieldLink RX2 34 "JointVenture$Well" "charged" "[I", .fieldLink RX2 37 "JointVenture$Well" "credited" "[I", .methodLink RX2 40 yJ7_fill_53178, .static yJ7_fill_53178, .initialized RJ7, .code yJ7_fill_53178 cJ7_fill_53178 4 none] ++ wsX20)
def wsJ7_fill_d0a16 : List Cond := .code yJ7_fill_d0a16 cJ7_fill_d0a16 5 none :: ([])
def wsX2_clearAccounts : List Cond := .code yX2_clearAccounts cX2_clearAccounts 2 none :: ([.fieldLink RX2 26 "JointVenture$Well" "toEarn" "[J", .fieldLink RX2 30 "JointVenture$Well" "backAt" "[I", .fieldLink RX2 34 "JointVenture$Well" "charged" "[I", .fieldLink RX2 37 "JointVenture$Well" "credited" "[I", .fieldLink RX2 23 "JointVenture$Well" "out" "[Z", .fieldLink RX2 19 "JointVenture$Well" "electedOut" "[Z", .methodLink RX2 46 yJ7_fill_d0a16, .static yJ7_fill_d0a16, .initialized RJ7, .code yJ7_fill_d0a16 cJ7_fill_d0a16 5 none, .methodLink RX2 40 yJ7_fill_53178, .static yJ7_fill_53178, .code yJ7_fill_53178 cJ7_fill_53178 4 none] ++ wsX20)
def wsX2_takenOf : List Cond := .code yX2_takenOf cX2_takenOf 3 (some .int) :: ([.fieldLink RX2 23 "JointVenture$Well" "out" "[Z", .fieldLink RX2 26 "JointVenture$Well" "toEarn" "[J", .methodLink RX2 49 Lib.MathLoose.min_long.x, .static Lib.MathLoose.min_long.x, .initialized "java/lang/Math", .code Lib.MathLoose.min_long.x Lib.MathLoose.min_long.code 4 (some .long)] ++ wsX20)
def wsX2_takeBack : List Cond := .code yX2_takeBack cX2_takeBack 3 none :: ([.fieldLink RX2 23 "JointVenture$Well" "out" "[Z", .fieldLink RX2 26 "JointVenture$Well" "toEarn" "[J", .fieldLink RX2 30 "JointVenture$Well" "backAt" "[I"] ++ wsX20)
def wsX3_init_r1 : List Cond := [Cond.methodLink RX3 1 objectInit, Cond.instanceMethod objectInit, Cond.code objectInit ⟨#[0xb1]⟩ 1 none, Cond.arrayClass .int, Cond.fieldLink RX3 9 "JointVenture" "shares" "[I", Cond.fieldLink RX3 13 "JointVenture" "newPenalty" "I", Cond.fieldLink RX3 17 "JointVenture" "monthlyOverhead" "I", Cond.classLink RX3 20 RX2, Cond.fieldLink RX3 22 "JointVenture" "wells" "[LJointVenture$Well;", Cond.fieldLink RX3 26 "JointVenture" "wellCount" "I", Cond.fieldLink RX3 29 "JointVenture" "voucherWells" "[I", Cond.fieldLink RX3 32 "JointVenture" "voucherAmounts" "[I", Cond.fieldLink RX3 35 "JointVenture" "voucherCount" "I", Cond.classLink RX3 38 RX0, Cond.fieldLink RX3 40 "JointVenture" "cashCalls" "[LJointVenture$CashCall;", Cond.fieldLink RX3 44 "JointVenture" "cashCallCount" "I", Cond.fieldLink RX3 47 "JointVenture" "owed" "[I", Cond.classLink RX3 50 RX1, Cond.instantiable RX1 1, Cond.initialized RX1, Cond.fieldLink RX3 53 "JointVenture" "division" "LJointVenture$Division;", Cond.fieldLink RX3 57 "JointVenture" "ownParts" "[I", Cond.fieldLink RX3 60 "JointVenture" "weights" "[I", Cond.fieldLink RX3 63 "JointVenture" "portions" "[I"]
def wsX3_init_r2 : List Cond := [Cond.instantiable RX2 8, Cond.initialized RX2, Cond.instantiable RX0 2, Cond.initialized RX0, Cond.instanceMethod yX1_init, Cond.code yX1_init cX1_init 1 none, Cond.methodLink RX1 3 objectInit, Cond.arrayClass .long, Cond.fieldLink RX1 9 "JointVenture$Division" "remainders" "[J", Cond.methodLink RX3 66 yX2_init, Cond.instanceMethod yX2_init, Cond.code yX2_init cX2_init 1 none, Cond.methodLink RX2 3 objectInit, Cond.fieldLink RX2 9 "JointVenture$Well" "penalty" "I", Cond.fieldLink RX2 15 "JointVenture$Well" "hadVoucher" "Z", Cond.arrayClass .boolean, Cond.fieldLink RX2 19 "JointVenture$Well" "electedOut" "[Z", Cond.fieldLink RX2 23 "JointVenture$Well" "out" "[Z", Cond.fieldLink RX2 26 "JointVenture$Well" "toEarn" "[J", Cond.fieldLink RX2 30 "JointVenture$Well" "backAt" "[I", Cond.fieldLink RX2 34 "JointVenture$Well" "charged" "[I", Cond.fieldLink RX2 37 "JointVenture$Well" "credited" "[I", Cond.methodLink RX2 40 yJ7_fill_53178, Cond.static yJ7_fill_53178]
def wsX3_init_r3 : List Cond := [Cond.initialized RJ7, Cond.code yJ7_fill_53178 cJ7_fill_53178 4 none, Cond.instanceMethod yX0_init, Cond.code yX0_init cX0_init 1 none, Cond.methodLink RX0 3 objectInit, Cond.fieldLink RX0 9 "JointVenture$CashCall" "asked" "[I", Cond.fieldLink RX0 15 "JointVenture$CashCall" "paid" "[I"]
def wsX3_init : List Cond := .code yX3_init cX3_init 2 none :: ((wsX3_init_r1 ++ (wsX3_init_r2 ++ wsX3_init_r3)) ++ wsX30 ++ wsX10 ++ wsX20 ++ wsX00)
def wsX3_requireRange : List Cond := .code yX3_requireRange cX3_requireRange 4 none :: ([.classLink RX3 72 "java/lang/IllegalArgumentException", .initialized "java/lang/IllegalArgumentException"] ++ (vx_atS RX3 76 "java/lang/IllegalArgumentException" ["java/lang/RuntimeException", "java/lang/Exception"]).filter goodWord)
def wsX3_setShares : List Cond := .code yX3_setShares cX3_setShares 6 none :: ([.classLink RX3 72 "java/lang/IllegalArgumentException", .initialized "java/lang/IllegalArgumentException", .classLink RX3 79 "java/lang/IllegalStateException", .initialized "java/lang/IllegalStateException", .fieldLink RX3 26 "JointVenture" "wellCount" "I", .fieldLink RX3 9 "JointVenture" "shares" "[I", .methodLink RX3 68 yX3_requireRange, .instanceMethod yX3_requireRange, .selects RX3 yX3_requireRange yX3_requireRange, .initialized RX3, .code yX3_requireRange cX3_requireRange 4 none] ++ wsX30 ++ (vx_atS RX3 76 "java/lang/IllegalArgumentException" ["java/lang/RuntimeException", "java/lang/Exception"]).filter goodWord ++ (vx_atS RX3 83 "java/lang/IllegalStateException" ["java/lang/RuntimeException", "java/lang/Exception"]).filter goodWord)
def wsX3_setPenalty : List Cond := .code yX3_setPenalty cX3_setPenalty 3 (some .int) :: ([.fieldLink RX3 13 "JointVenture" "newPenalty" "I", .methodLink RX3 68 yX3_requireRange, .instanceMethod yX3_requireRange, .selects RX3 yX3_requireRange yX3_requireRange, .initialized RX3, .code yX3_requireRange cX3_requireRange 4 none, .classLink RX3 72 "java/lang/IllegalArgumentException", .initialized "java/lang/IllegalArgumentException"] ++ wsX30 ++ (vx_atS RX3 76 "java/lang/IllegalArgumentException" ["java/lang/RuntimeException", "java/lang/Exception"]).filter goodWord)
def wsX3_setOverhead : List Cond := .code yX3_setOverhead cX3_setOverhead 3 (some .int) :: ([.constant RX3 84 (100000), .fieldLink RX3 17 "JointVenture" "monthlyOverhead" "I", .methodLink RX3 68 yX3_requireRange, .instanceMethod yX3_requireRange, .selects RX3 yX3_requireRange yX3_requireRange, .initialized RX3, .code yX3_requireRange cX3_requireRange 4 none, .classLink RX3 72 "java/lang/IllegalArgumentException", .initialized "java/lang/IllegalArgumentException"] ++ wsX30 ++ (vx_atS RX3 76 "java/lang/IllegalArgumentException" ["java/lang/RuntimeException", "java/lang/Exception"]).filter goodWord)
def wsX3_addWell : List Cond := .code yX3_addWell cX3_addWell 1 (some .int) :: ([.classLink RX3 79 "java/lang/IllegalStateException", .initialized "java/lang/IllegalStateException", .fieldLink RX3 26 "JointVenture" "wellCount" "I", .fieldLink RX3 22 "JointVenture" "wells" "[LJointVenture$Well;", .fieldLink RX3 13 "JointVenture" "newPenalty" "I", .fieldLink RX3 87 "JointVenture$Well" "penalty" "I"] ++ wsX30 ++ wsX20 ++ (vx_atS RX3 83 "java/lang/IllegalStateException" ["java/lang/RuntimeException", "java/lang/Exception"]).filter goodWord)
def wsX3_requireWell : List Cond := .code yX3_requireWell cX3_requireWell 2 none :: ([.classLink RX3 196 "java/lang/IndexOutOfBoundsException", .initialized "java/lang/IndexOutOfBoundsException", .fieldLink RX3 26 "JointVenture" "wellCount" "I"] ++ wsX30 ++ (vx_atS RX3 200 "java/lang/IndexOutOfBoundsException" ["java/lang/RuntimeException", "java/lang/Exception"]).filter goodWord)
def wsX3_requirePartner : List Cond := .code yX3_requirePartner cX3_requirePartner 2 none :: ([.classLink RX3 196 "java/lang/IndexOutOfBoundsException", .initialized "java/lang/IndexOutOfBoundsException"] ++ (vx_atS RX3 200 "java/lang/IndexOutOfBoundsException" ["java/lang/RuntimeException", "java/lang/Exception"]).filter goodWord)
def wsX3_shareIfIn : List Cond := .code yX3_shareIfIn cX3_shareIfIn 3 (some .int) :: ([.fieldLink RX3 115 "JointVenture$Well" "out" "[Z", .fieldLink RX3 9 "JointVenture" "shares" "[I"] ++ wsX20 ++ wsX30)
def wsX3_isAnotherIn : List Cond := .code yX3_isAnotherIn cX3_isAnotherIn 4 (some .boolean) :: ([.methodLink RX3 136 yX3_shareIfIn, .instanceMethod yX3_shareIfIn, .selects RX3 yX3_shareIfIn yX3_shareIfIn, .initialized RX3, .code yX3_shareIfIn cX3_shareIfIn 3 (some .int), .fieldLink RX3 115 "JointVenture$Well" "out" "[Z", .fieldLink RX3 9 "JointVenture" "shares" "[I"] ++ wsX20 ++ wsX30)
def wsX3_elect_r1 : List Cond := [Cond.classLink RX3 79 "java/lang/IllegalStateException", Cond.initialized "java/lang/IllegalStateException", Cond.fieldLink RX3 22 "JointVenture" "wells" "[LJointVenture$Well;", Cond.fieldLink RX3 97 "JointVenture$Well" "hadVoucher" "Z", Cond.fieldLink RX3 9 "JointVenture" "shares" "[I", Cond.fieldLink RX3 111 "JointVenture$Well" "electedOut" "[Z", Cond.fieldLink RX3 115 "JointVenture$Well" "out" "[Z", Cond.methodLink RX3 90 yX3_requireWell, Cond.instanceMethod yX3_requireWell, Cond.selects RX3 yX3_requireWell yX3_requireWell, Cond.initialized RX3, Cond.code yX3_requireWell cX3_requireWell 2 none, Cond.classLink RX3 196 "java/lang/IndexOutOfBoundsException", Cond.initialized "java/lang/IndexOutOfBoundsException", Cond.fieldLink RX3 26 "JointVenture" "wellCount" "I", Cond.methodLink RX3 94 yX3_requirePartner, Cond.instanceMethod yX3_requirePartner, Cond.selects RX3 yX3_requirePartner yX3_requirePartner, Cond.code yX3_requirePartner cX3_requirePartner 2 none, Cond.methodLink RX3 105 yX3_isAnotherIn, Cond.instanceMethod yX3_isAnotherIn, Cond.selects RX3 yX3_isAnotherIn yX3_isAnotherIn, Cond.code yX3_isAnotherIn cX3_isAnotherIn 4 (some .boolean), Cond.methodLink RX3 136 yX3_shareIfIn]
def wsX3_elect_r2 : List Cond := [Cond.instanceMethod yX3_shareIfIn, Cond.selects RX3 yX3_shareIfIn yX3_shareIfIn, Cond.code yX3_shareIfIn cX3_shareIfIn 3 (some .int)]
def wsX3_elect : List Cond := .code yX3_elect cX3_elect 6 (some .boolean) :: ((wsX3_elect_r1 ++ wsX3_elect_r2) ++ wsX30 ++ wsX20 ++ (vx_atS RX3 83 "java/lang/IllegalStateException" ["java/lang/RuntimeException", "java/lang/Exception"]).filter goodWord ++ (vx_atS RX3 200 "java/lang/IndexOutOfBoundsException" ["java/lang/RuntimeException", "java/lang/Exception"]).filter goodWord)
def wsX3_requireRoomForVoucher : List Cond := .code yX3_requireRoomForVoucher cX3_requireRoomForVoucher 1 none :: ([.classLink RX3 79 "java/lang/IllegalStateException", .initialized "java/lang/IllegalStateException", .fieldLink RX3 35 "JointVenture" "voucherCount" "I"] ++ wsX30 ++ (vx_atS RX3 83 "java/lang/IllegalStateException" ["java/lang/RuntimeException", "java/lang/Exception"]).filter goodWord)
def wsX3_weighThoseIn : List Cond := .code yX3_weighThoseIn cX3_weighThoseIn 3 none :: ([.fieldLink RX3 60 "JointVenture" "weights" "[I", .methodLink RX3 136 yX3_shareIfIn, .instanceMethod yX3_shareIfIn, .selects RX3 yX3_shareIfIn yX3_shareIfIn, .initialized RX3, .code yX3_shareIfIn cX3_shareIfIn 3 (some .int), .fieldLink RX3 115 "JointVenture$Well" "out" "[Z", .fieldLink RX3 9 "JointVenture" "shares" "[I"] ++ wsX30 ++ wsX20)
def wsX3_ownPartsOfThoseOut : List Cond := .code yX3_ownPartsOfThoseOut cX3_ownPartsOfThoseOut 4 (some .int) :: ([.fieldLink RX3 115 "JointVenture$Well" "out" "[Z", .fieldLink RX3 57 "JointVenture" "ownParts" "[I"] ++ wsX20 ++ wsX30)
def wsX3_divideCost_r1 : List Cond := [Cond.fieldLink RX3 53 "JointVenture" "division" "LJointVenture$Division;", Cond.fieldLink RX3 9 "JointVenture" "shares" "[I", Cond.fieldLink RX3 57 "JointVenture" "ownParts" "[I", Cond.fieldLink RX3 60 "JointVenture" "weights" "[I", Cond.fieldLink RX3 63 "JointVenture" "portions" "[I", Cond.fieldLink RX3 115 "JointVenture$Well" "out" "[Z", Cond.methodLink RX3 162 yX1_divide, Cond.instanceMethod yX1_divide, Cond.selects RX1 yX1_divide yX1_divide, Cond.initialized RX1, Cond.code yX1_divide cX1_divide 10 none, Cond.fieldLink RX1 9 "JointVenture$Division" "remainders" "[J", Cond.constantLong RX1 25 (-1), Cond.methodLink RX1 15 yJ7_fill_53178, Cond.static yJ7_fill_53178, Cond.initialized RJ7, Cond.code yJ7_fill_53178 cJ7_fill_53178 4 none, Cond.methodLink RX1 21 yX1_firstWithGreatestRemainder, Cond.instanceMethod yX1_firstWithGreatestRemainder, Cond.selects RX1 yX1_firstWithGreatestRemainder yX1_firstWithGreatestRemainder, Cond.code yX1_firstWithGreatestRemainder cX1_firstWithGreatestRemainder 3 (some .int), Cond.methodLink RX3 232 yX3_weighThoseIn, Cond.instanceMethod yX3_weighThoseIn, Cond.selects RX3 yX3_weighThoseIn yX3_weighThoseIn]
def wsX3_divideCost_r2 : List Cond := [Cond.initialized RX3, Cond.code yX3_weighThoseIn cX3_weighThoseIn 3 none, Cond.methodLink RX3 136 yX3_shareIfIn, Cond.instanceMethod yX3_shareIfIn, Cond.selects RX3 yX3_shareIfIn yX3_shareIfIn, Cond.code yX3_shareIfIn cX3_shareIfIn 3 (some .int), Cond.methodLink RX3 236 yX3_ownPartsOfThoseOut, Cond.instanceMethod yX3_ownPartsOfThoseOut, Cond.selects RX3 yX3_ownPartsOfThoseOut yX3_ownPartsOfThoseOut, Cond.code yX3_ownPartsOfThoseOut cX3_ownPartsOfThoseOut 4 (some .int)]
def wsX3_divideCost : List Cond := .code yX3_divideCost cX3_divideCost 4 none :: ((wsX3_divideCost_r1 ++ wsX3_divideCost_r2) ++ wsX30 ++ wsX20 ++ wsX10)
def wsX3_penaltyOn : List Cond := .code yX3_penaltyOn cX3_penaltyOn 3 (some .long) :: ([.constantLong RX3 228 (99), .constantLong RX3 230 (100)])
def wsX3_accountCost_r1 : List Cond := [Cond.fieldLink RX3 147 "JointVenture$Well" "charged" "[I", Cond.fieldLink RX3 63 "JointVenture" "portions" "[I", Cond.fieldLink RX3 115 "JointVenture$Well" "out" "[Z", Cond.fieldLink RX3 140 "JointVenture$Well" "toEarn" "[J", Cond.fieldLink RX3 57 "JointVenture" "ownParts" "[I", Cond.fieldLink RX3 87 "JointVenture$Well" "penalty" "I", Cond.methodLink RX3 153 yX3_divideCost, Cond.instanceMethod yX3_divideCost, Cond.selects RX3 yX3_divideCost yX3_divideCost, Cond.initialized RX3, Cond.code yX3_divideCost cX3_divideCost 4 none, Cond.fieldLink RX3 53 "JointVenture" "division" "LJointVenture$Division;", Cond.fieldLink RX3 9 "JointVenture" "shares" "[I", Cond.fieldLink RX3 60 "JointVenture" "weights" "[I", Cond.methodLink RX3 162 yX1_divide, Cond.instanceMethod yX1_divide, Cond.selects RX1 yX1_divide yX1_divide, Cond.initialized RX1, Cond.code yX1_divide cX1_divide 10 none, Cond.fieldLink RX1 9 "JointVenture$Division" "remainders" "[J", Cond.constantLong RX1 25 (-1), Cond.methodLink RX1 15 yJ7_fill_53178, Cond.static yJ7_fill_53178, Cond.initialized RJ7]
def wsX3_accountCost_r2 : List Cond := [Cond.code yJ7_fill_53178 cJ7_fill_53178 4 none, Cond.methodLink RX1 21 yX1_firstWithGreatestRemainder, Cond.instanceMethod yX1_firstWithGreatestRemainder, Cond.selects RX1 yX1_firstWithGreatestRemainder yX1_firstWithGreatestRemainder, Cond.code yX1_firstWithGreatestRemainder cX1_firstWithGreatestRemainder 3 (some .int), Cond.methodLink RX3 232 yX3_weighThoseIn, Cond.instanceMethod yX3_weighThoseIn, Cond.selects RX3 yX3_weighThoseIn yX3_weighThoseIn, Cond.code yX3_weighThoseIn cX3_weighThoseIn 3 none, Cond.methodLink RX3 136 yX3_shareIfIn, Cond.instanceMethod yX3_shareIfIn, Cond.selects RX3 yX3_shareIfIn yX3_shareIfIn, Cond.code yX3_shareIfIn cX3_shareIfIn 3 (some .int), Cond.methodLink RX3 236 yX3_ownPartsOfThoseOut, Cond.instanceMethod yX3_ownPartsOfThoseOut, Cond.selects RX3 yX3_ownPartsOfThoseOut yX3_ownPartsOfThoseOut, Cond.code yX3_ownPartsOfThoseOut cX3_ownPartsOfThoseOut 4 (some .int), Cond.methodLink RX3 224 yX3_penaltyOn, Cond.instanceMethod yX3_penaltyOn, Cond.selects RX3 yX3_penaltyOn yX3_penaltyOn, Cond.code yX3_penaltyOn cX3_penaltyOn 3 (some .long), Cond.constantLong RX3 228 (99), Cond.constantLong RX3 230 (100)]
def wsX3_accountCost : List Cond := .code yX3_accountCost cX3_accountCost 4 none :: ((wsX3_accountCost_r1 ++ wsX3_accountCost_r2) ++ wsX20 ++ wsX30 ++ wsX10)
def wsX3_creditTaken : List Cond := .code yX3_creditTaken cX3_creditTaken 4 none :: ([.fieldLink RX3 53 "JointVenture" "division" "LJointVenture$Division;", .fieldLink RX3 60 "JointVenture" "weights" "[I", .fieldLink RX3 63 "JointVenture" "portions" "[I", .fieldLink RX3 150 "JointVenture$Well" "credited" "[I", .methodLink RX3 162 yX1_divide, .instanceMethod yX1_divide, .selects RX1 yX1_divide yX1_divide, .initialized RX1, .code yX1_divide cX1_divide 10 none, .fieldLink RX1 9 "JointVenture$Division" "remainders" "[J", .constantLong RX1 25 (-1), .methodLink RX1 15 yJ7_fill_53178, .static yJ7_fill_53178, .initialized RJ7, .code yJ7_fill_53178 cJ7_fill_53178 4 none, .methodLink RX1 21 yX1_firstWithGreatestRemainder, .instanceMethod yX1_firstWithGreatestRemainder, .selects RX1 yX1_firstWithGreatestRemainder yX1_firstWithGreatestRemainder, .code yX1_firstWithGreatestRemainder cX1_firstWithGreatestRemainder 3 (some .int)] ++ wsX30 ++ wsX20 ++ wsX10)
def wsX3_accountIncome_r1 : List Cond := [Cond.fieldLink RX3 53 "JointVenture" "division" "LJointVenture$Division;", Cond.fieldLink RX3 9 "JointVenture" "shares" "[I", Cond.fieldLink RX3 57 "JointVenture" "ownParts" "[I", Cond.fieldLink RX3 140 "JointVenture$Well" "toEarn" "[J", Cond.fieldLink RX3 150 "JointVenture$Well" "credited" "[I", Cond.methodLink RX3 162 yX1_divide, Cond.instanceMethod yX1_divide, Cond.selects RX1 yX1_divide yX1_divide, Cond.initialized RX1, Cond.code yX1_divide cX1_divide 10 none, Cond.fieldLink RX1 9 "JointVenture$Division" "remainders" "[J", Cond.constantLong RX1 25 (-1), Cond.methodLink RX1 15 yJ7_fill_53178, Cond.static yJ7_fill_53178, Cond.initialized RJ7, Cond.code yJ7_fill_53178 cJ7_fill_53178 4 none, Cond.methodLink RX1 21 yX1_firstWithGreatestRemainder, Cond.instanceMethod yX1_firstWithGreatestRemainder, Cond.selects RX1 yX1_firstWithGreatestRemainder yX1_firstWithGreatestRemainder, Cond.code yX1_firstWithGreatestRemainder cX1_firstWithGreatestRemainder 3 (some .int), Cond.methodLink RX3 232 yX3_weighThoseIn, Cond.instanceMethod yX3_weighThoseIn, Cond.selects RX3 yX3_weighThoseIn yX3_weighThoseIn, Cond.initialized RX3]
def wsX3_accountIncome_r2 : List Cond := [Cond.code yX3_weighThoseIn cX3_weighThoseIn 3 none, Cond.fieldLink RX3 60 "JointVenture" "weights" "[I", Cond.methodLink RX3 136 yX3_shareIfIn, Cond.instanceMethod yX3_shareIfIn, Cond.selects RX3 yX3_shareIfIn yX3_shareIfIn, Cond.code yX3_shareIfIn cX3_shareIfIn 3 (some .int), Cond.fieldLink RX3 115 "JointVenture$Well" "out" "[Z", Cond.methodLink RX3 240 yX2_takenOf, Cond.instanceMethod yX2_takenOf, Cond.selects RX2 yX2_takenOf yX2_takenOf, Cond.initialized RX2, Cond.code yX2_takenOf cX2_takenOf 3 (some .int), Cond.fieldLink RX2 23 "JointVenture$Well" "out" "[Z", Cond.fieldLink RX2 26 "JointVenture$Well" "toEarn" "[J", Cond.methodLink RX2 49 Lib.MathLoose.min_long.x, Cond.static Lib.MathLoose.min_long.x, Cond.initialized "java/lang/Math", Cond.code Lib.MathLoose.min_long.x Lib.MathLoose.min_long.code 4 (some .long), Cond.methodLink RX3 243 yX3_creditTaken, Cond.instanceMethod yX3_creditTaken, Cond.selects RX3 yX3_creditTaken yX3_creditTaken, Cond.code yX3_creditTaken cX3_creditTaken 4 none, Cond.fieldLink RX3 63 "JointVenture" "portions" "[I"]
def wsX3_accountIncome : List Cond := .code yX3_accountIncome cX3_accountIncome 5 none :: ((wsX3_accountIncome_r1 ++ wsX3_accountIncome_r2) ++ wsX30 ++ wsX20 ++ wsX10)
def wsX3_account_r1 : List Cond := [Cond.fieldLink RX3 22 "JointVenture" "wells" "[LJointVenture$Well;", Cond.fieldLink RX3 29 "JointVenture" "voucherWells" "[I", Cond.fieldLink RX3 32 "JointVenture" "voucherAmounts" "[I", Cond.methodLink RX3 215 yX3_accountCost, Cond.instanceMethod yX3_accountCost, Cond.selects RX3 yX3_accountCost yX3_accountCost, Cond.initialized RX3, Cond.code yX3_accountCost cX3_accountCost 4 none, Cond.fieldLink RX3 147 "JointVenture$Well" "charged" "[I", Cond.fieldLink RX3 63 "JointVenture" "portions" "[I", Cond.fieldLink RX3 115 "JointVenture$Well" "out" "[Z", Cond.fieldLink RX3 140 "JointVenture$Well" "toEarn" "[J", Cond.fieldLink RX3 57 "JointVenture" "ownParts" "[I", Cond.fieldLink RX3 87 "JointVenture$Well" "penalty" "I", Cond.methodLink RX3 153 yX3_divideCost, Cond.instanceMethod yX3_divideCost, Cond.selects RX3 yX3_divideCost yX3_divideCost, Cond.code yX3_divideCost cX3_divideCost 4 none, Cond.fieldLink RX3 53 "JointVenture" "division" "LJointVenture$Division;", Cond.fieldLink RX3 9 "JointVenture" "shares" "[I", Cond.fieldLink RX3 60 "JointVenture" "weights" "[I", Cond.methodLink RX3 162 yX1_divide, Cond.instanceMethod yX1_divide, Cond.selects RX1 yX1_divide yX1_divide]
def wsX3_account_r2 : List Cond := [Cond.initialized RX1, Cond.code yX1_divide cX1_divide 10 none, Cond.fieldLink RX1 9 "JointVenture$Division" "remainders" "[J", Cond.constantLong RX1 25 (-1), Cond.methodLink RX1 15 yJ7_fill_53178, Cond.static yJ7_fill_53178, Cond.initialized RJ7, Cond.code yJ7_fill_53178 cJ7_fill_53178 4 none, Cond.methodLink RX1 21 yX1_firstWithGreatestRemainder, Cond.instanceMethod yX1_firstWithGreatestRemainder, Cond.selects RX1 yX1_firstWithGreatestRemainder yX1_firstWithGreatestRemainder, Cond.code yX1_firstWithGreatestRemainder cX1_firstWithGreatestRemainder 3 (some .int), Cond.methodLink RX3 232 yX3_weighThoseIn, Cond.instanceMethod yX3_weighThoseIn, Cond.selects RX3 yX3_weighThoseIn yX3_weighThoseIn, Cond.code yX3_weighThoseIn cX3_weighThoseIn 3 none, Cond.methodLink RX3 136 yX3_shareIfIn, Cond.instanceMethod yX3_shareIfIn, Cond.selects RX3 yX3_shareIfIn yX3_shareIfIn, Cond.code yX3_shareIfIn cX3_shareIfIn 3 (some .int), Cond.methodLink RX3 236 yX3_ownPartsOfThoseOut, Cond.instanceMethod yX3_ownPartsOfThoseOut, Cond.selects RX3 yX3_ownPartsOfThoseOut yX3_ownPartsOfThoseOut, Cond.code yX3_ownPartsOfThoseOut cX3_ownPartsOfThoseOut 4 (some .int)]
def wsX3_account_r3 : List Cond := [Cond.methodLink RX3 224 yX3_penaltyOn, Cond.instanceMethod yX3_penaltyOn, Cond.selects RX3 yX3_penaltyOn yX3_penaltyOn, Cond.code yX3_penaltyOn cX3_penaltyOn 3 (some .long), Cond.constantLong RX3 228 (99), Cond.constantLong RX3 230 (100), Cond.methodLink RX3 218 yX3_accountIncome, Cond.instanceMethod yX3_accountIncome, Cond.selects RX3 yX3_accountIncome yX3_accountIncome, Cond.code yX3_accountIncome cX3_accountIncome 5 none, Cond.fieldLink RX3 150 "JointVenture$Well" "credited" "[I", Cond.methodLink RX3 240 yX2_takenOf, Cond.instanceMethod yX2_takenOf, Cond.selects RX2 yX2_takenOf yX2_takenOf, Cond.initialized RX2, Cond.code yX2_takenOf cX2_takenOf 3 (some .int), Cond.fieldLink RX2 23 "JointVenture$Well" "out" "[Z", Cond.fieldLink RX2 26 "JointVenture$Well" "toEarn" "[J", Cond.methodLink RX2 49 Lib.MathLoose.min_long.x, Cond.static Lib.MathLoose.min_long.x, Cond.initialized "java/lang/Math", Cond.code Lib.MathLoose.min_long.x Lib.MathLoose.min_long.code 4 (some .long), Cond.methodLink RX3 243 yX3_creditTaken, Cond.instanceMethod yX3_creditTaken]
def wsX3_account_r4 : List Cond := [Cond.selects RX3 yX3_creditTaken yX3_creditTaken, Cond.code yX3_creditTaken cX3_creditTaken 4 none, Cond.methodLink RX3 221 yX2_takeBack, Cond.instanceMethod yX2_takeBack, Cond.selects RX2 yX2_takeBack yX2_takeBack, Cond.code yX2_takeBack cX2_takeBack 3 none, Cond.fieldLink RX2 30 "JointVenture$Well" "backAt" "[I"]
def wsX3_account : List Cond := .code yX3_account cX3_account 4 none :: ((wsX3_account_r1 ++ (wsX3_account_r2 ++ (wsX3_account_r3 ++ wsX3_account_r4))) ++ wsX30 ++ wsX20 ++ wsX10)
def wsX3_addVoucher_r1 : List Cond := [Cond.fieldLink RX3 35 "JointVenture" "voucherCount" "I", Cond.fieldLink RX3 29 "JointVenture" "voucherWells" "[I", Cond.fieldLink RX3 32 "JointVenture" "voucherAmounts" "[I", Cond.fieldLink RX3 22 "JointVenture" "wells" "[LJointVenture$Well;", Cond.fieldLink RX3 97 "JointVenture$Well" "hadVoucher" "Z", Cond.methodLink RX3 209 yX3_account, Cond.instanceMethod yX3_account, Cond.selects RX3 yX3_account yX3_account, Cond.initialized RX3, Cond.code yX3_account cX3_account 4 none, Cond.methodLink RX3 215 yX3_accountCost, Cond.instanceMethod yX3_accountCost, Cond.selects RX3 yX3_accountCost yX3_accountCost, Cond.code yX3_accountCost cX3_accountCost 4 none, Cond.fieldLink RX3 147 "JointVenture$Well" "charged" "[I", Cond.fieldLink RX3 63 "JointVenture" "portions" "[I", Cond.fieldLink RX3 115 "JointVenture$Well" "out" "[Z", Cond.fieldLink RX3 140 "JointVenture$Well" "toEarn" "[J", Cond.fieldLink RX3 57 "JointVenture" "ownParts" "[I", Cond.fieldLink RX3 87 "JointVenture$Well" "penalty" "I", Cond.methodLink RX3 153 yX3_divideCost, Cond.instanceMethod yX3_divideCost, Cond.selects RX3 yX3_divideCost yX3_divideCost, Cond.code yX3_divideCost cX3_divideCost 4 none]
def wsX3_addVoucher_r2 : List Cond := [Cond.fieldLink RX3 53 "JointVenture" "division" "LJointVenture$Division;", Cond.fieldLink RX3 9 "JointVenture" "shares" "[I", Cond.fieldLink RX3 60 "JointVenture" "weights" "[I", Cond.methodLink RX3 162 yX1_divide, Cond.instanceMethod yX1_divide, Cond.selects RX1 yX1_divide yX1_divide, Cond.initialized RX1, Cond.code yX1_divide cX1_divide 10 none, Cond.fieldLink RX1 9 "JointVenture$Division" "remainders" "[J", Cond.constantLong RX1 25 (-1), Cond.methodLink RX1 15 yJ7_fill_53178, Cond.static yJ7_fill_53178, Cond.initialized RJ7, Cond.code yJ7_fill_53178 cJ7_fill_53178 4 none, Cond.methodLink RX1 21 yX1_firstWithGreatestRemainder, Cond.instanceMethod yX1_firstWithGreatestRemainder, Cond.selects RX1 yX1_firstWithGreatestRemainder yX1_firstWithGreatestRemainder, Cond.code yX1_firstWithGreatestRemainder cX1_firstWithGreatestRemainder 3 (some .int), Cond.methodLink RX3 232 yX3_weighThoseIn, Cond.instanceMethod yX3_weighThoseIn, Cond.selects RX3 yX3_weighThoseIn yX3_weighThoseIn, Cond.code yX3_weighThoseIn cX3_weighThoseIn 3 none, Cond.methodLink RX3 136 yX3_shareIfIn, Cond.instanceMethod yX3_shareIfIn]
def wsX3_addVoucher_r3 : List Cond := [Cond.selects RX3 yX3_shareIfIn yX3_shareIfIn, Cond.code yX3_shareIfIn cX3_shareIfIn 3 (some .int), Cond.methodLink RX3 236 yX3_ownPartsOfThoseOut, Cond.instanceMethod yX3_ownPartsOfThoseOut, Cond.selects RX3 yX3_ownPartsOfThoseOut yX3_ownPartsOfThoseOut, Cond.code yX3_ownPartsOfThoseOut cX3_ownPartsOfThoseOut 4 (some .int), Cond.methodLink RX3 224 yX3_penaltyOn, Cond.instanceMethod yX3_penaltyOn, Cond.selects RX3 yX3_penaltyOn yX3_penaltyOn, Cond.code yX3_penaltyOn cX3_penaltyOn 3 (some .long), Cond.constantLong RX3 228 (99), Cond.constantLong RX3 230 (100), Cond.methodLink RX3 218 yX3_accountIncome, Cond.instanceMethod yX3_accountIncome, Cond.selects RX3 yX3_accountIncome yX3_accountIncome, Cond.code yX3_accountIncome cX3_accountIncome 5 none, Cond.fieldLink RX3 150 "JointVenture$Well" "credited" "[I", Cond.methodLink RX3 240 yX2_takenOf, Cond.instanceMethod yX2_takenOf, Cond.selects RX2 yX2_takenOf yX2_takenOf, Cond.initialized RX2, Cond.code yX2_takenOf cX2_takenOf 3 (some .int), Cond.fieldLink RX2 23 "JointVenture$Well" "out" "[Z", Cond.fieldLink RX2 26 "JointVenture$Well" "toEarn" "[J"]
def wsX3_addVoucher_r4 : List Cond := [Cond.methodLink RX2 49 Lib.MathLoose.min_long.x, Cond.static Lib.MathLoose.min_long.x, Cond.initialized "java/lang/Math", Cond.code Lib.MathLoose.min_long.x Lib.MathLoose.min_long.code 4 (some .long), Cond.methodLink RX3 243 yX3_creditTaken, Cond.instanceMethod yX3_creditTaken, Cond.selects RX3 yX3_creditTaken yX3_creditTaken, Cond.code yX3_creditTaken cX3_creditTaken 4 none, Cond.methodLink RX3 221 yX2_takeBack, Cond.instanceMethod yX2_takeBack, Cond.selects RX2 yX2_takeBack yX2_takeBack, Cond.code yX2_takeBack cX2_takeBack 3 none, Cond.fieldLink RX2 30 "JointVenture$Well" "backAt" "[I"]
def wsX3_addVoucher : List Cond := .code yX3_addVoucher cX3_addVoucher 4 (some .int) :: ((wsX3_addVoucher_r1 ++ (wsX3_addVoucher_r2 ++ (wsX3_addVoucher_r3 ++ wsX3_addVoucher_r4))) ++ wsX30 ++ wsX20 ++ wsX10)
def wsX3_cost_r1 : List Cond := [Cond.constant RX3 118 (10000000), Cond.methodLink RX3 90 yX3_requireWell, Cond.instanceMethod yX3_requireWell, Cond.selects RX3 yX3_requireWell yX3_requireWell, Cond.initialized RX3, Cond.code yX3_requireWell cX3_requireWell 2 none, Cond.classLink RX3 196 "java/lang/IndexOutOfBoundsException", Cond.initialized "java/lang/IndexOutOfBoundsException", Cond.fieldLink RX3 26 "JointVenture" "wellCount" "I", Cond.methodLink RX3 68 yX3_requireRange, Cond.instanceMethod yX3_requireRange, Cond.selects RX3 yX3_requireRange yX3_requireRange, Cond.code yX3_requireRange cX3_requireRange 4 none, Cond.classLink RX3 72 "java/lang/IllegalArgumentException", Cond.initialized "java/lang/IllegalArgumentException", Cond.methodLink RX3 119 yX3_requireRoomForVoucher, Cond.instanceMethod yX3_requireRoomForVoucher, Cond.selects RX3 yX3_requireRoomForVoucher yX3_requireRoomForVoucher, Cond.code yX3_requireRoomForVoucher cX3_requireRoomForVoucher 1 none, Cond.classLink RX3 79 "java/lang/IllegalStateException", Cond.initialized "java/lang/IllegalStateException", Cond.fieldLink RX3 35 "JointVenture" "voucherCount" "I", Cond.methodLink RX3 122 yX3_addVoucher, Cond.instanceMethod yX3_addVoucher]
def wsX3_cost_r2 : List Cond := [Cond.selects RX3 yX3_addVoucher yX3_addVoucher, Cond.code yX3_addVoucher cX3_addVoucher 4 (some .int), Cond.fieldLink RX3 29 "JointVenture" "voucherWells" "[I", Cond.fieldLink RX3 32 "JointVenture" "voucherAmounts" "[I", Cond.fieldLink RX3 22 "JointVenture" "wells" "[LJointVenture$Well;", Cond.fieldLink RX3 97 "JointVenture$Well" "hadVoucher" "Z", Cond.methodLink RX3 209 yX3_account, Cond.instanceMethod yX3_account, Cond.selects RX3 yX3_account yX3_account, Cond.code yX3_account cX3_account 4 none, Cond.methodLink RX3 215 yX3_accountCost, Cond.instanceMethod yX3_accountCost, Cond.selects RX3 yX3_accountCost yX3_accountCost, Cond.code yX3_accountCost cX3_accountCost 4 none, Cond.fieldLink RX3 147 "JointVenture$Well" "charged" "[I", Cond.fieldLink RX3 63 "JointVenture" "portions" "[I", Cond.fieldLink RX3 115 "JointVenture$Well" "out" "[Z", Cond.fieldLink RX3 140 "JointVenture$Well" "toEarn" "[J", Cond.fieldLink RX3 57 "JointVenture" "ownParts" "[I", Cond.fieldLink RX3 87 "JointVenture$Well" "penalty" "I", Cond.methodLink RX3 153 yX3_divideCost, Cond.instanceMethod yX3_divideCost, Cond.selects RX3 yX3_divideCost yX3_divideCost, Cond.code yX3_divideCost cX3_divideCost 4 none]
def wsX3_cost_r3 : List Cond := [Cond.fieldLink RX3 53 "JointVenture" "division" "LJointVenture$Division;", Cond.fieldLink RX3 9 "JointVenture" "shares" "[I", Cond.fieldLink RX3 60 "JointVenture" "weights" "[I", Cond.methodLink RX3 162 yX1_divide, Cond.instanceMethod yX1_divide, Cond.selects RX1 yX1_divide yX1_divide, Cond.initialized RX1, Cond.code yX1_divide cX1_divide 10 none, Cond.fieldLink RX1 9 "JointVenture$Division" "remainders" "[J", Cond.constantLong RX1 25 (-1), Cond.methodLink RX1 15 yJ7_fill_53178, Cond.static yJ7_fill_53178, Cond.initialized RJ7, Cond.code yJ7_fill_53178 cJ7_fill_53178 4 none, Cond.methodLink RX1 21 yX1_firstWithGreatestRemainder, Cond.instanceMethod yX1_firstWithGreatestRemainder, Cond.selects RX1 yX1_firstWithGreatestRemainder yX1_firstWithGreatestRemainder, Cond.code yX1_firstWithGreatestRemainder cX1_firstWithGreatestRemainder 3 (some .int), Cond.methodLink RX3 232 yX3_weighThoseIn, Cond.instanceMethod yX3_weighThoseIn, Cond.selects RX3 yX3_weighThoseIn yX3_weighThoseIn, Cond.code yX3_weighThoseIn cX3_weighThoseIn 3 none, Cond.methodLink RX3 136 yX3_shareIfIn, Cond.instanceMethod yX3_shareIfIn]
def wsX3_cost_r4 : List Cond := [Cond.selects RX3 yX3_shareIfIn yX3_shareIfIn, Cond.code yX3_shareIfIn cX3_shareIfIn 3 (some .int), Cond.methodLink RX3 236 yX3_ownPartsOfThoseOut, Cond.instanceMethod yX3_ownPartsOfThoseOut, Cond.selects RX3 yX3_ownPartsOfThoseOut yX3_ownPartsOfThoseOut, Cond.code yX3_ownPartsOfThoseOut cX3_ownPartsOfThoseOut 4 (some .int), Cond.methodLink RX3 224 yX3_penaltyOn, Cond.instanceMethod yX3_penaltyOn, Cond.selects RX3 yX3_penaltyOn yX3_penaltyOn, Cond.code yX3_penaltyOn cX3_penaltyOn 3 (some .long), Cond.constantLong RX3 228 (99), Cond.constantLong RX3 230 (100), Cond.methodLink RX3 218 yX3_accountIncome, Cond.instanceMethod yX3_accountIncome, Cond.selects RX3 yX3_accountIncome yX3_accountIncome, Cond.code yX3_accountIncome cX3_accountIncome 5 none, Cond.fieldLink RX3 150 "JointVenture$Well" "credited" "[I", Cond.methodLink RX3 240 yX2_takenOf, Cond.instanceMethod yX2_takenOf, Cond.selects RX2 yX2_takenOf yX2_takenOf, Cond.initialized RX2, Cond.code yX2_takenOf cX2_takenOf 3 (some .int), Cond.fieldLink RX2 23 "JointVenture$Well" "out" "[Z", Cond.fieldLink RX2 26 "JointVenture$Well" "toEarn" "[J"]
def wsX3_cost_r5 : List Cond := [Cond.methodLink RX2 49 Lib.MathLoose.min_long.x, Cond.static Lib.MathLoose.min_long.x, Cond.initialized "java/lang/Math", Cond.code Lib.MathLoose.min_long.x Lib.MathLoose.min_long.code 4 (some .long), Cond.methodLink RX3 243 yX3_creditTaken, Cond.instanceMethod yX3_creditTaken, Cond.selects RX3 yX3_creditTaken yX3_creditTaken, Cond.code yX3_creditTaken cX3_creditTaken 4 none, Cond.methodLink RX3 221 yX2_takeBack, Cond.instanceMethod yX2_takeBack, Cond.selects RX2 yX2_takeBack yX2_takeBack, Cond.code yX2_takeBack cX2_takeBack 3 none, Cond.fieldLink RX2 30 "JointVenture$Well" "backAt" "[I"]
def wsX3_cost : List Cond := .code yX3_cost cX3_cost 3 (some .int) :: ((wsX3_cost_r1 ++ (wsX3_cost_r2 ++ (wsX3_cost_r3 ++ (wsX3_cost_r4 ++ wsX3_cost_r5)))) ++ wsX30 ++ wsX20 ++ wsX10 ++ (vx_atS RX3 200 "java/lang/IndexOutOfBoundsException" ["java/lang/RuntimeException", "java/lang/Exception"]).filter goodWord ++ (vx_atS RX3 76 "java/lang/IllegalArgumentException" ["java/lang/RuntimeException", "java/lang/Exception"]).filter goodWord ++ (vx_atS RX3 83 "java/lang/IllegalStateException" ["java/lang/RuntimeException", "java/lang/Exception"]).filter goodWord)
def wsX3_overhead_r1 : List Cond := [Cond.classLink RX3 79 "java/lang/IllegalStateException", Cond.initialized "java/lang/IllegalStateException", Cond.fieldLink RX3 17 "JointVenture" "monthlyOverhead" "I", Cond.methodLink RX3 90 yX3_requireWell, Cond.instanceMethod yX3_requireWell, Cond.selects RX3 yX3_requireWell yX3_requireWell, Cond.initialized RX3, Cond.code yX3_requireWell cX3_requireWell 2 none, Cond.classLink RX3 196 "java/lang/IndexOutOfBoundsException", Cond.initialized "java/lang/IndexOutOfBoundsException", Cond.fieldLink RX3 26 "JointVenture" "wellCount" "I", Cond.methodLink RX3 68 yX3_requireRange, Cond.instanceMethod yX3_requireRange, Cond.selects RX3 yX3_requireRange yX3_requireRange, Cond.code yX3_requireRange cX3_requireRange 4 none, Cond.classLink RX3 72 "java/lang/IllegalArgumentException", Cond.initialized "java/lang/IllegalArgumentException", Cond.methodLink RX3 119 yX3_requireRoomForVoucher, Cond.instanceMethod yX3_requireRoomForVoucher, Cond.selects RX3 yX3_requireRoomForVoucher yX3_requireRoomForVoucher, Cond.code yX3_requireRoomForVoucher cX3_requireRoomForVoucher 1 none, Cond.fieldLink RX3 35 "JointVenture" "voucherCount" "I", Cond.methodLink RX3 122 yX3_addVoucher, Cond.instanceMethod yX3_addVoucher]
def wsX3_overhead_r2 : List Cond := [Cond.selects RX3 yX3_addVoucher yX3_addVoucher, Cond.code yX3_addVoucher cX3_addVoucher 4 (some .int), Cond.fieldLink RX3 29 "JointVenture" "voucherWells" "[I", Cond.fieldLink RX3 32 "JointVenture" "voucherAmounts" "[I", Cond.fieldLink RX3 22 "JointVenture" "wells" "[LJointVenture$Well;", Cond.fieldLink RX3 97 "JointVenture$Well" "hadVoucher" "Z", Cond.methodLink RX3 209 yX3_account, Cond.instanceMethod yX3_account, Cond.selects RX3 yX3_account yX3_account, Cond.code yX3_account cX3_account 4 none, Cond.methodLink RX3 215 yX3_accountCost, Cond.instanceMethod yX3_accountCost, Cond.selects RX3 yX3_accountCost yX3_accountCost, Cond.code yX3_accountCost cX3_accountCost 4 none, Cond.fieldLink RX3 147 "JointVenture$Well" "charged" "[I", Cond.fieldLink RX3 63 "JointVenture" "portions" "[I", Cond.fieldLink RX3 115 "JointVenture$Well" "out" "[Z", Cond.fieldLink RX3 140 "JointVenture$Well" "toEarn" "[J", Cond.fieldLink RX3 57 "JointVenture" "ownParts" "[I", Cond.fieldLink RX3 87 "JointVenture$Well" "penalty" "I", Cond.methodLink RX3 153 yX3_divideCost, Cond.instanceMethod yX3_divideCost, Cond.selects RX3 yX3_divideCost yX3_divideCost, Cond.code yX3_divideCost cX3_divideCost 4 none]
def wsX3_overhead_r3 : List Cond := [Cond.fieldLink RX3 53 "JointVenture" "division" "LJointVenture$Division;", Cond.fieldLink RX3 9 "JointVenture" "shares" "[I", Cond.fieldLink RX3 60 "JointVenture" "weights" "[I", Cond.methodLink RX3 162 yX1_divide, Cond.instanceMethod yX1_divide, Cond.selects RX1 yX1_divide yX1_divide, Cond.initialized RX1, Cond.code yX1_divide cX1_divide 10 none, Cond.fieldLink RX1 9 "JointVenture$Division" "remainders" "[J", Cond.constantLong RX1 25 (-1), Cond.methodLink RX1 15 yJ7_fill_53178, Cond.static yJ7_fill_53178, Cond.initialized RJ7, Cond.code yJ7_fill_53178 cJ7_fill_53178 4 none, Cond.methodLink RX1 21 yX1_firstWithGreatestRemainder, Cond.instanceMethod yX1_firstWithGreatestRemainder, Cond.selects RX1 yX1_firstWithGreatestRemainder yX1_firstWithGreatestRemainder, Cond.code yX1_firstWithGreatestRemainder cX1_firstWithGreatestRemainder 3 (some .int), Cond.methodLink RX3 232 yX3_weighThoseIn, Cond.instanceMethod yX3_weighThoseIn, Cond.selects RX3 yX3_weighThoseIn yX3_weighThoseIn, Cond.code yX3_weighThoseIn cX3_weighThoseIn 3 none, Cond.methodLink RX3 136 yX3_shareIfIn, Cond.instanceMethod yX3_shareIfIn]
def wsX3_overhead_r4 : List Cond := [Cond.selects RX3 yX3_shareIfIn yX3_shareIfIn, Cond.code yX3_shareIfIn cX3_shareIfIn 3 (some .int), Cond.methodLink RX3 236 yX3_ownPartsOfThoseOut, Cond.instanceMethod yX3_ownPartsOfThoseOut, Cond.selects RX3 yX3_ownPartsOfThoseOut yX3_ownPartsOfThoseOut, Cond.code yX3_ownPartsOfThoseOut cX3_ownPartsOfThoseOut 4 (some .int), Cond.methodLink RX3 224 yX3_penaltyOn, Cond.instanceMethod yX3_penaltyOn, Cond.selects RX3 yX3_penaltyOn yX3_penaltyOn, Cond.code yX3_penaltyOn cX3_penaltyOn 3 (some .long), Cond.constantLong RX3 228 (99), Cond.constantLong RX3 230 (100), Cond.methodLink RX3 218 yX3_accountIncome, Cond.instanceMethod yX3_accountIncome, Cond.selects RX3 yX3_accountIncome yX3_accountIncome, Cond.code yX3_accountIncome cX3_accountIncome 5 none, Cond.fieldLink RX3 150 "JointVenture$Well" "credited" "[I", Cond.methodLink RX3 240 yX2_takenOf, Cond.instanceMethod yX2_takenOf, Cond.selects RX2 yX2_takenOf yX2_takenOf, Cond.initialized RX2, Cond.code yX2_takenOf cX2_takenOf 3 (some .int), Cond.fieldLink RX2 23 "JointVenture$Well" "out" "[Z", Cond.fieldLink RX2 26 "JointVenture$Well" "toEarn" "[J"]
def wsX3_overhead_r5 : List Cond := [Cond.methodLink RX2 49 Lib.MathLoose.min_long.x, Cond.static Lib.MathLoose.min_long.x, Cond.initialized "java/lang/Math", Cond.code Lib.MathLoose.min_long.x Lib.MathLoose.min_long.code 4 (some .long), Cond.methodLink RX3 243 yX3_creditTaken, Cond.instanceMethod yX3_creditTaken, Cond.selects RX3 yX3_creditTaken yX3_creditTaken, Cond.code yX3_creditTaken cX3_creditTaken 4 none, Cond.methodLink RX3 221 yX2_takeBack, Cond.instanceMethod yX2_takeBack, Cond.selects RX2 yX2_takeBack yX2_takeBack, Cond.code yX2_takeBack cX2_takeBack 3 none, Cond.fieldLink RX2 30 "JointVenture$Well" "backAt" "[I"]
def wsX3_overhead : List Cond := .code yX3_overhead cX3_overhead 3 (some .int) :: ((wsX3_overhead_r1 ++ (wsX3_overhead_r2 ++ (wsX3_overhead_r3 ++ (wsX3_overhead_r4 ++ wsX3_overhead_r5)))) ++ wsX30 ++ wsX20 ++ wsX10 ++ (vx_atS RX3 83 "java/lang/IllegalStateException" ["java/lang/RuntimeException", "java/lang/Exception"]).filter goodWord ++ (vx_atS RX3 200 "java/lang/IndexOutOfBoundsException" ["java/lang/RuntimeException", "java/lang/Exception"]).filter goodWord ++ (vx_atS RX3 76 "java/lang/IllegalArgumentException" ["java/lang/RuntimeException", "java/lang/Exception"]).filter goodWord)
def wsX3_income_r1 : List Cond := [Cond.constant RX3 118 (10000000), Cond.methodLink RX3 90 yX3_requireWell, Cond.instanceMethod yX3_requireWell, Cond.selects RX3 yX3_requireWell yX3_requireWell, Cond.initialized RX3, Cond.code yX3_requireWell cX3_requireWell 2 none, Cond.classLink RX3 196 "java/lang/IndexOutOfBoundsException", Cond.initialized "java/lang/IndexOutOfBoundsException", Cond.fieldLink RX3 26 "JointVenture" "wellCount" "I", Cond.methodLink RX3 68 yX3_requireRange, Cond.instanceMethod yX3_requireRange, Cond.selects RX3 yX3_requireRange yX3_requireRange, Cond.code yX3_requireRange cX3_requireRange 4 none, Cond.classLink RX3 72 "java/lang/IllegalArgumentException", Cond.initialized "java/lang/IllegalArgumentException", Cond.methodLink RX3 119 yX3_requireRoomForVoucher, Cond.instanceMethod yX3_requireRoomForVoucher, Cond.selects RX3 yX3_requireRoomForVoucher yX3_requireRoomForVoucher, Cond.code yX3_requireRoomForVoucher cX3_requireRoomForVoucher 1 none, Cond.classLink RX3 79 "java/lang/IllegalStateException", Cond.initialized "java/lang/IllegalStateException", Cond.fieldLink RX3 35 "JointVenture" "voucherCount" "I", Cond.methodLink RX3 122 yX3_addVoucher, Cond.instanceMethod yX3_addVoucher]
def wsX3_income_r2 : List Cond := [Cond.selects RX3 yX3_addVoucher yX3_addVoucher, Cond.code yX3_addVoucher cX3_addVoucher 4 (some .int), Cond.fieldLink RX3 29 "JointVenture" "voucherWells" "[I", Cond.fieldLink RX3 32 "JointVenture" "voucherAmounts" "[I", Cond.fieldLink RX3 22 "JointVenture" "wells" "[LJointVenture$Well;", Cond.fieldLink RX3 97 "JointVenture$Well" "hadVoucher" "Z", Cond.methodLink RX3 209 yX3_account, Cond.instanceMethod yX3_account, Cond.selects RX3 yX3_account yX3_account, Cond.code yX3_account cX3_account 4 none, Cond.methodLink RX3 215 yX3_accountCost, Cond.instanceMethod yX3_accountCost, Cond.selects RX3 yX3_accountCost yX3_accountCost, Cond.code yX3_accountCost cX3_accountCost 4 none, Cond.fieldLink RX3 147 "JointVenture$Well" "charged" "[I", Cond.fieldLink RX3 63 "JointVenture" "portions" "[I", Cond.fieldLink RX3 115 "JointVenture$Well" "out" "[Z", Cond.fieldLink RX3 140 "JointVenture$Well" "toEarn" "[J", Cond.fieldLink RX3 57 "JointVenture" "ownParts" "[I", Cond.fieldLink RX3 87 "JointVenture$Well" "penalty" "I", Cond.methodLink RX3 153 yX3_divideCost, Cond.instanceMethod yX3_divideCost, Cond.selects RX3 yX3_divideCost yX3_divideCost, Cond.code yX3_divideCost cX3_divideCost 4 none]
def wsX3_income_r3 : List Cond := [Cond.fieldLink RX3 53 "JointVenture" "division" "LJointVenture$Division;", Cond.fieldLink RX3 9 "JointVenture" "shares" "[I", Cond.fieldLink RX3 60 "JointVenture" "weights" "[I", Cond.methodLink RX3 162 yX1_divide, Cond.instanceMethod yX1_divide, Cond.selects RX1 yX1_divide yX1_divide, Cond.initialized RX1, Cond.code yX1_divide cX1_divide 10 none, Cond.fieldLink RX1 9 "JointVenture$Division" "remainders" "[J", Cond.constantLong RX1 25 (-1), Cond.methodLink RX1 15 yJ7_fill_53178, Cond.static yJ7_fill_53178, Cond.initialized RJ7, Cond.code yJ7_fill_53178 cJ7_fill_53178 4 none, Cond.methodLink RX1 21 yX1_firstWithGreatestRemainder, Cond.instanceMethod yX1_firstWithGreatestRemainder, Cond.selects RX1 yX1_firstWithGreatestRemainder yX1_firstWithGreatestRemainder, Cond.code yX1_firstWithGreatestRemainder cX1_firstWithGreatestRemainder 3 (some .int), Cond.methodLink RX3 232 yX3_weighThoseIn, Cond.instanceMethod yX3_weighThoseIn, Cond.selects RX3 yX3_weighThoseIn yX3_weighThoseIn, Cond.code yX3_weighThoseIn cX3_weighThoseIn 3 none, Cond.methodLink RX3 136 yX3_shareIfIn, Cond.instanceMethod yX3_shareIfIn]
def wsX3_income_r4 : List Cond := [Cond.selects RX3 yX3_shareIfIn yX3_shareIfIn, Cond.code yX3_shareIfIn cX3_shareIfIn 3 (some .int), Cond.methodLink RX3 236 yX3_ownPartsOfThoseOut, Cond.instanceMethod yX3_ownPartsOfThoseOut, Cond.selects RX3 yX3_ownPartsOfThoseOut yX3_ownPartsOfThoseOut, Cond.code yX3_ownPartsOfThoseOut cX3_ownPartsOfThoseOut 4 (some .int), Cond.methodLink RX3 224 yX3_penaltyOn, Cond.instanceMethod yX3_penaltyOn, Cond.selects RX3 yX3_penaltyOn yX3_penaltyOn, Cond.code yX3_penaltyOn cX3_penaltyOn 3 (some .long), Cond.constantLong RX3 228 (99), Cond.constantLong RX3 230 (100), Cond.methodLink RX3 218 yX3_accountIncome, Cond.instanceMethod yX3_accountIncome, Cond.selects RX3 yX3_accountIncome yX3_accountIncome, Cond.code yX3_accountIncome cX3_accountIncome 5 none, Cond.fieldLink RX3 150 "JointVenture$Well" "credited" "[I", Cond.methodLink RX3 240 yX2_takenOf, Cond.instanceMethod yX2_takenOf, Cond.selects RX2 yX2_takenOf yX2_takenOf, Cond.initialized RX2, Cond.code yX2_takenOf cX2_takenOf 3 (some .int), Cond.fieldLink RX2 23 "JointVenture$Well" "out" "[Z", Cond.fieldLink RX2 26 "JointVenture$Well" "toEarn" "[J"]
def wsX3_income_r5 : List Cond := [Cond.methodLink RX2 49 Lib.MathLoose.min_long.x, Cond.static Lib.MathLoose.min_long.x, Cond.initialized "java/lang/Math", Cond.code Lib.MathLoose.min_long.x Lib.MathLoose.min_long.code 4 (some .long), Cond.methodLink RX3 243 yX3_creditTaken, Cond.instanceMethod yX3_creditTaken, Cond.selects RX3 yX3_creditTaken yX3_creditTaken, Cond.code yX3_creditTaken cX3_creditTaken 4 none, Cond.methodLink RX3 221 yX2_takeBack, Cond.instanceMethod yX2_takeBack, Cond.selects RX2 yX2_takeBack yX2_takeBack, Cond.code yX2_takeBack cX2_takeBack 3 none, Cond.fieldLink RX2 30 "JointVenture$Well" "backAt" "[I"]
def wsX3_income : List Cond := .code yX3_income cX3_income 3 (some .int) :: ((wsX3_income_r1 ++ (wsX3_income_r2 ++ (wsX3_income_r3 ++ (wsX3_income_r4 ++ wsX3_income_r5)))) ++ wsX30 ++ wsX20 ++ wsX10 ++ (vx_atS RX3 200 "java/lang/IndexOutOfBoundsException" ["java/lang/RuntimeException", "java/lang/Exception"]).filter goodWord ++ (vx_atS RX3 76 "java/lang/IllegalArgumentException" ["java/lang/RuntimeException", "java/lang/Exception"]).filter goodWord ++ (vx_atS RX3 83 "java/lang/IllegalStateException" ["java/lang/RuntimeException", "java/lang/Exception"]).filter goodWord)
def wsX3_requireVoucher : List Cond := .code yX3_requireVoucher cX3_requireVoucher 2 none :: ([.classLink RX3 196 "java/lang/IndexOutOfBoundsException", .initialized "java/lang/IndexOutOfBoundsException", .fieldLink RX3 35 "JointVenture" "voucherCount" "I"] ++ wsX30 ++ (vx_atS RX3 200 "java/lang/IndexOutOfBoundsException" ["java/lang/RuntimeException", "java/lang/Exception"]).filter goodWord)
def wsX3_accountAnew_r1 : List Cond := [Cond.fieldLink RX3 22 "JointVenture" "wells" "[LJointVenture$Well;", Cond.fieldLink RX3 35 "JointVenture" "voucherCount" "I", Cond.fieldLink RX3 29 "JointVenture" "voucherWells" "[I", Cond.methodLink RX3 212 yX2_clearAccounts, Cond.instanceMethod yX2_clearAccounts, Cond.selects RX2 yX2_clearAccounts yX2_clearAccounts, Cond.initialized RX2, Cond.code yX2_clearAccounts cX2_clearAccounts 2 none, Cond.fieldLink RX2 26 "JointVenture$Well" "toEarn" "[J", Cond.fieldLink RX2 30 "JointVenture$Well" "backAt" "[I", Cond.fieldLink RX2 34 "JointVenture$Well" "charged" "[I", Cond.fieldLink RX2 37 "JointVenture$Well" "credited" "[I", Cond.fieldLink RX2 23 "JointVenture$Well" "out" "[Z", Cond.fieldLink RX2 19 "JointVenture$Well" "electedOut" "[Z", Cond.methodLink RX2 46 yJ7_fill_d0a16, Cond.static yJ7_fill_d0a16, Cond.initialized RJ7, Cond.code yJ7_fill_d0a16 cJ7_fill_d0a16 5 none, Cond.methodLink RX2 40 yJ7_fill_53178, Cond.static yJ7_fill_53178, Cond.code yJ7_fill_53178 cJ7_fill_53178 4 none, Cond.methodLink RX3 209 yX3_account, Cond.instanceMethod yX3_account, Cond.selects RX3 yX3_account yX3_account]
def wsX3_accountAnew_r2 : List Cond := [Cond.initialized RX3, Cond.code yX3_account cX3_account 4 none, Cond.fieldLink RX3 32 "JointVenture" "voucherAmounts" "[I", Cond.methodLink RX3 215 yX3_accountCost, Cond.instanceMethod yX3_accountCost, Cond.selects RX3 yX3_accountCost yX3_accountCost, Cond.code yX3_accountCost cX3_accountCost 4 none, Cond.fieldLink RX3 147 "JointVenture$Well" "charged" "[I", Cond.fieldLink RX3 63 "JointVenture" "portions" "[I", Cond.fieldLink RX3 115 "JointVenture$Well" "out" "[Z", Cond.fieldLink RX3 140 "JointVenture$Well" "toEarn" "[J", Cond.fieldLink RX3 57 "JointVenture" "ownParts" "[I", Cond.fieldLink RX3 87 "JointVenture$Well" "penalty" "I", Cond.methodLink RX3 153 yX3_divideCost, Cond.instanceMethod yX3_divideCost, Cond.selects RX3 yX3_divideCost yX3_divideCost, Cond.code yX3_divideCost cX3_divideCost 4 none, Cond.fieldLink RX3 53 "JointVenture" "division" "LJointVenture$Division;", Cond.fieldLink RX3 9 "JointVenture" "shares" "[I", Cond.fieldLink RX3 60 "JointVenture" "weights" "[I", Cond.methodLink RX3 162 yX1_divide, Cond.instanceMethod yX1_divide, Cond.selects RX1 yX1_divide yX1_divide, Cond.initialized RX1]
def wsX3_accountAnew_r3 : List Cond := [Cond.code yX1_divide cX1_divide 10 none, Cond.fieldLink RX1 9 "JointVenture$Division" "remainders" "[J", Cond.constantLong RX1 25 (-1), Cond.methodLink RX1 15 yJ7_fill_53178, Cond.methodLink RX1 21 yX1_firstWithGreatestRemainder, Cond.instanceMethod yX1_firstWithGreatestRemainder, Cond.selects RX1 yX1_firstWithGreatestRemainder yX1_firstWithGreatestRemainder, Cond.code yX1_firstWithGreatestRemainder cX1_firstWithGreatestRemainder 3 (some .int), Cond.methodLink RX3 232 yX3_weighThoseIn, Cond.instanceMethod yX3_weighThoseIn, Cond.selects RX3 yX3_weighThoseIn yX3_weighThoseIn, Cond.code yX3_weighThoseIn cX3_weighThoseIn 3 none, Cond.methodLink RX3 136 yX3_shareIfIn, Cond.instanceMethod yX3_shareIfIn, Cond.selects RX3 yX3_shareIfIn yX3_shareIfIn, Cond.code yX3_shareIfIn cX3_shareIfIn 3 (some .int), Cond.methodLink RX3 236 yX3_ownPartsOfThoseOut, Cond.instanceMethod yX3_ownPartsOfThoseOut, Cond.selects RX3 yX3_ownPartsOfThoseOut yX3_ownPartsOfThoseOut, Cond.code yX3_ownPartsOfThoseOut cX3_ownPartsOfThoseOut 4 (some .int), Cond.methodLink RX3 224 yX3_penaltyOn, Cond.instanceMethod yX3_penaltyOn, Cond.selects RX3 yX3_penaltyOn yX3_penaltyOn, Cond.code yX3_penaltyOn cX3_penaltyOn 3 (some .long)]
def wsX3_accountAnew_r4 : List Cond := [Cond.constantLong RX3 228 (99), Cond.constantLong RX3 230 (100), Cond.methodLink RX3 218 yX3_accountIncome, Cond.instanceMethod yX3_accountIncome, Cond.selects RX3 yX3_accountIncome yX3_accountIncome, Cond.code yX3_accountIncome cX3_accountIncome 5 none, Cond.fieldLink RX3 150 "JointVenture$Well" "credited" "[I", Cond.methodLink RX3 240 yX2_takenOf, Cond.instanceMethod yX2_takenOf, Cond.selects RX2 yX2_takenOf yX2_takenOf, Cond.code yX2_takenOf cX2_takenOf 3 (some .int), Cond.methodLink RX2 49 Lib.MathLoose.min_long.x, Cond.static Lib.MathLoose.min_long.x, Cond.initialized "java/lang/Math", Cond.code Lib.MathLoose.min_long.x Lib.MathLoose.min_long.code 4 (some .long), Cond.methodLink RX3 243 yX3_creditTaken, Cond.instanceMethod yX3_creditTaken, Cond.selects RX3 yX3_creditTaken yX3_creditTaken, Cond.code yX3_creditTaken cX3_creditTaken 4 none, Cond.methodLink RX3 221 yX2_takeBack, Cond.instanceMethod yX2_takeBack, Cond.selects RX2 yX2_takeBack yX2_takeBack, Cond.code yX2_takeBack cX2_takeBack 3 none]
def wsX3_accountAnew : List Cond := .code yX3_accountAnew cX3_accountAnew 3 none :: ((wsX3_accountAnew_r1 ++ (wsX3_accountAnew_r2 ++ (wsX3_accountAnew_r3 ++ wsX3_accountAnew_r4))) ++ wsX30 ++ wsX20 ++ wsX10)
def wsX3_move_r1 : List Cond := [Cond.classLink RX3 79 "java/lang/IllegalStateException", Cond.initialized "java/lang/IllegalStateException", Cond.fieldLink RX3 32 "JointVenture" "voucherAmounts" "[I", Cond.fieldLink RX3 29 "JointVenture" "voucherWells" "[I", Cond.fieldLink RX3 22 "JointVenture" "wells" "[LJointVenture$Well;", Cond.fieldLink RX3 97 "JointVenture$Well" "hadVoucher" "Z", Cond.methodLink RX3 128 yX3_requireVoucher, Cond.instanceMethod yX3_requireVoucher, Cond.selects RX3 yX3_requireVoucher yX3_requireVoucher, Cond.initialized RX3, Cond.code yX3_requireVoucher cX3_requireVoucher 2 none, Cond.classLink RX3 196 "java/lang/IndexOutOfBoundsException", Cond.initialized "java/lang/IndexOutOfBoundsException", Cond.fieldLink RX3 35 "JointVenture" "voucherCount" "I", Cond.methodLink RX3 90 yX3_requireWell, Cond.instanceMethod yX3_requireWell, Cond.selects RX3 yX3_requireWell yX3_requireWell, Cond.code yX3_requireWell cX3_requireWell 2 none, Cond.fieldLink RX3 26 "JointVenture" "wellCount" "I", Cond.methodLink RX3 133 yX3_accountAnew, Cond.instanceMethod yX3_accountAnew, Cond.selects RX3 yX3_accountAnew yX3_accountAnew, Cond.code yX3_accountAnew cX3_accountAnew 3 none, Cond.methodLink RX3 212 yX2_clearAccounts]
def wsX3_move_r2 : List Cond := [Cond.instanceMethod yX2_clearAccounts, Cond.selects RX2 yX2_clearAccounts yX2_clearAccounts, Cond.initialized RX2, Cond.code yX2_clearAccounts cX2_clearAccounts 2 none, Cond.fieldLink RX2 26 "JointVenture$Well" "toEarn" "[J", Cond.fieldLink RX2 30 "JointVenture$Well" "backAt" "[I", Cond.fieldLink RX2 34 "JointVenture$Well" "charged" "[I", Cond.fieldLink RX2 37 "JointVenture$Well" "credited" "[I", Cond.fieldLink RX2 23 "JointVenture$Well" "out" "[Z", Cond.fieldLink RX2 19 "JointVenture$Well" "electedOut" "[Z", Cond.methodLink RX2 46 yJ7_fill_d0a16, Cond.static yJ7_fill_d0a16, Cond.initialized RJ7, Cond.code yJ7_fill_d0a16 cJ7_fill_d0a16 5 none, Cond.methodLink RX2 40 yJ7_fill_53178, Cond.static yJ7_fill_53178, Cond.code yJ7_fill_53178 cJ7_fill_53178 4 none, Cond.methodLink RX3 209 yX3_account, Cond.instanceMethod yX3_account, Cond.selects RX3 yX3_account yX3_account, Cond.code yX3_account cX3_account 4 none, Cond.methodLink RX3 215 yX3_accountCost, Cond.instanceMethod yX3_accountCost, Cond.selects RX3 yX3_accountCost yX3_accountCost]
def wsX3_move_r3 : List Cond := [Cond.code yX3_accountCost cX3_accountCost 4 none, Cond.fieldLink RX3 147 "JointVenture$Well" "charged" "[I", Cond.fieldLink RX3 63 "JointVenture" "portions" "[I", Cond.fieldLink RX3 115 "JointVenture$Well" "out" "[Z", Cond.fieldLink RX3 140 "JointVenture$Well" "toEarn" "[J", Cond.fieldLink RX3 57 "JointVenture" "ownParts" "[I", Cond.fieldLink RX3 87 "JointVenture$Well" "penalty" "I", Cond.methodLink RX3 153 yX3_divideCost, Cond.instanceMethod yX3_divideCost, Cond.selects RX3 yX3_divideCost yX3_divideCost, Cond.code yX3_divideCost cX3_divideCost 4 none, Cond.fieldLink RX3 53 "JointVenture" "division" "LJointVenture$Division;", Cond.fieldLink RX3 9 "JointVenture" "shares" "[I", Cond.fieldLink RX3 60 "JointVenture" "weights" "[I", Cond.methodLink RX3 162 yX1_divide, Cond.instanceMethod yX1_divide, Cond.selects RX1 yX1_divide yX1_divide, Cond.initialized RX1, Cond.code yX1_divide cX1_divide 10 none, Cond.fieldLink RX1 9 "JointVenture$Division" "remainders" "[J", Cond.constantLong RX1 25 (-1), Cond.methodLink RX1 15 yJ7_fill_53178, Cond.methodLink RX1 21 yX1_firstWithGreatestRemainder, Cond.instanceMethod yX1_firstWithGreatestRemainder]
def wsX3_move_r4 : List Cond := [Cond.selects RX1 yX1_firstWithGreatestRemainder yX1_firstWithGreatestRemainder, Cond.code yX1_firstWithGreatestRemainder cX1_firstWithGreatestRemainder 3 (some .int), Cond.methodLink RX3 232 yX3_weighThoseIn, Cond.instanceMethod yX3_weighThoseIn, Cond.selects RX3 yX3_weighThoseIn yX3_weighThoseIn, Cond.code yX3_weighThoseIn cX3_weighThoseIn 3 none, Cond.methodLink RX3 136 yX3_shareIfIn, Cond.instanceMethod yX3_shareIfIn, Cond.selects RX3 yX3_shareIfIn yX3_shareIfIn, Cond.code yX3_shareIfIn cX3_shareIfIn 3 (some .int), Cond.methodLink RX3 236 yX3_ownPartsOfThoseOut, Cond.instanceMethod yX3_ownPartsOfThoseOut, Cond.selects RX3 yX3_ownPartsOfThoseOut yX3_ownPartsOfThoseOut, Cond.code yX3_ownPartsOfThoseOut cX3_ownPartsOfThoseOut 4 (some .int), Cond.methodLink RX3 224 yX3_penaltyOn, Cond.instanceMethod yX3_penaltyOn, Cond.selects RX3 yX3_penaltyOn yX3_penaltyOn, Cond.code yX3_penaltyOn cX3_penaltyOn 3 (some .long), Cond.constantLong RX3 228 (99), Cond.constantLong RX3 230 (100), Cond.methodLink RX3 218 yX3_accountIncome, Cond.instanceMethod yX3_accountIncome, Cond.selects RX3 yX3_accountIncome yX3_accountIncome, Cond.code yX3_accountIncome cX3_accountIncome 5 none]
def wsX3_move_r5 : List Cond := [Cond.fieldLink RX3 150 "JointVenture$Well" "credited" "[I", Cond.methodLink RX3 240 yX2_takenOf, Cond.instanceMethod yX2_takenOf, Cond.selects RX2 yX2_takenOf yX2_takenOf, Cond.code yX2_takenOf cX2_takenOf 3 (some .int), Cond.methodLink RX2 49 Lib.MathLoose.min_long.x, Cond.static Lib.MathLoose.min_long.x, Cond.initialized "java/lang/Math", Cond.code Lib.MathLoose.min_long.x Lib.MathLoose.min_long.code 4 (some .long), Cond.methodLink RX3 243 yX3_creditTaken, Cond.instanceMethod yX3_creditTaken, Cond.selects RX3 yX3_creditTaken yX3_creditTaken, Cond.code yX3_creditTaken cX3_creditTaken 4 none, Cond.methodLink RX3 221 yX2_takeBack, Cond.instanceMethod yX2_takeBack, Cond.selects RX2 yX2_takeBack yX2_takeBack, Cond.code yX2_takeBack cX2_takeBack 3 none]
def wsX3_move : List Cond := .code yX3_move cX3_move 4 (some .int) :: ((wsX3_move_r1 ++ (wsX3_move_r2 ++ (wsX3_move_r3 ++ (wsX3_move_r4 ++ wsX3_move_r5)))) ++ wsX30 ++ wsX20 ++ wsX10 ++ (vx_atS RX3 83 "java/lang/IllegalStateException" ["java/lang/RuntimeException", "java/lang/Exception"]).filter goodWord ++ (vx_atS RX3 200 "java/lang/IndexOutOfBoundsException" ["java/lang/RuntimeException", "java/lang/Exception"]).filter goodWord)
def wsX3_vouchers : List Cond := .code yX3_vouchers cX3_vouchers 1 (some .int) :: ([.fieldLink RX3 35 "JointVenture" "voucherCount" "I"] ++ wsX30)
def wsX3_wellOf : List Cond := .code yX3_wellOf cX3_wellOf 2 (some .int) :: ([.fieldLink RX3 29 "JointVenture" "voucherWells" "[I", .methodLink RX3 128 yX3_requireVoucher, .instanceMethod yX3_requireVoucher, .selects RX3 yX3_requireVoucher yX3_requireVoucher, .initialized RX3, .code yX3_requireVoucher cX3_requireVoucher 2 none, .classLink RX3 196 "java/lang/IndexOutOfBoundsException", .initialized "java/lang/IndexOutOfBoundsException", .fieldLink RX3 35 "JointVenture" "voucherCount" "I"] ++ wsX30 ++ (vx_atS RX3 200 "java/lang/IndexOutOfBoundsException" ["java/lang/RuntimeException", "java/lang/Exception"]).filter goodWord)
def wsX3_amountOf : List Cond := .code yX3_amountOf cX3_amountOf 2 (some .int) :: ([.fieldLink RX3 32 "JointVenture" "voucherAmounts" "[I", .methodLink RX3 128 yX3_requireVoucher, .instanceMethod yX3_requireVoucher, .selects RX3 yX3_requireVoucher yX3_requireVoucher, .initialized RX3, .code yX3_requireVoucher cX3_requireVoucher 2 none, .classLink RX3 196 "java/lang/IndexOutOfBoundsException", .initialized "java/lang/IndexOutOfBoundsException", .fieldLink RX3 35 "JointVenture" "voucherCount" "I"] ++ wsX30 ++ (vx_atS RX3 200 "java/lang/IndexOutOfBoundsException" ["java/lang/RuntimeException", "java/lang/Exception"]).filter goodWord)
def wsX3_isIn : List Cond := .code yX3_isIn cX3_isIn 3 (some .boolean) :: ([.fieldLink RX3 22 "JointVenture" "wells" "[LJointVenture$Well;", .methodLink RX3 90 yX3_requireWell, .instanceMethod yX3_requireWell, .selects RX3 yX3_requireWell yX3_requireWell, .initialized RX3, .code yX3_requireWell cX3_requireWell 2 none, .classLink RX3 196 "java/lang/IndexOutOfBoundsException", .initialized "java/lang/IndexOutOfBoundsException", .fieldLink RX3 26 "JointVenture" "wellCount" "I", .methodLink RX3 94 yX3_requirePartner, .instanceMethod yX3_requirePartner, .selects RX3 yX3_requirePartner yX3_requirePartner, .code yX3_requirePartner cX3_requirePartner 2 none, .methodLink RX3 136 yX3_shareIfIn, .instanceMethod yX3_shareIfIn, .selects RX3 yX3_shareIfIn yX3_shareIfIn, .code yX3_shareIfIn cX3_shareIfIn 3 (some .int), .fieldLink RX3 115 "JointVenture$Well" "out" "[Z", .fieldLink RX3 9 "JointVenture" "shares" "[I"] ++ wsX30 ++ wsX20 ++ (vx_atS RX3 200 "java/lang/IndexOutOfBoundsException" ["java/lang/RuntimeException", "java/lang/Exception"]).filter goodWord)
def wsX3_toEarn : List Cond := .code yX3_toEarn cX3_toEarn 3 (some .long) :: ([.fieldLink RX3 22 "JointVenture" "wells" "[LJointVenture$Well;", .fieldLink RX3 140 "JointVenture$Well" "toEarn" "[J", .methodLink RX3 90 yX3_requireWell, .instanceMethod yX3_requireWell, .selects RX3 yX3_requireWell yX3_requireWell, .initialized RX3, .code yX3_requireWell cX3_requireWell 2 none, .classLink RX3 196 "java/lang/IndexOutOfBoundsException", .initialized "java/lang/IndexOutOfBoundsException", .fieldLink RX3 26 "JointVenture" "wellCount" "I", .methodLink RX3 94 yX3_requirePartner, .instanceMethod yX3_requirePartner, .selects RX3 yX3_requirePartner yX3_requirePartner, .code yX3_requirePartner cX3_requirePartner 2 none] ++ wsX30 ++ wsX20 ++ (vx_atS RX3 200 "java/lang/IndexOutOfBoundsException" ["java/lang/RuntimeException", "java/lang/Exception"]).filter goodWord)
def wsX3_backAt : List Cond := .code yX3_backAt cX3_backAt 3 (some .int) :: ([.fieldLink RX3 22 "JointVenture" "wells" "[LJointVenture$Well;", .fieldLink RX3 144 "JointVenture$Well" "backAt" "[I", .methodLink RX3 90 yX3_requireWell, .instanceMethod yX3_requireWell, .selects RX3 yX3_requireWell yX3_requireWell, .initialized RX3, .code yX3_requireWell cX3_requireWell 2 none, .classLink RX3 196 "java/lang/IndexOutOfBoundsException", .initialized "java/lang/IndexOutOfBoundsException", .fieldLink RX3 26 "JointVenture" "wellCount" "I", .methodLink RX3 94 yX3_requirePartner, .instanceMethod yX3_requirePartner, .selects RX3 yX3_requirePartner yX3_requirePartner, .code yX3_requirePartner cX3_requirePartner 2 none] ++ wsX30 ++ wsX20 ++ (vx_atS RX3 200 "java/lang/IndexOutOfBoundsException" ["java/lang/RuntimeException", "java/lang/Exception"]).filter goodWord)
def wsX3_charged : List Cond := .code yX3_charged cX3_charged 3 (some .int) :: ([.fieldLink RX3 22 "JointVenture" "wells" "[LJointVenture$Well;", .fieldLink RX3 147 "JointVenture$Well" "charged" "[I", .methodLink RX3 90 yX3_requireWell, .instanceMethod yX3_requireWell, .selects RX3 yX3_requireWell yX3_requireWell, .initialized RX3, .code yX3_requireWell cX3_requireWell 2 none, .classLink RX3 196 "java/lang/IndexOutOfBoundsException", .initialized "java/lang/IndexOutOfBoundsException", .fieldLink RX3 26 "JointVenture" "wellCount" "I", .methodLink RX3 94 yX3_requirePartner, .instanceMethod yX3_requirePartner, .selects RX3 yX3_requirePartner yX3_requirePartner, .code yX3_requirePartner cX3_requirePartner 2 none] ++ wsX30 ++ wsX20 ++ (vx_atS RX3 200 "java/lang/IndexOutOfBoundsException" ["java/lang/RuntimeException", "java/lang/Exception"]).filter goodWord)
def wsX3_credited : List Cond := .code yX3_credited cX3_credited 3 (some .int) :: ([.fieldLink RX3 22 "JointVenture" "wells" "[LJointVenture$Well;", .fieldLink RX3 150 "JointVenture$Well" "credited" "[I", .methodLink RX3 90 yX3_requireWell, .instanceMethod yX3_requireWell, .selects RX3 yX3_requireWell yX3_requireWell, .initialized RX3, .code yX3_requireWell cX3_requireWell 2 none, .classLink RX3 196 "java/lang/IndexOutOfBoundsException", .initialized "java/lang/IndexOutOfBoundsException", .fieldLink RX3 26 "JointVenture" "wellCount" "I", .methodLink RX3 94 yX3_requirePartner, .instanceMethod yX3_requirePartner, .selects RX3 yX3_requirePartner yX3_requirePartner, .code yX3_requirePartner cX3_requirePartner 2 none] ++ wsX30 ++ wsX20 ++ (vx_atS RX3 200 "java/lang/IndexOutOfBoundsException" ["java/lang/RuntimeException", "java/lang/Exception"]).filter goodWord)
def wsX3_weight_r1 : List Cond := [Cond.fieldLink RX3 22 "JointVenture" "wells" "[LJointVenture$Well;", Cond.fieldLink RX3 63 "JointVenture" "portions" "[I", Cond.methodLink RX3 90 yX3_requireWell, Cond.instanceMethod yX3_requireWell, Cond.selects RX3 yX3_requireWell yX3_requireWell, Cond.initialized RX3, Cond.code yX3_requireWell cX3_requireWell 2 none, Cond.classLink RX3 196 "java/lang/IndexOutOfBoundsException", Cond.initialized "java/lang/IndexOutOfBoundsException", Cond.fieldLink RX3 26 "JointVenture" "wellCount" "I", Cond.methodLink RX3 94 yX3_requirePartner, Cond.instanceMethod yX3_requirePartner, Cond.selects RX3 yX3_requirePartner yX3_requirePartner, Cond.code yX3_requirePartner cX3_requirePartner 2 none, Cond.methodLink RX3 153 yX3_divideCost, Cond.instanceMethod yX3_divideCost, Cond.selects RX3 yX3_divideCost yX3_divideCost, Cond.code yX3_divideCost cX3_divideCost 4 none, Cond.fieldLink RX3 53 "JointVenture" "division" "LJointVenture$Division;", Cond.fieldLink RX3 9 "JointVenture" "shares" "[I", Cond.fieldLink RX3 57 "JointVenture" "ownParts" "[I", Cond.fieldLink RX3 60 "JointVenture" "weights" "[I", Cond.fieldLink RX3 115 "JointVenture$Well" "out" "[Z", Cond.methodLink RX3 162 yX1_divide]
def wsX3_weight_r2 : List Cond := [Cond.instanceMethod yX1_divide, Cond.selects RX1 yX1_divide yX1_divide, Cond.initialized RX1, Cond.code yX1_divide cX1_divide 10 none, Cond.fieldLink RX1 9 "JointVenture$Division" "remainders" "[J", Cond.constantLong RX1 25 (-1), Cond.methodLink RX1 15 yJ7_fill_53178, Cond.static yJ7_fill_53178, Cond.initialized RJ7, Cond.code yJ7_fill_53178 cJ7_fill_53178 4 none, Cond.methodLink RX1 21 yX1_firstWithGreatestRemainder, Cond.instanceMethod yX1_firstWithGreatestRemainder, Cond.selects RX1 yX1_firstWithGreatestRemainder yX1_firstWithGreatestRemainder, Cond.code yX1_firstWithGreatestRemainder cX1_firstWithGreatestRemainder 3 (some .int), Cond.methodLink RX3 232 yX3_weighThoseIn, Cond.instanceMethod yX3_weighThoseIn, Cond.selects RX3 yX3_weighThoseIn yX3_weighThoseIn, Cond.code yX3_weighThoseIn cX3_weighThoseIn 3 none, Cond.methodLink RX3 136 yX3_shareIfIn, Cond.instanceMethod yX3_shareIfIn, Cond.selects RX3 yX3_shareIfIn yX3_shareIfIn, Cond.code yX3_shareIfIn cX3_shareIfIn 3 (some .int), Cond.methodLink RX3 236 yX3_ownPartsOfThoseOut, Cond.instanceMethod yX3_ownPartsOfThoseOut]
def wsX3_weight_r3 : List Cond := [Cond.selects RX3 yX3_ownPartsOfThoseOut yX3_ownPartsOfThoseOut, Cond.code yX3_ownPartsOfThoseOut cX3_ownPartsOfThoseOut 4 (some .int)]
def wsX3_weight : List Cond := .code yX3_weight cX3_weight 3 (some .int) :: ((wsX3_weight_r1 ++ (wsX3_weight_r2 ++ wsX3_weight_r3)) ++ wsX30 ++ wsX20 ++ wsX10 ++ (vx_atS RX3 200 "java/lang/IndexOutOfBoundsException" ["java/lang/RuntimeException", "java/lang/Exception"]).filter goodWord)
def wsX3_call_r1 : List Cond := [Cond.classLink RX3 79 "java/lang/IllegalStateException", Cond.initialized "java/lang/IllegalStateException", Cond.constant RX3 118 (10000000), Cond.fieldLink RX3 44 "JointVenture" "cashCallCount" "I", Cond.fieldLink RX3 22 "JointVenture" "wells" "[LJointVenture$Well;", Cond.fieldLink RX3 53 "JointVenture" "division" "LJointVenture$Division;", Cond.fieldLink RX3 63 "JointVenture" "portions" "[I", Cond.fieldLink RX3 40 "JointVenture" "cashCalls" "[LJointVenture$CashCall;", Cond.fieldLink RX3 159 "JointVenture$CashCall" "asked" "[I", Cond.methodLink RX3 90 yX3_requireWell, Cond.instanceMethod yX3_requireWell, Cond.selects RX3 yX3_requireWell yX3_requireWell, Cond.initialized RX3, Cond.code yX3_requireWell cX3_requireWell 2 none, Cond.classLink RX3 196 "java/lang/IndexOutOfBoundsException", Cond.initialized "java/lang/IndexOutOfBoundsException", Cond.fieldLink RX3 26 "JointVenture" "wellCount" "I", Cond.methodLink RX3 68 yX3_requireRange, Cond.instanceMethod yX3_requireRange, Cond.selects RX3 yX3_requireRange yX3_requireRange, Cond.code yX3_requireRange cX3_requireRange 4 none, Cond.classLink RX3 72 "java/lang/IllegalArgumentException", Cond.initialized "java/lang/IllegalArgumentException", Cond.methodLink RX3 153 yX3_divideCost]
def wsX3_call_r2 : List Cond := [Cond.instanceMethod yX3_divideCost, Cond.selects RX3 yX3_divideCost yX3_divideCost, Cond.code yX3_divideCost cX3_divideCost 4 none, Cond.fieldLink RX3 9 "JointVenture" "shares" "[I", Cond.fieldLink RX3 57 "JointVenture" "ownParts" "[I", Cond.fieldLink RX3 60 "JointVenture" "weights" "[I", Cond.fieldLink RX3 115 "JointVenture$Well" "out" "[Z", Cond.methodLink RX3 162 yX1_divide, Cond.instanceMethod yX1_divide, Cond.selects RX1 yX1_divide yX1_divide, Cond.initialized RX1, Cond.code yX1_divide cX1_divide 10 none, Cond.fieldLink RX1 9 "JointVenture$Division" "remainders" "[J", Cond.constantLong RX1 25 (-1), Cond.methodLink RX1 15 yJ7_fill_53178, Cond.static yJ7_fill_53178, Cond.initialized RJ7, Cond.code yJ7_fill_53178 cJ7_fill_53178 4 none, Cond.methodLink RX1 21 yX1_firstWithGreatestRemainder, Cond.instanceMethod yX1_firstWithGreatestRemainder, Cond.selects RX1 yX1_firstWithGreatestRemainder yX1_firstWithGreatestRemainder, Cond.code yX1_firstWithGreatestRemainder cX1_firstWithGreatestRemainder 3 (some .int), Cond.methodLink RX3 232 yX3_weighThoseIn, Cond.instanceMethod yX3_weighThoseIn]
def wsX3_call_r3 : List Cond := [Cond.selects RX3 yX3_weighThoseIn yX3_weighThoseIn, Cond.code yX3_weighThoseIn cX3_weighThoseIn 3 none, Cond.methodLink RX3 136 yX3_shareIfIn, Cond.instanceMethod yX3_shareIfIn, Cond.selects RX3 yX3_shareIfIn yX3_shareIfIn, Cond.code yX3_shareIfIn cX3_shareIfIn 3 (some .int), Cond.methodLink RX3 236 yX3_ownPartsOfThoseOut, Cond.instanceMethod yX3_ownPartsOfThoseOut, Cond.selects RX3 yX3_ownPartsOfThoseOut yX3_ownPartsOfThoseOut, Cond.code yX3_ownPartsOfThoseOut cX3_ownPartsOfThoseOut 4 (some .int)]
def wsX3_call : List Cond := .code yX3_call cX3_call 3 (some .int) :: ((wsX3_call_r1 ++ (wsX3_call_r2 ++ wsX3_call_r3)) ++ wsX30 ++ wsX00 ++ wsX20 ++ wsX10 ++ (vx_atS RX3 83 "java/lang/IllegalStateException" ["java/lang/RuntimeException", "java/lang/Exception"]).filter goodWord ++ (vx_atS RX3 200 "java/lang/IndexOutOfBoundsException" ["java/lang/RuntimeException", "java/lang/Exception"]).filter goodWord ++ (vx_atS RX3 76 "java/lang/IllegalArgumentException" ["java/lang/RuntimeException", "java/lang/Exception"]).filter goodWord)
def wsX3_requireCashCall : List Cond := .code yX3_requireCashCall cX3_requireCashCall 2 none :: ([.classLink RX3 196 "java/lang/IndexOutOfBoundsException", .initialized "java/lang/IndexOutOfBoundsException", .fieldLink RX3 44 "JointVenture" "cashCallCount" "I"] ++ wsX30 ++ (vx_atS RX3 200 "java/lang/IndexOutOfBoundsException" ["java/lang/RuntimeException", "java/lang/Exception"]).filter goodWord)
def wsX3_pay : List Cond := .code yX3_pay cX3_pay 5 (some .int) :: ([.classLink RX3 79 "java/lang/IllegalStateException", .initialized "java/lang/IllegalStateException", .fieldLink RX3 40 "JointVenture" "cashCalls" "[LJointVenture$CashCall;", .fieldLink RX3 159 "JointVenture$CashCall" "asked" "[I", .fieldLink RX3 169 "JointVenture$CashCall" "paid" "[I", .methodLink RX3 166 yX3_requireCashCall, .instanceMethod yX3_requireCashCall, .selects RX3 yX3_requireCashCall yX3_requireCashCall, .initialized RX3, .code yX3_requireCashCall cX3_requireCashCall 2 none, .classLink RX3 196 "java/lang/IndexOutOfBoundsException", .initialized "java/lang/IndexOutOfBoundsException", .fieldLink RX3 44 "JointVenture" "cashCallCount" "I", .methodLink RX3 94 yX3_requirePartner, .instanceMethod yX3_requirePartner, .selects RX3 yX3_requirePartner yX3_requirePartner, .code yX3_requirePartner cX3_requirePartner 2 none] ++ wsX30 ++ wsX00 ++ (vx_atS RX3 83 "java/lang/IllegalStateException" ["java/lang/RuntimeException", "java/lang/Exception"]).filter goodWord ++ (vx_atS RX3 200 "java/lang/IndexOutOfBoundsException" ["java/lang/RuntimeException", "java/lang/Exception"]).filter goodWord)
def wsX3_moveToPayers : List Cond := .code yX3_moveToPayers cX3_moveToPayers 4 none :: ([.fieldLink RX3 60 "JointVenture" "weights" "[I", .fieldLink RX3 169 "JointVenture$CashCall" "paid" "[I", .fieldLink RX3 159 "JointVenture$CashCall" "asked" "[I", .fieldLink RX3 53 "JointVenture" "division" "LJointVenture$Division;", .fieldLink RX3 63 "JointVenture" "portions" "[I", .fieldLink RX3 47 "JointVenture" "owed" "[I", .methodLink RX3 162 yX1_divide, .instanceMethod yX1_divide, .selects RX1 yX1_divide yX1_divide, .initialized RX1, .code yX1_divide cX1_divide 10 none, .fieldLink RX1 9 "JointVenture$Division" "remainders" "[J", .constantLong RX1 25 (-1), .methodLink RX1 15 yJ7_fill_53178, .static yJ7_fill_53178, .initialized RJ7, .code yJ7_fill_53178 cJ7_fill_53178 4 none, .methodLink RX1 21 yX1_firstWithGreatestRemainder, .instanceMethod yX1_firstWithGreatestRemainder, .selects RX1 yX1_firstWithGreatestRemainder yX1_firstWithGreatestRemainder, .code yX1_firstWithGreatestRemainder cX1_firstWithGreatestRemainder 3 (some .int)] ++ wsX30 ++ wsX00 ++ wsX10)
def wsX3_shareOut_r1 : List Cond := [Cond.classLink RX3 79 "java/lang/IllegalStateException", Cond.initialized "java/lang/IllegalStateException", Cond.fieldLink RX3 40 "JointVenture" "cashCalls" "[LJointVenture$CashCall;", Cond.methodLink RX3 166 yX3_requireCashCall, Cond.instanceMethod yX3_requireCashCall, Cond.selects RX3 yX3_requireCashCall yX3_requireCashCall, Cond.initialized RX3, Cond.code yX3_requireCashCall cX3_requireCashCall 2 none, Cond.classLink RX3 196 "java/lang/IndexOutOfBoundsException", Cond.initialized "java/lang/IndexOutOfBoundsException", Cond.fieldLink RX3 44 "JointVenture" "cashCallCount" "I", Cond.methodLink RX3 174 yX0_hasPayer, Cond.instanceMethod yX0_hasPayer, Cond.selects RX0 yX0_hasPayer yX0_hasPayer, Cond.initialized RX0, Cond.code yX0_hasPayer cX0_hasPayer 2 (some .boolean), Cond.fieldLink RX0 15 "JointVenture$CashCall" "paid" "[I", Cond.methodLink RX3 180 yX0_askedOfNonPayers, Cond.instanceMethod yX0_askedOfNonPayers, Cond.selects RX0 yX0_askedOfNonPayers yX0_askedOfNonPayers, Cond.code yX0_askedOfNonPayers cX0_askedOfNonPayers 3 (some .int), Cond.fieldLink RX0 9 "JointVenture$CashCall" "asked" "[I", Cond.methodLink RX3 186 yX3_moveToPayers, Cond.instanceMethod yX3_moveToPayers]
def wsX3_shareOut_r2 : List Cond := [Cond.selects RX3 yX3_moveToPayers yX3_moveToPayers, Cond.code yX3_moveToPayers cX3_moveToPayers 4 none, Cond.fieldLink RX3 60 "JointVenture" "weights" "[I", Cond.fieldLink RX3 169 "JointVenture$CashCall" "paid" "[I", Cond.fieldLink RX3 159 "JointVenture$CashCall" "asked" "[I", Cond.fieldLink RX3 53 "JointVenture" "division" "LJointVenture$Division;", Cond.fieldLink RX3 63 "JointVenture" "portions" "[I", Cond.fieldLink RX3 47 "JointVenture" "owed" "[I", Cond.methodLink RX3 162 yX1_divide, Cond.instanceMethod yX1_divide, Cond.selects RX1 yX1_divide yX1_divide, Cond.initialized RX1, Cond.code yX1_divide cX1_divide 10 none, Cond.fieldLink RX1 9 "JointVenture$Division" "remainders" "[J", Cond.constantLong RX1 25 (-1), Cond.methodLink RX1 15 yJ7_fill_53178, Cond.static yJ7_fill_53178, Cond.initialized RJ7, Cond.code yJ7_fill_53178 cJ7_fill_53178 4 none, Cond.methodLink RX1 21 yX1_firstWithGreatestRemainder, Cond.instanceMethod yX1_firstWithGreatestRemainder, Cond.selects RX1 yX1_firstWithGreatestRemainder yX1_firstWithGreatestRemainder, Cond.code yX1_firstWithGreatestRemainder cX1_firstWithGreatestRemainder 3 (some .int)]
def wsX3_shareOut : List Cond := .code yX3_shareOut cX3_shareOut 4 (some .int) :: ((wsX3_shareOut_r1 ++ wsX3_shareOut_r2) ++ wsX30 ++ wsX00 ++ wsX10 ++ (vx_atS RX3 83 "java/lang/IllegalStateException" ["java/lang/RuntimeException", "java/lang/Exception"]).filter goodWord ++ (vx_atS RX3 200 "java/lang/IndexOutOfBoundsException" ["java/lang/RuntimeException", "java/lang/Exception"]).filter goodWord)
def wsX3_asked : List Cond := .code yX3_asked cX3_asked 3 (some .int) :: ([.fieldLink RX3 40 "JointVenture" "cashCalls" "[LJointVenture$CashCall;", .fieldLink RX3 159 "JointVenture$CashCall" "asked" "[I", .methodLink RX3 166 yX3_requireCashCall, .instanceMethod yX3_requireCashCall, .selects RX3 yX3_requireCashCall yX3_requireCashCall, .initialized RX3, .code yX3_requireCashCall cX3_requireCashCall 2 none, .classLink RX3 196 "java/lang/IndexOutOfBoundsException", .initialized "java/lang/IndexOutOfBoundsException", .fieldLink RX3 44 "JointVenture" "cashCallCount" "I", .methodLink RX3 94 yX3_requirePartner, .instanceMethod yX3_requirePartner, .selects RX3 yX3_requirePartner yX3_requirePartner, .code yX3_requirePartner cX3_requirePartner 2 none] ++ wsX30 ++ wsX00 ++ (vx_atS RX3 200 "java/lang/IndexOutOfBoundsException" ["java/lang/RuntimeException", "java/lang/Exception"]).filter goodWord)
def wsX3_paidOfAllCalls : List Cond := .code yX3_paidOfAllCalls cX3_paidOfAllCalls 4 (some .int) :: ([.fieldLink RX3 44 "JointVenture" "cashCallCount" "I", .fieldLink RX3 40 "JointVenture" "cashCalls" "[LJointVenture$CashCall;", .fieldLink RX3 169 "JointVenture$CashCall" "paid" "[I"] ++ wsX30 ++ wsX00)
def wsX3_paid : List Cond := .code yX3_paid cX3_paid 2 (some .int) :: ([.methodLink RX3 94 yX3_requirePartner, .instanceMethod yX3_requirePartner, .selects RX3 yX3_requirePartner yX3_requirePartner, .initialized RX3, .code yX3_requirePartner cX3_requirePartner 2 none, .classLink RX3 196 "java/lang/IndexOutOfBoundsException", .initialized "java/lang/IndexOutOfBoundsException", .methodLink RX3 190 yX3_paidOfAllCalls, .instanceMethod yX3_paidOfAllCalls, .selects RX3 yX3_paidOfAllCalls yX3_paidOfAllCalls, .code yX3_paidOfAllCalls cX3_paidOfAllCalls 4 (some .int), .fieldLink RX3 44 "JointVenture" "cashCallCount" "I", .fieldLink RX3 40 "JointVenture" "cashCalls" "[LJointVenture$CashCall;", .fieldLink RX3 169 "JointVenture$CashCall" "paid" "[I"] ++ wsX30 ++ wsX00 ++ (vx_atS RX3 200 "java/lang/IndexOutOfBoundsException" ["java/lang/RuntimeException", "java/lang/Exception"]).filter goodWord)
def wsX3_owes : List Cond := .code yX3_owes cX3_owes 2 (some .int) :: ([.fieldLink RX3 47 "JointVenture" "owed" "[I", .methodLink RX3 94 yX3_requirePartner, .instanceMethod yX3_requirePartner, .selects RX3 yX3_requirePartner yX3_requirePartner, .initialized RX3, .code yX3_requirePartner cX3_requirePartner 2 none, .classLink RX3 196 "java/lang/IndexOutOfBoundsException", .initialized "java/lang/IndexOutOfBoundsException"] ++ wsX30 ++ (vx_atS RX3 200 "java/lang/IndexOutOfBoundsException" ["java/lang/RuntimeException", "java/lang/Exception"]).filter goodWord)
def wsX3_balance : List Cond := .code yX3_balance cX3_balance 5 (some .long) :: ([.fieldLink RX3 47 "JointVenture" "owed" "[I", .fieldLink RX3 26 "JointVenture" "wellCount" "I", .fieldLink RX3 22 "JointVenture" "wells" "[LJointVenture$Well;", .fieldLink RX3 150 "JointVenture$Well" "credited" "[I", .fieldLink RX3 147 "JointVenture$Well" "charged" "[I", .methodLink RX3 94 yX3_requirePartner, .instanceMethod yX3_requirePartner, .selects RX3 yX3_requirePartner yX3_requirePartner, .initialized RX3, .code yX3_requirePartner cX3_requirePartner 2 none, .classLink RX3 196 "java/lang/IndexOutOfBoundsException", .initialized "java/lang/IndexOutOfBoundsException", .methodLink RX3 190 yX3_paidOfAllCalls, .instanceMethod yX3_paidOfAllCalls, .selects RX3 yX3_paidOfAllCalls yX3_paidOfAllCalls, .code yX3_paidOfAllCalls cX3_paidOfAllCalls 4 (some .int), .fieldLink RX3 44 "JointVenture" "cashCallCount" "I", .fieldLink RX3 40 "JointVenture" "cashCalls" "[LJointVenture$CashCall;", .fieldLink RX3 169 "JointVenture$CashCall" "paid" "[I"] ++ wsX30 ++ wsX20 ++ wsX00 ++ (vx_atS RX3 200 "java/lang/IndexOutOfBoundsException" ["java/lang/RuntimeException", "java/lang/Exception"]).filter goodWord)
def wsJ9_min_f86c9 : List Cond := .code yJ9_min_f86c9 cJ9_min_f86c9 4 (some .long) :: ([])
def wsL_from : List Cond := .code yL_from cL_from 4 (some .int) :: ([.constant RL 7 (132049), .constant RL 8 (2147483647)])
def wsL_divide : List Cond := .code yL_divide cL_divide 13 none :: ([])
def wsL_enter : List Cond := .code yL_enter cL_enter 18 none :: ([.arrayClass .long, .constantLong RL 15 (100), .methodLink RL 9 yL_divide, .static yL_divide, .initialized RL, .code yL_divide cL_divide 13 none])
def wsL_account : List Cond := .code yL_account cL_account 8 none :: ([.constantLong RL 17 (-1), .methodLink RL 19 yL_enter, .static yL_enter, .initialized RL, .code yL_enter cL_enter 18 none, .arrayClass .long, .constantLong RL 15 (100), .methodLink RL 9 yL_divide, .static yL_divide, .code yL_divide cL_divide 13 none])
def wsL_weigh : List Cond := .code yL_weigh cL_weigh 9 none :: ([.arrayClass .long, .constantLong RL 27 (10000), .methodLink RL 23 yL_account, .static yL_account, .initialized RL, .code yL_account cL_account 8 none, .constantLong RL 17 (-1), .methodLink RL 19 yL_enter, .static yL_enter, .code yL_enter cL_enter 18 none, .constantLong RL 15 (100), .methodLink RL 9 yL_divide, .static yL_divide, .code yL_divide cL_divide 13 none])
def wsL_isTold_r1 : List Cond := [Cond.arrayClass .long, Cond.methodLink RL 29 yX3_vouchers, Cond.instanceMethod yX3_vouchers, Cond.selects RX3 yX3_vouchers yX3_vouchers, Cond.initialized RX3, Cond.code yX3_vouchers cX3_vouchers 1 (some .int), Cond.fieldLink RX3 35 "JointVenture" "voucherCount" "I", Cond.methodLink RL 35 yX3_wellOf, Cond.instanceMethod yX3_wellOf, Cond.selects RX3 yX3_wellOf yX3_wellOf, Cond.code yX3_wellOf cX3_wellOf 2 (some .int), Cond.fieldLink RX3 29 "JointVenture" "voucherWells" "[I", Cond.methodLink RX3 128 yX3_requireVoucher, Cond.instanceMethod yX3_requireVoucher, Cond.selects RX3 yX3_requireVoucher yX3_requireVoucher, Cond.code yX3_requireVoucher cX3_requireVoucher 2 none, Cond.classLink RX3 196 "java/lang/IndexOutOfBoundsException", Cond.initialized "java/lang/IndexOutOfBoundsException", Cond.methodLink RL 39 yX3_amountOf, Cond.instanceMethod yX3_amountOf, Cond.selects RX3 yX3_amountOf yX3_amountOf, Cond.code yX3_amountOf cX3_amountOf 2 (some .int), Cond.fieldLink RX3 32 "JointVenture" "voucherAmounts" "[I", Cond.methodLink RL 23 yL_account]
def wsL_isTold_r2 : List Cond := [Cond.static yL_account, Cond.initialized RL, Cond.code yL_account cL_account 8 none, Cond.constantLong RL 17 (-1), Cond.methodLink RL 19 yL_enter, Cond.static yL_enter, Cond.code yL_enter cL_enter 18 none, Cond.constantLong RL 15 (100), Cond.methodLink RL 9 yL_divide, Cond.static yL_divide, Cond.code yL_divide cL_divide 13 none, Cond.methodLink RL 42 yL_weigh, Cond.static yL_weigh, Cond.code yL_weigh cL_weigh 9 none, Cond.constantLong RL 27 (10000), Cond.methodLink RL 45 yX3_isIn, Cond.instanceMethod yX3_isIn, Cond.selects RX3 yX3_isIn yX3_isIn, Cond.code yX3_isIn cX3_isIn 3 (some .boolean), Cond.fieldLink RX3 22 "JointVenture" "wells" "[LJointVenture$Well;", Cond.methodLink RX3 90 yX3_requireWell, Cond.instanceMethod yX3_requireWell, Cond.selects RX3 yX3_requireWell yX3_requireWell, Cond.code yX3_requireWell cX3_requireWell 2 none]
def wsL_isTold_r3 : List Cond := [Cond.fieldLink RX3 26 "JointVenture" "wellCount" "I", Cond.methodLink RX3 94 yX3_requirePartner, Cond.instanceMethod yX3_requirePartner, Cond.selects RX3 yX3_requirePartner yX3_requirePartner, Cond.code yX3_requirePartner cX3_requirePartner 2 none, Cond.methodLink RX3 136 yX3_shareIfIn, Cond.instanceMethod yX3_shareIfIn, Cond.selects RX3 yX3_shareIfIn yX3_shareIfIn, Cond.code yX3_shareIfIn cX3_shareIfIn 3 (some .int), Cond.fieldLink RX3 115 "JointVenture$Well" "out" "[Z", Cond.fieldLink RX3 9 "JointVenture" "shares" "[I", Cond.methodLink RL 49 yX3_toEarn, Cond.instanceMethod yX3_toEarn, Cond.selects RX3 yX3_toEarn yX3_toEarn, Cond.code yX3_toEarn cX3_toEarn 3 (some .long), Cond.fieldLink RX3 140 "JointVenture$Well" "toEarn" "[J", Cond.methodLink RL 53 yX3_backAt, Cond.instanceMethod yX3_backAt, Cond.selects RX3 yX3_backAt yX3_backAt, Cond.code yX3_backAt cX3_backAt 3 (some .int), Cond.fieldLink RX3 144 "JointVenture$Well" "backAt" "[I", Cond.methodLink RL 57 yX3_charged, Cond.instanceMethod yX3_charged, Cond.selects RX3 yX3_charged yX3_charged]
def wsL_isTold_r4 : List Cond := [Cond.code yX3_charged cX3_charged 3 (some .int), Cond.fieldLink RX3 147 "JointVenture$Well" "charged" "[I", Cond.methodLink RL 60 yX3_credited, Cond.instanceMethod yX3_credited, Cond.selects RX3 yX3_credited yX3_credited, Cond.code yX3_credited cX3_credited 3 (some .int), Cond.fieldLink RX3 150 "JointVenture$Well" "credited" "[I", Cond.methodLink RL 63 yX3_weight, Cond.instanceMethod yX3_weight, Cond.selects RX3 yX3_weight yX3_weight, Cond.code yX3_weight cX3_weight 3 (some .int), Cond.fieldLink RX3 63 "JointVenture" "portions" "[I", Cond.methodLink RX3 153 yX3_divideCost, Cond.instanceMethod yX3_divideCost, Cond.selects RX3 yX3_divideCost yX3_divideCost, Cond.code yX3_divideCost cX3_divideCost 4 none, Cond.fieldLink RX3 53 "JointVenture" "division" "LJointVenture$Division;", Cond.fieldLink RX3 57 "JointVenture" "ownParts" "[I", Cond.fieldLink RX3 60 "JointVenture" "weights" "[I", Cond.methodLink RX3 162 yX1_divide, Cond.instanceMethod yX1_divide, Cond.selects RX1 yX1_divide yX1_divide, Cond.initialized RX1, Cond.code yX1_divide cX1_divide 10 none]
def wsL_isTold_r5 : List Cond := [Cond.fieldLink RX1 9 "JointVenture$Division" "remainders" "[J", Cond.constantLong RX1 25 (-1), Cond.methodLink RX1 15 yJ7_fill_53178, Cond.static yJ7_fill_53178, Cond.initialized RJ7, Cond.code yJ7_fill_53178 cJ7_fill_53178 4 none, Cond.methodLink RX1 21 yX1_firstWithGreatestRemainder, Cond.instanceMethod yX1_firstWithGreatestRemainder, Cond.selects RX1 yX1_firstWithGreatestRemainder yX1_firstWithGreatestRemainder, Cond.code yX1_firstWithGreatestRemainder cX1_firstWithGreatestRemainder 3 (some .int), Cond.methodLink RX3 232 yX3_weighThoseIn, Cond.instanceMethod yX3_weighThoseIn, Cond.selects RX3 yX3_weighThoseIn yX3_weighThoseIn, Cond.code yX3_weighThoseIn cX3_weighThoseIn 3 none, Cond.methodLink RX3 236 yX3_ownPartsOfThoseOut, Cond.instanceMethod yX3_ownPartsOfThoseOut, Cond.selects RX3 yX3_ownPartsOfThoseOut yX3_ownPartsOfThoseOut, Cond.code yX3_ownPartsOfThoseOut cX3_ownPartsOfThoseOut 4 (some .int), Cond.methodLink RL 66 yX3_asked, Cond.instanceMethod yX3_asked, Cond.selects RX3 yX3_asked yX3_asked, Cond.code yX3_asked cX3_asked 3 (some .int), Cond.fieldLink RX3 40 "JointVenture" "cashCalls" "[LJointVenture$CashCall;", Cond.fieldLink RX3 159 "JointVenture$CashCall" "asked" "[I"]
def wsL_isTold_r6 : List Cond := [Cond.methodLink RX3 166 yX3_requireCashCall, Cond.instanceMethod yX3_requireCashCall, Cond.selects RX3 yX3_requireCashCall yX3_requireCashCall, Cond.code yX3_requireCashCall cX3_requireCashCall 2 none, Cond.fieldLink RX3 44 "JointVenture" "cashCallCount" "I", Cond.methodLink RL 69 yX3_paid, Cond.instanceMethod yX3_paid, Cond.selects RX3 yX3_paid yX3_paid, Cond.code yX3_paid cX3_paid 2 (some .int), Cond.methodLink RX3 190 yX3_paidOfAllCalls, Cond.instanceMethod yX3_paidOfAllCalls, Cond.selects RX3 yX3_paidOfAllCalls yX3_paidOfAllCalls, Cond.code yX3_paidOfAllCalls cX3_paidOfAllCalls 4 (some .int), Cond.fieldLink RX3 169 "JointVenture$CashCall" "paid" "[I", Cond.methodLink RL 72 yX3_owes, Cond.instanceMethod yX3_owes, Cond.selects RX3 yX3_owes yX3_owes, Cond.code yX3_owes cX3_owes 2 (some .int), Cond.fieldLink RX3 47 "JointVenture" "owed" "[I", Cond.methodLink RL 75 yX3_balance, Cond.instanceMethod yX3_balance, Cond.selects RX3 yX3_balance yX3_balance, Cond.code yX3_balance cX3_balance 5 (some .long)]
def wsL_isTold : List Cond := .code yL_isTold cL_isTold 16 (some .boolean) :: ((wsL_isTold_r1 ++ (wsL_isTold_r2 ++ (wsL_isTold_r3 ++ (wsL_isTold_r4 ++ (wsL_isTold_r5 ++ wsL_isTold_r6))))) ++ wsX30 ++ wsX20 ++ wsX10 ++ wsX00 ++ (vx_atS RX3 200 "java/lang/IndexOutOfBoundsException" ["java/lang/RuntimeException", "java/lang/Exception"]).filter goodWord)
def wsL_elected_r1 : List Cond := [Cond.classLink RL 83 "java/lang/IllegalStateException", Cond.methodLink RL 79 yX3_elect, Cond.instanceMethod yX3_elect, Cond.selects RX3 yX3_elect yX3_elect, Cond.initialized RX3, Cond.code yX3_elect cX3_elect 6 (some .boolean), Cond.classLink RX3 79 "java/lang/IllegalStateException", Cond.initialized "java/lang/IllegalStateException", Cond.fieldLink RX3 22 "JointVenture" "wells" "[LJointVenture$Well;", Cond.fieldLink RX3 97 "JointVenture$Well" "hadVoucher" "Z", Cond.fieldLink RX3 9 "JointVenture" "shares" "[I", Cond.fieldLink RX3 111 "JointVenture$Well" "electedOut" "[Z", Cond.fieldLink RX3 115 "JointVenture$Well" "out" "[Z", Cond.methodLink RX3 90 yX3_requireWell, Cond.instanceMethod yX3_requireWell, Cond.selects RX3 yX3_requireWell yX3_requireWell, Cond.code yX3_requireWell cX3_requireWell 2 none, Cond.classLink RX3 196 "java/lang/IndexOutOfBoundsException", Cond.initialized "java/lang/IndexOutOfBoundsException", Cond.fieldLink RX3 26 "JointVenture" "wellCount" "I", Cond.methodLink RX3 94 yX3_requirePartner, Cond.instanceMethod yX3_requirePartner, Cond.selects RX3 yX3_requirePartner yX3_requirePartner, Cond.code yX3_requirePartner cX3_requirePartner 2 none]
def wsL_elected_r2 : List Cond := [Cond.methodLink RX3 105 yX3_isAnotherIn, Cond.instanceMethod yX3_isAnotherIn, Cond.selects RX3 yX3_isAnotherIn yX3_isAnotherIn, Cond.code yX3_isAnotherIn cX3_isAnotherIn 4 (some .boolean), Cond.methodLink RX3 136 yX3_shareIfIn, Cond.instanceMethod yX3_shareIfIn, Cond.selects RX3 yX3_shareIfIn yX3_shareIfIn, Cond.code yX3_shareIfIn cX3_shareIfIn 3 (some .int)]
def wsL_elected : List Cond := .codeWith yL_elected cL_elected 5 (some .int) [(0, 15, 16, 83)] :: ((wsL_elected_r1 ++ wsL_elected_r2) ++ wsX30 ++ wsX20 ++ (vx_atS RX3 83 "java/lang/IllegalStateException" ["java/lang/RuntimeException", "java/lang/Exception"]).filter goodWord ++ (vx_atS RX3 200 "java/lang/IndexOutOfBoundsException" ["java/lang/RuntimeException", "java/lang/Exception"]).filter goodWord)
def wsL_entered_r1 : List Cond := [Cond.classLink RL 83 "java/lang/IllegalStateException", Cond.methodLink RL 85 yX3_overhead, Cond.instanceMethod yX3_overhead, Cond.selects RX3 yX3_overhead yX3_overhead, Cond.initialized RX3, Cond.code yX3_overhead cX3_overhead 3 (some .int), Cond.classLink RX3 79 "java/lang/IllegalStateException", Cond.initialized "java/lang/IllegalStateException", Cond.fieldLink RX3 17 "JointVenture" "monthlyOverhead" "I", Cond.methodLink RX3 90 yX3_requireWell, Cond.instanceMethod yX3_requireWell, Cond.selects RX3 yX3_requireWell yX3_requireWell, Cond.code yX3_requireWell cX3_requireWell 2 none, Cond.classLink RX3 196 "java/lang/IndexOutOfBoundsException", Cond.initialized "java/lang/IndexOutOfBoundsException", Cond.fieldLink RX3 26 "JointVenture" "wellCount" "I", Cond.methodLink RX3 68 yX3_requireRange, Cond.instanceMethod yX3_requireRange, Cond.selects RX3 yX3_requireRange yX3_requireRange, Cond.code yX3_requireRange cX3_requireRange 4 none, Cond.classLink RX3 72 "java/lang/IllegalArgumentException", Cond.initialized "java/lang/IllegalArgumentException", Cond.methodLink RX3 119 yX3_requireRoomForVoucher, Cond.instanceMethod yX3_requireRoomForVoucher]
def wsL_entered_r2 : List Cond := [Cond.selects RX3 yX3_requireRoomForVoucher yX3_requireRoomForVoucher, Cond.code yX3_requireRoomForVoucher cX3_requireRoomForVoucher 1 none, Cond.fieldLink RX3 35 "JointVenture" "voucherCount" "I", Cond.methodLink RX3 122 yX3_addVoucher, Cond.instanceMethod yX3_addVoucher, Cond.selects RX3 yX3_addVoucher yX3_addVoucher, Cond.code yX3_addVoucher cX3_addVoucher 4 (some .int), Cond.fieldLink RX3 29 "JointVenture" "voucherWells" "[I", Cond.fieldLink RX3 32 "JointVenture" "voucherAmounts" "[I", Cond.fieldLink RX3 22 "JointVenture" "wells" "[LJointVenture$Well;", Cond.fieldLink RX3 97 "JointVenture$Well" "hadVoucher" "Z", Cond.methodLink RX3 209 yX3_account, Cond.instanceMethod yX3_account, Cond.selects RX3 yX3_account yX3_account, Cond.code yX3_account cX3_account 4 none, Cond.methodLink RX3 215 yX3_accountCost, Cond.instanceMethod yX3_accountCost, Cond.selects RX3 yX3_accountCost yX3_accountCost, Cond.code yX3_accountCost cX3_accountCost 4 none, Cond.fieldLink RX3 147 "JointVenture$Well" "charged" "[I", Cond.fieldLink RX3 63 "JointVenture" "portions" "[I", Cond.fieldLink RX3 115 "JointVenture$Well" "out" "[Z", Cond.fieldLink RX3 140 "JointVenture$Well" "toEarn" "[J", Cond.fieldLink RX3 57 "JointVenture" "ownParts" "[I"]
def wsL_entered_r3 : List Cond := [Cond.fieldLink RX3 87 "JointVenture$Well" "penalty" "I", Cond.methodLink RX3 153 yX3_divideCost, Cond.instanceMethod yX3_divideCost, Cond.selects RX3 yX3_divideCost yX3_divideCost, Cond.code yX3_divideCost cX3_divideCost 4 none, Cond.fieldLink RX3 53 "JointVenture" "division" "LJointVenture$Division;", Cond.fieldLink RX3 9 "JointVenture" "shares" "[I", Cond.fieldLink RX3 60 "JointVenture" "weights" "[I", Cond.methodLink RX3 162 yX1_divide, Cond.instanceMethod yX1_divide, Cond.selects RX1 yX1_divide yX1_divide, Cond.initialized RX1, Cond.code yX1_divide cX1_divide 10 none, Cond.fieldLink RX1 9 "JointVenture$Division" "remainders" "[J", Cond.constantLong RX1 25 (-1), Cond.methodLink RX1 15 yJ7_fill_53178, Cond.static yJ7_fill_53178, Cond.initialized RJ7, Cond.code yJ7_fill_53178 cJ7_fill_53178 4 none, Cond.methodLink RX1 21 yX1_firstWithGreatestRemainder, Cond.instanceMethod yX1_firstWithGreatestRemainder, Cond.selects RX1 yX1_firstWithGreatestRemainder yX1_firstWithGreatestRemainder, Cond.code yX1_firstWithGreatestRemainder cX1_firstWithGreatestRemainder 3 (some .int), Cond.methodLink RX3 232 yX3_weighThoseIn]
def wsL_entered_r4 : List Cond := [Cond.instanceMethod yX3_weighThoseIn, Cond.selects RX3 yX3_weighThoseIn yX3_weighThoseIn, Cond.code yX3_weighThoseIn cX3_weighThoseIn 3 none, Cond.methodLink RX3 136 yX3_shareIfIn, Cond.instanceMethod yX3_shareIfIn, Cond.selects RX3 yX3_shareIfIn yX3_shareIfIn, Cond.code yX3_shareIfIn cX3_shareIfIn 3 (some .int), Cond.methodLink RX3 236 yX3_ownPartsOfThoseOut, Cond.instanceMethod yX3_ownPartsOfThoseOut, Cond.selects RX3 yX3_ownPartsOfThoseOut yX3_ownPartsOfThoseOut, Cond.code yX3_ownPartsOfThoseOut cX3_ownPartsOfThoseOut 4 (some .int), Cond.methodLink RX3 224 yX3_penaltyOn, Cond.instanceMethod yX3_penaltyOn, Cond.selects RX3 yX3_penaltyOn yX3_penaltyOn, Cond.code yX3_penaltyOn cX3_penaltyOn 3 (some .long), Cond.constantLong RX3 228 (99), Cond.constantLong RX3 230 (100), Cond.methodLink RX3 218 yX3_accountIncome, Cond.instanceMethod yX3_accountIncome, Cond.selects RX3 yX3_accountIncome yX3_accountIncome, Cond.code yX3_accountIncome cX3_accountIncome 5 none, Cond.fieldLink RX3 150 "JointVenture$Well" "credited" "[I", Cond.methodLink RX3 240 yX2_takenOf, Cond.instanceMethod yX2_takenOf]
def wsL_entered_r5 : List Cond := [Cond.selects RX2 yX2_takenOf yX2_takenOf, Cond.initialized RX2, Cond.code yX2_takenOf cX2_takenOf 3 (some .int), Cond.fieldLink RX2 23 "JointVenture$Well" "out" "[Z", Cond.fieldLink RX2 26 "JointVenture$Well" "toEarn" "[J", Cond.methodLink RX2 49 Lib.MathLoose.min_long.x, Cond.static Lib.MathLoose.min_long.x, Cond.initialized "java/lang/Math", Cond.code Lib.MathLoose.min_long.x Lib.MathLoose.min_long.code 4 (some .long), Cond.methodLink RX3 243 yX3_creditTaken, Cond.instanceMethod yX3_creditTaken, Cond.selects RX3 yX3_creditTaken yX3_creditTaken, Cond.code yX3_creditTaken cX3_creditTaken 4 none, Cond.methodLink RX3 221 yX2_takeBack, Cond.instanceMethod yX2_takeBack, Cond.selects RX2 yX2_takeBack yX2_takeBack, Cond.code yX2_takeBack cX2_takeBack 3 none, Cond.fieldLink RX2 30 "JointVenture$Well" "backAt" "[I"]
def wsL_entered : List Cond := .codeWith yL_entered cL_entered 4 (some .int) [(0, 6, 7, 83)] :: ((wsL_entered_r1 ++ (wsL_entered_r2 ++ (wsL_entered_r3 ++ (wsL_entered_r4 ++ wsL_entered_r5)))) ++ wsX30 ++ wsX20 ++ wsX10 ++ (vx_atS RX3 83 "java/lang/IllegalStateException" ["java/lang/RuntimeException", "java/lang/Exception"]).filter goodWord ++ (vx_atS RX3 200 "java/lang/IndexOutOfBoundsException" ["java/lang/RuntimeException", "java/lang/Exception"]).filter goodWord ++ (vx_atS RX3 76 "java/lang/IllegalArgumentException" ["java/lang/RuntimeException", "java/lang/Exception"]).filter goodWord)
def wsL_moved_r1 : List Cond := [Cond.classLink RL 83 "java/lang/IllegalStateException", Cond.methodLink RL 88 yX3_move, Cond.instanceMethod yX3_move, Cond.selects RX3 yX3_move yX3_move, Cond.initialized RX3, Cond.code yX3_move cX3_move 4 (some .int), Cond.classLink RX3 79 "java/lang/IllegalStateException", Cond.initialized "java/lang/IllegalStateException", Cond.fieldLink RX3 32 "JointVenture" "voucherAmounts" "[I", Cond.fieldLink RX3 29 "JointVenture" "voucherWells" "[I", Cond.fieldLink RX3 22 "JointVenture" "wells" "[LJointVenture$Well;", Cond.fieldLink RX3 97 "JointVenture$Well" "hadVoucher" "Z", Cond.methodLink RX3 128 yX3_requireVoucher, Cond.instanceMethod yX3_requireVoucher, Cond.selects RX3 yX3_requireVoucher yX3_requireVoucher, Cond.code yX3_requireVoucher cX3_requireVoucher 2 none, Cond.classLink RX3 196 "java/lang/IndexOutOfBoundsException", Cond.initialized "java/lang/IndexOutOfBoundsException", Cond.fieldLink RX3 35 "JointVenture" "voucherCount" "I", Cond.methodLink RX3 90 yX3_requireWell, Cond.instanceMethod yX3_requireWell, Cond.selects RX3 yX3_requireWell yX3_requireWell, Cond.code yX3_requireWell cX3_requireWell 2 none, Cond.fieldLink RX3 26 "JointVenture" "wellCount" "I"]
def wsL_moved_r2 : List Cond := [Cond.methodLink RX3 133 yX3_accountAnew, Cond.instanceMethod yX3_accountAnew, Cond.selects RX3 yX3_accountAnew yX3_accountAnew, Cond.code yX3_accountAnew cX3_accountAnew 3 none, Cond.methodLink RX3 212 yX2_clearAccounts, Cond.instanceMethod yX2_clearAccounts, Cond.selects RX2 yX2_clearAccounts yX2_clearAccounts, Cond.initialized RX2, Cond.code yX2_clearAccounts cX2_clearAccounts 2 none, Cond.fieldLink RX2 26 "JointVenture$Well" "toEarn" "[J", Cond.fieldLink RX2 30 "JointVenture$Well" "backAt" "[I", Cond.fieldLink RX2 34 "JointVenture$Well" "charged" "[I", Cond.fieldLink RX2 37 "JointVenture$Well" "credited" "[I", Cond.fieldLink RX2 23 "JointVenture$Well" "out" "[Z", Cond.fieldLink RX2 19 "JointVenture$Well" "electedOut" "[Z", Cond.methodLink RX2 46 yJ7_fill_d0a16, Cond.static yJ7_fill_d0a16, Cond.initialized RJ7, Cond.code yJ7_fill_d0a16 cJ7_fill_d0a16 5 none, Cond.methodLink RX2 40 yJ7_fill_53178, Cond.static yJ7_fill_53178, Cond.code yJ7_fill_53178 cJ7_fill_53178 4 none, Cond.methodLink RX3 209 yX3_account, Cond.instanceMethod yX3_account]
def wsL_moved_r3 : List Cond := [Cond.selects RX3 yX3_account yX3_account, Cond.code yX3_account cX3_account 4 none, Cond.methodLink RX3 215 yX3_accountCost, Cond.instanceMethod yX3_accountCost, Cond.selects RX3 yX3_accountCost yX3_accountCost, Cond.code yX3_accountCost cX3_accountCost 4 none, Cond.fieldLink RX3 147 "JointVenture$Well" "charged" "[I", Cond.fieldLink RX3 63 "JointVenture" "portions" "[I", Cond.fieldLink RX3 115 "JointVenture$Well" "out" "[Z", Cond.fieldLink RX3 140 "JointVenture$Well" "toEarn" "[J", Cond.fieldLink RX3 57 "JointVenture" "ownParts" "[I", Cond.fieldLink RX3 87 "JointVenture$Well" "penalty" "I", Cond.methodLink RX3 153 yX3_divideCost, Cond.instanceMethod yX3_divideCost, Cond.selects RX3 yX3_divideCost yX3_divideCost, Cond.code yX3_divideCost cX3_divideCost 4 none, Cond.fieldLink RX3 53 "JointVenture" "division" "LJointVenture$Division;", Cond.fieldLink RX3 9 "JointVenture" "shares" "[I", Cond.fieldLink RX3 60 "JointVenture" "weights" "[I", Cond.methodLink RX3 162 yX1_divide, Cond.instanceMethod yX1_divide, Cond.selects RX1 yX1_divide yX1_divide, Cond.initialized RX1, Cond.code yX1_divide cX1_divide 10 none]
def wsL_moved_r4 : List Cond := [Cond.fieldLink RX1 9 "JointVenture$Division" "remainders" "[J", Cond.constantLong RX1 25 (-1), Cond.methodLink RX1 15 yJ7_fill_53178, Cond.methodLink RX1 21 yX1_firstWithGreatestRemainder, Cond.instanceMethod yX1_firstWithGreatestRemainder, Cond.selects RX1 yX1_firstWithGreatestRemainder yX1_firstWithGreatestRemainder, Cond.code yX1_firstWithGreatestRemainder cX1_firstWithGreatestRemainder 3 (some .int), Cond.methodLink RX3 232 yX3_weighThoseIn, Cond.instanceMethod yX3_weighThoseIn, Cond.selects RX3 yX3_weighThoseIn yX3_weighThoseIn, Cond.code yX3_weighThoseIn cX3_weighThoseIn 3 none, Cond.methodLink RX3 136 yX3_shareIfIn, Cond.instanceMethod yX3_shareIfIn, Cond.selects RX3 yX3_shareIfIn yX3_shareIfIn, Cond.code yX3_shareIfIn cX3_shareIfIn 3 (some .int), Cond.methodLink RX3 236 yX3_ownPartsOfThoseOut, Cond.instanceMethod yX3_ownPartsOfThoseOut, Cond.selects RX3 yX3_ownPartsOfThoseOut yX3_ownPartsOfThoseOut, Cond.code yX3_ownPartsOfThoseOut cX3_ownPartsOfThoseOut 4 (some .int), Cond.methodLink RX3 224 yX3_penaltyOn, Cond.instanceMethod yX3_penaltyOn, Cond.selects RX3 yX3_penaltyOn yX3_penaltyOn, Cond.code yX3_penaltyOn cX3_penaltyOn 3 (some .long), Cond.constantLong RX3 228 (99)]
def wsL_moved_r5 : List Cond := [Cond.constantLong RX3 230 (100), Cond.methodLink RX3 218 yX3_accountIncome, Cond.instanceMethod yX3_accountIncome, Cond.selects RX3 yX3_accountIncome yX3_accountIncome, Cond.code yX3_accountIncome cX3_accountIncome 5 none, Cond.fieldLink RX3 150 "JointVenture$Well" "credited" "[I", Cond.methodLink RX3 240 yX2_takenOf, Cond.instanceMethod yX2_takenOf, Cond.selects RX2 yX2_takenOf yX2_takenOf, Cond.code yX2_takenOf cX2_takenOf 3 (some .int), Cond.methodLink RX2 49 Lib.MathLoose.min_long.x, Cond.static Lib.MathLoose.min_long.x, Cond.initialized "java/lang/Math", Cond.code Lib.MathLoose.min_long.x Lib.MathLoose.min_long.code 4 (some .long), Cond.methodLink RX3 243 yX3_creditTaken, Cond.instanceMethod yX3_creditTaken, Cond.selects RX3 yX3_creditTaken yX3_creditTaken, Cond.code yX3_creditTaken cX3_creditTaken 4 none, Cond.methodLink RX3 221 yX2_takeBack, Cond.instanceMethod yX2_takeBack, Cond.selects RX2 yX2_takeBack yX2_takeBack, Cond.code yX2_takeBack cX2_takeBack 3 none]
def wsL_moved : List Cond := .codeWith yL_moved cL_moved 4 (some .int) [(0, 6, 7, 83)] :: ((wsL_moved_r1 ++ (wsL_moved_r2 ++ (wsL_moved_r3 ++ (wsL_moved_r4 ++ wsL_moved_r5)))) ++ wsX30 ++ wsX20 ++ wsX10 ++ (vx_atS RX3 83 "java/lang/IllegalStateException" ["java/lang/RuntimeException", "java/lang/Exception"]).filter goodWord ++ (vx_atS RX3 200 "java/lang/IndexOutOfBoundsException" ["java/lang/RuntimeException", "java/lang/Exception"]).filter goodWord)
def wsL_paid : List Cond := .codeWith yL_paid cL_paid 4 (some .int) [(0, 6, 7, 83)] :: ([.classLink RL 83 "java/lang/IllegalStateException", .methodLink RL 91 yX3_pay, .instanceMethod yX3_pay, .selects RX3 yX3_pay yX3_pay, .initialized RX3, .code yX3_pay cX3_pay 5 (some .int), .classLink RX3 79 "java/lang/IllegalStateException", .initialized "java/lang/IllegalStateException", .fieldLink RX3 40 "JointVenture" "cashCalls" "[LJointVenture$CashCall;", .fieldLink RX3 159 "JointVenture$CashCall" "asked" "[I", .fieldLink RX3 169 "JointVenture$CashCall" "paid" "[I", .methodLink RX3 166 yX3_requireCashCall, .instanceMethod yX3_requireCashCall, .selects RX3 yX3_requireCashCall yX3_requireCashCall, .code yX3_requireCashCall cX3_requireCashCall 2 none, .classLink RX3 196 "java/lang/IndexOutOfBoundsException", .initialized "java/lang/IndexOutOfBoundsException", .fieldLink RX3 44 "JointVenture" "cashCallCount" "I", .methodLink RX3 94 yX3_requirePartner, .instanceMethod yX3_requirePartner, .selects RX3 yX3_requirePartner yX3_requirePartner, .code yX3_requirePartner cX3_requirePartner 2 none] ++ wsX30 ++ wsX00 ++ (vx_atS RX3 83 "java/lang/IllegalStateException" ["java/lang/RuntimeException", "java/lang/Exception"]).filter goodWord ++ (vx_atS RX3 200 "java/lang/IndexOutOfBoundsException" ["java/lang/RuntimeException", "java/lang/Exception"]).filter goodWord)
def wsL_shared_r1 : List Cond := [Cond.classLink RL 83 "java/lang/IllegalStateException", Cond.methodLink RL 94 yX3_shareOut, Cond.instanceMethod yX3_shareOut, Cond.selects RX3 yX3_shareOut yX3_shareOut, Cond.initialized RX3, Cond.code yX3_shareOut cX3_shareOut 4 (some .int), Cond.classLink RX3 79 "java/lang/IllegalStateException", Cond.initialized "java/lang/IllegalStateException", Cond.fieldLink RX3 40 "JointVenture" "cashCalls" "[LJointVenture$CashCall;", Cond.methodLink RX3 166 yX3_requireCashCall, Cond.instanceMethod yX3_requireCashCall, Cond.selects RX3 yX3_requireCashCall yX3_requireCashCall, Cond.code yX3_requireCashCall cX3_requireCashCall 2 none, Cond.classLink RX3 196 "java/lang/IndexOutOfBoundsException", Cond.initialized "java/lang/IndexOutOfBoundsException", Cond.fieldLink RX3 44 "JointVenture" "cashCallCount" "I", Cond.methodLink RX3 174 yX0_hasPayer, Cond.instanceMethod yX0_hasPayer, Cond.selects RX0 yX0_hasPayer yX0_hasPayer, Cond.initialized RX0, Cond.code yX0_hasPayer cX0_hasPayer 2 (some .boolean), Cond.fieldLink RX0 15 "JointVenture$CashCall" "paid" "[I", Cond.methodLink RX3 180 yX0_askedOfNonPayers, Cond.instanceMethod yX0_askedOfNonPayers]
def wsL_shared_r2 : List Cond := [Cond.selects RX0 yX0_askedOfNonPayers yX0_askedOfNonPayers, Cond.code yX0_askedOfNonPayers cX0_askedOfNonPayers 3 (some .int), Cond.fieldLink RX0 9 "JointVenture$CashCall" "asked" "[I", Cond.methodLink RX3 186 yX3_moveToPayers, Cond.instanceMethod yX3_moveToPayers, Cond.selects RX3 yX3_moveToPayers yX3_moveToPayers, Cond.code yX3_moveToPayers cX3_moveToPayers 4 none, Cond.fieldLink RX3 60 "JointVenture" "weights" "[I", Cond.fieldLink RX3 169 "JointVenture$CashCall" "paid" "[I", Cond.fieldLink RX3 159 "JointVenture$CashCall" "asked" "[I", Cond.fieldLink RX3 53 "JointVenture" "division" "LJointVenture$Division;", Cond.fieldLink RX3 63 "JointVenture" "portions" "[I", Cond.fieldLink RX3 47 "JointVenture" "owed" "[I", Cond.methodLink RX3 162 yX1_divide, Cond.instanceMethod yX1_divide, Cond.selects RX1 yX1_divide yX1_divide, Cond.initialized RX1, Cond.code yX1_divide cX1_divide 10 none, Cond.fieldLink RX1 9 "JointVenture$Division" "remainders" "[J", Cond.constantLong RX1 25 (-1), Cond.methodLink RX1 15 yJ7_fill_53178, Cond.static yJ7_fill_53178, Cond.initialized RJ7, Cond.code yJ7_fill_53178 cJ7_fill_53178 4 none]
def wsL_shared_r3 : List Cond := [Cond.methodLink RX1 21 yX1_firstWithGreatestRemainder, Cond.instanceMethod yX1_firstWithGreatestRemainder, Cond.selects RX1 yX1_firstWithGreatestRemainder yX1_firstWithGreatestRemainder, Cond.code yX1_firstWithGreatestRemainder cX1_firstWithGreatestRemainder 3 (some .int)]
def wsL_shared : List Cond := .codeWith yL_shared cL_shared 3 (some .int) [(0, 5, 6, 83)] :: ((wsL_shared_r1 ++ (wsL_shared_r2 ++ wsL_shared_r3)) ++ wsX30 ++ wsX00 ++ wsX10 ++ (vx_atS RX3 83 "java/lang/IllegalStateException" ["java/lang/RuntimeException", "java/lang/Exception"]).filter goodWord ++ (vx_atS RX3 200 "java/lang/IndexOutOfBoundsException" ["java/lang/RuntimeException", "java/lang/Exception"]).filter goodWord)
def wsL_isCash_r1 : List Cond := [Cond.arrayClass .long, Cond.methodLink RL 42 yL_weigh, Cond.static yL_weigh, Cond.initialized RL, Cond.code yL_weigh cL_weigh 9 none, Cond.constantLong RL 27 (10000), Cond.methodLink RL 23 yL_account, Cond.static yL_account, Cond.code yL_account cL_account 8 none, Cond.constantLong RL 17 (-1), Cond.methodLink RL 19 yL_enter, Cond.static yL_enter, Cond.code yL_enter cL_enter 18 none, Cond.constantLong RL 15 (100), Cond.methodLink RL 9 yL_divide, Cond.static yL_divide, Cond.code yL_divide cL_divide 13 none, Cond.methodLink RL 97 yX3_call, Cond.instanceMethod yX3_call, Cond.selects RX3 yX3_call yX3_call, Cond.initialized RX3, Cond.code yX3_call cX3_call 3 (some .int), Cond.classLink RX3 79 "java/lang/IllegalStateException", Cond.initialized "java/lang/IllegalStateException"]
def wsL_isCash_r2 : List Cond := [Cond.constant RX3 118 (10000000), Cond.fieldLink RX3 44 "JointVenture" "cashCallCount" "I", Cond.fieldLink RX3 22 "JointVenture" "wells" "[LJointVenture$Well;", Cond.fieldLink RX3 53 "JointVenture" "division" "LJointVenture$Division;", Cond.fieldLink RX3 63 "JointVenture" "portions" "[I", Cond.fieldLink RX3 40 "JointVenture" "cashCalls" "[LJointVenture$CashCall;", Cond.fieldLink RX3 159 "JointVenture$CashCall" "asked" "[I", Cond.methodLink RX3 90 yX3_requireWell, Cond.instanceMethod yX3_requireWell, Cond.selects RX3 yX3_requireWell yX3_requireWell, Cond.code yX3_requireWell cX3_requireWell 2 none, Cond.classLink RX3 196 "java/lang/IndexOutOfBoundsException", Cond.initialized "java/lang/IndexOutOfBoundsException", Cond.fieldLink RX3 26 "JointVenture" "wellCount" "I", Cond.methodLink RX3 68 yX3_requireRange, Cond.instanceMethod yX3_requireRange, Cond.selects RX3 yX3_requireRange yX3_requireRange, Cond.code yX3_requireRange cX3_requireRange 4 none, Cond.classLink RX3 72 "java/lang/IllegalArgumentException", Cond.initialized "java/lang/IllegalArgumentException", Cond.methodLink RX3 153 yX3_divideCost, Cond.instanceMethod yX3_divideCost, Cond.selects RX3 yX3_divideCost yX3_divideCost, Cond.code yX3_divideCost cX3_divideCost 4 none]
def wsL_isCash_r3 : List Cond := [Cond.fieldLink RX3 9 "JointVenture" "shares" "[I", Cond.fieldLink RX3 57 "JointVenture" "ownParts" "[I", Cond.fieldLink RX3 60 "JointVenture" "weights" "[I", Cond.fieldLink RX3 115 "JointVenture$Well" "out" "[Z", Cond.methodLink RX3 162 yX1_divide, Cond.instanceMethod yX1_divide, Cond.selects RX1 yX1_divide yX1_divide, Cond.initialized RX1, Cond.code yX1_divide cX1_divide 10 none, Cond.fieldLink RX1 9 "JointVenture$Division" "remainders" "[J", Cond.constantLong RX1 25 (-1), Cond.methodLink RX1 15 yJ7_fill_53178, Cond.static yJ7_fill_53178, Cond.initialized RJ7, Cond.code yJ7_fill_53178 cJ7_fill_53178 4 none, Cond.methodLink RX1 21 yX1_firstWithGreatestRemainder, Cond.instanceMethod yX1_firstWithGreatestRemainder, Cond.selects RX1 yX1_firstWithGreatestRemainder yX1_firstWithGreatestRemainder, Cond.code yX1_firstWithGreatestRemainder cX1_firstWithGreatestRemainder 3 (some .int), Cond.methodLink RX3 232 yX3_weighThoseIn, Cond.instanceMethod yX3_weighThoseIn, Cond.selects RX3 yX3_weighThoseIn yX3_weighThoseIn, Cond.code yX3_weighThoseIn cX3_weighThoseIn 3 none, Cond.methodLink RX3 136 yX3_shareIfIn]
def wsL_isCash_r4 : List Cond := [Cond.instanceMethod yX3_shareIfIn, Cond.selects RX3 yX3_shareIfIn yX3_shareIfIn, Cond.code yX3_shareIfIn cX3_shareIfIn 3 (some .int), Cond.methodLink RX3 236 yX3_ownPartsOfThoseOut, Cond.instanceMethod yX3_ownPartsOfThoseOut, Cond.selects RX3 yX3_ownPartsOfThoseOut yX3_ownPartsOfThoseOut, Cond.code yX3_ownPartsOfThoseOut cX3_ownPartsOfThoseOut 4 (some .int), Cond.methodLink RL 100 yL_paid, Cond.static yL_paid, Cond.codeWith yL_paid cL_paid 4 (some .int) [(0, 6, 7, 83)], Cond.classLink RL 83 "java/lang/IllegalStateException", Cond.methodLink RL 91 yX3_pay, Cond.instanceMethod yX3_pay, Cond.selects RX3 yX3_pay yX3_pay, Cond.code yX3_pay cX3_pay 5 (some .int), Cond.fieldLink RX3 169 "JointVenture$CashCall" "paid" "[I", Cond.methodLink RX3 166 yX3_requireCashCall, Cond.instanceMethod yX3_requireCashCall, Cond.selects RX3 yX3_requireCashCall yX3_requireCashCall, Cond.code yX3_requireCashCall cX3_requireCashCall 2 none, Cond.methodLink RX3 94 yX3_requirePartner, Cond.instanceMethod yX3_requirePartner, Cond.selects RX3 yX3_requirePartner yX3_requirePartner, Cond.code yX3_requirePartner cX3_requirePartner 2 none]
def wsL_isCash_r5 : List Cond := [Cond.methodLink RL 103 yL_shared, Cond.static yL_shared, Cond.codeWith yL_shared cL_shared 3 (some .int) [(0, 5, 6, 83)], Cond.methodLink RL 94 yX3_shareOut, Cond.instanceMethod yX3_shareOut, Cond.selects RX3 yX3_shareOut yX3_shareOut, Cond.code yX3_shareOut cX3_shareOut 4 (some .int), Cond.methodLink RX3 174 yX0_hasPayer, Cond.instanceMethod yX0_hasPayer, Cond.selects RX0 yX0_hasPayer yX0_hasPayer, Cond.initialized RX0, Cond.code yX0_hasPayer cX0_hasPayer 2 (some .boolean), Cond.fieldLink RX0 15 "JointVenture$CashCall" "paid" "[I", Cond.methodLink RX3 180 yX0_askedOfNonPayers, Cond.instanceMethod yX0_askedOfNonPayers, Cond.selects RX0 yX0_askedOfNonPayers yX0_askedOfNonPayers, Cond.code yX0_askedOfNonPayers cX0_askedOfNonPayers 3 (some .int), Cond.fieldLink RX0 9 "JointVenture$CashCall" "asked" "[I", Cond.methodLink RX3 186 yX3_moveToPayers, Cond.instanceMethod yX3_moveToPayers, Cond.selects RX3 yX3_moveToPayers yX3_moveToPayers, Cond.code yX3_moveToPayers cX3_moveToPayers 4 none, Cond.fieldLink RX3 47 "JointVenture" "owed" "[I"]
def wsL_isCash : List Cond := .code yL_isCash cL_isCash 21 (some .boolean) :: ((wsL_isCash_r1 ++ (wsL_isCash_r2 ++ (wsL_isCash_r3 ++ (wsL_isCash_r4 ++ wsL_isCash_r5)))) ++ wsX30 ++ wsX00 ++ wsX20 ++ wsX10 ++ (vx_atS RX3 83 "java/lang/IllegalStateException" ["java/lang/RuntimeException", "java/lang/Exception"]).filter goodWord ++ (vx_atS RX3 200 "java/lang/IndexOutOfBoundsException" ["java/lang/RuntimeException", "java/lang/Exception"]).filter goodWord ++ (vx_atS RX3 76 "java/lang/IllegalArgumentException" ["java/lang/RuntimeException", "java/lang/Exception"]).filter goodWord)
def wsL_acts_r1 : List Cond := [Cond.methodLink RL 107 yX3_addWell, Cond.instanceMethod yX3_addWell, Cond.selects RX3 yX3_addWell yX3_addWell, Cond.initialized RX3, Cond.code yX3_addWell cX3_addWell 1 (some .int), Cond.classLink RX3 79 "java/lang/IllegalStateException", Cond.initialized "java/lang/IllegalStateException", Cond.fieldLink RX3 26 "JointVenture" "wellCount" "I", Cond.fieldLink RX3 22 "JointVenture" "wells" "[LJointVenture$Well;", Cond.fieldLink RX3 13 "JointVenture" "newPenalty" "I", Cond.fieldLink RX3 87 "JointVenture$Well" "penalty" "I", Cond.methodLink RL 110 yX3_setPenalty, Cond.instanceMethod yX3_setPenalty, Cond.selects RX3 yX3_setPenalty yX3_setPenalty, Cond.code yX3_setPenalty cX3_setPenalty 3 (some .int), Cond.methodLink RX3 68 yX3_requireRange, Cond.instanceMethod yX3_requireRange, Cond.selects RX3 yX3_requireRange yX3_requireRange, Cond.code yX3_requireRange cX3_requireRange 4 none, Cond.classLink RX3 72 "java/lang/IllegalArgumentException", Cond.initialized "java/lang/IllegalArgumentException", Cond.methodLink RL 113 yX3_setOverhead, Cond.instanceMethod yX3_setOverhead, Cond.selects RX3 yX3_setOverhead yX3_setOverhead]
def wsL_acts_r2 : List Cond := [Cond.code yX3_setOverhead cX3_setOverhead 3 (some .int), Cond.constant RX3 84 (100000), Cond.fieldLink RX3 17 "JointVenture" "monthlyOverhead" "I", Cond.methodLink RL 116 yL_elected, Cond.static yL_elected, Cond.initialized RL, Cond.codeWith yL_elected cL_elected 5 (some .int) [(0, 15, 16, 83)], Cond.classLink RL 83 "java/lang/IllegalStateException", Cond.methodLink RL 79 yX3_elect, Cond.instanceMethod yX3_elect, Cond.selects RX3 yX3_elect yX3_elect, Cond.code yX3_elect cX3_elect 6 (some .boolean), Cond.fieldLink RX3 97 "JointVenture$Well" "hadVoucher" "Z", Cond.fieldLink RX3 9 "JointVenture" "shares" "[I", Cond.fieldLink RX3 111 "JointVenture$Well" "electedOut" "[Z", Cond.fieldLink RX3 115 "JointVenture$Well" "out" "[Z", Cond.methodLink RX3 90 yX3_requireWell, Cond.instanceMethod yX3_requireWell, Cond.selects RX3 yX3_requireWell yX3_requireWell, Cond.code yX3_requireWell cX3_requireWell 2 none, Cond.classLink RX3 196 "java/lang/IndexOutOfBoundsException", Cond.initialized "java/lang/IndexOutOfBoundsException", Cond.methodLink RX3 94 yX3_requirePartner, Cond.instanceMethod yX3_requirePartner]
def wsL_acts_r3 : List Cond := [Cond.selects RX3 yX3_requirePartner yX3_requirePartner, Cond.code yX3_requirePartner cX3_requirePartner 2 none, Cond.methodLink RX3 105 yX3_isAnotherIn, Cond.instanceMethod yX3_isAnotherIn, Cond.selects RX3 yX3_isAnotherIn yX3_isAnotherIn, Cond.code yX3_isAnotherIn cX3_isAnotherIn 4 (some .boolean), Cond.methodLink RX3 136 yX3_shareIfIn, Cond.instanceMethod yX3_shareIfIn, Cond.selects RX3 yX3_shareIfIn yX3_shareIfIn, Cond.code yX3_shareIfIn cX3_shareIfIn 3 (some .int), Cond.methodLink RL 120 yL_entered, Cond.static yL_entered, Cond.codeWith yL_entered cL_entered 4 (some .int) [(0, 6, 7, 83)], Cond.methodLink RL 85 yX3_overhead, Cond.instanceMethod yX3_overhead, Cond.selects RX3 yX3_overhead yX3_overhead, Cond.code yX3_overhead cX3_overhead 3 (some .int), Cond.methodLink RX3 119 yX3_requireRoomForVoucher, Cond.instanceMethod yX3_requireRoomForVoucher, Cond.selects RX3 yX3_requireRoomForVoucher yX3_requireRoomForVoucher, Cond.code yX3_requireRoomForVoucher cX3_requireRoomForVoucher 1 none, Cond.fieldLink RX3 35 "JointVenture" "voucherCount" "I", Cond.methodLink RX3 122 yX3_addVoucher, Cond.instanceMethod yX3_addVoucher]
def wsL_acts_r4 : List Cond := [Cond.selects RX3 yX3_addVoucher yX3_addVoucher, Cond.code yX3_addVoucher cX3_addVoucher 4 (some .int), Cond.fieldLink RX3 29 "JointVenture" "voucherWells" "[I", Cond.fieldLink RX3 32 "JointVenture" "voucherAmounts" "[I", Cond.methodLink RX3 209 yX3_account, Cond.instanceMethod yX3_account, Cond.selects RX3 yX3_account yX3_account, Cond.code yX3_account cX3_account 4 none, Cond.methodLink RX3 215 yX3_accountCost, Cond.instanceMethod yX3_accountCost, Cond.selects RX3 yX3_accountCost yX3_accountCost, Cond.code yX3_accountCost cX3_accountCost 4 none, Cond.fieldLink RX3 147 "JointVenture$Well" "charged" "[I", Cond.fieldLink RX3 63 "JointVenture" "portions" "[I", Cond.fieldLink RX3 140 "JointVenture$Well" "toEarn" "[J", Cond.fieldLink RX3 57 "JointVenture" "ownParts" "[I", Cond.methodLink RX3 153 yX3_divideCost, Cond.instanceMethod yX3_divideCost, Cond.selects RX3 yX3_divideCost yX3_divideCost, Cond.code yX3_divideCost cX3_divideCost 4 none, Cond.fieldLink RX3 53 "JointVenture" "division" "LJointVenture$Division;", Cond.fieldLink RX3 60 "JointVenture" "weights" "[I", Cond.methodLink RX3 162 yX1_divide, Cond.instanceMethod yX1_divide]
def wsL_acts_r5 : List Cond := [Cond.selects RX1 yX1_divide yX1_divide, Cond.initialized RX1, Cond.code yX1_divide cX1_divide 10 none, Cond.fieldLink RX1 9 "JointVenture$Division" "remainders" "[J", Cond.constantLong RX1 25 (-1), Cond.methodLink RX1 15 yJ7_fill_53178, Cond.static yJ7_fill_53178, Cond.initialized RJ7, Cond.code yJ7_fill_53178 cJ7_fill_53178 4 none, Cond.methodLink RX1 21 yX1_firstWithGreatestRemainder, Cond.instanceMethod yX1_firstWithGreatestRemainder, Cond.selects RX1 yX1_firstWithGreatestRemainder yX1_firstWithGreatestRemainder, Cond.code yX1_firstWithGreatestRemainder cX1_firstWithGreatestRemainder 3 (some .int), Cond.methodLink RX3 232 yX3_weighThoseIn, Cond.instanceMethod yX3_weighThoseIn, Cond.selects RX3 yX3_weighThoseIn yX3_weighThoseIn, Cond.code yX3_weighThoseIn cX3_weighThoseIn 3 none, Cond.methodLink RX3 236 yX3_ownPartsOfThoseOut, Cond.instanceMethod yX3_ownPartsOfThoseOut, Cond.selects RX3 yX3_ownPartsOfThoseOut yX3_ownPartsOfThoseOut, Cond.code yX3_ownPartsOfThoseOut cX3_ownPartsOfThoseOut 4 (some .int), Cond.methodLink RX3 224 yX3_penaltyOn, Cond.instanceMethod yX3_penaltyOn, Cond.selects RX3 yX3_penaltyOn yX3_penaltyOn]
def wsL_acts_r6 : List Cond := [Cond.code yX3_penaltyOn cX3_penaltyOn 3 (some .long), Cond.constantLong RX3 228 (99), Cond.constantLong RX3 230 (100), Cond.methodLink RX3 218 yX3_accountIncome, Cond.instanceMethod yX3_accountIncome, Cond.selects RX3 yX3_accountIncome yX3_accountIncome, Cond.code yX3_accountIncome cX3_accountIncome 5 none, Cond.fieldLink RX3 150 "JointVenture$Well" "credited" "[I", Cond.methodLink RX3 240 yX2_takenOf, Cond.instanceMethod yX2_takenOf, Cond.selects RX2 yX2_takenOf yX2_takenOf, Cond.initialized RX2, Cond.code yX2_takenOf cX2_takenOf 3 (some .int), Cond.fieldLink RX2 23 "JointVenture$Well" "out" "[Z", Cond.fieldLink RX2 26 "JointVenture$Well" "toEarn" "[J", Cond.methodLink RX2 49 Lib.MathLoose.min_long.x, Cond.static Lib.MathLoose.min_long.x, Cond.initialized "java/lang/Math", Cond.code Lib.MathLoose.min_long.x Lib.MathLoose.min_long.code 4 (some .long), Cond.methodLink RX3 243 yX3_creditTaken, Cond.instanceMethod yX3_creditTaken, Cond.selects RX3 yX3_creditTaken yX3_creditTaken, Cond.code yX3_creditTaken cX3_creditTaken 4 none, Cond.methodLink RX3 221 yX2_takeBack]
def wsL_acts_r7 : List Cond := [Cond.instanceMethod yX2_takeBack, Cond.selects RX2 yX2_takeBack yX2_takeBack, Cond.code yX2_takeBack cX2_takeBack 3 none, Cond.fieldLink RX2 30 "JointVenture$Well" "backAt" "[I", Cond.methodLink RL 123 yX3_income, Cond.instanceMethod yX3_income, Cond.selects RX3 yX3_income yX3_income, Cond.code yX3_income cX3_income 3 (some .int), Cond.constant RX3 118 (10000000), Cond.methodLink RL 126 yX3_cost, Cond.instanceMethod yX3_cost, Cond.selects RX3 yX3_cost yX3_cost, Cond.code yX3_cost cX3_cost 3 (some .int), Cond.methodLink RL 129 yL_moved, Cond.static yL_moved, Cond.codeWith yL_moved cL_moved 4 (some .int) [(0, 6, 7, 83)], Cond.methodLink RL 88 yX3_move, Cond.instanceMethod yX3_move, Cond.selects RX3 yX3_move yX3_move, Cond.code yX3_move cX3_move 4 (some .int), Cond.methodLink RX3 128 yX3_requireVoucher, Cond.instanceMethod yX3_requireVoucher, Cond.selects RX3 yX3_requireVoucher yX3_requireVoucher, Cond.code yX3_requireVoucher cX3_requireVoucher 2 none]
def wsL_acts_r8 : List Cond := [Cond.methodLink RX3 133 yX3_accountAnew, Cond.instanceMethod yX3_accountAnew, Cond.selects RX3 yX3_accountAnew yX3_accountAnew, Cond.code yX3_accountAnew cX3_accountAnew 3 none, Cond.methodLink RX3 212 yX2_clearAccounts, Cond.instanceMethod yX2_clearAccounts, Cond.selects RX2 yX2_clearAccounts yX2_clearAccounts, Cond.code yX2_clearAccounts cX2_clearAccounts 2 none, Cond.fieldLink RX2 34 "JointVenture$Well" "charged" "[I", Cond.fieldLink RX2 37 "JointVenture$Well" "credited" "[I", Cond.fieldLink RX2 19 "JointVenture$Well" "electedOut" "[Z", Cond.methodLink RX2 46 yJ7_fill_d0a16, Cond.static yJ7_fill_d0a16, Cond.code yJ7_fill_d0a16 cJ7_fill_d0a16 5 none, Cond.methodLink RX2 40 yJ7_fill_53178, Cond.methodLink RL 132 yL_isCash, Cond.static yL_isCash, Cond.code yL_isCash cL_isCash 21 (some .boolean), Cond.arrayClass .long, Cond.methodLink RL 42 yL_weigh, Cond.static yL_weigh, Cond.code yL_weigh cL_weigh 9 none, Cond.constantLong RL 27 (10000), Cond.methodLink RL 23 yL_account]
def wsL_acts_r9 : List Cond := [Cond.static yL_account, Cond.code yL_account cL_account 8 none, Cond.constantLong RL 17 (-1), Cond.methodLink RL 19 yL_enter, Cond.static yL_enter, Cond.code yL_enter cL_enter 18 none, Cond.constantLong RL 15 (100), Cond.methodLink RL 9 yL_divide, Cond.static yL_divide, Cond.code yL_divide cL_divide 13 none, Cond.methodLink RL 97 yX3_call, Cond.instanceMethod yX3_call, Cond.selects RX3 yX3_call yX3_call, Cond.code yX3_call cX3_call 3 (some .int), Cond.fieldLink RX3 44 "JointVenture" "cashCallCount" "I", Cond.fieldLink RX3 40 "JointVenture" "cashCalls" "[LJointVenture$CashCall;", Cond.fieldLink RX3 159 "JointVenture$CashCall" "asked" "[I", Cond.methodLink RL 100 yL_paid, Cond.static yL_paid, Cond.codeWith yL_paid cL_paid 4 (some .int) [(0, 6, 7, 83)], Cond.methodLink RL 91 yX3_pay, Cond.instanceMethod yX3_pay, Cond.selects RX3 yX3_pay yX3_pay, Cond.code yX3_pay cX3_pay 5 (some .int)]
def wsL_acts_r10 : List Cond := [Cond.fieldLink RX3 169 "JointVenture$CashCall" "paid" "[I", Cond.methodLink RX3 166 yX3_requireCashCall, Cond.instanceMethod yX3_requireCashCall, Cond.selects RX3 yX3_requireCashCall yX3_requireCashCall, Cond.code yX3_requireCashCall cX3_requireCashCall 2 none, Cond.methodLink RL 103 yL_shared, Cond.static yL_shared, Cond.codeWith yL_shared cL_shared 3 (some .int) [(0, 5, 6, 83)], Cond.methodLink RL 94 yX3_shareOut, Cond.instanceMethod yX3_shareOut, Cond.selects RX3 yX3_shareOut yX3_shareOut, Cond.code yX3_shareOut cX3_shareOut 4 (some .int), Cond.methodLink RX3 174 yX0_hasPayer, Cond.instanceMethod yX0_hasPayer, Cond.selects RX0 yX0_hasPayer yX0_hasPayer, Cond.initialized RX0, Cond.code yX0_hasPayer cX0_hasPayer 2 (some .boolean), Cond.fieldLink RX0 15 "JointVenture$CashCall" "paid" "[I", Cond.methodLink RX3 180 yX0_askedOfNonPayers, Cond.instanceMethod yX0_askedOfNonPayers, Cond.selects RX0 yX0_askedOfNonPayers yX0_askedOfNonPayers, Cond.code yX0_askedOfNonPayers cX0_askedOfNonPayers 3 (some .int), Cond.fieldLink RX0 9 "JointVenture$CashCall" "asked" "[I", Cond.methodLink RX3 186 yX3_moveToPayers]
def wsL_acts_r11 : List Cond := [Cond.instanceMethod yX3_moveToPayers, Cond.selects RX3 yX3_moveToPayers yX3_moveToPayers, Cond.code yX3_moveToPayers cX3_moveToPayers 4 none, Cond.fieldLink RX3 47 "JointVenture" "owed" "[I"]
def wsL_acts : List Cond := .code yL_acts cL_acts 18 (some .boolean) :: ((wsL_acts_r1 ++ (wsL_acts_r2 ++ (wsL_acts_r3 ++ (wsL_acts_r4 ++ (wsL_acts_r5 ++ (wsL_acts_r6 ++ (wsL_acts_r7 ++ (wsL_acts_r8 ++ (wsL_acts_r9 ++ (wsL_acts_r10 ++ wsL_acts_r11)))))))))) ++ wsX30 ++ wsX20 ++ wsX10 ++ wsX00 ++ (vx_atS RX3 83 "java/lang/IllegalStateException" ["java/lang/RuntimeException", "java/lang/Exception"]).filter goodWord ++ (vx_atS RX3 76 "java/lang/IllegalArgumentException" ["java/lang/RuntimeException", "java/lang/Exception"]).filter goodWord ++ (vx_atS RX3 200 "java/lang/IndexOutOfBoundsException" ["java/lang/RuntimeException", "java/lang/Exception"]).filter goodWord)
def wsL_holds_r1 : List Cond := [Cond.classLink RL 30 RX3, Cond.instantiable RX3 15, Cond.initialized RX3, Cond.arrayClass .int, Cond.constant RL 145 (1000000), Cond.methodLink RL 136 yX3_init, Cond.instanceMethod yX3_init, Cond.code yX3_init cX3_init 2 none, Cond.methodLink RX3 1 objectInit, Cond.instanceMethod objectInit, Cond.code objectInit ⟨#[0xb1]⟩ 1 none, Cond.fieldLink RX3 9 "JointVenture" "shares" "[I", Cond.fieldLink RX3 13 "JointVenture" "newPenalty" "I", Cond.fieldLink RX3 17 "JointVenture" "monthlyOverhead" "I", Cond.classLink RX3 20 RX2, Cond.fieldLink RX3 22 "JointVenture" "wells" "[LJointVenture$Well;", Cond.fieldLink RX3 26 "JointVenture" "wellCount" "I", Cond.fieldLink RX3 29 "JointVenture" "voucherWells" "[I", Cond.fieldLink RX3 32 "JointVenture" "voucherAmounts" "[I", Cond.fieldLink RX3 35 "JointVenture" "voucherCount" "I", Cond.classLink RX3 38 RX0, Cond.fieldLink RX3 40 "JointVenture" "cashCalls" "[LJointVenture$CashCall;", Cond.fieldLink RX3 44 "JointVenture" "cashCallCount" "I", Cond.fieldLink RX3 47 "JointVenture" "owed" "[I"]
def wsL_holds_r2 : List Cond := [Cond.classLink RX3 50 RX1, Cond.instantiable RX1 1, Cond.initialized RX1, Cond.fieldLink RX3 53 "JointVenture" "division" "LJointVenture$Division;", Cond.fieldLink RX3 57 "JointVenture" "ownParts" "[I", Cond.fieldLink RX3 60 "JointVenture" "weights" "[I", Cond.fieldLink RX3 63 "JointVenture" "portions" "[I", Cond.instantiable RX2 8, Cond.initialized RX2, Cond.instantiable RX0 2, Cond.initialized RX0, Cond.instanceMethod yX1_init, Cond.code yX1_init cX1_init 1 none, Cond.methodLink RX1 3 objectInit, Cond.arrayClass .long, Cond.fieldLink RX1 9 "JointVenture$Division" "remainders" "[J", Cond.methodLink RX3 66 yX2_init, Cond.instanceMethod yX2_init, Cond.code yX2_init cX2_init 1 none, Cond.methodLink RX2 3 objectInit, Cond.fieldLink RX2 9 "JointVenture$Well" "penalty" "I", Cond.fieldLink RX2 15 "JointVenture$Well" "hadVoucher" "Z", Cond.arrayClass .boolean, Cond.fieldLink RX2 19 "JointVenture$Well" "electedOut" "[Z"]
def wsL_holds_r3 : List Cond := [Cond.fieldLink RX2 23 "JointVenture$Well" "out" "[Z", Cond.fieldLink RX2 26 "JointVenture$Well" "toEarn" "[J", Cond.fieldLink RX2 30 "JointVenture$Well" "backAt" "[I", Cond.fieldLink RX2 34 "JointVenture$Well" "charged" "[I", Cond.fieldLink RX2 37 "JointVenture$Well" "credited" "[I", Cond.methodLink RX2 40 yJ7_fill_53178, Cond.static yJ7_fill_53178, Cond.initialized RJ7, Cond.code yJ7_fill_53178 cJ7_fill_53178 4 none, Cond.instanceMethod yX0_init, Cond.code yX0_init cX0_init 1 none, Cond.methodLink RX0 3 objectInit, Cond.fieldLink RX0 9 "JointVenture$CashCall" "asked" "[I", Cond.fieldLink RX0 15 "JointVenture$CashCall" "paid" "[I", Cond.methodLink RL 137 yL_from, Cond.static yL_from, Cond.initialized RL, Cond.code yL_from cL_from 4 (some .int), Cond.constant RL 7 (132049), Cond.constant RL 8 (2147483647), Cond.methodLink RL 141 yX3_setShares, Cond.instanceMethod yX3_setShares, Cond.selects RX3 yX3_setShares yX3_setShares, Cond.code yX3_setShares cX3_setShares 6 none]
def wsL_holds_r4 : List Cond := [Cond.classLink RX3 72 "java/lang/IllegalArgumentException", Cond.initialized "java/lang/IllegalArgumentException", Cond.classLink RX3 79 "java/lang/IllegalStateException", Cond.initialized "java/lang/IllegalStateException", Cond.methodLink RX3 68 yX3_requireRange, Cond.instanceMethod yX3_requireRange, Cond.selects RX3 yX3_requireRange yX3_requireRange, Cond.code yX3_requireRange cX3_requireRange 4 none, Cond.methodLink RL 107 yX3_addWell, Cond.instanceMethod yX3_addWell, Cond.selects RX3 yX3_addWell yX3_addWell, Cond.code yX3_addWell cX3_addWell 1 (some .int), Cond.fieldLink RX3 87 "JointVenture$Well" "penalty" "I", Cond.methodLink RL 146 yL_acts, Cond.static yL_acts, Cond.code yL_acts cL_acts 18 (some .boolean), Cond.methodLink RL 110 yX3_setPenalty, Cond.instanceMethod yX3_setPenalty, Cond.selects RX3 yX3_setPenalty yX3_setPenalty, Cond.code yX3_setPenalty cX3_setPenalty 3 (some .int), Cond.methodLink RL 113 yX3_setOverhead, Cond.instanceMethod yX3_setOverhead, Cond.selects RX3 yX3_setOverhead yX3_setOverhead, Cond.code yX3_setOverhead cX3_setOverhead 3 (some .int)]
def wsL_holds_r5 : List Cond := [Cond.constant RX3 84 (100000), Cond.methodLink RL 116 yL_elected, Cond.static yL_elected, Cond.codeWith yL_elected cL_elected 5 (some .int) [(0, 15, 16, 83)], Cond.classLink RL 83 "java/lang/IllegalStateException", Cond.methodLink RL 79 yX3_elect, Cond.instanceMethod yX3_elect, Cond.selects RX3 yX3_elect yX3_elect, Cond.code yX3_elect cX3_elect 6 (some .boolean), Cond.fieldLink RX3 97 "JointVenture$Well" "hadVoucher" "Z", Cond.fieldLink RX3 111 "JointVenture$Well" "electedOut" "[Z", Cond.fieldLink RX3 115 "JointVenture$Well" "out" "[Z", Cond.methodLink RX3 90 yX3_requireWell, Cond.instanceMethod yX3_requireWell, Cond.selects RX3 yX3_requireWell yX3_requireWell, Cond.code yX3_requireWell cX3_requireWell 2 none, Cond.classLink RX3 196 "java/lang/IndexOutOfBoundsException", Cond.initialized "java/lang/IndexOutOfBoundsException", Cond.methodLink RX3 94 yX3_requirePartner, Cond.instanceMethod yX3_requirePartner, Cond.selects RX3 yX3_requirePartner yX3_requirePartner, Cond.code yX3_requirePartner cX3_requirePartner 2 none, Cond.methodLink RX3 105 yX3_isAnotherIn, Cond.instanceMethod yX3_isAnotherIn]
def wsL_holds_r6 : List Cond := [Cond.selects RX3 yX3_isAnotherIn yX3_isAnotherIn, Cond.code yX3_isAnotherIn cX3_isAnotherIn 4 (some .boolean), Cond.methodLink RX3 136 yX3_shareIfIn, Cond.instanceMethod yX3_shareIfIn, Cond.selects RX3 yX3_shareIfIn yX3_shareIfIn, Cond.code yX3_shareIfIn cX3_shareIfIn 3 (some .int), Cond.methodLink RL 120 yL_entered, Cond.static yL_entered, Cond.codeWith yL_entered cL_entered 4 (some .int) [(0, 6, 7, 83)], Cond.methodLink RL 85 yX3_overhead, Cond.instanceMethod yX3_overhead, Cond.selects RX3 yX3_overhead yX3_overhead, Cond.code yX3_overhead cX3_overhead 3 (some .int), Cond.methodLink RX3 119 yX3_requireRoomForVoucher, Cond.instanceMethod yX3_requireRoomForVoucher, Cond.selects RX3 yX3_requireRoomForVoucher yX3_requireRoomForVoucher, Cond.code yX3_requireRoomForVoucher cX3_requireRoomForVoucher 1 none, Cond.methodLink RX3 122 yX3_addVoucher, Cond.instanceMethod yX3_addVoucher, Cond.selects RX3 yX3_addVoucher yX3_addVoucher, Cond.code yX3_addVoucher cX3_addVoucher 4 (some .int), Cond.methodLink RX3 209 yX3_account, Cond.instanceMethod yX3_account, Cond.selects RX3 yX3_account yX3_account]
def wsL_holds_r7 : List Cond := [Cond.code yX3_account cX3_account 4 none, Cond.methodLink RX3 215 yX3_accountCost, Cond.instanceMethod yX3_accountCost, Cond.selects RX3 yX3_accountCost yX3_accountCost, Cond.code yX3_accountCost cX3_accountCost 4 none, Cond.fieldLink RX3 147 "JointVenture$Well" "charged" "[I", Cond.fieldLink RX3 140 "JointVenture$Well" "toEarn" "[J", Cond.methodLink RX3 153 yX3_divideCost, Cond.instanceMethod yX3_divideCost, Cond.selects RX3 yX3_divideCost yX3_divideCost, Cond.code yX3_divideCost cX3_divideCost 4 none, Cond.methodLink RX3 162 yX1_divide, Cond.instanceMethod yX1_divide, Cond.selects RX1 yX1_divide yX1_divide, Cond.code yX1_divide cX1_divide 10 none, Cond.constantLong RX1 25 (-1), Cond.methodLink RX1 15 yJ7_fill_53178, Cond.methodLink RX1 21 yX1_firstWithGreatestRemainder, Cond.instanceMethod yX1_firstWithGreatestRemainder, Cond.selects RX1 yX1_firstWithGreatestRemainder yX1_firstWithGreatestRemainder, Cond.code yX1_firstWithGreatestRemainder cX1_firstWithGreatestRemainder 3 (some .int), Cond.methodLink RX3 232 yX3_weighThoseIn, Cond.instanceMethod yX3_weighThoseIn, Cond.selects RX3 yX3_weighThoseIn yX3_weighThoseIn]
def wsL_holds_r8 : List Cond := [Cond.code yX3_weighThoseIn cX3_weighThoseIn 3 none, Cond.methodLink RX3 236 yX3_ownPartsOfThoseOut, Cond.instanceMethod yX3_ownPartsOfThoseOut, Cond.selects RX3 yX3_ownPartsOfThoseOut yX3_ownPartsOfThoseOut, Cond.code yX3_ownPartsOfThoseOut cX3_ownPartsOfThoseOut 4 (some .int), Cond.methodLink RX3 224 yX3_penaltyOn, Cond.instanceMethod yX3_penaltyOn, Cond.selects RX3 yX3_penaltyOn yX3_penaltyOn, Cond.code yX3_penaltyOn cX3_penaltyOn 3 (some .long), Cond.constantLong RX3 228 (99), Cond.constantLong RX3 230 (100), Cond.methodLink RX3 218 yX3_accountIncome, Cond.instanceMethod yX3_accountIncome, Cond.selects RX3 yX3_accountIncome yX3_accountIncome, Cond.code yX3_accountIncome cX3_accountIncome 5 none, Cond.fieldLink RX3 150 "JointVenture$Well" "credited" "[I", Cond.methodLink RX3 240 yX2_takenOf, Cond.instanceMethod yX2_takenOf, Cond.selects RX2 yX2_takenOf yX2_takenOf, Cond.code yX2_takenOf cX2_takenOf 3 (some .int), Cond.methodLink RX2 49 Lib.MathLoose.min_long.x, Cond.static Lib.MathLoose.min_long.x, Cond.initialized "java/lang/Math", Cond.code Lib.MathLoose.min_long.x Lib.MathLoose.min_long.code 4 (some .long)]
def wsL_holds_r9 : List Cond := [Cond.methodLink RX3 243 yX3_creditTaken, Cond.instanceMethod yX3_creditTaken, Cond.selects RX3 yX3_creditTaken yX3_creditTaken, Cond.code yX3_creditTaken cX3_creditTaken 4 none, Cond.methodLink RX3 221 yX2_takeBack, Cond.instanceMethod yX2_takeBack, Cond.selects RX2 yX2_takeBack yX2_takeBack, Cond.code yX2_takeBack cX2_takeBack 3 none, Cond.methodLink RL 123 yX3_income, Cond.instanceMethod yX3_income, Cond.selects RX3 yX3_income yX3_income, Cond.code yX3_income cX3_income 3 (some .int), Cond.constant RX3 118 (10000000), Cond.methodLink RL 126 yX3_cost, Cond.instanceMethod yX3_cost, Cond.selects RX3 yX3_cost yX3_cost, Cond.code yX3_cost cX3_cost 3 (some .int), Cond.methodLink RL 129 yL_moved, Cond.static yL_moved, Cond.codeWith yL_moved cL_moved 4 (some .int) [(0, 6, 7, 83)], Cond.methodLink RL 88 yX3_move, Cond.instanceMethod yX3_move, Cond.selects RX3 yX3_move yX3_move, Cond.code yX3_move cX3_move 4 (some .int)]
def wsL_holds_r10 : List Cond := [Cond.methodLink RX3 128 yX3_requireVoucher, Cond.instanceMethod yX3_requireVoucher, Cond.selects RX3 yX3_requireVoucher yX3_requireVoucher, Cond.code yX3_requireVoucher cX3_requireVoucher 2 none, Cond.methodLink RX3 133 yX3_accountAnew, Cond.instanceMethod yX3_accountAnew, Cond.selects RX3 yX3_accountAnew yX3_accountAnew, Cond.code yX3_accountAnew cX3_accountAnew 3 none, Cond.methodLink RX3 212 yX2_clearAccounts, Cond.instanceMethod yX2_clearAccounts, Cond.selects RX2 yX2_clearAccounts yX2_clearAccounts, Cond.code yX2_clearAccounts cX2_clearAccounts 2 none, Cond.methodLink RX2 46 yJ7_fill_d0a16, Cond.static yJ7_fill_d0a16, Cond.code yJ7_fill_d0a16 cJ7_fill_d0a16 5 none, Cond.methodLink RL 132 yL_isCash, Cond.static yL_isCash, Cond.code yL_isCash cL_isCash 21 (some .boolean), Cond.methodLink RL 42 yL_weigh, Cond.static yL_weigh, Cond.code yL_weigh cL_weigh 9 none, Cond.constantLong RL 27 (10000), Cond.methodLink RL 23 yL_account, Cond.static yL_account]
def wsL_holds_r11 : List Cond := [Cond.code yL_account cL_account 8 none, Cond.constantLong RL 17 (-1), Cond.methodLink RL 19 yL_enter, Cond.static yL_enter, Cond.code yL_enter cL_enter 18 none, Cond.constantLong RL 15 (100), Cond.methodLink RL 9 yL_divide, Cond.static yL_divide, Cond.code yL_divide cL_divide 13 none, Cond.methodLink RL 97 yX3_call, Cond.instanceMethod yX3_call, Cond.selects RX3 yX3_call yX3_call, Cond.code yX3_call cX3_call 3 (some .int), Cond.fieldLink RX3 159 "JointVenture$CashCall" "asked" "[I", Cond.methodLink RL 100 yL_paid, Cond.static yL_paid, Cond.codeWith yL_paid cL_paid 4 (some .int) [(0, 6, 7, 83)], Cond.methodLink RL 91 yX3_pay, Cond.instanceMethod yX3_pay, Cond.selects RX3 yX3_pay yX3_pay, Cond.code yX3_pay cX3_pay 5 (some .int), Cond.fieldLink RX3 169 "JointVenture$CashCall" "paid" "[I", Cond.methodLink RX3 166 yX3_requireCashCall, Cond.instanceMethod yX3_requireCashCall]
def wsL_holds_r12 : List Cond := [Cond.selects RX3 yX3_requireCashCall yX3_requireCashCall, Cond.code yX3_requireCashCall cX3_requireCashCall 2 none, Cond.methodLink RL 103 yL_shared, Cond.static yL_shared, Cond.codeWith yL_shared cL_shared 3 (some .int) [(0, 5, 6, 83)], Cond.methodLink RL 94 yX3_shareOut, Cond.instanceMethod yX3_shareOut, Cond.selects RX3 yX3_shareOut yX3_shareOut, Cond.code yX3_shareOut cX3_shareOut 4 (some .int), Cond.methodLink RX3 174 yX0_hasPayer, Cond.instanceMethod yX0_hasPayer, Cond.selects RX0 yX0_hasPayer yX0_hasPayer, Cond.code yX0_hasPayer cX0_hasPayer 2 (some .boolean), Cond.methodLink RX3 180 yX0_askedOfNonPayers, Cond.instanceMethod yX0_askedOfNonPayers, Cond.selects RX0 yX0_askedOfNonPayers yX0_askedOfNonPayers, Cond.code yX0_askedOfNonPayers cX0_askedOfNonPayers 3 (some .int), Cond.methodLink RX3 186 yX3_moveToPayers, Cond.instanceMethod yX3_moveToPayers, Cond.selects RX3 yX3_moveToPayers yX3_moveToPayers, Cond.code yX3_moveToPayers cX3_moveToPayers 4 none, Cond.methodLink RL 150 yL_isTold, Cond.static yL_isTold, Cond.code yL_isTold cL_isTold 16 (some .boolean)]
def wsL_holds_r13 : List Cond := [Cond.methodLink RL 29 yX3_vouchers, Cond.instanceMethod yX3_vouchers, Cond.selects RX3 yX3_vouchers yX3_vouchers, Cond.code yX3_vouchers cX3_vouchers 1 (some .int), Cond.methodLink RL 35 yX3_wellOf, Cond.instanceMethod yX3_wellOf, Cond.selects RX3 yX3_wellOf yX3_wellOf, Cond.code yX3_wellOf cX3_wellOf 2 (some .int), Cond.methodLink RL 39 yX3_amountOf, Cond.instanceMethod yX3_amountOf, Cond.selects RX3 yX3_amountOf yX3_amountOf, Cond.code yX3_amountOf cX3_amountOf 2 (some .int), Cond.methodLink RL 45 yX3_isIn, Cond.instanceMethod yX3_isIn, Cond.selects RX3 yX3_isIn yX3_isIn, Cond.code yX3_isIn cX3_isIn 3 (some .boolean), Cond.methodLink RL 49 yX3_toEarn, Cond.instanceMethod yX3_toEarn, Cond.selects RX3 yX3_toEarn yX3_toEarn, Cond.code yX3_toEarn cX3_toEarn 3 (some .long), Cond.methodLink RL 53 yX3_backAt, Cond.instanceMethod yX3_backAt, Cond.selects RX3 yX3_backAt yX3_backAt, Cond.code yX3_backAt cX3_backAt 3 (some .int)]
def wsL_holds_r14 : List Cond := [Cond.fieldLink RX3 144 "JointVenture$Well" "backAt" "[I", Cond.methodLink RL 57 yX3_charged, Cond.instanceMethod yX3_charged, Cond.selects RX3 yX3_charged yX3_charged, Cond.code yX3_charged cX3_charged 3 (some .int), Cond.methodLink RL 60 yX3_credited, Cond.instanceMethod yX3_credited, Cond.selects RX3 yX3_credited yX3_credited, Cond.code yX3_credited cX3_credited 3 (some .int), Cond.methodLink RL 63 yX3_weight, Cond.instanceMethod yX3_weight, Cond.selects RX3 yX3_weight yX3_weight, Cond.code yX3_weight cX3_weight 3 (some .int), Cond.methodLink RL 66 yX3_asked, Cond.instanceMethod yX3_asked, Cond.selects RX3 yX3_asked yX3_asked, Cond.code yX3_asked cX3_asked 3 (some .int), Cond.methodLink RL 69 yX3_paid, Cond.instanceMethod yX3_paid, Cond.selects RX3 yX3_paid yX3_paid, Cond.code yX3_paid cX3_paid 2 (some .int), Cond.methodLink RX3 190 yX3_paidOfAllCalls, Cond.instanceMethod yX3_paidOfAllCalls, Cond.selects RX3 yX3_paidOfAllCalls yX3_paidOfAllCalls]
def wsL_holds_r15 : List Cond := [Cond.code yX3_paidOfAllCalls cX3_paidOfAllCalls 4 (some .int), Cond.methodLink RL 72 yX3_owes, Cond.instanceMethod yX3_owes, Cond.selects RX3 yX3_owes yX3_owes, Cond.code yX3_owes cX3_owes 2 (some .int), Cond.methodLink RL 75 yX3_balance, Cond.instanceMethod yX3_balance, Cond.selects RX3 yX3_balance yX3_balance, Cond.code yX3_balance cX3_balance 5 (some .long)]
def wsL_holds : List Cond := .code yL_holds cL_holds 14 (some .boolean) :: ((wsL_holds_r1 ++ (wsL_holds_r2 ++ (wsL_holds_r3 ++ (wsL_holds_r4 ++ (wsL_holds_r5 ++ (wsL_holds_r6 ++ (wsL_holds_r7 ++ (wsL_holds_r8 ++ (wsL_holds_r9 ++ (wsL_holds_r10 ++ (wsL_holds_r11 ++ (wsL_holds_r12 ++ (wsL_holds_r13 ++ (wsL_holds_r14 ++ wsL_holds_r15)))))))))))))) ++ wsX30 ++ wsX10 ++ wsX20 ++ wsX00 ++ (vx_atS RX3 76 "java/lang/IllegalArgumentException" ["java/lang/RuntimeException", "java/lang/Exception"]).filter goodWord ++ (vx_atS RX3 83 "java/lang/IllegalStateException" ["java/lang/RuntimeException", "java/lang/Exception"]).filter goodWord ++ (vx_atS RX3 200 "java/lang/IndexOutOfBoundsException" ["java/lang/RuntimeException", "java/lang/Exception"]).filter goodWord)
def wsL_isHeld_r1 : List Cond := [Cond.classLink RL 158 "java/lang/IndexOutOfBoundsException", Cond.classLink RL 160 "java/lang/IllegalArgumentException", Cond.classLink RL 83 "java/lang/IllegalStateException", Cond.methodLink RL 154 yL_holds, Cond.static yL_holds, Cond.initialized RL, Cond.code yL_holds cL_holds 14 (some .boolean), Cond.classLink RL 30 RX3, Cond.instantiable RX3 15, Cond.initialized RX3, Cond.arrayClass .int, Cond.constant RL 145 (1000000), Cond.methodLink RL 136 yX3_init, Cond.instanceMethod yX3_init, Cond.code yX3_init cX3_init 2 none, Cond.methodLink RX3 1 objectInit, Cond.instanceMethod objectInit, Cond.code objectInit ⟨#[0xb1]⟩ 1 none, Cond.fieldLink RX3 9 "JointVenture" "shares" "[I", Cond.fieldLink RX3 13 "JointVenture" "newPenalty" "I", Cond.fieldLink RX3 17 "JointVenture" "monthlyOverhead" "I", Cond.classLink RX3 20 RX2, Cond.fieldLink RX3 22 "JointVenture" "wells" "[LJointVenture$Well;", Cond.fieldLink RX3 26 "JointVenture" "wellCount" "I"]
def wsL_isHeld_r2 : List Cond := [Cond.fieldLink RX3 29 "JointVenture" "voucherWells" "[I", Cond.fieldLink RX3 32 "JointVenture" "voucherAmounts" "[I", Cond.fieldLink RX3 35 "JointVenture" "voucherCount" "I", Cond.classLink RX3 38 RX0, Cond.fieldLink RX3 40 "JointVenture" "cashCalls" "[LJointVenture$CashCall;", Cond.fieldLink RX3 44 "JointVenture" "cashCallCount" "I", Cond.fieldLink RX3 47 "JointVenture" "owed" "[I", Cond.classLink RX3 50 RX1, Cond.instantiable RX1 1, Cond.initialized RX1, Cond.fieldLink RX3 53 "JointVenture" "division" "LJointVenture$Division;", Cond.fieldLink RX3 57 "JointVenture" "ownParts" "[I", Cond.fieldLink RX3 60 "JointVenture" "weights" "[I", Cond.fieldLink RX3 63 "JointVenture" "portions" "[I", Cond.instantiable RX2 8, Cond.initialized RX2, Cond.instantiable RX0 2, Cond.initialized RX0, Cond.instanceMethod yX1_init, Cond.code yX1_init cX1_init 1 none, Cond.methodLink RX1 3 objectInit, Cond.arrayClass .long, Cond.fieldLink RX1 9 "JointVenture$Division" "remainders" "[J", Cond.methodLink RX3 66 yX2_init]
def wsL_isHeld_r3 : List Cond := [Cond.instanceMethod yX2_init, Cond.code yX2_init cX2_init 1 none, Cond.methodLink RX2 3 objectInit, Cond.fieldLink RX2 9 "JointVenture$Well" "penalty" "I", Cond.fieldLink RX2 15 "JointVenture$Well" "hadVoucher" "Z", Cond.arrayClass .boolean, Cond.fieldLink RX2 19 "JointVenture$Well" "electedOut" "[Z", Cond.fieldLink RX2 23 "JointVenture$Well" "out" "[Z", Cond.fieldLink RX2 26 "JointVenture$Well" "toEarn" "[J", Cond.fieldLink RX2 30 "JointVenture$Well" "backAt" "[I", Cond.fieldLink RX2 34 "JointVenture$Well" "charged" "[I", Cond.fieldLink RX2 37 "JointVenture$Well" "credited" "[I", Cond.methodLink RX2 40 yJ7_fill_53178, Cond.static yJ7_fill_53178, Cond.initialized RJ7, Cond.code yJ7_fill_53178 cJ7_fill_53178 4 none, Cond.instanceMethod yX0_init, Cond.code yX0_init cX0_init 1 none, Cond.methodLink RX0 3 objectInit, Cond.fieldLink RX0 9 "JointVenture$CashCall" "asked" "[I", Cond.fieldLink RX0 15 "JointVenture$CashCall" "paid" "[I", Cond.methodLink RL 137 yL_from, Cond.static yL_from, Cond.code yL_from cL_from 4 (some .int)]
def wsL_isHeld_r4 : List Cond := [Cond.constant RL 7 (132049), Cond.constant RL 8 (2147483647), Cond.methodLink RL 141 yX3_setShares, Cond.instanceMethod yX3_setShares, Cond.selects RX3 yX3_setShares yX3_setShares, Cond.code yX3_setShares cX3_setShares 6 none, Cond.classLink RX3 72 "java/lang/IllegalArgumentException", Cond.initialized "java/lang/IllegalArgumentException", Cond.classLink RX3 79 "java/lang/IllegalStateException", Cond.initialized "java/lang/IllegalStateException", Cond.methodLink RX3 68 yX3_requireRange, Cond.instanceMethod yX3_requireRange, Cond.selects RX3 yX3_requireRange yX3_requireRange, Cond.code yX3_requireRange cX3_requireRange 4 none, Cond.methodLink RL 107 yX3_addWell, Cond.instanceMethod yX3_addWell, Cond.selects RX3 yX3_addWell yX3_addWell, Cond.code yX3_addWell cX3_addWell 1 (some .int), Cond.fieldLink RX3 87 "JointVenture$Well" "penalty" "I", Cond.methodLink RL 146 yL_acts, Cond.static yL_acts, Cond.code yL_acts cL_acts 18 (some .boolean), Cond.methodLink RL 110 yX3_setPenalty, Cond.instanceMethod yX3_setPenalty]
def wsL_isHeld_r5 : List Cond := [Cond.selects RX3 yX3_setPenalty yX3_setPenalty, Cond.code yX3_setPenalty cX3_setPenalty 3 (some .int), Cond.methodLink RL 113 yX3_setOverhead, Cond.instanceMethod yX3_setOverhead, Cond.selects RX3 yX3_setOverhead yX3_setOverhead, Cond.code yX3_setOverhead cX3_setOverhead 3 (some .int), Cond.constant RX3 84 (100000), Cond.methodLink RL 116 yL_elected, Cond.static yL_elected, Cond.codeWith yL_elected cL_elected 5 (some .int) [(0, 15, 16, 83)], Cond.methodLink RL 79 yX3_elect, Cond.instanceMethod yX3_elect, Cond.selects RX3 yX3_elect yX3_elect, Cond.code yX3_elect cX3_elect 6 (some .boolean), Cond.fieldLink RX3 97 "JointVenture$Well" "hadVoucher" "Z", Cond.fieldLink RX3 111 "JointVenture$Well" "electedOut" "[Z", Cond.fieldLink RX3 115 "JointVenture$Well" "out" "[Z", Cond.methodLink RX3 90 yX3_requireWell, Cond.instanceMethod yX3_requireWell, Cond.selects RX3 yX3_requireWell yX3_requireWell, Cond.code yX3_requireWell cX3_requireWell 2 none, Cond.classLink RX3 196 "java/lang/IndexOutOfBoundsException", Cond.initialized "java/lang/IndexOutOfBoundsException", Cond.methodLink RX3 94 yX3_requirePartner]
def wsL_isHeld_r6 : List Cond := [Cond.instanceMethod yX3_requirePartner, Cond.selects RX3 yX3_requirePartner yX3_requirePartner, Cond.code yX3_requirePartner cX3_requirePartner 2 none, Cond.methodLink RX3 105 yX3_isAnotherIn, Cond.instanceMethod yX3_isAnotherIn, Cond.selects RX3 yX3_isAnotherIn yX3_isAnotherIn, Cond.code yX3_isAnotherIn cX3_isAnotherIn 4 (some .boolean), Cond.methodLink RX3 136 yX3_shareIfIn, Cond.instanceMethod yX3_shareIfIn, Cond.selects RX3 yX3_shareIfIn yX3_shareIfIn, Cond.code yX3_shareIfIn cX3_shareIfIn 3 (some .int), Cond.methodLink RL 120 yL_entered, Cond.static yL_entered, Cond.codeWith yL_entered cL_entered 4 (some .int) [(0, 6, 7, 83)], Cond.methodLink RL 85 yX3_overhead, Cond.instanceMethod yX3_overhead, Cond.selects RX3 yX3_overhead yX3_overhead, Cond.code yX3_overhead cX3_overhead 3 (some .int), Cond.methodLink RX3 119 yX3_requireRoomForVoucher, Cond.instanceMethod yX3_requireRoomForVoucher, Cond.selects RX3 yX3_requireRoomForVoucher yX3_requireRoomForVoucher, Cond.code yX3_requireRoomForVoucher cX3_requireRoomForVoucher 1 none, Cond.methodLink RX3 122 yX3_addVoucher, Cond.instanceMethod yX3_addVoucher]
def wsL_isHeld_r7 : List Cond := [Cond.selects RX3 yX3_addVoucher yX3_addVoucher, Cond.code yX3_addVoucher cX3_addVoucher 4 (some .int), Cond.methodLink RX3 209 yX3_account, Cond.instanceMethod yX3_account, Cond.selects RX3 yX3_account yX3_account, Cond.code yX3_account cX3_account 4 none, Cond.methodLink RX3 215 yX3_accountCost, Cond.instanceMethod yX3_accountCost, Cond.selects RX3 yX3_accountCost yX3_accountCost, Cond.code yX3_accountCost cX3_accountCost 4 none, Cond.fieldLink RX3 147 "JointVenture$Well" "charged" "[I", Cond.fieldLink RX3 140 "JointVenture$Well" "toEarn" "[J", Cond.methodLink RX3 153 yX3_divideCost, Cond.instanceMethod yX3_divideCost, Cond.selects RX3 yX3_divideCost yX3_divideCost, Cond.code yX3_divideCost cX3_divideCost 4 none, Cond.methodLink RX3 162 yX1_divide, Cond.instanceMethod yX1_divide, Cond.selects RX1 yX1_divide yX1_divide, Cond.code yX1_divide cX1_divide 10 none, Cond.constantLong RX1 25 (-1), Cond.methodLink RX1 15 yJ7_fill_53178, Cond.methodLink RX1 21 yX1_firstWithGreatestRemainder, Cond.instanceMethod yX1_firstWithGreatestRemainder]
def wsL_isHeld_r8 : List Cond := [Cond.selects RX1 yX1_firstWithGreatestRemainder yX1_firstWithGreatestRemainder, Cond.code yX1_firstWithGreatestRemainder cX1_firstWithGreatestRemainder 3 (some .int), Cond.methodLink RX3 232 yX3_weighThoseIn, Cond.instanceMethod yX3_weighThoseIn, Cond.selects RX3 yX3_weighThoseIn yX3_weighThoseIn, Cond.code yX3_weighThoseIn cX3_weighThoseIn 3 none, Cond.methodLink RX3 236 yX3_ownPartsOfThoseOut, Cond.instanceMethod yX3_ownPartsOfThoseOut, Cond.selects RX3 yX3_ownPartsOfThoseOut yX3_ownPartsOfThoseOut, Cond.code yX3_ownPartsOfThoseOut cX3_ownPartsOfThoseOut 4 (some .int), Cond.methodLink RX3 224 yX3_penaltyOn, Cond.instanceMethod yX3_penaltyOn, Cond.selects RX3 yX3_penaltyOn yX3_penaltyOn, Cond.code yX3_penaltyOn cX3_penaltyOn 3 (some .long), Cond.constantLong RX3 228 (99), Cond.constantLong RX3 230 (100), Cond.methodLink RX3 218 yX3_accountIncome, Cond.instanceMethod yX3_accountIncome, Cond.selects RX3 yX3_accountIncome yX3_accountIncome, Cond.code yX3_accountIncome cX3_accountIncome 5 none, Cond.fieldLink RX3 150 "JointVenture$Well" "credited" "[I", Cond.methodLink RX3 240 yX2_takenOf, Cond.instanceMethod yX2_takenOf, Cond.selects RX2 yX2_takenOf yX2_takenOf]
def wsL_isHeld_r9 : List Cond := [Cond.code yX2_takenOf cX2_takenOf 3 (some .int), Cond.methodLink RX2 49 Lib.MathLoose.min_long.x, Cond.static Lib.MathLoose.min_long.x, Cond.initialized "java/lang/Math", Cond.code Lib.MathLoose.min_long.x Lib.MathLoose.min_long.code 4 (some .long), Cond.methodLink RX3 243 yX3_creditTaken, Cond.instanceMethod yX3_creditTaken, Cond.selects RX3 yX3_creditTaken yX3_creditTaken, Cond.code yX3_creditTaken cX3_creditTaken 4 none, Cond.methodLink RX3 221 yX2_takeBack, Cond.instanceMethod yX2_takeBack, Cond.selects RX2 yX2_takeBack yX2_takeBack, Cond.code yX2_takeBack cX2_takeBack 3 none, Cond.methodLink RL 123 yX3_income, Cond.instanceMethod yX3_income, Cond.selects RX3 yX3_income yX3_income, Cond.code yX3_income cX3_income 3 (some .int), Cond.constant RX3 118 (10000000), Cond.methodLink RL 126 yX3_cost, Cond.instanceMethod yX3_cost, Cond.selects RX3 yX3_cost yX3_cost, Cond.code yX3_cost cX3_cost 3 (some .int), Cond.methodLink RL 129 yL_moved, Cond.static yL_moved]
def wsL_isHeld_r10 : List Cond := [Cond.codeWith yL_moved cL_moved 4 (some .int) [(0, 6, 7, 83)], Cond.methodLink RL 88 yX3_move, Cond.instanceMethod yX3_move, Cond.selects RX3 yX3_move yX3_move, Cond.code yX3_move cX3_move 4 (some .int), Cond.methodLink RX3 128 yX3_requireVoucher, Cond.instanceMethod yX3_requireVoucher, Cond.selects RX3 yX3_requireVoucher yX3_requireVoucher, Cond.code yX3_requireVoucher cX3_requireVoucher 2 none, Cond.methodLink RX3 133 yX3_accountAnew, Cond.instanceMethod yX3_accountAnew, Cond.selects RX3 yX3_accountAnew yX3_accountAnew, Cond.code yX3_accountAnew cX3_accountAnew 3 none, Cond.methodLink RX3 212 yX2_clearAccounts, Cond.instanceMethod yX2_clearAccounts, Cond.selects RX2 yX2_clearAccounts yX2_clearAccounts, Cond.code yX2_clearAccounts cX2_clearAccounts 2 none, Cond.methodLink RX2 46 yJ7_fill_d0a16, Cond.static yJ7_fill_d0a16, Cond.code yJ7_fill_d0a16 cJ7_fill_d0a16 5 none, Cond.methodLink RL 132 yL_isCash, Cond.static yL_isCash, Cond.code yL_isCash cL_isCash 21 (some .boolean), Cond.methodLink RL 42 yL_weigh]
def wsL_isHeld_r11 : List Cond := [Cond.static yL_weigh, Cond.code yL_weigh cL_weigh 9 none, Cond.constantLong RL 27 (10000), Cond.methodLink RL 23 yL_account, Cond.static yL_account, Cond.code yL_account cL_account 8 none, Cond.constantLong RL 17 (-1), Cond.methodLink RL 19 yL_enter, Cond.static yL_enter, Cond.code yL_enter cL_enter 18 none, Cond.constantLong RL 15 (100), Cond.methodLink RL 9 yL_divide, Cond.static yL_divide, Cond.code yL_divide cL_divide 13 none, Cond.methodLink RL 97 yX3_call, Cond.instanceMethod yX3_call, Cond.selects RX3 yX3_call yX3_call, Cond.code yX3_call cX3_call 3 (some .int), Cond.fieldLink RX3 159 "JointVenture$CashCall" "asked" "[I", Cond.methodLink RL 100 yL_paid, Cond.static yL_paid, Cond.codeWith yL_paid cL_paid 4 (some .int) [(0, 6, 7, 83)], Cond.methodLink RL 91 yX3_pay, Cond.instanceMethod yX3_pay]
def wsL_isHeld_r12 : List Cond := [Cond.selects RX3 yX3_pay yX3_pay, Cond.code yX3_pay cX3_pay 5 (some .int), Cond.fieldLink RX3 169 "JointVenture$CashCall" "paid" "[I", Cond.methodLink RX3 166 yX3_requireCashCall, Cond.instanceMethod yX3_requireCashCall, Cond.selects RX3 yX3_requireCashCall yX3_requireCashCall, Cond.code yX3_requireCashCall cX3_requireCashCall 2 none, Cond.methodLink RL 103 yL_shared, Cond.static yL_shared, Cond.codeWith yL_shared cL_shared 3 (some .int) [(0, 5, 6, 83)], Cond.methodLink RL 94 yX3_shareOut, Cond.instanceMethod yX3_shareOut, Cond.selects RX3 yX3_shareOut yX3_shareOut, Cond.code yX3_shareOut cX3_shareOut 4 (some .int), Cond.methodLink RX3 174 yX0_hasPayer, Cond.instanceMethod yX0_hasPayer, Cond.selects RX0 yX0_hasPayer yX0_hasPayer, Cond.code yX0_hasPayer cX0_hasPayer 2 (some .boolean), Cond.methodLink RX3 180 yX0_askedOfNonPayers, Cond.instanceMethod yX0_askedOfNonPayers, Cond.selects RX0 yX0_askedOfNonPayers yX0_askedOfNonPayers, Cond.code yX0_askedOfNonPayers cX0_askedOfNonPayers 3 (some .int), Cond.methodLink RX3 186 yX3_moveToPayers, Cond.instanceMethod yX3_moveToPayers]
def wsL_isHeld_r13 : List Cond := [Cond.selects RX3 yX3_moveToPayers yX3_moveToPayers, Cond.code yX3_moveToPayers cX3_moveToPayers 4 none, Cond.methodLink RL 150 yL_isTold, Cond.static yL_isTold, Cond.code yL_isTold cL_isTold 16 (some .boolean), Cond.methodLink RL 29 yX3_vouchers, Cond.instanceMethod yX3_vouchers, Cond.selects RX3 yX3_vouchers yX3_vouchers, Cond.code yX3_vouchers cX3_vouchers 1 (some .int), Cond.methodLink RL 35 yX3_wellOf, Cond.instanceMethod yX3_wellOf, Cond.selects RX3 yX3_wellOf yX3_wellOf, Cond.code yX3_wellOf cX3_wellOf 2 (some .int), Cond.methodLink RL 39 yX3_amountOf, Cond.instanceMethod yX3_amountOf, Cond.selects RX3 yX3_amountOf yX3_amountOf, Cond.code yX3_amountOf cX3_amountOf 2 (some .int), Cond.methodLink RL 45 yX3_isIn, Cond.instanceMethod yX3_isIn, Cond.selects RX3 yX3_isIn yX3_isIn, Cond.code yX3_isIn cX3_isIn 3 (some .boolean), Cond.methodLink RL 49 yX3_toEarn, Cond.instanceMethod yX3_toEarn, Cond.selects RX3 yX3_toEarn yX3_toEarn]
def wsL_isHeld_r14 : List Cond := [Cond.code yX3_toEarn cX3_toEarn 3 (some .long), Cond.methodLink RL 53 yX3_backAt, Cond.instanceMethod yX3_backAt, Cond.selects RX3 yX3_backAt yX3_backAt, Cond.code yX3_backAt cX3_backAt 3 (some .int), Cond.fieldLink RX3 144 "JointVenture$Well" "backAt" "[I", Cond.methodLink RL 57 yX3_charged, Cond.instanceMethod yX3_charged, Cond.selects RX3 yX3_charged yX3_charged, Cond.code yX3_charged cX3_charged 3 (some .int), Cond.methodLink RL 60 yX3_credited, Cond.instanceMethod yX3_credited, Cond.selects RX3 yX3_credited yX3_credited, Cond.code yX3_credited cX3_credited 3 (some .int), Cond.methodLink RL 63 yX3_weight, Cond.instanceMethod yX3_weight, Cond.selects RX3 yX3_weight yX3_weight, Cond.code yX3_weight cX3_weight 3 (some .int), Cond.methodLink RL 66 yX3_asked, Cond.instanceMethod yX3_asked, Cond.selects RX3 yX3_asked yX3_asked, Cond.code yX3_asked cX3_asked 3 (some .int), Cond.methodLink RL 69 yX3_paid, Cond.instanceMethod yX3_paid]
def wsL_isHeld_r15 : List Cond := [Cond.selects RX3 yX3_paid yX3_paid, Cond.code yX3_paid cX3_paid 2 (some .int), Cond.methodLink RX3 190 yX3_paidOfAllCalls, Cond.instanceMethod yX3_paidOfAllCalls, Cond.selects RX3 yX3_paidOfAllCalls yX3_paidOfAllCalls, Cond.code yX3_paidOfAllCalls cX3_paidOfAllCalls 4 (some .int), Cond.methodLink RL 72 yX3_owes, Cond.instanceMethod yX3_owes, Cond.selects RX3 yX3_owes yX3_owes, Cond.code yX3_owes cX3_owes 2 (some .int), Cond.methodLink RL 75 yX3_balance, Cond.instanceMethod yX3_balance, Cond.selects RX3 yX3_balance yX3_balance, Cond.code yX3_balance cX3_balance 5 (some .long)]
def wsL_isHeld : List Cond := .codeWith yL_isHeld cL_isHeld 2 (some .boolean) [(0, 4, 5, 158), (0, 4, 8, 160), (0, 4, 11, 83)] :: ((wsL_isHeld_r1 ++ (wsL_isHeld_r2 ++ (wsL_isHeld_r3 ++ (wsL_isHeld_r4 ++ (wsL_isHeld_r5 ++ (wsL_isHeld_r6 ++ (wsL_isHeld_r7 ++ (wsL_isHeld_r8 ++ (wsL_isHeld_r9 ++ (wsL_isHeld_r10 ++ (wsL_isHeld_r11 ++ (wsL_isHeld_r12 ++ (wsL_isHeld_r13 ++ (wsL_isHeld_r14 ++ wsL_isHeld_r15)))))))))))))) ++ wsX30 ++ wsX10 ++ wsX20 ++ wsX00 ++ (vx_atS RX3 76 "java/lang/IllegalArgumentException" ["java/lang/RuntimeException", "java/lang/Exception"]).filter goodWord ++ (vx_atS RX3 83 "java/lang/IllegalStateException" ["java/lang/RuntimeException", "java/lang/Exception"]).filter goodWord ++ (vx_atS RX3 200 "java/lang/IndexOutOfBoundsException" ["java/lang/RuntimeException", "java/lang/Exception"]).filter goodWord)
def wsL_law0_r1 : List Cond := [Cond.methodLink RL 162 yL_isHeld, Cond.static yL_isHeld, Cond.initialized RL, Cond.codeWith yL_isHeld cL_isHeld 2 (some .boolean) [(0, 4, 5, 158), (0, 4, 8, 160), (0, 4, 11, 83)], Cond.classLink RL 158 "java/lang/IndexOutOfBoundsException", Cond.classLink RL 160 "java/lang/IllegalArgumentException", Cond.classLink RL 83 "java/lang/IllegalStateException", Cond.methodLink RL 154 yL_holds, Cond.static yL_holds, Cond.code yL_holds cL_holds 14 (some .boolean), Cond.classLink RL 30 RX3, Cond.instantiable RX3 15, Cond.initialized RX3, Cond.arrayClass .int, Cond.constant RL 145 (1000000), Cond.methodLink RL 136 yX3_init, Cond.instanceMethod yX3_init, Cond.code yX3_init cX3_init 2 none, Cond.methodLink RX3 1 objectInit, Cond.instanceMethod objectInit, Cond.code objectInit ⟨#[0xb1]⟩ 1 none, Cond.fieldLink RX3 9 "JointVenture" "shares" "[I", Cond.fieldLink RX3 13 "JointVenture" "newPenalty" "I", Cond.fieldLink RX3 17 "JointVenture" "monthlyOverhead" "I"]
def wsL_law0_r2 : List Cond := [Cond.classLink RX3 20 RX2, Cond.fieldLink RX3 22 "JointVenture" "wells" "[LJointVenture$Well;", Cond.fieldLink RX3 26 "JointVenture" "wellCount" "I", Cond.fieldLink RX3 29 "JointVenture" "voucherWells" "[I", Cond.fieldLink RX3 32 "JointVenture" "voucherAmounts" "[I", Cond.fieldLink RX3 35 "JointVenture" "voucherCount" "I", Cond.classLink RX3 38 RX0, Cond.fieldLink RX3 40 "JointVenture" "cashCalls" "[LJointVenture$CashCall;", Cond.fieldLink RX3 44 "JointVenture" "cashCallCount" "I", Cond.fieldLink RX3 47 "JointVenture" "owed" "[I", Cond.classLink RX3 50 RX1, Cond.instantiable RX1 1, Cond.initialized RX1, Cond.fieldLink RX3 53 "JointVenture" "division" "LJointVenture$Division;", Cond.fieldLink RX3 57 "JointVenture" "ownParts" "[I", Cond.fieldLink RX3 60 "JointVenture" "weights" "[I", Cond.fieldLink RX3 63 "JointVenture" "portions" "[I", Cond.instantiable RX2 8, Cond.initialized RX2, Cond.instantiable RX0 2, Cond.initialized RX0, Cond.instanceMethod yX1_init, Cond.code yX1_init cX1_init 1 none, Cond.methodLink RX1 3 objectInit]
def wsL_law0_r3 : List Cond := [Cond.arrayClass .long, Cond.fieldLink RX1 9 "JointVenture$Division" "remainders" "[J", Cond.methodLink RX3 66 yX2_init, Cond.instanceMethod yX2_init, Cond.code yX2_init cX2_init 1 none, Cond.methodLink RX2 3 objectInit, Cond.fieldLink RX2 9 "JointVenture$Well" "penalty" "I", Cond.fieldLink RX2 15 "JointVenture$Well" "hadVoucher" "Z", Cond.arrayClass .boolean, Cond.fieldLink RX2 19 "JointVenture$Well" "electedOut" "[Z", Cond.fieldLink RX2 23 "JointVenture$Well" "out" "[Z", Cond.fieldLink RX2 26 "JointVenture$Well" "toEarn" "[J", Cond.fieldLink RX2 30 "JointVenture$Well" "backAt" "[I", Cond.fieldLink RX2 34 "JointVenture$Well" "charged" "[I", Cond.fieldLink RX2 37 "JointVenture$Well" "credited" "[I", Cond.methodLink RX2 40 yJ7_fill_53178, Cond.static yJ7_fill_53178, Cond.initialized RJ7, Cond.code yJ7_fill_53178 cJ7_fill_53178 4 none, Cond.instanceMethod yX0_init, Cond.code yX0_init cX0_init 1 none, Cond.methodLink RX0 3 objectInit, Cond.fieldLink RX0 9 "JointVenture$CashCall" "asked" "[I", Cond.fieldLink RX0 15 "JointVenture$CashCall" "paid" "[I"]
def wsL_law0_r4 : List Cond := [Cond.methodLink RL 137 yL_from, Cond.static yL_from, Cond.code yL_from cL_from 4 (some .int), Cond.constant RL 7 (132049), Cond.constant RL 8 (2147483647), Cond.methodLink RL 141 yX3_setShares, Cond.instanceMethod yX3_setShares, Cond.selects RX3 yX3_setShares yX3_setShares, Cond.code yX3_setShares cX3_setShares 6 none, Cond.classLink RX3 72 "java/lang/IllegalArgumentException", Cond.initialized "java/lang/IllegalArgumentException", Cond.classLink RX3 79 "java/lang/IllegalStateException", Cond.initialized "java/lang/IllegalStateException", Cond.methodLink RX3 68 yX3_requireRange, Cond.instanceMethod yX3_requireRange, Cond.selects RX3 yX3_requireRange yX3_requireRange, Cond.code yX3_requireRange cX3_requireRange 4 none, Cond.methodLink RL 107 yX3_addWell, Cond.instanceMethod yX3_addWell, Cond.selects RX3 yX3_addWell yX3_addWell, Cond.code yX3_addWell cX3_addWell 1 (some .int), Cond.fieldLink RX3 87 "JointVenture$Well" "penalty" "I", Cond.methodLink RL 146 yL_acts, Cond.static yL_acts]
def wsL_law0_r5 : List Cond := [Cond.code yL_acts cL_acts 18 (some .boolean), Cond.methodLink RL 110 yX3_setPenalty, Cond.instanceMethod yX3_setPenalty, Cond.selects RX3 yX3_setPenalty yX3_setPenalty, Cond.code yX3_setPenalty cX3_setPenalty 3 (some .int), Cond.methodLink RL 113 yX3_setOverhead, Cond.instanceMethod yX3_setOverhead, Cond.selects RX3 yX3_setOverhead yX3_setOverhead, Cond.code yX3_setOverhead cX3_setOverhead 3 (some .int), Cond.constant RX3 84 (100000), Cond.methodLink RL 116 yL_elected, Cond.static yL_elected, Cond.codeWith yL_elected cL_elected 5 (some .int) [(0, 15, 16, 83)], Cond.methodLink RL 79 yX3_elect, Cond.instanceMethod yX3_elect, Cond.selects RX3 yX3_elect yX3_elect, Cond.code yX3_elect cX3_elect 6 (some .boolean), Cond.fieldLink RX3 97 "JointVenture$Well" "hadVoucher" "Z", Cond.fieldLink RX3 111 "JointVenture$Well" "electedOut" "[Z", Cond.fieldLink RX3 115 "JointVenture$Well" "out" "[Z", Cond.methodLink RX3 90 yX3_requireWell, Cond.instanceMethod yX3_requireWell, Cond.selects RX3 yX3_requireWell yX3_requireWell, Cond.code yX3_requireWell cX3_requireWell 2 none]
def wsL_law0_r6 : List Cond := [Cond.classLink RX3 196 "java/lang/IndexOutOfBoundsException", Cond.initialized "java/lang/IndexOutOfBoundsException", Cond.methodLink RX3 94 yX3_requirePartner, Cond.instanceMethod yX3_requirePartner, Cond.selects RX3 yX3_requirePartner yX3_requirePartner, Cond.code yX3_requirePartner cX3_requirePartner 2 none, Cond.methodLink RX3 105 yX3_isAnotherIn, Cond.instanceMethod yX3_isAnotherIn, Cond.selects RX3 yX3_isAnotherIn yX3_isAnotherIn, Cond.code yX3_isAnotherIn cX3_isAnotherIn 4 (some .boolean), Cond.methodLink RX3 136 yX3_shareIfIn, Cond.instanceMethod yX3_shareIfIn, Cond.selects RX3 yX3_shareIfIn yX3_shareIfIn, Cond.code yX3_shareIfIn cX3_shareIfIn 3 (some .int), Cond.methodLink RL 120 yL_entered, Cond.static yL_entered, Cond.codeWith yL_entered cL_entered 4 (some .int) [(0, 6, 7, 83)], Cond.methodLink RL 85 yX3_overhead, Cond.instanceMethod yX3_overhead, Cond.selects RX3 yX3_overhead yX3_overhead, Cond.code yX3_overhead cX3_overhead 3 (some .int), Cond.methodLink RX3 119 yX3_requireRoomForVoucher, Cond.instanceMethod yX3_requireRoomForVoucher, Cond.selects RX3 yX3_requireRoomForVoucher yX3_requireRoomForVoucher]
def wsL_law0_r7 : List Cond := [Cond.code yX3_requireRoomForVoucher cX3_requireRoomForVoucher 1 none, Cond.methodLink RX3 122 yX3_addVoucher, Cond.instanceMethod yX3_addVoucher, Cond.selects RX3 yX3_addVoucher yX3_addVoucher, Cond.code yX3_addVoucher cX3_addVoucher 4 (some .int), Cond.methodLink RX3 209 yX3_account, Cond.instanceMethod yX3_account, Cond.selects RX3 yX3_account yX3_account, Cond.code yX3_account cX3_account 4 none, Cond.methodLink RX3 215 yX3_accountCost, Cond.instanceMethod yX3_accountCost, Cond.selects RX3 yX3_accountCost yX3_accountCost, Cond.code yX3_accountCost cX3_accountCost 4 none, Cond.fieldLink RX3 147 "JointVenture$Well" "charged" "[I", Cond.fieldLink RX3 140 "JointVenture$Well" "toEarn" "[J", Cond.methodLink RX3 153 yX3_divideCost, Cond.instanceMethod yX3_divideCost, Cond.selects RX3 yX3_divideCost yX3_divideCost, Cond.code yX3_divideCost cX3_divideCost 4 none, Cond.methodLink RX3 162 yX1_divide, Cond.instanceMethod yX1_divide, Cond.selects RX1 yX1_divide yX1_divide, Cond.code yX1_divide cX1_divide 10 none, Cond.constantLong RX1 25 (-1)]
def wsL_law0_r8 : List Cond := [Cond.methodLink RX1 15 yJ7_fill_53178, Cond.methodLink RX1 21 yX1_firstWithGreatestRemainder, Cond.instanceMethod yX1_firstWithGreatestRemainder, Cond.selects RX1 yX1_firstWithGreatestRemainder yX1_firstWithGreatestRemainder, Cond.code yX1_firstWithGreatestRemainder cX1_firstWithGreatestRemainder 3 (some .int), Cond.methodLink RX3 232 yX3_weighThoseIn, Cond.instanceMethod yX3_weighThoseIn, Cond.selects RX3 yX3_weighThoseIn yX3_weighThoseIn, Cond.code yX3_weighThoseIn cX3_weighThoseIn 3 none, Cond.methodLink RX3 236 yX3_ownPartsOfThoseOut, Cond.instanceMethod yX3_ownPartsOfThoseOut, Cond.selects RX3 yX3_ownPartsOfThoseOut yX3_ownPartsOfThoseOut, Cond.code yX3_ownPartsOfThoseOut cX3_ownPartsOfThoseOut 4 (some .int), Cond.methodLink RX3 224 yX3_penaltyOn, Cond.instanceMethod yX3_penaltyOn, Cond.selects RX3 yX3_penaltyOn yX3_penaltyOn, Cond.code yX3_penaltyOn cX3_penaltyOn 3 (some .long), Cond.constantLong RX3 228 (99), Cond.constantLong RX3 230 (100), Cond.methodLink RX3 218 yX3_accountIncome, Cond.instanceMethod yX3_accountIncome, Cond.selects RX3 yX3_accountIncome yX3_accountIncome, Cond.code yX3_accountIncome cX3_accountIncome 5 none, Cond.fieldLink RX3 150 "JointVenture$Well" "credited" "[I"]
def wsL_law0_r9 : List Cond := [Cond.methodLink RX3 240 yX2_takenOf, Cond.instanceMethod yX2_takenOf, Cond.selects RX2 yX2_takenOf yX2_takenOf, Cond.code yX2_takenOf cX2_takenOf 3 (some .int), Cond.methodLink RX2 49 Lib.MathLoose.min_long.x, Cond.static Lib.MathLoose.min_long.x, Cond.initialized "java/lang/Math", Cond.code Lib.MathLoose.min_long.x Lib.MathLoose.min_long.code 4 (some .long), Cond.methodLink RX3 243 yX3_creditTaken, Cond.instanceMethod yX3_creditTaken, Cond.selects RX3 yX3_creditTaken yX3_creditTaken, Cond.code yX3_creditTaken cX3_creditTaken 4 none, Cond.methodLink RX3 221 yX2_takeBack, Cond.instanceMethod yX2_takeBack, Cond.selects RX2 yX2_takeBack yX2_takeBack, Cond.code yX2_takeBack cX2_takeBack 3 none, Cond.methodLink RL 123 yX3_income, Cond.instanceMethod yX3_income, Cond.selects RX3 yX3_income yX3_income, Cond.code yX3_income cX3_income 3 (some .int), Cond.constant RX3 118 (10000000), Cond.methodLink RL 126 yX3_cost, Cond.instanceMethod yX3_cost, Cond.selects RX3 yX3_cost yX3_cost]
def wsL_law0_r10 : List Cond := [Cond.code yX3_cost cX3_cost 3 (some .int), Cond.methodLink RL 129 yL_moved, Cond.static yL_moved, Cond.codeWith yL_moved cL_moved 4 (some .int) [(0, 6, 7, 83)], Cond.methodLink RL 88 yX3_move, Cond.instanceMethod yX3_move, Cond.selects RX3 yX3_move yX3_move, Cond.code yX3_move cX3_move 4 (some .int), Cond.methodLink RX3 128 yX3_requireVoucher, Cond.instanceMethod yX3_requireVoucher, Cond.selects RX3 yX3_requireVoucher yX3_requireVoucher, Cond.code yX3_requireVoucher cX3_requireVoucher 2 none, Cond.methodLink RX3 133 yX3_accountAnew, Cond.instanceMethod yX3_accountAnew, Cond.selects RX3 yX3_accountAnew yX3_accountAnew, Cond.code yX3_accountAnew cX3_accountAnew 3 none, Cond.methodLink RX3 212 yX2_clearAccounts, Cond.instanceMethod yX2_clearAccounts, Cond.selects RX2 yX2_clearAccounts yX2_clearAccounts, Cond.code yX2_clearAccounts cX2_clearAccounts 2 none, Cond.methodLink RX2 46 yJ7_fill_d0a16, Cond.static yJ7_fill_d0a16, Cond.code yJ7_fill_d0a16 cJ7_fill_d0a16 5 none, Cond.methodLink RL 132 yL_isCash]
def wsL_law0_r11 : List Cond := [Cond.static yL_isCash, Cond.code yL_isCash cL_isCash 21 (some .boolean), Cond.methodLink RL 42 yL_weigh, Cond.static yL_weigh, Cond.code yL_weigh cL_weigh 9 none, Cond.constantLong RL 27 (10000), Cond.methodLink RL 23 yL_account, Cond.static yL_account, Cond.code yL_account cL_account 8 none, Cond.constantLong RL 17 (-1), Cond.methodLink RL 19 yL_enter, Cond.static yL_enter, Cond.code yL_enter cL_enter 18 none, Cond.constantLong RL 15 (100), Cond.methodLink RL 9 yL_divide, Cond.static yL_divide, Cond.code yL_divide cL_divide 13 none, Cond.methodLink RL 97 yX3_call, Cond.instanceMethod yX3_call, Cond.selects RX3 yX3_call yX3_call, Cond.code yX3_call cX3_call 3 (some .int), Cond.fieldLink RX3 159 "JointVenture$CashCall" "asked" "[I", Cond.methodLink RL 100 yL_paid, Cond.static yL_paid]
def wsL_law0_r12 : List Cond := [Cond.codeWith yL_paid cL_paid 4 (some .int) [(0, 6, 7, 83)], Cond.methodLink RL 91 yX3_pay, Cond.instanceMethod yX3_pay, Cond.selects RX3 yX3_pay yX3_pay, Cond.code yX3_pay cX3_pay 5 (some .int), Cond.fieldLink RX3 169 "JointVenture$CashCall" "paid" "[I", Cond.methodLink RX3 166 yX3_requireCashCall, Cond.instanceMethod yX3_requireCashCall, Cond.selects RX3 yX3_requireCashCall yX3_requireCashCall, Cond.code yX3_requireCashCall cX3_requireCashCall 2 none, Cond.methodLink RL 103 yL_shared, Cond.static yL_shared, Cond.codeWith yL_shared cL_shared 3 (some .int) [(0, 5, 6, 83)], Cond.methodLink RL 94 yX3_shareOut, Cond.instanceMethod yX3_shareOut, Cond.selects RX3 yX3_shareOut yX3_shareOut, Cond.code yX3_shareOut cX3_shareOut 4 (some .int), Cond.methodLink RX3 174 yX0_hasPayer, Cond.instanceMethod yX0_hasPayer, Cond.selects RX0 yX0_hasPayer yX0_hasPayer, Cond.code yX0_hasPayer cX0_hasPayer 2 (some .boolean), Cond.methodLink RX3 180 yX0_askedOfNonPayers, Cond.instanceMethod yX0_askedOfNonPayers, Cond.selects RX0 yX0_askedOfNonPayers yX0_askedOfNonPayers]
def wsL_law0_r13 : List Cond := [Cond.code yX0_askedOfNonPayers cX0_askedOfNonPayers 3 (some .int), Cond.methodLink RX3 186 yX3_moveToPayers, Cond.instanceMethod yX3_moveToPayers, Cond.selects RX3 yX3_moveToPayers yX3_moveToPayers, Cond.code yX3_moveToPayers cX3_moveToPayers 4 none, Cond.methodLink RL 150 yL_isTold, Cond.static yL_isTold, Cond.code yL_isTold cL_isTold 16 (some .boolean), Cond.methodLink RL 29 yX3_vouchers, Cond.instanceMethod yX3_vouchers, Cond.selects RX3 yX3_vouchers yX3_vouchers, Cond.code yX3_vouchers cX3_vouchers 1 (some .int), Cond.methodLink RL 35 yX3_wellOf, Cond.instanceMethod yX3_wellOf, Cond.selects RX3 yX3_wellOf yX3_wellOf, Cond.code yX3_wellOf cX3_wellOf 2 (some .int), Cond.methodLink RL 39 yX3_amountOf, Cond.instanceMethod yX3_amountOf, Cond.selects RX3 yX3_amountOf yX3_amountOf, Cond.code yX3_amountOf cX3_amountOf 2 (some .int), Cond.methodLink RL 45 yX3_isIn, Cond.instanceMethod yX3_isIn, Cond.selects RX3 yX3_isIn yX3_isIn, Cond.code yX3_isIn cX3_isIn 3 (some .boolean)]
def wsL_law0_r14 : List Cond := [Cond.methodLink RL 49 yX3_toEarn, Cond.instanceMethod yX3_toEarn, Cond.selects RX3 yX3_toEarn yX3_toEarn, Cond.code yX3_toEarn cX3_toEarn 3 (some .long), Cond.methodLink RL 53 yX3_backAt, Cond.instanceMethod yX3_backAt, Cond.selects RX3 yX3_backAt yX3_backAt, Cond.code yX3_backAt cX3_backAt 3 (some .int), Cond.fieldLink RX3 144 "JointVenture$Well" "backAt" "[I", Cond.methodLink RL 57 yX3_charged, Cond.instanceMethod yX3_charged, Cond.selects RX3 yX3_charged yX3_charged, Cond.code yX3_charged cX3_charged 3 (some .int), Cond.methodLink RL 60 yX3_credited, Cond.instanceMethod yX3_credited, Cond.selects RX3 yX3_credited yX3_credited, Cond.code yX3_credited cX3_credited 3 (some .int), Cond.methodLink RL 63 yX3_weight, Cond.instanceMethod yX3_weight, Cond.selects RX3 yX3_weight yX3_weight, Cond.code yX3_weight cX3_weight 3 (some .int), Cond.methodLink RL 66 yX3_asked, Cond.instanceMethod yX3_asked, Cond.selects RX3 yX3_asked yX3_asked]
def wsL_law0_r15 : List Cond := [Cond.code yX3_asked cX3_asked 3 (some .int), Cond.methodLink RL 69 yX3_paid, Cond.instanceMethod yX3_paid, Cond.selects RX3 yX3_paid yX3_paid, Cond.code yX3_paid cX3_paid 2 (some .int), Cond.methodLink RX3 190 yX3_paidOfAllCalls, Cond.instanceMethod yX3_paidOfAllCalls, Cond.selects RX3 yX3_paidOfAllCalls yX3_paidOfAllCalls, Cond.code yX3_paidOfAllCalls cX3_paidOfAllCalls 4 (some .int), Cond.methodLink RL 72 yX3_owes, Cond.instanceMethod yX3_owes, Cond.selects RX3 yX3_owes yX3_owes, Cond.code yX3_owes cX3_owes 2 (some .int), Cond.methodLink RL 75 yX3_balance, Cond.instanceMethod yX3_balance, Cond.selects RX3 yX3_balance yX3_balance, Cond.code yX3_balance cX3_balance 5 (some .long)]
def wsL_law0 : List Cond := (wsL_law0_r1 ++ (wsL_law0_r2 ++ (wsL_law0_r3 ++ (wsL_law0_r4 ++ (wsL_law0_r5 ++ (wsL_law0_r6 ++ (wsL_law0_r7 ++ (wsL_law0_r8 ++ (wsL_law0_r9 ++ (wsL_law0_r10 ++ (wsL_law0_r11 ++ (wsL_law0_r12 ++ (wsL_law0_r13 ++ (wsL_law0_r14 ++ wsL_law0_r15)))))))))))))) ++ wsX30 ++ wsX10 ++ wsX20 ++ wsX00 ++ ([] : List Cond)
def wsL_law : List Cond := wsL_law0 ++ (vx_atS RX3 76 "java/lang/IllegalArgumentException" ["java/lang/RuntimeException", "java/lang/Exception"]).filter goodWord ++ (vx_atS RX3 83 "java/lang/IllegalStateException" ["java/lang/RuntimeException", "java/lang/Exception"]).filter goodWord ++ (vx_atS RX3 200 "java/lang/IndexOutOfBoundsException" ["java/lang/RuntimeException", "java/lang/Exception"]).filter goodWord
theorem goodIn_nilq {big : List Cond} : GoodIn big ([] : List Cond) := fun w h => absurd h List.not_mem_nil
set_option maxRecDepth 20000 in
theorem wsL_law0_r1_in : GoodIn lw_tbl wsL_law0_r1 := goodIn_p wsL_law0_r1 [43, 48, 51] (by decide +kernel) (by decide +kernel)
set_option maxRecDepth 20000 in
theorem wsL_law0_r2_in : GoodIn lw_tbl wsL_law0_r2 := goodIn_p wsL_law0_r2 [60] (by decide +kernel) (by decide +kernel)
set_option maxRecDepth 20000 in
theorem wsL_law0_r3_in : GoodIn lw_tbl wsL_law0_r3 := goodIn_p wsL_law0_r3 [71, 75, 113] (by decide +kernel) (by decide +kernel)
set_option maxRecDepth 20000 in
theorem wsL_law0_r4_in : GoodIn lw_tbl wsL_law0_r4 := goodIn_p wsL_law0_r4 [172, 178, 182, 271] (by decide +kernel) (by decide +kernel)
def wsL_law0_r5_h1 : Cond := Cond.code yL_acts cL_acts 18 (some .boolean)
set_option maxRecDepth 20000 in
theorem wsL_law0_r5_p1 : lw_tbl[276]? = some wsL_law0_r5_h1 := rfl
theorem wsL_law0_r5_s1 : GoodIn lw_tbl [wsL_law0_r5_h1] := fun w h => by
  rw [List.mem_singleton.mp h]
  exact ⟨List.mem_of_getElem? wsL_law0_r5_p1, good_of_word rfl⟩
set_option maxRecDepth 20000 in
theorem wsL_law0_r5_s2 : GoodIn lw_tbl [Cond.methodLink RL 110 yX3_setPenalty, Cond.instanceMethod yX3_setPenalty, Cond.selects RX3 yX3_setPenalty yX3_setPenalty, Cond.code yX3_setPenalty cX3_setPenalty 3 (some .int), Cond.methodLink RL 113 yX3_setOverhead, Cond.instanceMethod yX3_setOverhead, Cond.selects RX3 yX3_setOverhead yX3_setOverhead, Cond.code yX3_setOverhead cX3_setOverhead 3 (some .int), Cond.constant RX3 84 (100000), Cond.methodLink RL 116 yL_elected, Cond.static yL_elected, Cond.codeWith yL_elected cL_elected 5 (some .int) [(0, 15, 16, 83)], Cond.methodLink RL 79 yX3_elect, Cond.instanceMethod yX3_elect, Cond.selects RX3 yX3_elect yX3_elect, Cond.code yX3_elect cX3_elect 6 (some .boolean), Cond.fieldLink RX3 97 "JointVenture$Well" "hadVoucher" "Z", Cond.fieldLink RX3 111 "JointVenture$Well" "electedOut" "[Z", Cond.fieldLink RX3 115 "JointVenture$Well" "out" "[Z", Cond.methodLink RX3 90 yX3_requireWell, Cond.instanceMethod yX3_requireWell, Cond.selects RX3 yX3_requireWell yX3_requireWell, Cond.code yX3_requireWell cX3_requireWell 2 none] := goodIn_p _ [280, 284, 292, 296] (by decide +kernel) (by decide +kernel)
theorem wsL_law0_r5_in : GoodIn lw_tbl wsL_law0_r5 := (goodIn_app wsL_law0_r5_s1 wsL_law0_r5_s2)
set_option maxRecDepth 20000 in
theorem wsL_law0_r6_in : GoodIn lw_tbl wsL_law0_r6 := goodIn_p wsL_law0_r6 [316, 323, 327, 335] (by decide +kernel) (by decide +kernel)
set_option maxRecDepth 20000 in
theorem wsL_law0_r7_in : GoodIn lw_tbl wsL_law0_r7 := goodIn_p wsL_law0_r7 [339, 345, 349, 353, 357, 361] (by decide +kernel) (by decide +kernel)
set_option maxRecDepth 20000 in
theorem wsL_law0_r8_in : GoodIn lw_tbl wsL_law0_r8 := goodIn_p wsL_law0_r8 [366, 371, 375, 379, 385] (by decide +kernel) (by decide +kernel)
set_option maxRecDepth 20000 in
theorem wsL_law0_r9_in : GoodIn lw_tbl wsL_law0_r9 := goodIn_p wsL_law0_r9 [389, 392, 396, 400, 404] (by decide +kernel) (by decide +kernel)
set_option maxRecDepth 20000 in
theorem wsL_law0_r10_in : GoodIn lw_tbl wsL_law0_r10 := goodIn_p wsL_law0_r10 [409, 416, 420, 426, 430, 433] (by decide +kernel) (by decide +kernel)
set_option maxRecDepth 20000 in
theorem wsL_law0_r11_s0 : GoodIn lw_tbl [Cond.static yL_isCash] := goodIn_p _ [] (by decide +kernel) (by decide +kernel)
def wsL_law0_r11_h1 : Cond := Cond.code yL_isCash cL_isCash 21 (some .boolean)
set_option maxRecDepth 20000 in
theorem wsL_law0_r11_p1 : lw_tbl[436]? = some wsL_law0_r11_h1 := rfl
theorem wsL_law0_r11_s1 : GoodIn lw_tbl [wsL_law0_r11_h1] := fun w h => by
  rw [List.mem_singleton.mp h]
  exact ⟨List.mem_of_getElem? wsL_law0_r11_p1, good_of_word rfl⟩
set_option maxRecDepth 20000 in
theorem wsL_law0_r11_s2 : GoodIn lw_tbl [Cond.methodLink RL 42 yL_weigh, Cond.static yL_weigh, Cond.code yL_weigh cL_weigh 9 none, Cond.constantLong RL 27 (10000), Cond.methodLink RL 23 yL_account, Cond.static yL_account, Cond.code yL_account cL_account 8 none, Cond.constantLong RL 17 (-1), Cond.methodLink RL 19 yL_enter, Cond.static yL_enter, Cond.code yL_enter cL_enter 18 none, Cond.constantLong RL 15 (100), Cond.methodLink RL 9 yL_divide, Cond.static yL_divide, Cond.code yL_divide cL_divide 13 none, Cond.methodLink RL 97 yX3_call, Cond.instanceMethod yX3_call, Cond.selects RX3 yX3_call yX3_call, Cond.code yX3_call cX3_call 3 (some .int), Cond.fieldLink RX3 159 "JointVenture$CashCall" "asked" "[I", Cond.methodLink RL 100 yL_paid, Cond.static yL_paid] := goodIn_p _ [439, 442, 446, 449, 455] (by decide +kernel) (by decide +kernel)
theorem wsL_law0_r11_in : GoodIn lw_tbl wsL_law0_r11 := (goodIn_app wsL_law0_r11_s0 (goodIn_app wsL_law0_r11_s1 wsL_law0_r11_s2))
set_option maxRecDepth 20000 in
theorem wsL_law0_r12_in : GoodIn lw_tbl wsL_law0_r12 := goodIn_p wsL_law0_r12 [463, 467, 476, 480] (by decide +kernel) (by decide +kernel)
set_option maxRecDepth 20000 in
theorem wsL_law0_r13_s0 : GoodIn lw_tbl [Cond.code yX0_askedOfNonPayers cX0_askedOfNonPayers 3 (some .int), Cond.methodLink RX3 186 yX3_moveToPayers, Cond.instanceMethod yX3_moveToPayers, Cond.selects RX3 yX3_moveToPayers yX3_moveToPayers, Cond.code yX3_moveToPayers cX3_moveToPayers 4 none, Cond.methodLink RL 150 yL_isTold, Cond.static yL_isTold] := goodIn_p _ [485, 490] (by decide +kernel) (by decide +kernel)
def wsL_law0_r13_h1 : Cond := Cond.code yL_isTold cL_isTold 16 (some .boolean)
set_option maxRecDepth 20000 in
theorem wsL_law0_r13_p1 : lw_tbl[493]? = some wsL_law0_r13_h1 := rfl
theorem wsL_law0_r13_s1 : GoodIn lw_tbl [wsL_law0_r13_h1] := fun w h => by
  rw [List.mem_singleton.mp h]
  exact ⟨List.mem_of_getElem? wsL_law0_r13_p1, good_of_word rfl⟩
set_option maxRecDepth 20000 in
theorem wsL_law0_r13_s2 : GoodIn lw_tbl [Cond.methodLink RL 29 yX3_vouchers, Cond.instanceMethod yX3_vouchers, Cond.selects RX3 yX3_vouchers yX3_vouchers, Cond.code yX3_vouchers cX3_vouchers 1 (some .int), Cond.methodLink RL 35 yX3_wellOf, Cond.instanceMethod yX3_wellOf, Cond.selects RX3 yX3_wellOf yX3_wellOf, Cond.code yX3_wellOf cX3_wellOf 2 (some .int), Cond.methodLink RL 39 yX3_amountOf, Cond.instanceMethod yX3_amountOf, Cond.selects RX3 yX3_amountOf yX3_amountOf, Cond.code yX3_amountOf cX3_amountOf 2 (some .int), Cond.methodLink RL 45 yX3_isIn, Cond.instanceMethod yX3_isIn, Cond.selects RX3 yX3_isIn yX3_isIn, Cond.code yX3_isIn cX3_isIn 3 (some .boolean)] := goodIn_p _ [497, 501, 505, 509] (by decide +kernel) (by decide +kernel)
theorem wsL_law0_r13_in : GoodIn lw_tbl wsL_law0_r13 := (goodIn_app wsL_law0_r13_s0 (goodIn_app wsL_law0_r13_s1 wsL_law0_r13_s2))
set_option maxRecDepth 20000 in
theorem wsL_law0_r14_in : GoodIn lw_tbl wsL_law0_r14 := goodIn_p wsL_law0_r14 [513, 517, 521, 525, 529] (by decide +kernel) (by decide +kernel)
set_option maxRecDepth 20000 in
theorem wsL_law0_r15_in : GoodIn lw_tbl wsL_law0_r15 := goodIn_p wsL_law0_r15 [533, 537, 541, 545, 549] (by decide +kernel) (by decide +kernel)
set_option maxRecDepth 20000 in
theorem wsX30_inq : GoodIn lw_tbl wsX30 := goodIn_p wsX30 [] (by decide +kernel) (by decide +kernel)
set_option maxRecDepth 20000 in
theorem wsX10_inq : GoodIn lw_tbl wsX10 := goodIn_p wsX10 [] (by decide +kernel) (by decide +kernel)
set_option maxRecDepth 20000 in
theorem wsX20_inq : GoodIn lw_tbl wsX20 := goodIn_p wsX20 [] (by decide +kernel) (by decide +kernel)
set_option maxRecDepth 20000 in
theorem wsX00_inq : GoodIn lw_tbl wsX00 := goodIn_p wsX00 [] (by decide +kernel) (by decide +kernel)
theorem wsL_law_in0 : ∀ w ∈ wsL_law0, w ∈ lw_tbl := fun w h => ((goodIn_app (goodIn_app (goodIn_app (goodIn_app (goodIn_app (goodIn_app wsL_law0_r1_in (goodIn_app wsL_law0_r2_in (goodIn_app wsL_law0_r3_in (goodIn_app wsL_law0_r4_in (goodIn_app wsL_law0_r5_in (goodIn_app wsL_law0_r6_in (goodIn_app wsL_law0_r7_in (goodIn_app wsL_law0_r8_in (goodIn_app wsL_law0_r9_in (goodIn_app wsL_law0_r10_in (goodIn_app wsL_law0_r11_in (goodIn_app wsL_law0_r12_in (goodIn_app wsL_law0_r13_in (goodIn_app wsL_law0_r14_in wsL_law0_r15_in)))))))))))))) wsX30_inq) wsX10_inq) wsX20_inq) wsX00_inq) goodIn_nilq) w h).1
theorem wsL_law_x0 : ∀ w ∈ (vx_atS RX3 76 "java/lang/IllegalArgumentException" ["java/lang/RuntimeException", "java/lang/Exception"]).filter goodWord, w ∈ lw_tbl := by decide +kernel
theorem wsL_law_x1 : ∀ w ∈ (vx_atS RX3 83 "java/lang/IllegalStateException" ["java/lang/RuntimeException", "java/lang/Exception"]).filter goodWord, w ∈ lw_tbl := by decide +kernel
theorem wsL_law_x2 : ∀ w ∈ (vx_atS RX3 200 "java/lang/IndexOutOfBoundsException" ["java/lang/RuntimeException", "java/lang/Exception"]).filter goodWord, w ∈ lw_tbl := by decide +kernel
theorem wsL_law_in : ∀ w ∈ wsL_law, w ∈ lw_tbl := fun w h => (List.mem_append.mp h).elim (fun h => (List.mem_append.mp h).elim (fun h => (List.mem_append.mp h).elim (fun h => wsL_law_in0 w h) (fun h => wsL_law_x0 w h)) (fun h => wsL_law_x1 w h)) (fun h => wsL_law_x2 w h)
theorem inlX0 : ∀ w ∈ wsX00, w ∈ wsL_law := fun _ h => List.mem_append_left _ (List.mem_append_left _ (List.mem_append_left _ (List.mem_append_left _ (List.mem_append_right _ h))))
theorem inX0 : ∀ w ∈ wsX00, w ∈ lw_tbl := fun w h => wsL_law_in w (inlX0 w h)
theorem inlX1 : ∀ w ∈ wsX10, w ∈ wsL_law := fun _ h => List.mem_append_left _ (List.mem_append_left _ (List.mem_append_left _ (List.mem_append_left _ (List.mem_append_left _ (List.mem_append_left _ (List.mem_append_right _ h))))))
theorem inX1 : ∀ w ∈ wsX10, w ∈ lw_tbl := fun w h => wsL_law_in w (inlX1 w h)
theorem inlX2 : ∀ w ∈ wsX20, w ∈ wsL_law := fun _ h => List.mem_append_left _ (List.mem_append_left _ (List.mem_append_left _ (List.mem_append_left _ (List.mem_append_left _ (List.mem_append_right _ h)))))
theorem inX2 : ∀ w ∈ wsX20, w ∈ lw_tbl := fun w h => wsL_law_in w (inlX2 w h)
theorem inlX3 : ∀ w ∈ wsX30, w ∈ wsL_law := fun _ h => List.mem_append_left _ (List.mem_append_left _ (List.mem_append_left _ (List.mem_append_left _ (List.mem_append_left _ (List.mem_append_left _ (List.mem_append_left _ (List.mem_append_right _ h)))))))
theorem inX3 : ∀ w ∈ wsX30, w ∈ lw_tbl := fun w h => wsL_law_in w (inlX3 w h)
theorem inX4 : ∀ w ∈ wsX40, w ∈ lw_tbl := by decide +kernel
theorem inJx145de : ∀ w ∈ wsJx145de0, w ∈ lw_tbl := by decide +kernel
theorem inJ9 : ∀ w ∈ wsJ90, w ∈ lw_tbl := by decide +kernel
theorem inJ0 : ∀ w ∈ wsJ00, w ∈ lw_tbl := by decide +kernel
theorem inJ7 : ∀ w ∈ wsJ70, w ∈ lw_tbl := by decide +kernel
theorem dX0_init_0 : decode cX0_init 0 = .ok (.aload_n 0, 1) := by decide +kernel
theorem dX0_init_1 : decode cX0_init 1 = .ok (.invokespecial 3, 3) := by decide +kernel
theorem dX0_init_4 : decode cX0_init 4 = .ok (.aload_n 0, 1) := by decide +kernel
theorem dX0_init_5 : decode cX0_init 5 = .ok (.iconst 5, 1) := by decide +kernel
theorem dX0_init_6 : decode cX0_init 6 = .ok (.newarray .int, 2) := by decide +kernel
theorem dX0_init_8 : decode cX0_init 8 = .ok (.putfield 9, 3) := by decide +kernel
theorem dX0_init_11 : decode cX0_init 11 = .ok (.aload_n 0, 1) := by decide +kernel
theorem dX0_init_12 : decode cX0_init 12 = .ok (.iconst 5, 1) := by decide +kernel
theorem dX0_init_13 : decode cX0_init 13 = .ok (.newarray .int, 2) := by decide +kernel
theorem dX0_init_15 : decode cX0_init 15 = .ok (.putfield 15, 3) := by decide +kernel
theorem dX0_init_18 : decode cX0_init 18 = .ok (.return_, 1) := by decide +kernel
theorem dX0_hasPayer_0 : decode cX0_hasPayer 0 = .ok (.iconst 0, 1) := by decide +kernel
theorem dX0_hasPayer_1 : decode cX0_hasPayer 1 = .ok (.istore_n 1, 1) := by decide +kernel
theorem dX0_hasPayer_2 : decode cX0_hasPayer 2 = .ok (.iload_n 1, 1) := by decide +kernel
theorem dX0_hasPayer_3 : decode cX0_hasPayer 3 = .ok (.iconst 5, 1) := by decide +kernel
theorem dX0_hasPayer_4 : decode cX0_hasPayer 4 = .ok (.if_icmp .ge 20, 3) := by decide +kernel
theorem dX0_hasPayer_7 : decode cX0_hasPayer 7 = .ok (.aload_n 0, 1) := by decide +kernel
theorem dX0_hasPayer_8 : decode cX0_hasPayer 8 = .ok (.getfield 15, 3) := by decide +kernel
theorem dX0_hasPayer_11 : decode cX0_hasPayer 11 = .ok (.iload_n 1, 1) := by decide +kernel
theorem dX0_hasPayer_12 : decode cX0_hasPayer 12 = .ok (.iaload, 1) := by decide +kernel
theorem dX0_hasPayer_13 : decode cX0_hasPayer 13 = .ok (.ifCond .le 5, 3) := by decide +kernel
theorem dX0_hasPayer_16 : decode cX0_hasPayer 16 = .ok (.iconst 1, 1) := by decide +kernel
theorem dX0_hasPayer_17 : decode cX0_hasPayer 17 = .ok (.ireturn, 1) := by decide +kernel
theorem dX0_hasPayer_18 : decode cX0_hasPayer 18 = .ok (.iinc 1 1, 3) := by decide +kernel
theorem dX0_hasPayer_21 : decode cX0_hasPayer 21 = .ok (.goto (-19), 3) := by decide +kernel
theorem dX0_hasPayer_24 : decode cX0_hasPayer 24 = .ok (.iconst 0, 1) := by decide +kernel
theorem dX0_hasPayer_25 : decode cX0_hasPayer 25 = .ok (.ireturn, 1) := by decide +kernel
theorem dX0_askedOfNonPayers_0 : decode cX0_askedOfNonPayers 0 = .ok (.iconst 0, 1) := by decide +kernel
theorem dX0_askedOfNonPayers_1 : decode cX0_askedOfNonPayers 1 = .ok (.istore_n 1, 1) := by decide +kernel
theorem dX0_askedOfNonPayers_2 : decode cX0_askedOfNonPayers 2 = .ok (.iconst 0, 1) := by decide +kernel
theorem dX0_askedOfNonPayers_3 : decode cX0_askedOfNonPayers 3 = .ok (.istore_n 2, 1) := by decide +kernel
theorem dX0_askedOfNonPayers_4 : decode cX0_askedOfNonPayers 4 = .ok (.iload_n 2, 1) := by decide +kernel
theorem dX0_askedOfNonPayers_5 : decode cX0_askedOfNonPayers 5 = .ok (.iconst 5, 1) := by decide +kernel
theorem dX0_askedOfNonPayers_6 : decode cX0_askedOfNonPayers 6 = .ok (.if_icmp .ge 27, 3) := by decide +kernel
theorem dX0_askedOfNonPayers_9 : decode cX0_askedOfNonPayers 9 = .ok (.aload_n 0, 1) := by decide +kernel
theorem dX0_askedOfNonPayers_10 : decode cX0_askedOfNonPayers 10 = .ok (.getfield 15, 3) := by decide +kernel
theorem dX0_askedOfNonPayers_13 : decode cX0_askedOfNonPayers 13 = .ok (.iload_n 2, 1) := by decide +kernel
theorem dX0_askedOfNonPayers_14 : decode cX0_askedOfNonPayers 14 = .ok (.iaload, 1) := by decide +kernel
theorem dX0_askedOfNonPayers_15 : decode cX0_askedOfNonPayers 15 = .ok (.ifCond .ne 12, 3) := by decide +kernel
theorem dX0_askedOfNonPayers_18 : decode cX0_askedOfNonPayers 18 = .ok (.iload_n 1, 1) := by decide +kernel
theorem dX0_askedOfNonPayers_19 : decode cX0_askedOfNonPayers 19 = .ok (.aload_n 0, 1) := by decide +kernel
theorem dX0_askedOfNonPayers_20 : decode cX0_askedOfNonPayers 20 = .ok (.getfield 9, 3) := by decide +kernel
theorem dX0_askedOfNonPayers_23 : decode cX0_askedOfNonPayers 23 = .ok (.iload_n 2, 1) := by decide +kernel
theorem dX0_askedOfNonPayers_24 : decode cX0_askedOfNonPayers 24 = .ok (.iaload, 1) := by decide +kernel
theorem dX0_askedOfNonPayers_25 : decode cX0_askedOfNonPayers 25 = .ok (.iadd, 1) := by decide +kernel
theorem dX0_askedOfNonPayers_26 : decode cX0_askedOfNonPayers 26 = .ok (.istore_n 1, 1) := by decide +kernel
theorem dX0_askedOfNonPayers_27 : decode cX0_askedOfNonPayers 27 = .ok (.iinc 2 1, 3) := by decide +kernel
theorem dX0_askedOfNonPayers_30 : decode cX0_askedOfNonPayers 30 = .ok (.goto (-26), 3) := by decide +kernel
theorem dX0_askedOfNonPayers_33 : decode cX0_askedOfNonPayers 33 = .ok (.iload_n 1, 1) := by decide +kernel
theorem dX0_askedOfNonPayers_34 : decode cX0_askedOfNonPayers 34 = .ok (.ireturn, 1) := by decide +kernel
theorem dX1_init_0 : decode cX1_init 0 = .ok (.aload_n 0, 1) := by decide +kernel
theorem dX1_init_1 : decode cX1_init 1 = .ok (.invokespecial 3, 3) := by decide +kernel
theorem dX1_init_4 : decode cX1_init 4 = .ok (.aload_n 0, 1) := by decide +kernel
theorem dX1_init_5 : decode cX1_init 5 = .ok (.iconst 5, 1) := by decide +kernel
theorem dX1_init_6 : decode cX1_init 6 = .ok (.newarray .long, 2) := by decide +kernel
theorem dX1_init_8 : decode cX1_init 8 = .ok (.putfield 9, 3) := by decide +kernel
theorem dX1_init_11 : decode cX1_init 11 = .ok (.return_, 1) := by decide +kernel
set_option maxRecDepth 20000 in
theorem ggX1_divide_J7_fill_53178 : GoodIn wsX1_divide wsJ7_fill_53178 := goodIn_r _ [6] (by decide +kernel) (by decide +kernel)
set_option maxRecDepth 20000 in
theorem gX1_divide_J7_fill_53178 : GoodIn wsX1_divide (va_wsS RX1 15 yJ7_fill_53178 wsJ7_fill_53178) := goodIn_app (goodIn_of _ (by decide +kernel)) ggX1_divide_J7_fill_53178
set_option maxRecDepth 20000 in
theorem ggX1_divide_X1_firstWithGreatestRemainder : GoodIn wsX1_divide wsX1_firstWithGreatestRemainder := goodIn_r _ [11, 1, 12] (by decide +kernel) (by decide +kernel)
set_option maxRecDepth 20000 in
theorem gX1_divide_X1_firstWithGreatestRemainder : GoodIn wsX1_divide (wsV RX1 21 RX1 yX1_firstWithGreatestRemainder wsX1_firstWithGreatestRemainder) := goodIn_app (goodIn_of _ (by decide +kernel)) ggX1_divide_X1_firstWithGreatestRemainder
theorem dX1_divide_0 : decode cX1_divide 0 = .ok (.lconst 0, 1) := by decide +kernel
theorem dX1_divide_1 : decode cX1_divide 1 = .ok (.lstore 4, 2) := by decide +kernel
theorem dX1_divide_3 : decode cX1_divide 3 = .ok (.iconst 0, 1) := by decide +kernel
theorem dX1_divide_4 : decode cX1_divide 4 = .ok (.istore 6, 2) := by decide +kernel
theorem dX1_divide_6 : decode cX1_divide 6 = .ok (.iload 6, 2) := by decide +kernel
theorem dX1_divide_8 : decode cX1_divide 8 = .ok (.iconst 5, 1) := by decide +kernel
theorem dX1_divide_9 : decode cX1_divide 9 = .ok (.if_icmp .ge 19, 3) := by decide +kernel
theorem dX1_divide_12 : decode cX1_divide 12 = .ok (.lload 4, 2) := by decide +kernel
theorem dX1_divide_14 : decode cX1_divide 14 = .ok (.aload_n 2, 1) := by decide +kernel
theorem dX1_divide_15 : decode cX1_divide 15 = .ok (.iload 6, 2) := by decide +kernel
theorem dX1_divide_17 : decode cX1_divide 17 = .ok (.iaload, 1) := by decide +kernel
theorem dX1_divide_18 : decode cX1_divide 18 = .ok (.i2l, 1) := by decide +kernel
theorem dX1_divide_19 : decode cX1_divide 19 = .ok (.ladd, 1) := by decide +kernel
theorem dX1_divide_20 : decode cX1_divide 20 = .ok (.lstore 4, 2) := by decide +kernel
theorem dX1_divide_22 : decode cX1_divide 22 = .ok (.iinc 6 1, 3) := by decide +kernel
theorem dX1_divide_25 : decode cX1_divide 25 = .ok (.goto (-19), 3) := by decide +kernel
theorem dX1_divide_28 : decode cX1_divide 28 = .ok (.lload 4, 2) := by decide +kernel
theorem dX1_divide_30 : decode cX1_divide 30 = .ok (.lconst 0, 1) := by decide +kernel
theorem dX1_divide_31 : decode cX1_divide 31 = .ok (.lcmp, 1) := by decide +kernel
theorem dX1_divide_32 : decode cX1_divide 32 = .ok (.ifCond .gt 9, 3) := by decide +kernel
theorem dX1_divide_35 : decode cX1_divide 35 = .ok (.aload_n 3, 1) := by decide +kernel
theorem dX1_divide_36 : decode cX1_divide 36 = .ok (.iconst 0, 1) := by decide +kernel
theorem dX1_divide_37 : decode cX1_divide 37 = .ok (.invokestatic 15, 3) := by decide +kernel
theorem dX1_divide_40 : decode cX1_divide 40 = .ok (.return_, 1) := by decide +kernel
theorem dX1_divide_41 : decode cX1_divide 41 = .ok (.iload_n 1, 1) := by decide +kernel
theorem dX1_divide_42 : decode cX1_divide 42 = .ok (.istore 6, 2) := by decide +kernel
theorem dX1_divide_44 : decode cX1_divide 44 = .ok (.iconst 0, 1) := by decide +kernel
theorem dX1_divide_45 : decode cX1_divide 45 = .ok (.istore 7, 2) := by decide +kernel
theorem dX1_divide_47 : decode cX1_divide 47 = .ok (.iload 7, 2) := by decide +kernel
theorem dX1_divide_49 : decode cX1_divide 49 = .ok (.iconst 5, 1) := by decide +kernel
theorem dX1_divide_50 : decode cX1_divide 50 = .ok (.if_icmp .ge 50, 3) := by decide +kernel
theorem dX1_divide_53 : decode cX1_divide 53 = .ok (.iload_n 1, 1) := by decide +kernel
theorem dX1_divide_54 : decode cX1_divide 54 = .ok (.i2l, 1) := by decide +kernel
theorem dX1_divide_55 : decode cX1_divide 55 = .ok (.aload_n 2, 1) := by decide +kernel
theorem dX1_divide_56 : decode cX1_divide 56 = .ok (.iload 7, 2) := by decide +kernel
theorem dX1_divide_58 : decode cX1_divide 58 = .ok (.iaload, 1) := by decide +kernel
theorem dX1_divide_59 : decode cX1_divide 59 = .ok (.i2l, 1) := by decide +kernel
theorem dX1_divide_60 : decode cX1_divide 60 = .ok (.lmul, 1) := by decide +kernel
theorem dX1_divide_61 : decode cX1_divide 61 = .ok (.lstore 8, 2) := by decide +kernel
theorem dX1_divide_63 : decode cX1_divide 63 = .ok (.aload_n 3, 1) := by decide +kernel
theorem dX1_divide_64 : decode cX1_divide 64 = .ok (.iload 7, 2) := by decide +kernel
theorem dX1_divide_66 : decode cX1_divide 66 = .ok (.lload 8, 2) := by decide +kernel
theorem dX1_divide_68 : decode cX1_divide 68 = .ok (.lload 4, 2) := by decide +kernel
theorem dX1_divide_70 : decode cX1_divide 70 = .ok (.ldiv, 1) := by decide +kernel
theorem dX1_divide_71 : decode cX1_divide 71 = .ok (.l2i, 1) := by decide +kernel
theorem dX1_divide_72 : decode cX1_divide 72 = .ok (.iastore, 1) := by decide +kernel
theorem dX1_divide_73 : decode cX1_divide 73 = .ok (.aload_n 0, 1) := by decide +kernel
theorem dX1_divide_74 : decode cX1_divide 74 = .ok (.getfield 9, 3) := by decide +kernel
theorem dX1_divide_77 : decode cX1_divide 77 = .ok (.iload 7, 2) := by decide +kernel
theorem dX1_divide_79 : decode cX1_divide 79 = .ok (.lload 8, 2) := by decide +kernel
theorem dX1_divide_81 : decode cX1_divide 81 = .ok (.lload 4, 2) := by decide +kernel
theorem dX1_divide_83 : decode cX1_divide 83 = .ok (.lrem, 1) := by decide +kernel
theorem dX1_divide_84 : decode cX1_divide 84 = .ok (.lastore, 1) := by decide +kernel
theorem dX1_divide_85 : decode cX1_divide 85 = .ok (.iload 6, 2) := by decide +kernel
theorem dX1_divide_87 : decode cX1_divide 87 = .ok (.aload_n 3, 1) := by decide +kernel
theorem dX1_divide_88 : decode cX1_divide 88 = .ok (.iload 7, 2) := by decide +kernel
theorem dX1_divide_90 : decode cX1_divide 90 = .ok (.iaload, 1) := by decide +kernel
theorem dX1_divide_91 : decode cX1_divide 91 = .ok (.isub, 1) := by decide +kernel
theorem dX1_divide_92 : decode cX1_divide 92 = .ok (.istore 6, 2) := by decide +kernel
theorem dX1_divide_94 : decode cX1_divide 94 = .ok (.iinc 7 1, 3) := by decide +kernel
theorem dX1_divide_97 : decode cX1_divide 97 = .ok (.goto (-50), 3) := by decide +kernel
theorem dX1_divide_100 : decode cX1_divide 100 = .ok (.iconst 0, 1) := by decide +kernel
theorem dX1_divide_101 : decode cX1_divide 101 = .ok (.istore 7, 2) := by decide +kernel
theorem dX1_divide_103 : decode cX1_divide 103 = .ok (.iload 7, 2) := by decide +kernel
theorem dX1_divide_105 : decode cX1_divide 105 = .ok (.iload 6, 2) := by decide +kernel
theorem dX1_divide_107 : decode cX1_divide 107 = .ok (.if_icmp .ge 39, 3) := by decide +kernel
theorem dX1_divide_110 : decode cX1_divide 110 = .ok (.iload 7, 2) := by decide +kernel
theorem dX1_divide_112 : decode cX1_divide 112 = .ok (.iconst 5, 1) := by decide +kernel
theorem dX1_divide_113 : decode cX1_divide 113 = .ok (.if_icmp .ge 33, 3) := by decide +kernel
theorem dX1_divide_116 : decode cX1_divide 116 = .ok (.aload_n 0, 1) := by decide +kernel
theorem dX1_divide_117 : decode cX1_divide 117 = .ok (.invokevirtual 21, 3) := by decide +kernel
theorem dX1_divide_120 : decode cX1_divide 120 = .ok (.istore 8, 2) := by decide +kernel
theorem dX1_divide_122 : decode cX1_divide 122 = .ok (.aload_n 3, 1) := by decide +kernel
theorem dX1_divide_123 : decode cX1_divide 123 = .ok (.iload 8, 2) := by decide +kernel
theorem dX1_divide_125 : decode cX1_divide 125 = .ok (.dup2, 1) := by decide +kernel
theorem dX1_divide_126 : decode cX1_divide 126 = .ok (.iaload, 1) := by decide +kernel
theorem dX1_divide_127 : decode cX1_divide 127 = .ok (.iconst 1, 1) := by decide +kernel
theorem dX1_divide_128 : decode cX1_divide 128 = .ok (.iadd, 1) := by decide +kernel
theorem dX1_divide_129 : decode cX1_divide 129 = .ok (.iastore, 1) := by decide +kernel
theorem dX1_divide_130 : decode cX1_divide 130 = .ok (.aload_n 0, 1) := by decide +kernel
theorem dX1_divide_131 : decode cX1_divide 131 = .ok (.getfield 9, 3) := by decide +kernel
theorem dX1_divide_134 : decode cX1_divide 134 = .ok (.iload 8, 2) := by decide +kernel
theorem dX1_divide_136 : decode cX1_divide 136 = .ok (.ldc2_w 25, 3) := by decide +kernel
theorem dX1_divide_139 : decode cX1_divide 139 = .ok (.lastore, 1) := by decide +kernel
theorem dX1_divide_140 : decode cX1_divide 140 = .ok (.iinc 7 1, 3) := by decide +kernel
theorem dX1_divide_143 : decode cX1_divide 143 = .ok (.goto (-40), 3) := by decide +kernel
theorem dX1_divide_146 : decode cX1_divide 146 = .ok (.return_, 1) := by decide +kernel
theorem dX1_firstWithGreatestRemainder_0 : decode cX1_firstWithGreatestRemainder 0 = .ok (.iconst 0, 1) := by decide +kernel
theorem dX1_firstWithGreatestRemainder_1 : decode cX1_firstWithGreatestRemainder 1 = .ok (.istore_n 1, 1) := by decide +kernel
theorem dX1_firstWithGreatestRemainder_2 : decode cX1_firstWithGreatestRemainder 2 = .ok (.iconst 1, 1) := by decide +kernel
theorem dX1_firstWithGreatestRemainder_3 : decode cX1_firstWithGreatestRemainder 3 = .ok (.istore_n 2, 1) := by decide +kernel
theorem dX1_firstWithGreatestRemainder_4 : decode cX1_firstWithGreatestRemainder 4 = .ok (.iload_n 2, 1) := by decide +kernel
theorem dX1_firstWithGreatestRemainder_5 : decode cX1_firstWithGreatestRemainder 5 = .ok (.iconst 5, 1) := by decide +kernel
theorem dX1_firstWithGreatestRemainder_6 : decode cX1_firstWithGreatestRemainder 6 = .ok (.if_icmp .ge 27, 3) := by decide +kernel
theorem dX1_firstWithGreatestRemainder_9 : decode cX1_firstWithGreatestRemainder 9 = .ok (.aload_n 0, 1) := by decide +kernel
theorem dX1_firstWithGreatestRemainder_10 : decode cX1_firstWithGreatestRemainder 10 = .ok (.getfield 9, 3) := by decide +kernel
theorem dX1_firstWithGreatestRemainder_13 : decode cX1_firstWithGreatestRemainder 13 = .ok (.iload_n 2, 1) := by decide +kernel
theorem dX1_firstWithGreatestRemainder_14 : decode cX1_firstWithGreatestRemainder 14 = .ok (.laload, 1) := by decide +kernel
theorem dX1_firstWithGreatestRemainder_15 : decode cX1_firstWithGreatestRemainder 15 = .ok (.aload_n 0, 1) := by decide +kernel
theorem dX1_firstWithGreatestRemainder_16 : decode cX1_firstWithGreatestRemainder 16 = .ok (.getfield 9, 3) := by decide +kernel
theorem dX1_firstWithGreatestRemainder_19 : decode cX1_firstWithGreatestRemainder 19 = .ok (.iload_n 1, 1) := by decide +kernel
theorem dX1_firstWithGreatestRemainder_20 : decode cX1_firstWithGreatestRemainder 20 = .ok (.laload, 1) := by decide +kernel
theorem dX1_firstWithGreatestRemainder_21 : decode cX1_firstWithGreatestRemainder 21 = .ok (.lcmp, 1) := by decide +kernel
theorem dX1_firstWithGreatestRemainder_22 : decode cX1_firstWithGreatestRemainder 22 = .ok (.ifCond .le 5, 3) := by decide +kernel
theorem dX1_firstWithGreatestRemainder_25 : decode cX1_firstWithGreatestRemainder 25 = .ok (.iload_n 2, 1) := by decide +kernel
theorem dX1_firstWithGreatestRemainder_26 : decode cX1_firstWithGreatestRemainder 26 = .ok (.istore_n 1, 1) := by decide +kernel
theorem dX1_firstWithGreatestRemainder_27 : decode cX1_firstWithGreatestRemainder 27 = .ok (.iinc 2 1, 3) := by decide +kernel
theorem dX1_firstWithGreatestRemainder_30 : decode cX1_firstWithGreatestRemainder 30 = .ok (.goto (-26), 3) := by decide +kernel
theorem dX1_firstWithGreatestRemainder_33 : decode cX1_firstWithGreatestRemainder 33 = .ok (.iload_n 1, 1) := by decide +kernel
theorem dX1_firstWithGreatestRemainder_34 : decode cX1_firstWithGreatestRemainder 34 = .ok (.ireturn, 1) := by decide +kernel
set_option maxRecDepth 20000 in
theorem ggX2_init_J7_fill_53178 : GoodIn wsX2_init wsJ7_fill_53178 := goodIn_r _ [18] (by decide +kernel) (by decide +kernel)
set_option maxRecDepth 20000 in
theorem gX2_init_J7_fill_53178 : GoodIn wsX2_init (va_wsS RX2 40 yJ7_fill_53178 wsJ7_fill_53178) := goodIn_app (goodIn_of _ (by decide +kernel)) ggX2_init_J7_fill_53178
theorem dX2_init_0 : decode cX2_init 0 = .ok (.aload_n 0, 1) := by decide +kernel
theorem dX2_init_1 : decode cX2_init 1 = .ok (.invokespecial 3, 3) := by decide +kernel
theorem dX2_init_4 : decode cX2_init 4 = .ok (.aload_n 0, 1) := by decide +kernel
theorem dX2_init_5 : decode cX2_init 5 = .ok (.sipush 300, 3) := by decide +kernel
theorem dX2_init_8 : decode cX2_init 8 = .ok (.putfield 9, 3) := by decide +kernel
theorem dX2_init_11 : decode cX2_init 11 = .ok (.aload_n 0, 1) := by decide +kernel
theorem dX2_init_12 : decode cX2_init 12 = .ok (.iconst 0, 1) := by decide +kernel
theorem dX2_init_13 : decode cX2_init 13 = .ok (.putfield 15, 3) := by decide +kernel
theorem dX2_init_16 : decode cX2_init 16 = .ok (.aload_n 0, 1) := by decide +kernel
theorem dX2_init_17 : decode cX2_init 17 = .ok (.iconst 5, 1) := by decide +kernel
theorem dX2_init_18 : decode cX2_init 18 = .ok (.newarray .boolean, 2) := by decide +kernel
theorem dX2_init_20 : decode cX2_init 20 = .ok (.putfield 19, 3) := by decide +kernel
theorem dX2_init_23 : decode cX2_init 23 = .ok (.aload_n 0, 1) := by decide +kernel
theorem dX2_init_24 : decode cX2_init 24 = .ok (.iconst 5, 1) := by decide +kernel
theorem dX2_init_25 : decode cX2_init 25 = .ok (.newarray .boolean, 2) := by decide +kernel
theorem dX2_init_27 : decode cX2_init 27 = .ok (.putfield 23, 3) := by decide +kernel
theorem dX2_init_30 : decode cX2_init 30 = .ok (.aload_n 0, 1) := by decide +kernel
theorem dX2_init_31 : decode cX2_init 31 = .ok (.iconst 5, 1) := by decide +kernel
theorem dX2_init_32 : decode cX2_init 32 = .ok (.newarray .long, 2) := by decide +kernel
theorem dX2_init_34 : decode cX2_init 34 = .ok (.putfield 26, 3) := by decide +kernel
theorem dX2_init_37 : decode cX2_init 37 = .ok (.aload_n 0, 1) := by decide +kernel
theorem dX2_init_38 : decode cX2_init 38 = .ok (.iconst 5, 1) := by decide +kernel
theorem dX2_init_39 : decode cX2_init 39 = .ok (.newarray .int, 2) := by decide +kernel
theorem dX2_init_41 : decode cX2_init 41 = .ok (.putfield 30, 3) := by decide +kernel
theorem dX2_init_44 : decode cX2_init 44 = .ok (.aload_n 0, 1) := by decide +kernel
theorem dX2_init_45 : decode cX2_init 45 = .ok (.iconst 5, 1) := by decide +kernel
theorem dX2_init_46 : decode cX2_init 46 = .ok (.newarray .int, 2) := by decide +kernel
theorem dX2_init_48 : decode cX2_init 48 = .ok (.putfield 34, 3) := by decide +kernel
theorem dX2_init_51 : decode cX2_init 51 = .ok (.aload_n 0, 1) := by decide +kernel
theorem dX2_init_52 : decode cX2_init 52 = .ok (.iconst 5, 1) := by decide +kernel
theorem dX2_init_53 : decode cX2_init 53 = .ok (.newarray .int, 2) := by decide +kernel
theorem dX2_init_55 : decode cX2_init 55 = .ok (.putfield 37, 3) := by decide +kernel
theorem dX2_init_58 : decode cX2_init 58 = .ok (.aload_n 0, 1) := by decide +kernel
theorem dX2_init_59 : decode cX2_init 59 = .ok (.getfield 30, 3) := by decide +kernel
theorem dX2_init_62 : decode cX2_init 62 = .ok (.iconst (-1), 1) := by decide +kernel
theorem dX2_init_63 : decode cX2_init 63 = .ok (.invokestatic 40, 3) := by decide +kernel
theorem dX2_init_66 : decode cX2_init 66 = .ok (.return_, 1) := by decide +kernel
set_option maxRecDepth 20000 in
theorem ggX2_clearAccounts_J7_fill_d0a16 : GoodIn wsX2_clearAccounts wsJ7_fill_d0a16 := goodIn_r _ [10] (by decide +kernel) (by decide +kernel)
set_option maxRecDepth 20000 in
theorem gX2_clearAccounts_J7_fill_d0a16 : GoodIn wsX2_clearAccounts (va_wsS RX2 46 yJ7_fill_d0a16 wsJ7_fill_d0a16) := goodIn_app (goodIn_of _ (by decide +kernel)) ggX2_clearAccounts_J7_fill_d0a16
set_option maxRecDepth 20000 in
theorem ggX2_clearAccounts_J7_fill_53178 : GoodIn wsX2_clearAccounts wsJ7_fill_53178 := goodIn_r _ [13] (by decide +kernel) (by decide +kernel)
set_option maxRecDepth 20000 in
theorem gX2_clearAccounts_J7_fill_53178 : GoodIn wsX2_clearAccounts (va_wsS RX2 40 yJ7_fill_53178 wsJ7_fill_53178) := goodIn_app (goodIn_of _ (by decide +kernel)) ggX2_clearAccounts_J7_fill_53178
theorem dX2_clearAccounts_0 : decode cX2_clearAccounts 0 = .ok (.aload_n 0, 1) := by decide +kernel
theorem dX2_clearAccounts_1 : decode cX2_clearAccounts 1 = .ok (.getfield 26, 3) := by decide +kernel
theorem dX2_clearAccounts_4 : decode cX2_clearAccounts 4 = .ok (.lconst 0, 1) := by decide +kernel
theorem dX2_clearAccounts_5 : decode cX2_clearAccounts 5 = .ok (.invokestatic 46, 3) := by decide +kernel
theorem dX2_clearAccounts_8 : decode cX2_clearAccounts 8 = .ok (.aload_n 0, 1) := by decide +kernel
theorem dX2_clearAccounts_9 : decode cX2_clearAccounts 9 = .ok (.getfield 30, 3) := by decide +kernel
theorem dX2_clearAccounts_12 : decode cX2_clearAccounts 12 = .ok (.iconst (-1), 1) := by decide +kernel
theorem dX2_clearAccounts_13 : decode cX2_clearAccounts 13 = .ok (.invokestatic 40, 3) := by decide +kernel
theorem dX2_clearAccounts_16 : decode cX2_clearAccounts 16 = .ok (.aload_n 0, 1) := by decide +kernel
theorem dX2_clearAccounts_17 : decode cX2_clearAccounts 17 = .ok (.getfield 34, 3) := by decide +kernel
theorem dX2_clearAccounts_20 : decode cX2_clearAccounts 20 = .ok (.iconst 0, 1) := by decide +kernel
theorem dX2_clearAccounts_21 : decode cX2_clearAccounts 21 = .ok (.invokestatic 40, 3) := by decide +kernel
theorem dX2_clearAccounts_24 : decode cX2_clearAccounts 24 = .ok (.aload_n 0, 1) := by decide +kernel
theorem dX2_clearAccounts_25 : decode cX2_clearAccounts 25 = .ok (.getfield 37, 3) := by decide +kernel
theorem dX2_clearAccounts_28 : decode cX2_clearAccounts 28 = .ok (.iconst 0, 1) := by decide +kernel
theorem dX2_clearAccounts_29 : decode cX2_clearAccounts 29 = .ok (.invokestatic 40, 3) := by decide +kernel
theorem dX2_clearAccounts_32 : decode cX2_clearAccounts 32 = .ok (.iconst 0, 1) := by decide +kernel
theorem dX2_clearAccounts_33 : decode cX2_clearAccounts 33 = .ok (.istore_n 1, 1) := by decide +kernel
theorem dX2_clearAccounts_34 : decode cX2_clearAccounts 34 = .ok (.iload_n 1, 1) := by decide +kernel
theorem dX2_clearAccounts_35 : decode cX2_clearAccounts 35 = .ok (.iconst 5, 1) := by decide +kernel
theorem dX2_clearAccounts_36 : decode cX2_clearAccounts 36 = .ok (.if_icmp .ge 21, 3) := by decide +kernel
theorem dX2_clearAccounts_39 : decode cX2_clearAccounts 39 = .ok (.aload_n 0, 1) := by decide +kernel
theorem dX2_clearAccounts_40 : decode cX2_clearAccounts 40 = .ok (.getfield 23, 3) := by decide +kernel
theorem dX2_clearAccounts_43 : decode cX2_clearAccounts 43 = .ok (.iload_n 1, 1) := by decide +kernel
theorem dX2_clearAccounts_44 : decode cX2_clearAccounts 44 = .ok (.aload_n 0, 1) := by decide +kernel
theorem dX2_clearAccounts_45 : decode cX2_clearAccounts 45 = .ok (.getfield 19, 3) := by decide +kernel
theorem dX2_clearAccounts_48 : decode cX2_clearAccounts 48 = .ok (.iload_n 1, 1) := by decide +kernel
theorem dX2_clearAccounts_49 : decode cX2_clearAccounts 49 = .ok (.baload, 1) := by decide +kernel
theorem dX2_clearAccounts_50 : decode cX2_clearAccounts 50 = .ok (.bastore, 1) := by decide +kernel
theorem dX2_clearAccounts_51 : decode cX2_clearAccounts 51 = .ok (.iinc 1 1, 3) := by decide +kernel
theorem dX2_clearAccounts_54 : decode cX2_clearAccounts 54 = .ok (.goto (-20), 3) := by decide +kernel
theorem dX2_clearAccounts_57 : decode cX2_clearAccounts 57 = .ok (.return_, 1) := by decide +kernel
theorem dX2_takenOf_0 : decode cX2_takenOf 0 = .ok (.aload_n 0, 1) := by decide +kernel
theorem dX2_takenOf_1 : decode cX2_takenOf 1 = .ok (.getfield 23, 3) := by decide +kernel
theorem dX2_takenOf_4 : decode cX2_takenOf 4 = .ok (.iload_n 1, 1) := by decide +kernel
theorem dX2_takenOf_5 : decode cX2_takenOf 5 = .ok (.baload, 1) := by decide +kernel
theorem dX2_takenOf_6 : decode cX2_takenOf 6 = .ok (.ifCond .eq 18, 3) := by decide +kernel
theorem dX2_takenOf_9 : decode cX2_takenOf 9 = .ok (.iload_n 2, 1) := by decide +kernel
theorem dX2_takenOf_10 : decode cX2_takenOf 10 = .ok (.i2l, 1) := by decide +kernel
theorem dX2_takenOf_11 : decode cX2_takenOf 11 = .ok (.aload_n 0, 1) := by decide +kernel
theorem dX2_takenOf_12 : decode cX2_takenOf 12 = .ok (.getfield 26, 3) := by decide +kernel
theorem dX2_takenOf_15 : decode cX2_takenOf 15 = .ok (.iload_n 1, 1) := by decide +kernel
theorem dX2_takenOf_16 : decode cX2_takenOf 16 = .ok (.laload, 1) := by decide +kernel
theorem dX2_takenOf_17 : decode cX2_takenOf 17 = .ok (.invokestatic 49, 3) := by decide +kernel
theorem dX2_takenOf_20 : decode cX2_takenOf 20 = .ok (.l2i, 1) := by decide +kernel
theorem dX2_takenOf_21 : decode cX2_takenOf 21 = .ok (.goto 4, 3) := by decide +kernel
theorem dX2_takenOf_24 : decode cX2_takenOf 24 = .ok (.iconst 0, 1) := by decide +kernel
theorem dX2_takenOf_25 : decode cX2_takenOf 25 = .ok (.ireturn, 1) := by decide +kernel
theorem dX2_takeBack_0 : decode cX2_takeBack 0 = .ok (.iconst 0, 1) := by decide +kernel
theorem dX2_takeBack_1 : decode cX2_takeBack 1 = .ok (.istore_n 2, 1) := by decide +kernel
theorem dX2_takeBack_2 : decode cX2_takeBack 2 = .ok (.iload_n 2, 1) := by decide +kernel
theorem dX2_takeBack_3 : decode cX2_takeBack 3 = .ok (.iconst 5, 1) := by decide +kernel
theorem dX2_takeBack_4 : decode cX2_takeBack 4 = .ok (.if_icmp .ge 43, 3) := by decide +kernel
theorem dX2_takeBack_7 : decode cX2_takeBack 7 = .ok (.aload_n 0, 1) := by decide +kernel
theorem dX2_takeBack_8 : decode cX2_takeBack 8 = .ok (.getfield 23, 3) := by decide +kernel
theorem dX2_takeBack_11 : decode cX2_takeBack 11 = .ok (.iload_n 2, 1) := by decide +kernel
theorem dX2_takeBack_12 : decode cX2_takeBack 12 = .ok (.baload, 1) := by decide +kernel
theorem dX2_takeBack_13 : decode cX2_takeBack 13 = .ok (.ifCond .eq 28, 3) := by decide +kernel
theorem dX2_takeBack_16 : decode cX2_takeBack 16 = .ok (.aload_n 0, 1) := by decide +kernel
theorem dX2_takeBack_17 : decode cX2_takeBack 17 = .ok (.getfield 26, 3) := by decide +kernel
theorem dX2_takeBack_20 : decode cX2_takeBack 20 = .ok (.iload_n 2, 1) := by decide +kernel
theorem dX2_takeBack_21 : decode cX2_takeBack 21 = .ok (.laload, 1) := by decide +kernel
theorem dX2_takeBack_22 : decode cX2_takeBack 22 = .ok (.lconst 0, 1) := by decide +kernel
theorem dX2_takeBack_23 : decode cX2_takeBack 23 = .ok (.lcmp, 1) := by decide +kernel
theorem dX2_takeBack_24 : decode cX2_takeBack 24 = .ok (.ifCond .ne 17, 3) := by decide +kernel
theorem dX2_takeBack_27 : decode cX2_takeBack 27 = .ok (.aload_n 0, 1) := by decide +kernel
theorem dX2_takeBack_28 : decode cX2_takeBack 28 = .ok (.getfield 23, 3) := by decide +kernel
theorem dX2_takeBack_31 : decode cX2_takeBack 31 = .ok (.iload_n 2, 1) := by decide +kernel
theorem dX2_takeBack_32 : decode cX2_takeBack 32 = .ok (.iconst 0, 1) := by decide +kernel
theorem dX2_takeBack_33 : decode cX2_takeBack 33 = .ok (.bastore, 1) := by decide +kernel
theorem dX2_takeBack_34 : decode cX2_takeBack 34 = .ok (.aload_n 0, 1) := by decide +kernel
theorem dX2_takeBack_35 : decode cX2_takeBack 35 = .ok (.getfield 30, 3) := by decide +kernel
theorem dX2_takeBack_38 : decode cX2_takeBack 38 = .ok (.iload_n 2, 1) := by decide +kernel
theorem dX2_takeBack_39 : decode cX2_takeBack 39 = .ok (.iload_n 1, 1) := by decide +kernel
theorem dX2_takeBack_40 : decode cX2_takeBack 40 = .ok (.iastore, 1) := by decide +kernel
theorem dX2_takeBack_41 : decode cX2_takeBack 41 = .ok (.iinc 2 1, 3) := by decide +kernel
theorem dX2_takeBack_44 : decode cX2_takeBack 44 = .ok (.goto (-42), 3) := by decide +kernel
theorem dX2_takeBack_47 : decode cX2_takeBack 47 = .ok (.return_, 1) := by decide +kernel
end
section
/-! numbers of the document: dividing among five, by greatest remainders -/
def s5 (f : Int → Int) : Int := f 0 + f 1 + f 2 + f 3 + f 4
theorem c5 {p : Int} (h0 : 0 ≤ p) (h : p < 5) : p = 0 ∨ p = 1 ∨ p = 2 ∨ p = 3 ∨ p = 4 := by omega
theorem p5 {P : Int → Prop} (h0 : P 0) (h1 : P 1) (h2 : P 2) (h3 : P 3) (h4 : P 4) : ∀ p, 0 ≤ p → p < 5 → P p := by
  intro p a b
  rcases c5 a b with rfl | rfl | rfl | rfl | rfl <;> assumption
theorem s5_congr {f g : Int → Int} (h : ∀ p, 0 ≤ p → p < 5 → f p = g p) : s5 f = s5 g := by
  unfold s5
  rw [h 0 (by decide) (by decide), h 1 (by decide) (by decide), h 2 (by decide) (by decide), h 3 (by decide) (by decide), h 4 (by decide) (by decide)]
theorem s5_add (f g : Int → Int) : s5 (fun p => f p + g p) = s5 f + s5 g := by simp only [s5]; omega
theorem s5_sub (f g : Int → Int) : s5 (fun p => f p - g p) = s5 f - s5 g := by simp only [s5]; omega
theorem s5_le {f g : Int → Int} (h : ∀ p, 0 ≤ p → p < 5 → f p ≤ g p) : s5 f ≤ s5 g := by
  unfold s5
  have := h 0 (by decide) (by decide); have := h 1 (by decide) (by decide); have := h 2 (by decide) (by decide); have := h 3 (by decide) (by decide); have := h 4 (by decide) (by decide)
  omega
theorem s5_nn {f : Int → Int} (h : ∀ p, 0 ≤ p → p < 5 → 0 ≤ f p) : 0 ≤ s5 f := by
  have := s5_le (f := fun _ => 0) (g := f) h
  exact this
theorem s5_part {f : Int → Int} (h : ∀ p, 0 ≤ p → p < 5 → 0 ≤ f p) : ∀ p, 0 ≤ p → p < 5 → f p ≤ s5 f := by
  have := h 0 (by decide) (by decide); have := h 1 (by decide) (by decide); have := h 2 (by decide) (by decide); have := h 3 (by decide) (by decide); have := h 4 (by decide) (by decide)
  unfold s5
  refine p5 ?_ ?_ ?_ ?_ ?_ <;> omega
def bf (r : Int → Int) (k j : Int) : Int := if r k < r j ∨ (r j = r k ∧ j < k) then 1 else 0
def ahd (r : Int → Int) (k : Int) : Int := s5 (bf r k)
def dq (a : Int) (w : Int → Int) (k : Int) : Int := a * w k / s5 w
def dr (a : Int) (w : Int → Int) (k : Int) : Int := a * w k % s5 w
def dl (a : Int) (w : Int → Int) : Int := a - s5 (dq a w)
def dv (a : Int) (w : Int → Int) (k : Int) : Int := dq a w k + (if ahd (dr a w) k < dl a w then 1 else 0)
def fgn (r : Int → Int) : Nat → Int
  | 0 => 0
  | n + 1 => if r (fgn r n) < r ((n : Int) + 1) then (n : Int) + 1 else fgn r n
theorem fgn_spec (r : Int → Int) : ∀ n : Nat, 0 ≤ fgn r n ∧ fgn r n ≤ (n : Int) ∧ (∀ j : Int, 0 ≤ j → j ≤ (n : Int) → r j ≤ r (fgn r n)) ∧ ∀ j : Int, 0 ≤ j → j < fgn r n → r j < r (fgn r n) := by
  intro n
  induction n with
  | zero =>
    refine ⟨by simp [fgn], by simp [fgn], fun j h1 h2 => ?_, fun j h1 h2 => ?_⟩
    · have : j = 0 := by simp at h2; omega
      subst this
      simp [fgn]
    · simp [fgn] at h2; omega
  | succ n ih =>
    obtain ⟨i1, i2, i3, i4⟩ := ih
    by_cases hc : r (fgn r n) < r ((n : Int) + 1)
    · have e : fgn r (n + 1) = (n : Int) + 1 := by simp [fgn, hc]
      rw [e]
      refine ⟨by omega, by simp, fun j h1 h2 => ?_, fun j h1 h2 => ?_⟩
      · by_cases hj : j = (n : Int) + 1
        · rw [hj]; exact Int.le_refl _
        · have := i3 j h1 (by simp at h2; omega)
          omega
      · have := i3 j h1 (by omega)
        omega
    · have e : fgn r (n + 1) = fgn r n := by simp [fgn, hc]
      rw [e]
      refine ⟨i1, by simp; omega, fun j h1 h2 => ?_, i4⟩
      by_cases hj : j = (n : Int) + 1
      · rw [hj]; omega
      · exact i3 j h1 (by simp at h2; omega)
theorem fgn_congr {r r' : Int → Int} : ∀ n : Nat, (∀ j : Int, 0 ≤ j → j ≤ (n : Int) → r j = r' j) → fgn r n = fgn r' n := by
  intro n
  induction n with
  | zero => intro _; rfl
  | succ n ih =>
    intro h
    have e := ih (fun j h1 h2 => h j h1 (by simp; omega))
    have b := fgn_spec r' n
    simp only [fgn, e]
    rw [h (fgn r' n) b.1 (by simp; omega), h ((n : Int) + 1) (by omega) (by simp)]
def Chs (r ch : Int → Int) (g : Int) : Prop := (∀ k, 0 ≤ k → k < 5 → ch k = 0 ∨ ch k = 1) ∧ s5 ch = g ∧ ∀ j k, 0 ≤ j → j < 5 → 0 ≤ k → k < 5 → ch j = 1 → ch k = 0 → r k < r j ∨ (r j = r k ∧ j < k)
def rmc (r ch : Int → Int) (k : Int) : Int := if ch k = 1 then -1 else r k
theorem Chs_0 (r : Int → Int) : Chs r (fun _ => 0) 0 := ⟨fun _ _ _ => Or.inl rfl, rfl, fun _ _ _ _ _ _ h => by simp at h⟩
theorem Chs_step {r ch : Int → Int} {g : Int} (hr : ∀ k, 0 ≤ k → k < 5 → 0 ≤ r k) (h : Chs r ch g) (hg : g < 5) : 0 ≤ fgn (rmc r ch) 4 ∧ fgn (rmc r ch) 4 < 5 ∧ ch (fgn (rmc r ch) 4) = 0 ∧ Chs r (fun k => if k = fgn (rmc r ch) 4 then 1 else ch k) (g + 1) := by
  obtain ⟨h1, h2, h3⟩ := h
  obtain ⟨b0, b4, bm, bf⟩ := fgn_spec (rmc r ch) 4
  generalize hb : fgn (rmc r ch) 4 = b at b0 b4 bm bf ⊢
  have b5 : b < 5 := by omega
  have hex : ∃ k, 0 ≤ k ∧ k < 5 ∧ ch k = 0 := by
    apply Classical.byContradiction
    intro hn
    have key : ∀ k, 0 ≤ k → k < 5 → ch k = 1 := fun k a c => (h1 k a c).resolve_left (fun z => hn ⟨k, a, c, z⟩)
    have e : s5 ch = 5 := by rw [s5_congr (g := fun _ => 1) key]; rfl
    omega
  obtain ⟨k, k0, k5, hk⟩ := hex
  have hch : ch b = 0 := by
    rcases h1 b b0 b5 with e | e
    · exact e
    · have x1 := bm k k0 (by omega)
      have x2 := hr k k0 k5
      simp only [rmc, e, hk] at x1
      simp at x1
      omega
  refine ⟨b0, b5, hch, fun j a c => ?_, ?_, fun j k a1 a2 a3 a4 hj hk => ?_⟩
  · dsimp only
    split
    · exact Or.inr rfl
    · exact h1 j a c
  · have e : s5 (fun k => if k = b then 1 else ch k) = s5 ch + 1 := by
      unfold s5
      rcases c5 b0 b5 with rfl | rfl | rfl | rfl | rfl <;> simp <;> omega
    omega
  · dsimp only at hj hk
    by_cases e2 : k = b
    · simp [e2] at hk
    · rw [if_neg e2] at hk
      by_cases e1 : j = b
      · subst e1
        have x1 := bm k a3 (by omega)
        have x2 := bf k a3
        simp only [rmc, hch, hk] at x1 x2
        simp at x1 x2
        omega
      · rw [if_neg e1] at hj
        exact h3 j k a1 a2 a3 a4 hj hk
theorem Chs_ahd {r ch : Int → Int} {g : Int} (h : Chs r ch g) : ∀ k, 0 ≤ k → k < 5 → ch k = if ahd r k < g then 1 else 0 := by
  obtain ⟨h1, h2, h3⟩ := h
  intro k k0 k5
  have t : ∀ j, 0 ≤ j → j < 5 → (ch k = 1 → bf r k j ≤ ch j ∧ (j = k → bf r k j = 0)) ∧ (ch k = 0 → ch j ≤ bf r k j) := by
    intro j j0 j5
    refine ⟨fun hk => ⟨?_, fun e => ?_⟩, fun hk => ?_⟩
    · rcases h1 j j0 j5 with e | e
      · have := h3 k j k0 k5 j0 j5 hk e
        simp only [bf]
        rw [if_neg (by omega)]
        omega
      · simp only [bf]; split <;> omega
    · subst e
      simp only [bf]
      rw [if_neg (by omega)]
    · rcases h1 j j0 j5 with e | e
      · simp only [bf]; split <;> omega
      · have := h3 j k j0 j5 k0 k5 e hk
        simp only [bf]
        rw [if_pos this]
        omega
  have t0 := t 0 (by decide) (by decide); have t1 := t 1 (by decide) (by decide); have t2 := t 2 (by decide) (by decide); have t3 := t 3 (by decide) (by decide); have t4 := t 4 (by decide) (by decide)
  unfold ahd s5
  unfold s5 at h2
  rcases h1 k k0 k5 with hk | hk
  · rw [if_neg]
    · exact hk
    · have := t0.2 hk; have := t1.2 hk; have := t2.2 hk; have := t3.2 hk; have := t4.2 hk
      omega
  · rw [if_pos]
    · exact hk
    · have u0 := t0.1 hk; have u1 := t1.1 hk; have u2 := t2.1 hk; have u3 := t3.1 hk; have u4 := t4.1 hk
      rcases c5 k0 k5 with e | e | e | e | e <;> subst e
      · have := u0.2 rfl; omega
      · have := u1.2 rfl; omega
      · have := u2.2 rfl; omega
      · have := u3.2 rfl; omega
      · have := u4.2 rfl; omega
theorem Chs_all {r : Int → Int} (hr : ∀ k, 0 ≤ k → k < 5 → 0 ≤ r k) : ∀ n : Nat, n ≤ 5 → ∃ ch, Chs r ch (n : Int) := by
  intro n
  induction n with
  | zero => intro _; exact ⟨_, Chs_0 r⟩
  | succ n ih =>
    intro h
    obtain ⟨ch, hc⟩ := ih (by omega)
    exact ⟨_, by have := (Chs_step hr hc (by omega)).2.2.2; rw [Int.natCast_succ]; exact this⟩
/-- weights that can be divided by -/
def Wt (w : Int → Int) : Prop := (∀ p, 0 ≤ p → p < 5 → 0 ≤ w p) ∧ 0 < s5 w
theorem dr_nn (a : Int) {w : Int → Int} (h : Wt w) (k : Int) : 0 ≤ dr a w k ∧ dr a w k < s5 w := ⟨Int.emod_nonneg _ (by have := h.2; omega), Int.emod_lt_of_pos _ h.2⟩
theorem dq_nn {a : Int} (ha : 0 ≤ a) {w : Int → Int} (h : Wt w) {k : Int} (k0 : 0 ≤ k) (k5 : k < 5) : 0 ≤ dq a w k := Int.ediv_nonneg (Int.mul_nonneg ha (h.1 k k0 k5)) (by have := h.2; omega)
theorem dl_mul (a : Int) {w : Int → Int} (h : Wt w) : dl a w * s5 w = s5 (dr a w) := by
  have e : ∀ k, s5 w * dq a w k + dr a w k = a * w k := fun k => Int.mul_ediv_add_emod _ _
  have e0 := e 0; have e1 := e 1; have e2 := e 2; have e3 := e 3; have e4 := e 4
  have h1 : s5 w * s5 (dq a w) + s5 (dr a w) = a * s5 w := by
    have x1 : s5 w * s5 (dq a w) = s5 w * dq a w 0 + s5 w * dq a w 1 + s5 w * dq a w 2 + s5 w * dq a w 3 + s5 w * dq a w 4 := by
      conv => lhs; rhs; unfold s5
      rw [Int.mul_add, Int.mul_add, Int.mul_add, Int.mul_add]
    have x2 : a * s5 w = a * w 0 + a * w 1 + a * w 2 + a * w 3 + a * w 4 := by
      unfold s5
      rw [Int.mul_add, Int.mul_add, Int.mul_add, Int.mul_add]
    have x3 : s5 (dr a w) = dr a w 0 + dr a w 1 + dr a w 2 + dr a w 3 + dr a w 4 := rfl
    omega
  unfold dl
  rw [Int.sub_mul, Int.mul_comm (s5 (dq a w))]
  omega
theorem dl_rng (a : Int) {w : Int → Int} (h : Wt w) : 0 ≤ dl a w ∧ dl a w < 5 := by
  have e := dl_mul a h
  have hS := h.2
  have r := fun k => dr_nn a h k
  have x : s5 (dr a w) = dr a w 0 + dr a w 1 + dr a w 2 + dr a w 3 + dr a w 4 := rfl
  have r0 := r 0; have r1 := r 1; have r2 := r 2; have r3 := r 3; have r4 := r 4
  constructor
  · apply Classical.byContradiction
    intro hn
    have : dl a w * s5 w ≤ (-1) * s5 w := Int.mul_le_mul_of_nonneg_right (by omega) (by omega)
    omega
  · apply Classical.byContradiction
    intro hn
    have : 5 * s5 w ≤ dl a w * s5 w := Int.mul_le_mul_of_nonneg_right (by omega) (by omega)
    omega
theorem dv_ch {a : Int} {w : Int → Int} (h : Wt w) : ∃ ch, Chs (dr a w) ch (dl a w) ∧ ∀ k, 0 ≤ k → k < 5 → dv a w k = dq a w k + ch k := by
  have hl := dl_rng a h
  obtain ⟨ch, hc⟩ := Chs_all (r := dr a w) (fun k _ _ => (dr_nn a h k).1) (dl a w).toNat (by omega)
  rw [Int.toNat_of_nonneg hl.1] at hc
  exact ⟨ch, hc, fun k k0 k5 => by rw [Chs_ahd hc k k0 k5]; rfl⟩
theorem dv_sum {a : Int} {w : Int → Int} (h : Wt w) : s5 (dv a w) = a := by
  obtain ⟨ch, hc, hv⟩ := dv_ch (a := a) h
  rw [s5_congr hv, s5_add, hc.2.1]
  unfold dl
  omega
theorem dv_nn {a : Int} (ha : 0 ≤ a) {w : Int → Int} (h : Wt w) : ∀ k, 0 ≤ k → k < 5 → 0 ≤ dv a w k := by
  intro k k0 k5
  have := dq_nn ha h k0 k5
  unfold dv
  split <;> omega
theorem dv_le {a : Int} (ha : 0 ≤ a) {w : Int → Int} (h : Wt w) : ∀ k, 0 ≤ k → k < 5 → dv a w k ≤ a := by
  intro k k0 k5
  have := s5_part (dv_nn ha h) k k0 k5
  rw [dv_sum h] at this
  exact this
theorem ahd_w0 (a : Int) {w : Int → Int} (h : Wt w) {k : Int} (hw : w k = 0) : dl a w ≤ ahd (dr a w) k := by
  have e := dl_mul a h
  have hl := dl_rng a h
  have rk : dr a w k = 0 := by unfold dr; rw [hw]; simp
  have r := fun j => dr_nn a h j
  have b : ∀ j, dr a w j ≤ bf (dr a w) k j * s5 w := by
    intro j
    have := r j
    by_cases hj : dr a w j = 0
    · rw [hj]
      simp only [bf]
      split
      · rw [Int.one_mul]; omega
      · omega
    · simp only [bf]
      rw [if_pos (by omega), Int.one_mul]
      omega
  have b0 := b 0; have b1 := b 1; have b2 := b 2; have b3 := b 3; have b4 := b 4
  have x : s5 (dr a w) = dr a w 0 + dr a w 1 + dr a w 2 + dr a w 3 + dr a w 4 := rfl
  have y : ahd (dr a w) k * s5 w = bf (dr a w) k 0 * s5 w + bf (dr a w) k 1 * s5 w + bf (dr a w) k 2 * s5 w + bf (dr a w) k 3 * s5 w + bf (dr a w) k 4 * s5 w := by
    unfold ahd
    conv => lhs; lhs; unfold s5
    rw [Int.add_mul, Int.add_mul, Int.add_mul, Int.add_mul]
  have hS := h.2
  exact Int.le_of_mul_le_mul_right (show dl a w * s5 w ≤ ahd (dr a w) k * s5 w by omega) hS
theorem dv_w0 (a : Int) {w : Int → Int} (h : Wt w) {k : Int} (hw : w k = 0) : dv a w k = 0 := by
  have := ahd_w0 a h hw
  unfold dv
  rw [if_neg (by omega)]
  unfold dq
  rw [hw]
  simp
theorem dv_0 {w : Int → Int} (h : Wt w) : ∀ k, 0 ≤ k → k < 5 → dv 0 w k = 0 := by
  intro k k0 k5
  have h1 := dv_nn (a := 0) (by decide) h k k0 k5
  have h2 := dv_le (a := 0) (by decide) h k k0 k5
  omega
theorem dv_congr {a : Int} {w w' : Int → Int} (h : ∀ p, 0 ≤ p → p < 5 → w p = w' p) : ∀ k, 0 ≤ k → k < 5 → dv a w k = dv a w' k := by
  intro k k0 k5
  have e : s5 w = s5 w' := s5_congr h
  have eq : ∀ p, 0 ≤ p → p < 5 → dq a w p = dq a w' p := fun p a1 a2 => by unfold dq; rw [e, h p a1 a2]
  have er : ∀ p, 0 ≤ p → p < 5 → dr a w p = dr a w' p := fun p a1 a2 => by unfold dr; rw [e, h p a1 a2]
  have el : dl a w = dl a w' := by unfold dl; rw [s5_congr eq]
  have ea : ahd (dr a w) k = ahd (dr a w') k := by
    unfold ahd
    exact s5_congr (fun p a1 a2 => by simp only [bf]; rw [er k k0 k5, er p a1 a2])
  unfold dv
  rw [eq k k0 k5, el, ea]
/-! a stretch of a row written anew -/
def sf (σ : Sg) (kd : Nat) (k : Int) (n : Int) (f : Int → Int) : Sg := fun a b c => if a = kd ∧ b = k ∧ 0 ≤ c ∧ c < n then f c else σ a b c
theorem sf_0 (σ : Sg) (kd : Nat) (k : Int) (f : Int → Int) : sf σ kd k 0 f = σ := by
  funext a b c
  simp only [sf]
  rw [if_neg (by omega)]
theorem sf_su {σ : Sg} {kd : Nat} {k n v : Int} {f : Int → Int} (h : 0 ≤ n) (hv : v = f n) : su (sf σ kd k n f) kd k n v = sf σ kd k (n + 1) f := by
  funext a b c
  simp only [su, sf]
  by_cases h1 : a = kd ∧ b = k ∧ c = n
  · obtain ⟨rfl, rfl, rfl⟩ := h1
    rw [if_pos ⟨rfl, rfl, rfl⟩, if_pos ⟨rfl, rfl, h, by omega⟩, hv]
  · rw [if_neg h1]
    by_cases h2 : a = kd ∧ b = k ∧ 0 ≤ c ∧ c < n
    · rw [if_pos h2, if_pos ⟨h2.1, h2.2.1, h2.2.2.1, by omega⟩]
    · rw [if_neg h2, if_neg (fun z => by
        obtain ⟨z1, z2, z3, z4⟩ := z
        by_cases hc : c = n
        · exact h1 ⟨z1, z2, hc⟩
        · exact h2 ⟨z1, z2, z3, by omega⟩)]
theorem sf_at {σ : Sg} {kd : Nat} {k n c : Int} {f : Int → Int} (h0 : 0 ≤ c) (h : c < n) : sf σ kd k n f kd k c = f c := by unfold sf; rw [if_pos ⟨rfl, rfl, h0, h⟩]
theorem sf_ge {σ : Sg} {kd : Nat} {k n c : Int} {f : Int → Int} (h : n ≤ c) : sf σ kd k n f kd k c = σ kd k c := by unfold sf; rw [if_neg (by omega)]
theorem sf_ne {σ : Sg} {kd a : Nat} {k n b c : Int} {f : Int → Int} (h : a ≠ kd ∨ b ≠ k) : sf σ kd k n f a b c = σ a b c := by unfold sf; rw [if_neg (fun z => h.elim (fun w => w z.1) (fun w => w z.2.1))]
theorem sf_nk {σ : Sg} {kd a : Nat} {k n b c : Int} {f : Int → Int} (h : a ≠ kd) : sf σ kd k n f a b c = σ a b c := sf_ne (Or.inl h)
theorem sf_cg {σ : Sg} {kd : Nat} {k n : Int} {f g : Int → Int} (h : ∀ c, 0 ≤ c → c < n → f c = g c) : sf σ kd k n f = sf σ kd k n g := by
  funext a b c
  simp only [sf]
  by_cases h2 : a = kd ∧ b = k ∧ 0 ≤ c ∧ c < n
  · rw [if_pos h2, if_pos h2, h c h2.2.2.1 h2.2.2.2]
  · rw [if_neg h2, if_neg h2]
theorem su_nk {σ : Sg} {kd a : Nat} {k j v b c : Int} (h : a ≠ kd) : su σ kd k j v a b c = σ a b c := by unfold su; rw [if_neg (fun z => h z.1)]
theorem su_at {σ : Sg} {kd : Nat} {k j v : Int} : su σ kd k j v kd k j = v := by unfold su; rw [if_pos ⟨rfl, rfl, rfl⟩]
theorem su_ne {σ : Sg} {kd : Nat} {k j v b c : Int} (h : b ≠ k ∨ c ≠ j) : su σ kd k j v kd b c = σ kd b c := by unfold su; rw [if_neg (fun z => h.elim (fun w => w z.2.1) (fun w => w z.2.2))]
def sN (w : Int → Int) : Nat → Int
  | 0 => 0
  | n + 1 => sN w n + w (n : Int)
theorem sN_5 (w : Int → Int) : sN w 5 = s5 w := by simp [sN, s5]
theorem sN_nn {w : Int → Int} (h : ∀ p, 0 ≤ p → p < 5 → 0 ≤ w p) : ∀ n : Nat, n ≤ 5 → 0 ≤ sN w n := by
  intro n
  induction n with
  | zero => intro _; exact Int.le_refl _
  | succ n ih => intro hn; have := ih (by omega); have := h n (by omega) (by omega); simp only [sN]; omega
theorem sf2_step {σ : Sg} {pk : Nat} {pi i q r : Int} {f g : Int → Int} (h0 : 0 ≤ i) (hp : pk ≠ 8) (hq : q = g i) (hr : r = f i) : su (su (sf (sf σ 8 0 i f) pk pi i g) pk pi i q) 8 0 i r = sf (sf σ 8 0 (i + 1) f) pk pi (i + 1) g := by
  rw [sf_su h0 hq]
  funext a b c
  simp only [su, sf]
  by_cases h1 : a = pk
  · subst h1
    simp only [hp, false_and, if_false]
  · simp only [h1, false_and, if_false]
    by_cases h2 : a = 8 ∧ b = 0
    · obtain ⟨rfl, rfl⟩ := h2
      simp only [true_and]
      by_cases h3 : c = i
      · subst h3
        rw [if_pos rfl, if_pos (by omega), hr]
      · rw [if_neg h3]
        by_cases h4 : 0 ≤ c ∧ c < i
        · rw [if_pos h4, if_pos (by omega)]
        · rw [if_neg h4, if_neg (by omega)]
    · rw [if_neg (by omega), if_neg (by omega), if_neg (by omega)]
theorem sf2_put {σ : Sg} {pk : Nat} {pi b v r : Int} {f g : Int → Int} (h0 : 0 ≤ b) (h5 : b < 5) (hp : pk ≠ 8) : su (su (sf (sf σ 8 0 5 f) pk pi 5 g) pk pi b v) 8 0 b r = sf (sf σ 8 0 5 (fun k => if k = b then r else f k)) pk pi 5 (fun k => if k = b then v else g k) := by
  funext x y c
  simp only [su, sf]
  grind
theorem mul_rng {a b : Int} (ha : 0 ≤ a ∧ a < 2147483648) (hb : 0 ≤ b ∧ b < 2147483648) : 0 ≤ a * b ∧ a * b < 9223372036854775808 := by
  refine ⟨Int.mul_nonneg ha.1 hb.1, ?_⟩
  have : a * b ≤ 2147483648 * 2147483648 := Int.mul_le_mul (by omega) (by omega) hb.1 (by omega)
  omega
theorem sf2_st {σ : Sg} {a b : Nat} {x i u v : Int} {f g : Int → Int} (h0 : 0 ≤ i) (hab : a ≠ b) (hu : u = f i) (hv : v = g i) : su (su (sf (sf σ a x i f) b x i g) a x i u) b x i v = sf (sf σ a x (i + 1) f) b x (i + 1) g := by
  subst hu; subst hv
  funext A B C
  simp only [su, sf]
  grind
theorem sf2_id {σ : Sg} {a b : Nat} {x i : Int} {f g : Int → Int} (h0 : 0 ≤ i) (hab : a ≠ b) (hu : σ a x i = f i) (hv : σ b x i = g i) : sf (sf σ a x i f) b x i g = sf (sf σ a x (i + 1) f) b x (i + 1) g := by
  funext A B C
  simp only [sf]
  grind
theorem sf2_cg {σ : Sg} {a b : Nat} {x y n m : Int} {f f' g g' : Int → Int} (hf : ∀ k, f k = f' k) (hg : ∀ k, g k = g' k) : sf (sf σ a x n f) b y m g = sf (sf σ a x n f') b y m g' := by rw [funext hf, funext hg]
theorem su_ne3 {σ : Sg} {kd a : Nat} {k j v b c : Int} (h : a ≠ kd ∨ b ≠ k ∨ c ≠ j) : su σ kd k j v a b c = σ a b c := by unfold su; rw [if_neg (fun z => h.elim (fun w => w z.1) (fun w => w.elim (fun w => w z.2.1) (fun w => w z.2.2)))]
theorem sf_nr {σ : Sg} {kd a : Nat} {k n b c : Int} {f : Int → Int} (h : a ≠ kd ∨ b ≠ k ∨ c < 0 ∨ n ≤ c) : sf σ kd k n f a b c = σ a b c := by unfold sf; rw [if_neg (by omega)]
end
section
section JK
variable {p : Program} {l : Launch} {e : Env} {R : Room} {s : State} {m : MethodId} {args : Array Value} {below : List Frame} {meth : Method} {c : Code} {cy : Nat → ClassId} {D : va_G} {ad : Ad} {A : Nat → Prop} {nL : Nat} {cells slots : Nat} {Q : State → Prop} {σ : Sg} {pc : Nat} {lv : List (Option Value)} {st : List Value} {cc : ByteArray} {own : String} {Ts : List Cond}
theorem cmp_rng (x y : Int) : I32 (if y < x then 1 else if x = y then 0 else -1) := by split; omega; split <;> omega
theorem J_lif_eq (C : Cx p l e R s m args below meth c cy D ad A nL cc own Ts) {x y off : Int} {tgt : Nat} (hx : I64 x) (hy : I64 y) (d : decode cc pc = .ok (.lcmp, 1)) (d2 : decode cc (pc + 1) = .ok (.ifCond .eq off, 3)) (ht : ((pc + 1 : Nat) : Int) + off = (tgt : Int)) (k1 : x = y → JW p l e R s m args below meth c cy D ad A nL cells slots Q σ tgt lv st) (k2 : ¬ x = y → JW p l e R s m args below meth c cy D ad A nL cells slots Q σ (pc + 1 + 3) lv st) : JW p l e R s m args below meth c cy D ad A nL cells slots Q σ pc lv (.long (lI y) :: .long (lI x) :: st) := by
  refine J_lcmp C hx hy d (J_if_eq C (cmp_rng x y) d2 ht (fun z => k1 ?_) (fun z => k2 ?_))
  all_goals
    revert z
    by_cases h1 : y < x
    · rw [if_pos h1]; omega
    · rw [if_neg h1]
      by_cases h2 : x = y
      · rw [if_pos h2]; omega
      · rw [if_neg h2]; omega
theorem J_lif_ne (C : Cx p l e R s m args below meth c cy D ad A nL cc own Ts) {x y off : Int} {tgt : Nat} (hx : I64 x) (hy : I64 y) (d : decode cc pc = .ok (.lcmp, 1)) (d2 : decode cc (pc + 1) = .ok (.ifCond .ne off, 3)) (ht : ((pc + 1 : Nat) : Int) + off = (tgt : Int)) (k1 : ¬ x = y → JW p l e R s m args below meth c cy D ad A nL cells slots Q σ tgt lv st) (k2 : x = y → JW p l e R s m args below meth c cy D ad A nL cells slots Q σ (pc + 1 + 3) lv st) : JW p l e R s m args below meth c cy D ad A nL cells slots Q σ pc lv (.long (lI y) :: .long (lI x) :: st) := by
  refine J_lcmp C hx hy d (J_if_ne C (cmp_rng x y) d2 ht (fun z => k1 ?_) (fun z => k2 ?_))
  all_goals
    revert z
    by_cases h1 : y < x
    · rw [if_pos h1]; omega
    · rw [if_neg h1]
      by_cases h2 : x = y
      · rw [if_pos h2]; omega
      · rw [if_neg h2]; omega
theorem J_lif_lt (C : Cx p l e R s m args below meth c cy D ad A nL cc own Ts) {x y off : Int} {tgt : Nat} (hx : I64 x) (hy : I64 y) (d : decode cc pc = .ok (.lcmp, 1)) (d2 : decode cc (pc + 1) = .ok (.ifCond .lt off, 3)) (ht : ((pc + 1 : Nat) : Int) + off = (tgt : Int)) (k1 : x < y → JW p l e R s m args below meth c cy D ad A nL cells slots Q σ tgt lv st) (k2 : y ≤ x → JW p l e R s m args below meth c cy D ad A nL cells slots Q σ (pc + 1 + 3) lv st) : JW p l e R s m args below meth c cy D ad A nL cells slots Q σ pc lv (.long (lI y) :: .long (lI x) :: st) := by
  refine J_lcmp C hx hy d (J_if_lt C (cmp_rng x y) d2 ht (fun z => k1 ?_) (fun z => k2 ?_))
  all_goals
    revert z
    by_cases h1 : y < x
    · rw [if_pos h1]; omega
    · rw [if_neg h1]
      by_cases h2 : x = y
      · rw [if_pos h2]; omega
      · rw [if_neg h2]; omega
theorem J_lif_ge (C : Cx p l e R s m args below meth c cy D ad A nL cc own Ts) {x y off : Int} {tgt : Nat} (hx : I64 x) (hy : I64 y) (d : decode cc pc = .ok (.lcmp, 1)) (d2 : decode cc (pc + 1) = .ok (.ifCond .ge off, 3)) (ht : ((pc + 1 : Nat) : Int) + off = (tgt : Int)) (k1 : y ≤ x → JW p l e R s m args below meth c cy D ad A nL cells slots Q σ tgt lv st) (k2 : x < y → JW p l e R s m args below meth c cy D ad A nL cells slots Q σ (pc + 1 + 3) lv st) : JW p l e R s m args below meth c cy D ad A nL cells slots Q σ pc lv (.long (lI y) :: .long (lI x) :: st) := by
  refine J_lcmp C hx hy d (J_if_ge C (cmp_rng x y) d2 ht (fun z => k1 ?_) (fun z => k2 ?_))
  all_goals
    revert z
    by_cases h1 : y < x
    · rw [if_pos h1]; omega
    · rw [if_neg h1]
      by_cases h2 : x = y
      · rw [if_pos h2]; omega
      · rw [if_neg h2]; omega
theorem J_lif_gt (C : Cx p l e R s m args below meth c cy D ad A nL cc own Ts) {x y off : Int} {tgt : Nat} (hx : I64 x) (hy : I64 y) (d : decode cc pc = .ok (.lcmp, 1)) (d2 : decode cc (pc + 1) = .ok (.ifCond .gt off, 3)) (ht : ((pc + 1 : Nat) : Int) + off = (tgt : Int)) (k1 : y < x → JW p l e R s m args below meth c cy D ad A nL cells slots Q σ tgt lv st) (k2 : x ≤ y → JW p l e R s m args below meth c cy D ad A nL cells slots Q σ (pc + 1 + 3) lv st) : JW p l e R s m args below meth c cy D ad A nL cells slots Q σ pc lv (.long (lI y) :: .long (lI x) :: st) := by
  refine J_lcmp C hx hy d (J_if_gt C (cmp_rng x y) d2 ht (fun z => k1 ?_) (fun z => k2 ?_))
  all_goals
    revert z
    by_cases h1 : y < x
    · rw [if_pos h1]; omega
    · rw [if_neg h1]
      by_cases h2 : x = y
      · rw [if_pos h2]; omega
      · rw [if_neg h2]; omega
theorem J_lif_le (C : Cx p l e R s m args below meth c cy D ad A nL cc own Ts) {x y off : Int} {tgt : Nat} (hx : I64 x) (hy : I64 y) (d : decode cc pc = .ok (.lcmp, 1)) (d2 : decode cc (pc + 1) = .ok (.ifCond .le off, 3)) (ht : ((pc + 1 : Nat) : Int) + off = (tgt : Int)) (k1 : x ≤ y → JW p l e R s m args below meth c cy D ad A nL cells slots Q σ tgt lv st) (k2 : y < x → JW p l e R s m args below meth c cy D ad A nL cells slots Q σ (pc + 1 + 3) lv st) : JW p l e R s m args below meth c cy D ad A nL cells slots Q σ pc lv (.long (lI y) :: .long (lI x) :: st) := by
  refine J_lcmp C hx hy d (J_if_le C (cmp_rng x y) d2 ht (fun z => k1 ?_) (fun z => k2 ?_))
  all_goals
    revert z
    by_cases h1 : y < x
    · rw [if_pos h1]; omega
    · rw [if_neg h1]
      by_cases h2 : x = y
      · rw [if_pos h2]; omega
      · rw [if_neg h2]; omega
theorem J_alenI (C : Cx p l e R s m args below meth c cy D ad A nL cc own Ts) {kd n : Nat} {k : Int} (hK : IsI ad kd n) (hk : 0 ≤ k ∧ k < cnt kd) (d : decode cc pc = .ok (.arraylength, 1)) (kk : JW p l e R s m args below meth c cy D ad A nL cells slots Q σ (pc + 1) lv (.int (iI (n : Int)) :: st)) : JW p l e R s m args below meth c cy D ad A nL cells slots Q σ pc lv (.ref (ad kd k) :: st) := by
  intro H locs ls h1 h2 h3
  have hP := h1 kd k hk.1 hk.2 hK.2.1
  rw [hK.2.2 cy σ k] at hP
  have hP : H[ad kd k]? = some (arrV (cy 0) n (fun j => .int (iI (σ kd k (j : Int))))) := hP
  refine W.alen (n := iI (n : Int)) C.1.1 C.1.2.1 hP ((C.2.2.2.1.1.2 0 _ rfl).1 n (fun j => .int (iI (σ kd k (j : Int))))) ?_ rfl rfl d (kk H locs ls h1 h2 h3)
  rw [arrV_size]
  unfold iI
  rfl
theorem J_alenL (C : Cx p l e R s m args below meth c cy D ad A nL cc own Ts) {kd n : Nat} {k : Int} (hK : IsL ad kd n) (hk : 0 ≤ k ∧ k < cnt kd) (d : decode cc pc = .ok (.arraylength, 1)) (kk : JW p l e R s m args below meth c cy D ad A nL cells slots Q σ (pc + 1) lv (.int (iI (n : Int)) :: st)) : JW p l e R s m args below meth c cy D ad A nL cells slots Q σ pc lv (.ref (ad kd k) :: st) := by
  intro H locs ls h1 h2 h3
  have hP := h1 kd k hk.1 hk.2 hK.2.1
  rw [hK.2.2 cy σ k] at hP
  have hP : H[ad kd k]? = some (arrV (cy 1) n (fun j => .long (lI (σ kd k (j : Int))))) := hP
  refine W.alen (n := iI (n : Int)) C.1.1 C.1.2.1 hP ((C.2.2.2.1.1.2 1 _ rfl).1 n (fun j => .long (lI (σ kd k (j : Int))))) ?_ rfl rfl d (kk H locs ls h1 h2 h3)
  rw [arrV_size]
  unfold iI
  rfl
theorem J_alenZ (C : Cx p l e R s m args below meth c cy D ad A nL cc own Ts) {kd n : Nat} {k : Int} (hK : IsZ ad kd n) (hk : 0 ≤ k ∧ k < cnt kd) (d : decode cc pc = .ok (.arraylength, 1)) (kk : JW p l e R s m args below meth c cy D ad A nL cells slots Q σ (pc + 1) lv (.int (iI (n : Int)) :: st)) : JW p l e R s m args below meth c cy D ad A nL cells slots Q σ pc lv (.ref (ad kd k) :: st) := by
  intro H locs ls h1 h2 h3
  have hP := h1 kd k hk.1 hk.2 hK.2.1
  rw [hK.2.2 cy σ k] at hP
  have hP : H[ad kd k]? = some (arrV (cy 2) n (fun j => .int (iI (σ kd k (j : Int))))) := hP
  refine W.alen (n := iI (n : Int)) C.1.1 C.1.2.1 hP ((C.2.2.2.1.1.2 2 _ rfl).1 n (fun j => .int (iI (σ kd k (j : Int))))) ?_ rfl rfl d (kk H locs ls h1 h2 h3)
  rw [arrV_size]
  unfold iI
  rfl
theorem J_min (C : Cx p l e R s m args below meth c cy D ad A nL cc own Ts) {x y : Int} {idx : Nat} (hw : (Cond.methodLink own idx Lib.MathLoose.min_long.x ∈ Ts ∧ Cond.static Lib.MathLoose.min_long.x ∈ Ts) ∧ Cond.initialized "java/lang/Math" ∈ Ts ∧ Cond.code Lib.MathLoose.min_long.x Lib.MathLoose.min_long.code 4 (some .long) ∈ Ts) (hx : I64 x) (hy : I64 y) (d : decode cc pc = .ok (.invokestatic idx, 3)) (hf : 1 ≤ R.frames) (hW : (st.map fun v => v.category).sum + 15 ≤ R.locals) (hr : cells ≤ R.cells ∧ slots ≤ R.slots) (kk : JW p l e R s m args below meth c cy D ad A nL cells slots Q σ (pc + 3) lv (.long (lI (if y < x then y else x)) :: st)) : JW p l e R s m args below meth c cy D ad A nL cells slots Q σ pc lv (.long (lI y) :: .long (lI x) :: st) := by
  intro H locs ls h1 h2 h3
  have hts := C.1.2.2.2.2
  refine va_mmin_long C.1.1 C.1.2.1 (C.1.2.2.1.trans h3.1.symm) C.1.2.2.2.1 (hts _ hw.1.1) (hts _ hw.1.2) (hts _ hw.2.1) (hts _ hw.2.2) hf hW hr.1 hr.2 d ?_
  have e : (if lI y < lI x then lI y else lI x) = lI (if y < x then y else x) := by
    by_cases h : y < x
    · rw [if_pos h, if_pos ((lI_lt hy hx).mpr h)]
    · rw [if_neg h, if_neg (fun z => h ((lI_lt hy hx).mp z))]
  rw [e]
  exact kk H locs ls h1 h2 h3
theorem J_fg0 {b : Option Value} {t : List (Option Value)} (k : JW p l e R s m args below meth c cy D ad A nL cells slots Q σ pc (none :: t) st) : JW p l e R s m args below meth c cy D ad A nL cells slots Q σ pc (b :: t) st := by
  refine J_less (lv' := none :: t) (fun i v h => ?_) k
  by_cases hi : i = 0
  · subst hi; cases h
  · have e : (b :: t)[i]? = ((b :: t).set 0 none)[i]? := by rw [List.getElem?_set_ne (Ne.symm hi)]
    rw [e]; exact h
theorem J_fg1 {a0 : Option Value} {b : Option Value} {t : List (Option Value)} (k : JW p l e R s m args below meth c cy D ad A nL cells slots Q σ pc (a0 :: none :: t) st) : JW p l e R s m args below meth c cy D ad A nL cells slots Q σ pc (a0 :: b :: t) st := by
  refine J_less (lv' := a0 :: none :: t) (fun i v h => ?_) k
  by_cases hi : i = 1
  · subst hi; cases h
  · have e : (a0 :: b :: t)[i]? = ((a0 :: b :: t).set 1 none)[i]? := by rw [List.getElem?_set_ne (Ne.symm hi)]
    rw [e]; exact h
theorem J_fg2 {a0 a1 : Option Value} {b : Option Value} {t : List (Option Value)} (k : JW p l e R s m args below meth c cy D ad A nL cells slots Q σ pc (a0 :: a1 :: none :: t) st) : JW p l e R s m args below meth c cy D ad A nL cells slots Q σ pc (a0 :: a1 :: b :: t) st := by
  refine J_less (lv' := a0 :: a1 :: none :: t) (fun i v h => ?_) k
  by_cases hi : i = 2
  · subst hi; cases h
  · have e : (a0 :: a1 :: b :: t)[i]? = ((a0 :: a1 :: b :: t).set 2 none)[i]? := by rw [List.getElem?_set_ne (Ne.symm hi)]
    rw [e]; exact h
theorem J_fg3 {a0 a1 a2 : Option Value} {b : Option Value} {t : List (Option Value)} (k : JW p l e R s m args below meth c cy D ad A nL cells slots Q σ pc (a0 :: a1 :: a2 :: none :: t) st) : JW p l e R s m args below meth c cy D ad A nL cells slots Q σ pc (a0 :: a1 :: a2 :: b :: t) st := by
  refine J_less (lv' := a0 :: a1 :: a2 :: none :: t) (fun i v h => ?_) k
  by_cases hi : i = 3
  · subst hi; cases h
  · have e : (a0 :: a1 :: a2 :: b :: t)[i]? = ((a0 :: a1 :: a2 :: b :: t).set 3 none)[i]? := by rw [List.getElem?_set_ne (Ne.symm hi)]
    rw [e]; exact h
theorem J_fg4 {a0 a1 a2 a3 : Option Value} {b : Option Value} {t : List (Option Value)} (k : JW p l e R s m args below meth c cy D ad A nL cells slots Q σ pc (a0 :: a1 :: a2 :: a3 :: none :: t) st) : JW p l e R s m args below meth c cy D ad A nL cells slots Q σ pc (a0 :: a1 :: a2 :: a3 :: b :: t) st := by
  refine J_less (lv' := a0 :: a1 :: a2 :: a3 :: none :: t) (fun i v h => ?_) k
  by_cases hi : i = 4
  · subst hi; cases h
  · have e : (a0 :: a1 :: a2 :: a3 :: b :: t)[i]? = ((a0 :: a1 :: a2 :: a3 :: b :: t).set 4 none)[i]? := by rw [List.getElem?_set_ne (Ne.symm hi)]
    rw [e]; exact h
theorem J_fg5 {a0 a1 a2 a3 a4 : Option Value} {b : Option Value} {t : List (Option Value)} (k : JW p l e R s m args below meth c cy D ad A nL cells slots Q σ pc (a0 :: a1 :: a2 :: a3 :: a4 :: none :: t) st) : JW p l e R s m args below meth c cy D ad A nL cells slots Q σ pc (a0 :: a1 :: a2 :: a3 :: a4 :: b :: t) st := by
  refine J_less (lv' := a0 :: a1 :: a2 :: a3 :: a4 :: none :: t) (fun i v h => ?_) k
  by_cases hi : i = 5
  · subst hi; cases h
  · have e : (a0 :: a1 :: a2 :: a3 :: a4 :: b :: t)[i]? = ((a0 :: a1 :: a2 :: a3 :: a4 :: b :: t).set 5 none)[i]? := by rw [List.getElem?_set_ne (Ne.symm hi)]
    rw [e]; exact h
theorem J_fg6 {a0 a1 a2 a3 a4 a5 : Option Value} {b : Option Value} {t : List (Option Value)} (k : JW p l e R s m args below meth c cy D ad A nL cells slots Q σ pc (a0 :: a1 :: a2 :: a3 :: a4 :: a5 :: none :: t) st) : JW p l e R s m args below meth c cy D ad A nL cells slots Q σ pc (a0 :: a1 :: a2 :: a3 :: a4 :: a5 :: b :: t) st := by
  refine J_less (lv' := a0 :: a1 :: a2 :: a3 :: a4 :: a5 :: none :: t) (fun i v h => ?_) k
  by_cases hi : i = 6
  · subst hi; cases h
  · have e : (a0 :: a1 :: a2 :: a3 :: a4 :: a5 :: b :: t)[i]? = ((a0 :: a1 :: a2 :: a3 :: a4 :: a5 :: b :: t).set 6 none)[i]? := by rw [List.getElem?_set_ne (Ne.symm hi)]
    rw [e]; exact h
theorem J_fg7 {a0 a1 a2 a3 a4 a5 a6 : Option Value} {b : Option Value} {t : List (Option Value)} (k : JW p l e R s m args below meth c cy D ad A nL cells slots Q σ pc (a0 :: a1 :: a2 :: a3 :: a4 :: a5 :: a6 :: none :: t) st) : JW p l e R s m args below meth c cy D ad A nL cells slots Q σ pc (a0 :: a1 :: a2 :: a3 :: a4 :: a5 :: a6 :: b :: t) st := by
  refine J_less (lv' := a0 :: a1 :: a2 :: a3 :: a4 :: a5 :: a6 :: none :: t) (fun i v h => ?_) k
  by_cases hi : i = 7
  · subst hi; cases h
  · have e : (a0 :: a1 :: a2 :: a3 :: a4 :: a5 :: a6 :: b :: t)[i]? = ((a0 :: a1 :: a2 :: a3 :: a4 :: a5 :: a6 :: b :: t).set 7 none)[i]? := by rw [List.getElem?_set_ne (Ne.symm hi)]
    rw [e]; exact h
theorem J_fg8 {a0 a1 a2 a3 a4 a5 a6 a7 : Option Value} {b : Option Value} {t : List (Option Value)} (k : JW p l e R s m args below meth c cy D ad A nL cells slots Q σ pc (a0 :: a1 :: a2 :: a3 :: a4 :: a5 :: a6 :: a7 :: none :: t) st) : JW p l e R s m args below meth c cy D ad A nL cells slots Q σ pc (a0 :: a1 :: a2 :: a3 :: a4 :: a5 :: a6 :: a7 :: b :: t) st := by
  refine J_less (lv' := a0 :: a1 :: a2 :: a3 :: a4 :: a5 :: a6 :: a7 :: none :: t) (fun i v h => ?_) k
  by_cases hi : i = 8
  · subst hi; cases h
  · have e : (a0 :: a1 :: a2 :: a3 :: a4 :: a5 :: a6 :: a7 :: b :: t)[i]? = ((a0 :: a1 :: a2 :: a3 :: a4 :: a5 :: a6 :: a7 :: b :: t).set 8 none)[i]? := by rw [List.getElem?_set_ne (Ne.symm hi)]
    rw [e]; exact h
theorem J_fg9 {a0 a1 a2 a3 a4 a5 a6 a7 a8 : Option Value} {b : Option Value} {t : List (Option Value)} (k : JW p l e R s m args below meth c cy D ad A nL cells slots Q σ pc (a0 :: a1 :: a2 :: a3 :: a4 :: a5 :: a6 :: a7 :: a8 :: none :: t) st) : JW p l e R s m args below meth c cy D ad A nL cells slots Q σ pc (a0 :: a1 :: a2 :: a3 :: a4 :: a5 :: a6 :: a7 :: a8 :: b :: t) st := by
  refine J_less (lv' := a0 :: a1 :: a2 :: a3 :: a4 :: a5 :: a6 :: a7 :: a8 :: none :: t) (fun i v h => ?_) k
  by_cases hi : i = 9
  · subst hi; cases h
  · have e : (a0 :: a1 :: a2 :: a3 :: a4 :: a5 :: a6 :: a7 :: a8 :: b :: t)[i]? = ((a0 :: a1 :: a2 :: a3 :: a4 :: a5 :: a6 :: a7 :: a8 :: b :: t).set 9 none)[i]? := by rw [List.getElem?_set_ne (Ne.symm hi)]
    rw [e]; exact h
theorem J_fg10 {a0 a1 a2 a3 a4 a5 a6 a7 a8 a9 : Option Value} {b : Option Value} {t : List (Option Value)} (k : JW p l e R s m args below meth c cy D ad A nL cells slots Q σ pc (a0 :: a1 :: a2 :: a3 :: a4 :: a5 :: a6 :: a7 :: a8 :: a9 :: none :: t) st) : JW p l e R s m args below meth c cy D ad A nL cells slots Q σ pc (a0 :: a1 :: a2 :: a3 :: a4 :: a5 :: a6 :: a7 :: a8 :: a9 :: b :: t) st := by
  refine J_less (lv' := a0 :: a1 :: a2 :: a3 :: a4 :: a5 :: a6 :: a7 :: a8 :: a9 :: none :: t) (fun i v h => ?_) k
  by_cases hi : i = 10
  · subst hi; cases h
  · have e : (a0 :: a1 :: a2 :: a3 :: a4 :: a5 :: a6 :: a7 :: a8 :: a9 :: b :: t)[i]? = ((a0 :: a1 :: a2 :: a3 :: a4 :: a5 :: a6 :: a7 :: a8 :: a9 :: b :: t).set 10 none)[i]? := by rw [List.getElem?_set_ne (Ne.symm hi)]
    rw [e]; exact h
theorem J_fg11 {a0 a1 a2 a3 a4 a5 a6 a7 a8 a9 a10 : Option Value} {b : Option Value} {t : List (Option Value)} (k : JW p l e R s m args below meth c cy D ad A nL cells slots Q σ pc (a0 :: a1 :: a2 :: a3 :: a4 :: a5 :: a6 :: a7 :: a8 :: a9 :: a10 :: none :: t) st) : JW p l e R s m args below meth c cy D ad A nL cells slots Q σ pc (a0 :: a1 :: a2 :: a3 :: a4 :: a5 :: a6 :: a7 :: a8 :: a9 :: a10 :: b :: t) st := by
  refine J_less (lv' := a0 :: a1 :: a2 :: a3 :: a4 :: a5 :: a6 :: a7 :: a8 :: a9 :: a10 :: none :: t) (fun i v h => ?_) k
  by_cases hi : i = 11
  · subst hi; cases h
  · have e : (a0 :: a1 :: a2 :: a3 :: a4 :: a5 :: a6 :: a7 :: a8 :: a9 :: a10 :: b :: t)[i]? = ((a0 :: a1 :: a2 :: a3 :: a4 :: a5 :: a6 :: a7 :: a8 :: a9 :: a10 :: b :: t).set 11 none)[i]? := by rw [List.getElem?_set_ne (Ne.symm hi)]
    rw [e]; exact h
theorem J_fg12 {a0 a1 a2 a3 a4 a5 a6 a7 a8 a9 a10 a11 : Option Value} {b : Option Value} {t : List (Option Value)} (k : JW p l e R s m args below meth c cy D ad A nL cells slots Q σ pc (a0 :: a1 :: a2 :: a3 :: a4 :: a5 :: a6 :: a7 :: a8 :: a9 :: a10 :: a11 :: none :: t) st) : JW p l e R s m args below meth c cy D ad A nL cells slots Q σ pc (a0 :: a1 :: a2 :: a3 :: a4 :: a5 :: a6 :: a7 :: a8 :: a9 :: a10 :: a11 :: b :: t) st := by
  refine J_less (lv' := a0 :: a1 :: a2 :: a3 :: a4 :: a5 :: a6 :: a7 :: a8 :: a9 :: a10 :: a11 :: none :: t) (fun i v h => ?_) k
  by_cases hi : i = 12
  · subst hi; cases h
  · have e : (a0 :: a1 :: a2 :: a3 :: a4 :: a5 :: a6 :: a7 :: a8 :: a9 :: a10 :: a11 :: b :: t)[i]? = ((a0 :: a1 :: a2 :: a3 :: a4 :: a5 :: a6 :: a7 :: a8 :: a9 :: a10 :: a11 :: b :: t).set 12 none)[i]? := by rw [List.getElem?_set_ne (Ne.symm hi)]
    rw [e]; exact h
theorem J_fg13 {a0 a1 a2 a3 a4 a5 a6 a7 a8 a9 a10 a11 a12 : Option Value} {b : Option Value} {t : List (Option Value)} (k : JW p l e R s m args below meth c cy D ad A nL cells slots Q σ pc (a0 :: a1 :: a2 :: a3 :: a4 :: a5 :: a6 :: a7 :: a8 :: a9 :: a10 :: a11 :: a12 :: none :: t) st) : JW p l e R s m args below meth c cy D ad A nL cells slots Q σ pc (a0 :: a1 :: a2 :: a3 :: a4 :: a5 :: a6 :: a7 :: a8 :: a9 :: a10 :: a11 :: a12 :: b :: t) st := by
  refine J_less (lv' := a0 :: a1 :: a2 :: a3 :: a4 :: a5 :: a6 :: a7 :: a8 :: a9 :: a10 :: a11 :: a12 :: none :: t) (fun i v h => ?_) k
  by_cases hi : i = 13
  · subst hi; cases h
  · have e : (a0 :: a1 :: a2 :: a3 :: a4 :: a5 :: a6 :: a7 :: a8 :: a9 :: a10 :: a11 :: a12 :: b :: t)[i]? = ((a0 :: a1 :: a2 :: a3 :: a4 :: a5 :: a6 :: a7 :: a8 :: a9 :: a10 :: a11 :: a12 :: b :: t).set 13 none)[i]? := by rw [List.getElem?_set_ne (Ne.symm hi)]
    rw [e]; exact h
theorem J_fg14 {a0 a1 a2 a3 a4 a5 a6 a7 a8 a9 a10 a11 a12 a13 : Option Value} {b : Option Value} {t : List (Option Value)} (k : JW p l e R s m args below meth c cy D ad A nL cells slots Q σ pc (a0 :: a1 :: a2 :: a3 :: a4 :: a5 :: a6 :: a7 :: a8 :: a9 :: a10 :: a11 :: a12 :: a13 :: none :: t) st) : JW p l e R s m args below meth c cy D ad A nL cells slots Q σ pc (a0 :: a1 :: a2 :: a3 :: a4 :: a5 :: a6 :: a7 :: a8 :: a9 :: a10 :: a11 :: a12 :: a13 :: b :: t) st := by
  refine J_less (lv' := a0 :: a1 :: a2 :: a3 :: a4 :: a5 :: a6 :: a7 :: a8 :: a9 :: a10 :: a11 :: a12 :: a13 :: none :: t) (fun i v h => ?_) k
  by_cases hi : i = 14
  · subst hi; cases h
  · have e : (a0 :: a1 :: a2 :: a3 :: a4 :: a5 :: a6 :: a7 :: a8 :: a9 :: a10 :: a11 :: a12 :: a13 :: b :: t)[i]? = ((a0 :: a1 :: a2 :: a3 :: a4 :: a5 :: a6 :: a7 :: a8 :: a9 :: a10 :: a11 :: a12 :: a13 :: b :: t).set 14 none)[i]? := by rw [List.getElem?_set_ne (Ne.symm hi)]
    rw [e]; exact h
theorem J_fg15 {a0 a1 a2 a3 a4 a5 a6 a7 a8 a9 a10 a11 a12 a13 a14 : Option Value} {b : Option Value} {t : List (Option Value)} (k : JW p l e R s m args below meth c cy D ad A nL cells slots Q σ pc (a0 :: a1 :: a2 :: a3 :: a4 :: a5 :: a6 :: a7 :: a8 :: a9 :: a10 :: a11 :: a12 :: a13 :: a14 :: none :: t) st) : JW p l e R s m args below meth c cy D ad A nL cells slots Q σ pc (a0 :: a1 :: a2 :: a3 :: a4 :: a5 :: a6 :: a7 :: a8 :: a9 :: a10 :: a11 :: a12 :: a13 :: a14 :: b :: t) st := by
  refine J_less (lv' := a0 :: a1 :: a2 :: a3 :: a4 :: a5 :: a6 :: a7 :: a8 :: a9 :: a10 :: a11 :: a12 :: a13 :: a14 :: none :: t) (fun i v h => ?_) k
  by_cases hi : i = 15
  · subst hi; cases h
  · have e : (a0 :: a1 :: a2 :: a3 :: a4 :: a5 :: a6 :: a7 :: a8 :: a9 :: a10 :: a11 :: a12 :: a13 :: a14 :: b :: t)[i]? = ((a0 :: a1 :: a2 :: a3 :: a4 :: a5 :: a6 :: a7 :: a8 :: a9 :: a10 :: a11 :: a12 :: a13 :: a14 :: b :: t).set 15 none)[i]? := by rw [List.getElem?_set_ne (Ne.symm hi)]
    rw [e]; exact h
theorem J_fg16 {a0 a1 a2 a3 a4 a5 a6 a7 a8 a9 a10 a11 a12 a13 a14 a15 : Option Value} {b : Option Value} {t : List (Option Value)} (k : JW p l e R s m args below meth c cy D ad A nL cells slots Q σ pc (a0 :: a1 :: a2 :: a3 :: a4 :: a5 :: a6 :: a7 :: a8 :: a9 :: a10 :: a11 :: a12 :: a13 :: a14 :: a15 :: none :: t) st) : JW p l e R s m args below meth c cy D ad A nL cells slots Q σ pc (a0 :: a1 :: a2 :: a3 :: a4 :: a5 :: a6 :: a7 :: a8 :: a9 :: a10 :: a11 :: a12 :: a13 :: a14 :: a15 :: b :: t) st := by
  refine J_less (lv' := a0 :: a1 :: a2 :: a3 :: a4 :: a5 :: a6 :: a7 :: a8 :: a9 :: a10 :: a11 :: a12 :: a13 :: a14 :: a15 :: none :: t) (fun i v h => ?_) k
  by_cases hi : i = 16
  · subst hi; cases h
  · have e : (a0 :: a1 :: a2 :: a3 :: a4 :: a5 :: a6 :: a7 :: a8 :: a9 :: a10 :: a11 :: a12 :: a13 :: a14 :: a15 :: b :: t)[i]? = ((a0 :: a1 :: a2 :: a3 :: a4 :: a5 :: a6 :: a7 :: a8 :: a9 :: a10 :: a11 :: a12 :: a13 :: a14 :: a15 :: b :: t).set 16 none)[i]? := by rw [List.getElem?_set_ne (Ne.symm hi)]
    rw [e]; exact h
theorem J_fg17 {a0 a1 a2 a3 a4 a5 a6 a7 a8 a9 a10 a11 a12 a13 a14 a15 a16 : Option Value} {b : Option Value} {t : List (Option Value)} (k : JW p l e R s m args below meth c cy D ad A nL cells slots Q σ pc (a0 :: a1 :: a2 :: a3 :: a4 :: a5 :: a6 :: a7 :: a8 :: a9 :: a10 :: a11 :: a12 :: a13 :: a14 :: a15 :: a16 :: none :: t) st) : JW p l e R s m args below meth c cy D ad A nL cells slots Q σ pc (a0 :: a1 :: a2 :: a3 :: a4 :: a5 :: a6 :: a7 :: a8 :: a9 :: a10 :: a11 :: a12 :: a13 :: a14 :: a15 :: a16 :: b :: t) st := by
  refine J_less (lv' := a0 :: a1 :: a2 :: a3 :: a4 :: a5 :: a6 :: a7 :: a8 :: a9 :: a10 :: a11 :: a12 :: a13 :: a14 :: a15 :: a16 :: none :: t) (fun i v h => ?_) k
  by_cases hi : i = 17
  · subst hi; cases h
  · have e : (a0 :: a1 :: a2 :: a3 :: a4 :: a5 :: a6 :: a7 :: a8 :: a9 :: a10 :: a11 :: a12 :: a13 :: a14 :: a15 :: a16 :: b :: t)[i]? = ((a0 :: a1 :: a2 :: a3 :: a4 :: a5 :: a6 :: a7 :: a8 :: a9 :: a10 :: a11 :: a12 :: a13 :: a14 :: a15 :: a16 :: b :: t).set 17 none)[i]? := by rw [List.getElem?_set_ne (Ne.symm hi)]
    rw [e]; exact h
theorem J_fg18 {a0 a1 a2 a3 a4 a5 a6 a7 a8 a9 a10 a11 a12 a13 a14 a15 a16 a17 : Option Value} {b : Option Value} {t : List (Option Value)} (k : JW p l e R s m args below meth c cy D ad A nL cells slots Q σ pc (a0 :: a1 :: a2 :: a3 :: a4 :: a5 :: a6 :: a7 :: a8 :: a9 :: a10 :: a11 :: a12 :: a13 :: a14 :: a15 :: a16 :: a17 :: none :: t) st) : JW p l e R s m args below meth c cy D ad A nL cells slots Q σ pc (a0 :: a1 :: a2 :: a3 :: a4 :: a5 :: a6 :: a7 :: a8 :: a9 :: a10 :: a11 :: a12 :: a13 :: a14 :: a15 :: a16 :: a17 :: b :: t) st := by
  refine J_less (lv' := a0 :: a1 :: a2 :: a3 :: a4 :: a5 :: a6 :: a7 :: a8 :: a9 :: a10 :: a11 :: a12 :: a13 :: a14 :: a15 :: a16 :: a17 :: none :: t) (fun i v h => ?_) k
  by_cases hi : i = 18
  · subst hi; cases h
  · have e : (a0 :: a1 :: a2 :: a3 :: a4 :: a5 :: a6 :: a7 :: a8 :: a9 :: a10 :: a11 :: a12 :: a13 :: a14 :: a15 :: a16 :: a17 :: b :: t)[i]? = ((a0 :: a1 :: a2 :: a3 :: a4 :: a5 :: a6 :: a7 :: a8 :: a9 :: a10 :: a11 :: a12 :: a13 :: a14 :: a15 :: a16 :: a17 :: b :: t).set 18 none)[i]? := by rw [List.getElem?_set_ne (Ne.symm hi)]
    rw [e]; exact h
theorem J_fg19 {a0 a1 a2 a3 a4 a5 a6 a7 a8 a9 a10 a11 a12 a13 a14 a15 a16 a17 a18 : Option Value} {b : Option Value} {t : List (Option Value)} (k : JW p l e R s m args below meth c cy D ad A nL cells slots Q σ pc (a0 :: a1 :: a2 :: a3 :: a4 :: a5 :: a6 :: a7 :: a8 :: a9 :: a10 :: a11 :: a12 :: a13 :: a14 :: a15 :: a16 :: a17 :: a18 :: none :: t) st) : JW p l e R s m args below meth c cy D ad A nL cells slots Q σ pc (a0 :: a1 :: a2 :: a3 :: a4 :: a5 :: a6 :: a7 :: a8 :: a9 :: a10 :: a11 :: a12 :: a13 :: a14 :: a15 :: a16 :: a17 :: a18 :: b :: t) st := by
  refine J_less (lv' := a0 :: a1 :: a2 :: a3 :: a4 :: a5 :: a6 :: a7 :: a8 :: a9 :: a10 :: a11 :: a12 :: a13 :: a14 :: a15 :: a16 :: a17 :: a18 :: none :: t) (fun i v h => ?_) k
  by_cases hi : i = 19
  · subst hi; cases h
  · have e : (a0 :: a1 :: a2 :: a3 :: a4 :: a5 :: a6 :: a7 :: a8 :: a9 :: a10 :: a11 :: a12 :: a13 :: a14 :: a15 :: a16 :: a17 :: a18 :: b :: t)[i]? = ((a0 :: a1 :: a2 :: a3 :: a4 :: a5 :: a6 :: a7 :: a8 :: a9 :: a10 :: a11 :: a12 :: a13 :: a14 :: a15 :: a16 :: a17 :: a18 :: b :: t).set 19 none)[i]? := by rw [List.getElem?_set_ne (Ne.symm hi)]
    rw [e]; exact h
theorem J_fg20 {a0 a1 a2 a3 a4 a5 a6 a7 a8 a9 a10 a11 a12 a13 a14 a15 a16 a17 a18 a19 : Option Value} {b : Option Value} {t : List (Option Value)} (k : JW p l e R s m args below meth c cy D ad A nL cells slots Q σ pc (a0 :: a1 :: a2 :: a3 :: a4 :: a5 :: a6 :: a7 :: a8 :: a9 :: a10 :: a11 :: a12 :: a13 :: a14 :: a15 :: a16 :: a17 :: a18 :: a19 :: none :: t) st) : JW p l e R s m args below meth c cy D ad A nL cells slots Q σ pc (a0 :: a1 :: a2 :: a3 :: a4 :: a5 :: a6 :: a7 :: a8 :: a9 :: a10 :: a11 :: a12 :: a13 :: a14 :: a15 :: a16 :: a17 :: a18 :: a19 :: b :: t) st := by
  refine J_less (lv' := a0 :: a1 :: a2 :: a3 :: a4 :: a5 :: a6 :: a7 :: a8 :: a9 :: a10 :: a11 :: a12 :: a13 :: a14 :: a15 :: a16 :: a17 :: a18 :: a19 :: none :: t) (fun i v h => ?_) k
  by_cases hi : i = 20
  · subst hi; cases h
  · have e : (a0 :: a1 :: a2 :: a3 :: a4 :: a5 :: a6 :: a7 :: a8 :: a9 :: a10 :: a11 :: a12 :: a13 :: a14 :: a15 :: a16 :: a17 :: a18 :: a19 :: b :: t)[i]? = ((a0 :: a1 :: a2 :: a3 :: a4 :: a5 :: a6 :: a7 :: a8 :: a9 :: a10 :: a11 :: a12 :: a13 :: a14 :: a15 :: a16 :: a17 :: a18 :: a19 :: b :: t).set 20 none)[i]? := by rw [List.getElem?_set_ne (Ne.symm hi)]
    rw [e]; exact h
theorem J_fg21 {a0 a1 a2 a3 a4 a5 a6 a7 a8 a9 a10 a11 a12 a13 a14 a15 a16 a17 a18 a19 a20 : Option Value} {b : Option Value} {t : List (Option Value)} (k : JW p l e R s m args below meth c cy D ad A nL cells slots Q σ pc (a0 :: a1 :: a2 :: a3 :: a4 :: a5 :: a6 :: a7 :: a8 :: a9 :: a10 :: a11 :: a12 :: a13 :: a14 :: a15 :: a16 :: a17 :: a18 :: a19 :: a20 :: none :: t) st) : JW p l e R s m args below meth c cy D ad A nL cells slots Q σ pc (a0 :: a1 :: a2 :: a3 :: a4 :: a5 :: a6 :: a7 :: a8 :: a9 :: a10 :: a11 :: a12 :: a13 :: a14 :: a15 :: a16 :: a17 :: a18 :: a19 :: a20 :: b :: t) st := by
  refine J_less (lv' := a0 :: a1 :: a2 :: a3 :: a4 :: a5 :: a6 :: a7 :: a8 :: a9 :: a10 :: a11 :: a12 :: a13 :: a14 :: a15 :: a16 :: a17 :: a18 :: a19 :: a20 :: none :: t) (fun i v h => ?_) k
  by_cases hi : i = 21
  · subst hi; cases h
  · have e : (a0 :: a1 :: a2 :: a3 :: a4 :: a5 :: a6 :: a7 :: a8 :: a9 :: a10 :: a11 :: a12 :: a13 :: a14 :: a15 :: a16 :: a17 :: a18 :: a19 :: a20 :: b :: t)[i]? = ((a0 :: a1 :: a2 :: a3 :: a4 :: a5 :: a6 :: a7 :: a8 :: a9 :: a10 :: a11 :: a12 :: a13 :: a14 :: a15 :: a16 :: a17 :: a18 :: a19 :: a20 :: b :: t).set 21 none)[i]? := by rw [List.getElem?_set_ne (Ne.symm hi)]
    rw [e]; exact h
theorem J_fg22 {a0 a1 a2 a3 a4 a5 a6 a7 a8 a9 a10 a11 a12 a13 a14 a15 a16 a17 a18 a19 a20 a21 : Option Value} {b : Option Value} {t : List (Option Value)} (k : JW p l e R s m args below meth c cy D ad A nL cells slots Q σ pc (a0 :: a1 :: a2 :: a3 :: a4 :: a5 :: a6 :: a7 :: a8 :: a9 :: a10 :: a11 :: a12 :: a13 :: a14 :: a15 :: a16 :: a17 :: a18 :: a19 :: a20 :: a21 :: none :: t) st) : JW p l e R s m args below meth c cy D ad A nL cells slots Q σ pc (a0 :: a1 :: a2 :: a3 :: a4 :: a5 :: a6 :: a7 :: a8 :: a9 :: a10 :: a11 :: a12 :: a13 :: a14 :: a15 :: a16 :: a17 :: a18 :: a19 :: a20 :: a21 :: b :: t) st := by
  refine J_less (lv' := a0 :: a1 :: a2 :: a3 :: a4 :: a5 :: a6 :: a7 :: a8 :: a9 :: a10 :: a11 :: a12 :: a13 :: a14 :: a15 :: a16 :: a17 :: a18 :: a19 :: a20 :: a21 :: none :: t) (fun i v h => ?_) k
  by_cases hi : i = 22
  · subst hi; cases h
  · have e : (a0 :: a1 :: a2 :: a3 :: a4 :: a5 :: a6 :: a7 :: a8 :: a9 :: a10 :: a11 :: a12 :: a13 :: a14 :: a15 :: a16 :: a17 :: a18 :: a19 :: a20 :: a21 :: b :: t)[i]? = ((a0 :: a1 :: a2 :: a3 :: a4 :: a5 :: a6 :: a7 :: a8 :: a9 :: a10 :: a11 :: a12 :: a13 :: a14 :: a15 :: a16 :: a17 :: a18 :: a19 :: a20 :: a21 :: b :: t).set 22 none)[i]? := by rw [List.getElem?_set_ne (Ne.symm hi)]
    rw [e]; exact h
theorem J_fg23 {a0 a1 a2 a3 a4 a5 a6 a7 a8 a9 a10 a11 a12 a13 a14 a15 a16 a17 a18 a19 a20 a21 a22 : Option Value} {b : Option Value} {t : List (Option Value)} (k : JW p l e R s m args below meth c cy D ad A nL cells slots Q σ pc (a0 :: a1 :: a2 :: a3 :: a4 :: a5 :: a6 :: a7 :: a8 :: a9 :: a10 :: a11 :: a12 :: a13 :: a14 :: a15 :: a16 :: a17 :: a18 :: a19 :: a20 :: a21 :: a22 :: none :: t) st) : JW p l e R s m args below meth c cy D ad A nL cells slots Q σ pc (a0 :: a1 :: a2 :: a3 :: a4 :: a5 :: a6 :: a7 :: a8 :: a9 :: a10 :: a11 :: a12 :: a13 :: a14 :: a15 :: a16 :: a17 :: a18 :: a19 :: a20 :: a21 :: a22 :: b :: t) st := by
  refine J_less (lv' := a0 :: a1 :: a2 :: a3 :: a4 :: a5 :: a6 :: a7 :: a8 :: a9 :: a10 :: a11 :: a12 :: a13 :: a14 :: a15 :: a16 :: a17 :: a18 :: a19 :: a20 :: a21 :: a22 :: none :: t) (fun i v h => ?_) k
  by_cases hi : i = 23
  · subst hi; cases h
  · have e : (a0 :: a1 :: a2 :: a3 :: a4 :: a5 :: a6 :: a7 :: a8 :: a9 :: a10 :: a11 :: a12 :: a13 :: a14 :: a15 :: a16 :: a17 :: a18 :: a19 :: a20 :: a21 :: a22 :: b :: t)[i]? = ((a0 :: a1 :: a2 :: a3 :: a4 :: a5 :: a6 :: a7 :: a8 :: a9 :: a10 :: a11 :: a12 :: a13 :: a14 :: a15 :: a16 :: a17 :: a18 :: a19 :: a20 :: a21 :: a22 :: b :: t).set 23 none)[i]? := by rw [List.getElem?_set_ne (Ne.symm hi)]
    rw [e]; exact h
def w32 (x : Int) : Int := (iI x).toInt
theorem w32_id {x : Int} (h : I32 x) : w32 x = x := iI_toInt h
theorem w32_r (x : Int) : I32 (w32 x) := i32_r (iI x)
theorem J_i2lw (C : Cx p l e R s m args below meth c cy D ad A nL cc own Ts) {x : Int} (d : decode cc pc = .ok (.i2l, 1)) (kk : JW p l e R s m args below meth c cy D ad A nL cells slots Q σ (pc + 1) lv (.long (lI (w32 x)) :: st)) : JW p l e R s m args below meth c cy D ad A nL cells slots Q σ pc lv (.int (iI x) :: st) := by
  intro H locs ls h1 h2 h3
  exact lv_i2l C.1.1 C.1.2.1 d (by rw [iI_of (iI x)]; exact iI_wide (i32_r _)) (kk H locs ls h1 h2 h3)
end JK
end
section
/-! the account of a well, in numbers: T has the rows 14 out, 15 to earn, 16 back at, 17 charged, 18 credited -/
def ac (σ : Sg) (w : Int) : Nat → Int → Int := fun c p => if 14 ≤ c ∧ c ≤ 18 ∧ 0 ≤ p ∧ p < 5 then σ c w p else 0
def shf (σ : Sg) : Int → Int := fun p => if 0 ≤ p ∧ p < 5 then σ 1 0 p else 0
def inw (sh : Int → Int) (T : Nat → Int → Int) : Int → Int := fun p => if T 14 p = 0 then sh p else 0
def osm (sh : Int → Int) (T : Nat → Int → Int) (a : Int) : Int := s5 (fun p => if T 14 p = 0 then 0 else dv a sh p)
def chp (sh : Int → Int) (T : Nat → Int → Int) (a : Int) (p : Int) : Int := dv (osm sh T a) (inw sh T) p + (if T 14 p = 0 then dv a sh p else 0)
def pn (o pen : Int) : Int := (o * pen + 99) / 100
def costS (sh : Int → Int) (pen a : Int) (T : Nat → Int → Int) : Nat → Int → Int := fun c p =>
  if c = 17 ∧ 0 ≤ p ∧ p < 5 then T 17 p + chp sh T a p else if c = 15 ∧ 0 ≤ p ∧ p < 5 then T 15 p + (if T 14 p = 0 then 0 else pn (dv a sh p) pen) else T c p
def tkn (sh : Int → Int) (T : Nat → Int → Int) (a : Int) (p : Int) : Int := if T 14 p = 0 then 0 else if T 15 p < dv a sh p then T 15 p else dv a sh p
/-- what comes to p of what is taken of the partners below q -/
def tks (sh : Int → Int) (T : Nat → Int → Int) (a p : Int) : Nat → Int
  | 0 => 0
  | n + 1 => tks sh T a p n + dv (tkn sh T a (n : Int)) (inw sh T) p
def incS (sh : Int → Int) (v a : Int) (T : Nat → Int → Int) : Nat → Int → Int := fun c p =>
  if 0 ≤ p ∧ p < 5 then
    if c = 15 then T 15 p - tkn sh T a p
    else if c = 18 then T 18 p + (dv a sh p - tkn sh T a p) + tks sh T a p 5
    else if c = 14 then (if T 14 p ≠ 0 ∧ T 15 p - tkn sh T a p = 0 then 0 else T 14 p)
    else if c = 16 then (if T 14 p ≠ 0 ∧ T 15 p - tkn sh T a p = 0 then v else T 16 p)
    else T c p
  else T c p
def stepS (sh : Int → Int) (pen v a : Int) (T : Nat → Int → Int) : Nat → Int → Int := if 0 < a then costS sh pen a T else incS sh v (-a) T
def foldS (sh : Int → Int) (pen : Int) (vw va : Int → Int) (w : Int) (T0 : Nat → Int → Int) : Nat → (Nat → Int → Int)
  | 0 => T0
  | n + 1 => if vw (n : Int) = w then stepS sh pen (n : Int) (va (n : Int)) (foldS sh pen vw va w T0 n) else foldS sh pen vw va w T0 n
/-- the account at the beginning, by the elections -/
def T0f (el : Int → Int) : Nat → Int → Int := fun c p => if 0 ≤ p ∧ p < 5 then (if c = 14 then el p else if c = 16 then -1 else 0) else 0
def Shk (sh : Int → Int) : Prop := (∀ p, 0 ≤ p → p < 5 → 0 ≤ sh p ∧ sh p ≤ 10000) ∧ s5 sh = 10000
theorem Shk.wt {sh : Int → Int} (h : Shk sh) : Wt sh := ⟨fun p a b => (h.1 p a b).1, by rw [h.2]; decide⟩
def Tin (sh : Int → Int) (T : Nat → Int → Int) : Prop := (∀ p, 0 ≤ p → p < 5 → T 14 p = 0 ∨ T 14 p = 1) ∧ 0 < s5 (inw sh T)
theorem inw_wt {sh : Int → Int} {T : Nat → Int → Int} (hs : Shk sh) (h : Tin sh T) : Wt (inw sh T) := ⟨fun p a b => by
  have := (hs.1 p a b).1
  unfold inw
  split <;> omega, h.2⟩
theorem ac_at {σ : Sg} {w : Int} {c : Nat} {p : Int} (h1 : 14 ≤ c) (h2 : c ≤ 18) (h3 : 0 ≤ p) (h4 : p < 5) : ac σ w c p = σ c w p := by unfold ac; rw [if_pos ⟨h1, h2, h3, h4⟩]
theorem shf_at {σ : Sg} {p : Int} (h3 : 0 ≤ p) (h4 : p < 5) : shf σ p = σ 1 0 p := by unfold shf; rw [if_pos ⟨h3, h4⟩]
/-- what the methods may use as they like -/
def Scr (a : Nat) : Prop := a = 8 ∨ a = 9 ∨ a = 10 ∨ a = 11
theorem osm_rng {sh : Int → Int} {T : Nat → Int → Int} {a : Int} (hs : Shk sh) (ha : 0 ≤ a) : 0 ≤ osm sh T a ∧ osm sh T a ≤ a := by
  have h := dv_nn ha hs.wt
  refine ⟨s5_nn (fun p a b => by have := h p a b; split <;> omega), ?_⟩
  have := s5_le (f := fun p => if T 14 p = 0 then 0 else dv a sh p) (g := dv a sh) (fun p a b => by have := h p a b; split <;> omega)
  rw [dv_sum hs.wt] at this
  exact this
theorem Wt.congr {w w' : Int → Int} (h : ∀ p, 0 ≤ p → p < 5 → w p = w' p) (hw : Wt w) : Wt w' := ⟨fun p a b => by rw [← h p a b]; exact hw.1 p a b, by rw [← s5_congr h]; exact hw.2⟩
def Fs (σ σ' : Sg) : Prop := ∀ (a : Nat) (b c : Int), (a < 8 ∨ 11 < a) → σ' a b c = σ a b c
def Fr (σ σ' : Sg) (w : Int) : Prop := ∀ (a : Nat) (b c : Int), (a < 8 ∨ 11 < a) → (a < 14 ∨ 18 < a ∨ b ≠ w ∨ c < 0 ∨ 5 ≤ c) → σ' a b c = σ a b c
theorem s5_sN (f : Int → Int) : s5 f = sN f 5 := (sN_5 f).symm
end
section
/-! bounds of the accounts -/
def Tok (sh : Int → Int) (T : Nat → Int → Int) (m : Int) : Prop := Tin sh T ∧ ∀ q, 0 ≤ q → q < 5 → 0 ≤ T 15 q ∧ T 15 q ≤ m * 100000001 ∧ 0 ≤ T 17 q ∧ T 17 q ≤ m * 10000000 ∧ 0 ≤ T 18 q ∧ T 18 q ≤ m * 10000000
theorem in_osm {sh : Int → Int} {T : Nat → Int → Int} {a : Int} (hs : Shk sh) (ha : 0 ≤ a) {q : Int} (h0 : 0 ≤ q) (h5 : q < 5) (hT : T 14 q = 0) : osm sh T a + dv a sh q ≤ a := by
  have hn := dv_nn ha hs.wt
  have h1 := s5_part (f := fun q => if T 14 q = 0 then dv a sh q else 0) (fun p x y => by have := hn p x y; split <;> omega) q h0 h5
  have h2 : s5 (fun q => if T 14 q = 0 then dv a sh q else 0) + osm sh T a = a := by
    unfold osm
    rw [← s5_add]
    have e := dv_sum (a := a) hs.wt
    rw [← s5_congr (f := dv a sh) (fun p x y => by by_cases h : T 14 p = 0 <;> simp [h])]
    exact e
  rw [if_pos hT] at h1
  omega
theorem chp_rng {sh : Int → Int} {T : Nat → Int → Int} {a : Int} (hs : Shk sh) (ht : Tin sh T) (ha : 0 ≤ a) {q : Int} (h0 : 0 ≤ q) (h5 : q < 5) : 0 ≤ chp sh T a q ∧ chp sh T a q ≤ a := by
  have hw := inw_wt hs ht
  have ho := osm_rng (T := T) hs ha
  have h1 := dv_nn ho.1 hw q h0 h5
  have h2 := dv_le ho.1 hw q h0 h5
  have h3 := dv_nn ha hs.wt q h0 h5
  unfold chp
  by_cases hT : T 14 q = 0
  · rw [if_pos hT]
    have := in_osm hs ha h0 h5 hT
    omega
  · rw [if_neg hT]
    have e : inw sh T q = 0 := by unfold inw; rw [if_neg hT]
    rw [dv_w0 _ hw e]
    omega
theorem pn_rng {o pen : Int} (ho : 0 ≤ o ∧ o ≤ 10000000) (hp : 0 ≤ pen ∧ pen ≤ 1000) : 0 ≤ pn o pen ∧ pn o pen ≤ 100000001 := by
  have h1 : 0 ≤ o * pen := Int.mul_nonneg ho.1 hp.1
  have h2 : o * pen ≤ 10000000 * 1000 := Int.mul_le_mul ho.2 hp.2 hp.1 (by decide)
  unfold pn
  omega
theorem costS_ok {sh : Int → Int} {T : Nat → Int → Int} {pen a m : Int} (hs : Shk sh) (h : Tok sh T m) (ha : 0 ≤ a ∧ a ≤ 10000000) (hp : 0 ≤ pen ∧ pen ≤ 1000) : Tok sh (costS sh pen a T) (m + 1) := by
  obtain ⟨ht, hb⟩ := h
  have e14 : ∀ q, costS sh pen a T 14 q = T 14 q := fun q => by simp [costS]
  have e18 : ∀ q, costS sh pen a T 18 q = T 18 q := fun q => by simp [costS]
  refine ⟨⟨fun q x y => by rw [e14]; exact ht.1 q x y, ?_⟩, fun q x y => ?_⟩
  · have : inw sh (costS sh pen a T) = inw sh T := by funext q; unfold inw; rw [e14]
    rw [this]; exact ht.2
  · have h1 := hb q x y
    have h2 := chp_rng hs ht ha.1 x y
    have h3 := pn_rng (o := dv a sh q) (pen := pen) ⟨dv_nn ha.1 hs.wt q x y, by have := dv_le ha.1 hs.wt q x y; omega⟩ hp
    have e17 : costS sh pen a T 17 q = T 17 q + chp sh T a q := by simp [costS, x, y]
    have e15 : costS sh pen a T 15 q = T 15 q + (if T 14 q = 0 then 0 else pn (dv a sh q) pen) := by simp [costS, x, y]
    rw [e18, e17, e15]
    split <;> omega
theorem tkn_rng {sh : Int → Int} {T : Nat → Int → Int} {a : Int} (hs : Shk sh) (ha : 0 ≤ a) {q : Int} (h0 : 0 ≤ q) (h5 : q < 5) (he : 0 ≤ T 15 q) : 0 ≤ tkn sh T a q ∧ tkn sh T a q ≤ dv a sh q ∧ tkn sh T a q ≤ T 15 q ∧ tkn sh T a q ≤ (if T 14 q = 0 then 0 else dv a sh q) := by
  have hn := dv_nn ha hs.wt q h0 h5
  unfold tkn
  split
  · omega
  · split <;> omega
theorem tks_rng {sh : Int → Int} {T : Nat → Int → Int} {a : Int} (hs : Shk sh) (ht : Tin sh T) (ha : 0 ≤ a) (he : ∀ q, 0 ≤ q → q < 5 → 0 ≤ T 15 q) {q : Int} (h0 : 0 ≤ q) (h5 : q < 5) : 0 ≤ tks sh T a q 5 ∧ tks sh T a q 5 ≤ osm sh T a ∧ (¬ T 14 q = 0 → tks sh T a q 5 = 0) := by
  have hw := inw_wt hs ht
  have t := fun x a1 a2 => tkn_rng hs ha a1 a2 (he x a1 a2)
  have t0 := t 0 (by decide) (by decide); have t1 := t 1 (by decide) (by decide); have t2 := t 2 (by decide) (by decide); have t3 := t 3 (by decide) (by decide); have t4 := t 4 (by decide) (by decide)
  have n0 := dv_nn t0.1 hw q h0 h5; have n1 := dv_nn t1.1 hw q h0 h5; have n2 := dv_nn t2.1 hw q h0 h5; have n3 := dv_nn t3.1 hw q h0 h5; have n4 := dv_nn t4.1 hw q h0 h5
  have l0 := dv_le t0.1 hw q h0 h5; have l1 := dv_le t1.1 hw q h0 h5; have l2 := dv_le t2.1 hw q h0 h5; have l3 := dv_le t3.1 hw q h0 h5; have l4 := dv_le t4.1 hw q h0 h5
  have e : tks sh T a q 5 = dv (tkn sh T a 0) (inw sh T) q + dv (tkn sh T a 1) (inw sh T) q + dv (tkn sh T a 2) (inw sh T) q + dv (tkn sh T a 3) (inw sh T) q + dv (tkn sh T a 4) (inw sh T) q := by simp [tks]
  have eo : osm sh T a = (if T 14 0 = 0 then 0 else dv a sh 0) + (if T 14 1 = 0 then 0 else dv a sh 1) + (if T 14 2 = 0 then 0 else dv a sh 2) + (if T 14 3 = 0 then 0 else dv a sh 3) + (if T 14 4 = 0 then 0 else dv a sh 4) := rfl
  refine ⟨by omega, by omega, fun hT => ?_⟩
  have ew : inw sh T q = 0 := by unfold inw; rw [if_neg hT]
  rw [e, dv_w0 _ hw ew, dv_w0 _ hw ew, dv_w0 _ hw ew, dv_w0 _ hw ew, dv_w0 _ hw ew]
  rfl
theorem incS_ok {sh : Int → Int} {T : Nat → Int → Int} {v a m : Int} (hs : Shk sh) (h : Tok sh T m) (hm : 0 ≤ m) (ha : 0 ≤ a ∧ a ≤ 10000000) : Tok sh (incS sh v a T) (m + 1) := by
  obtain ⟨ht, hb⟩ := h
  have e14 : ∀ q, 0 ≤ q → q < 5 → incS sh v a T 14 q = if T 14 q ≠ 0 ∧ T 15 q - tkn sh T a q = 0 then 0 else T 14 q := fun q x y => by simp [incS, x, y]
  have e17 : ∀ q, incS sh v a T 17 q = T 17 q := fun q => by simp [incS]
  refine ⟨⟨fun q x y => by rw [e14 q x y]; have := ht.1 q x y; split <;> omega, ?_⟩, fun q x y => ?_⟩
  · have := s5_le (f := inw sh T) (g := inw sh (incS sh v a T)) (fun q x y => by
      have := (hs.1 q x y).1
      unfold inw
      rw [e14 q x y]
      have := ht.1 q x y
      split
      · rw [if_pos (by split <;> omega)]; omega
      · split <;> omega)
    have := ht.2
    omega
  · have h1 := hb q x y
    have t := tkn_rng (T := T) (a := a) hs ha.1 x y h1.1
    have ts := tks_rng hs ht ha.1 (fun q x y => (hb q x y).1) x y
    have hn := dv_nn ha.1 hs.wt q x y
    have hl := dv_le ha.1 hs.wt q x y
    have e15 : incS sh v a T 15 q = T 15 q - tkn sh T a q := by simp [incS, x, y]
    have e18 : incS sh v a T 18 q = T 18 q + (dv a sh q - tkn sh T a q) + tks sh T a q 5 := by simp [incS, x, y]
    rw [e15, e17, e18]
    have hle : dv a sh q - tkn sh T a q + tks sh T a q 5 ≤ a := by
      by_cases hT : T 14 q = 0
      · have := in_osm hs ha.1 x y hT
        omega
      · have := ts.2.2 hT
        omega
    omega
theorem stepS_ok {sh : Int → Int} {T : Nat → Int → Int} {pen v a m : Int} (hs : Shk sh) (h : Tok sh T m) (hm : 0 ≤ m) (ha : -10000000 ≤ a ∧ a ≤ 10000000) (hp : 0 ≤ pen ∧ pen ≤ 1000) : Tok sh (stepS sh pen v a T) (m + 1) := by
  unfold stepS
  split
  · exact costS_ok hs h (by omega) hp
  · exact incS_ok hs h hm (by omega)
theorem Tok.mono {sh : Int → Int} {T : Nat → Int → Int} {m m' : Int} (h : Tok sh T m) (hm : m ≤ m') : Tok sh T m' := ⟨h.1, fun q x y => by have := h.2 q x y; omega⟩
theorem T0f_ok {sh el : Int → Int} (h : Tin sh (T0f el)) : Tok sh (T0f el) 0 := ⟨h, fun q x y => by simp [T0f, x, y]⟩
theorem foldS_ok {sh : Int → Int} {pen w : Int} {vw va el : Int → Int} (hs : Shk sh) (hp : 0 ≤ pen ∧ pen ≤ 1000) (h0 : Tin sh (T0f el)) : ∀ n : Nat, (∀ v : Int, 0 ≤ v → v < n → -10000000 ≤ va v ∧ va v ≤ 10000000) → Tok sh (foldS sh pen vw va w (T0f el) n) n := by
  intro n
  induction n with
  | zero => intro _; exact T0f_ok h0
  | succ n ih =>
    intro hv
    have i1 := ih (fun v a b => hv v a (by omega))
    simp only [foldS]
    split
    · have := stepS_ok (v := (n : Int)) hs i1 (by omega) (hv n (by omega) (by omega)) hp
      rw [Int.natCast_succ]; exact this
    · exact i1.mono (by omega)
theorem foldS_congr {sh : Int → Int} {pen w : Int} {vw va vw' va' : Int → Int} {T0 : Nat → Int → Int} : ∀ n : Nat, (∀ v : Int, 0 ≤ v → v < n → vw v = vw' v ∧ va v = va' v) → foldS sh pen vw va w T0 n = foldS sh pen vw' va' w T0 n := by
  intro n
  induction n with
  | zero => intro _; rfl
  | succ n ih =>
    intro h
    have h1 := h n (by omega) (by omega)
    simp only [foldS]
    rw [ih (fun v a b => h v a (by omega)), h1.1, h1.2]
theorem foldS_none {sh : Int → Int} {pen w : Int} {vw va : Int → Int} {T0 : Nat → Int → Int} : ∀ n : Nat, (∀ v : Int, 0 ≤ v → v < n → vw v ≠ w) → foldS sh pen vw va w T0 n = T0 := by
  intro n
  induction n with
  | zero => intro _; rfl
  | succ n ih =>
    intro h
    simp only [foldS]
    rw [ih (fun v a b => h v a (by omega)), if_neg (h n (by omega) (by omega))]
/-- rows that are 0 outside the five partners and the rows 14 to 18 -/
def Tz (T : Nat → Int → Int) : Prop := ∀ (c : Nat) (q : Int), (c < 14 ∨ 18 < c ∨ q < 0 ∨ 5 ≤ q) → T c q = 0
theorem ac_z (σ : Sg) (w : Int) : Tz (ac σ w) := fun c q h => by unfold ac; rw [if_neg (by omega)]
theorem ac_ext {σ : Sg} {w : Int} {T : Nat → Int → Int} (hz : Tz T) (h : ∀ (c : Nat) (q : Int), 14 ≤ c → c ≤ 18 → 0 ≤ q → q < 5 → σ c w q = T c q) : ac σ w = T := by
  funext c q
  by_cases hc : 14 ≤ c ∧ c ≤ 18 ∧ 0 ≤ q ∧ q < 5
  · rw [ac_at hc.1 hc.2.1 hc.2.2.1 hc.2.2.2]; exact h c q hc.1 hc.2.1 hc.2.2.1 hc.2.2.2
  · rw [ac_z σ w c q (by omega), hz c q (by omega)]
theorem costS_z {sh : Int → Int} {T : Nat → Int → Int} {pen a : Int} (h : Tz T) : Tz (costS sh pen a T) := fun c q hc => by
  unfold costS
  rw [if_neg (by omega), if_neg (by omega)]
  exact h c q hc
theorem incS_z {sh : Int → Int} {T : Nat → Int → Int} {v a : Int} (h : Tz T) : Tz (incS sh v a T) := fun c q hc => by
  unfold incS
  by_cases hq : 0 ≤ q ∧ q < 5
  · rw [if_pos hq, if_neg (by omega), if_neg (by omega), if_neg (by omega), if_neg (by omega)]
    exact h c q hc
  · rw [if_neg hq]
    exact h c q hc
theorem T0f_z (el : Int → Int) : Tz (T0f el) := fun c q hc => by
  unfold T0f
  split
  · rw [if_neg (by omega), if_neg (by omega)]
  · rfl
theorem shf_congr {σ σ' : Sg} (h : ∀ q, 0 ≤ q → q < 5 → σ' 1 0 q = σ 1 0 q) : shf σ' = shf σ := by
  funext q
  unfold shf
  by_cases hq : 0 ≤ q ∧ q < 5
  · rw [if_pos hq, if_pos hq, h q hq.1 hq.2]
  · rw [if_neg hq, if_neg hq]
theorem ac_congr {σ σ' : Sg} {w : Int} (h : ∀ (c : Nat) (q : Int), 14 ≤ c → c ≤ 18 → 0 ≤ q → q < 5 → σ' c w q = σ c w q) : ac σ' w = ac σ w := ac_ext (ac_z σ w) (fun c q h1 h2 h3 h4 => by rw [ac_at h1 h2 h3 h4]; exact h c q h1 h2 h3 h4)
theorem Fr.trans {σ1 σ2 σ3 : Sg} {w : Int} (h : Fr σ1 σ2 w) (h' : Fr σ2 σ3 w) : Fr σ1 σ3 w := fun a b c x y => (h' a b c x y).trans (h a b c x y)
theorem Fr.shf {σ σ' : Sg} {w : Int} (h : Fr σ σ' w) : shf σ' = shf σ := shf_congr (fun q _ _ => h 1 0 q (by omega) (by omega))
/-- a voucher entered: the rows that say so -/
def adV (σ : Sg) (w a : Int) : Sg := su (su (su (su σ 3 0 (σ 0 0 7) w) 4 0 (σ 0 0 7) a) 0 0 7 (σ 0 0 7 + 1)) 12 w 1 1
/-- the weights of those who have paid -/
def pw (σ : Sg) (k : Int) : Int → Int := fun q => if 0 < σ 21 k q then σ 20 k q else 0
theorem chp_sum {sh : Int → Int} {T : Nat → Int → Int} {a : Int} (hs : Shk sh) (ht : Tin sh T) (ha : 0 ≤ a) : s5 (chp sh T a) = a := by
  have hw := inw_wt hs ht
  have ho := osm_rng (T := T) hs ha
  have e : s5 (chp sh T a) = s5 (dv (osm sh T a) (inw sh T)) + s5 (fun q => if T 14 q = 0 then dv a sh q else 0) := by rw [← s5_add]; rfl
  rw [e, dv_sum hw]
  unfold osm
  rw [← s5_add]
  have e2 := dv_sum (a := a) hs.wt
  rw [← s5_congr (f := dv a sh) (fun p x y => by by_cases h : T 14 p = 0 <;> simp [h])]
  exact e2
theorem chp_wt {sh : Int → Int} {T : Nat → Int → Int} {a : Int} (hs : Shk sh) (ht : Tin sh T) (ha : 0 < a) : Wt (chp sh T a) := ⟨fun p x y => (chp_rng hs ht (by omega) x y).1, by rw [chp_sum hs ht (by omega)]; exact ha⟩
theorem ovh_rng {o a : Int} (h : 0 ≤ o ∧ o ≤ 100000) (ha : 1 ≤ a ∧ a ≤ 24) : -10000000 ≤ o * a ∧ o * a ≤ 10000000 := by
  have h1 : 0 ≤ o * a := Int.mul_nonneg h.1 (by omega)
  have h2 : o * a ≤ 100000 * 24 := Int.mul_le_mul h.2 ha.2 (by omega) (by decide)
  omega
end
section
section JN
variable {p : Program} {l : Launch} {e : Env} {R : Room} {s : State} {m : MethodId} {args : Array Value} {below : List Frame} {meth : Method} {c : Code} {cy : Nat → ClassId} {D : va_G} {ad : Ad} {A : Nat → Prop} {nL : Nat} {cells slots : Nat} {Q : State → Prop} {σ : Sg} {pc : Nat} {lv : List (Option Value)} {st : List Value} {cc : ByteArray} {own : String} {Ts : List Cond}
theorem iI_div {a b : Int} (ha : 0 ≤ a ∧ a < 2147483648) (hb : 0 < b ∧ b < 2147483648) : iI a / iI b = iI (a / b) := by
  apply Int32.toInt_inj.mp
  have h0 : 0 ≤ a / b := Int.ediv_nonneg ha.1 (by omega)
  have h1 : a / b ≤ a := Int.ediv_le_self b ha.1
  rw [Int32.toInt_div, iI_toInt (by omega), iI_toInt (by omega), iI_toInt (by omega), Int.tdiv_eq_ediv_of_nonneg ha.1]
  exact Int.bmod_eq_of_le (by simp; omega) (by simp; omega)
theorem iI_rem {a b : Int} (ha : 0 ≤ a ∧ a < 2147483648) (hb : 0 < b ∧ b < 2147483648) : iI a - iI a / iI b * iI b = iI (a % b) := by
  rw [iI_div ha hb, iI_mul, iI_sub]
  congr 1
  rw [Int.emod_def, Int.mul_comm]
theorem lI_neg (a : Int) : -(lI a) = lI (-a) := by unfold lI; rw [Int64.ofInt_neg]
theorem iI_n0 {b : Int} (hb : 0 < b ∧ b < 2147483648) : ¬ iI b = 0 := fun z => by
  have := (iI_eq (a := b) (b := 0) (by omega) (by omega)).mp (z.trans (by rfl))
  omega
theorem J_idiv (C : Cx p l e R s m args below meth c cy D ad A nL cc own Ts) {x y : Int} (ha : 0 ≤ x ∧ x < 2147483648) (hb : 0 < y ∧ y < 2147483648) (d : decode cc pc = .ok (.idiv, 1)) (k : JW p l e R s m args below meth c cy D ad A nL cells slots Q σ (pc + 1) lv (.int (iI (x / y)) :: st)) : JW p l e R s m args below meth c cy D ad A nL cells slots Q σ pc lv (.int (iI y) :: .int (iI x) :: st) := by
  intro H locs ls h1 h2 h3
  exact lv_idiv C.1.1 C.1.2.1 d (iI_n0 hb) (by rw [iI_div ha hb]; exact k H locs ls h1 h2 h3)
theorem J_irem (C : Cx p l e R s m args below meth c cy D ad A nL cc own Ts) {x y : Int} (ha : 0 ≤ x ∧ x < 2147483648) (hb : 0 < y ∧ y < 2147483648) (d : decode cc pc = .ok (.irem, 1)) (k : JW p l e R s m args below meth c cy D ad A nL cells slots Q σ (pc + 1) lv (.int (iI (x % y)) :: st)) : JW p l e R s m args below meth c cy D ad A nL cells slots Q σ pc lv (.int (iI y) :: .int (iI x) :: st) := by
  intro H locs ls h1 h2 h3
  exact lv_irem C.1.1 C.1.2.1 d (iI_n0 hb) (by rw [iI_rem ha hb]; exact k H locs ls h1 h2 h3)
theorem J_ixor (C : Cx p l e R s m args below meth c cy D ad A nL cc own Ts) {x y z : Int} (hz : iI x ^^^ iI y = iI z) (d : decode cc pc = .ok (.ixor, 1)) (k : JW p l e R s m args below meth c cy D ad A nL cells slots Q σ (pc + 1) lv (.int (iI z) :: st)) : JW p l e R s m args below meth c cy D ad A nL cells slots Q σ pc lv (.int (iI y) :: .int (iI x) :: st) := by
  intro H locs ls h1 h2 h3
  exact lv_ixor C.1.1 C.1.2.1 d (by rw [hz]; exact k H locs ls h1 h2 h3)
theorem J_ior (C : Cx p l e R s m args below meth c cy D ad A nL cc own Ts) {x y z : Int} (hz : iI x ||| iI y = iI z) (d : decode cc pc = .ok (.ior, 1)) (k : JW p l e R s m args below meth c cy D ad A nL cells slots Q σ (pc + 1) lv (.int (iI z) :: st)) : JW p l e R s m args below meth c cy D ad A nL cells slots Q σ pc lv (.int (iI y) :: .int (iI x) :: st) := by
  intro H locs ls h1 h2 h3
  exact lv_ior C.1.1 C.1.2.1 d (by rw [hz]; exact k H locs ls h1 h2 h3)
theorem J_ishl (C : Cx p l e R s m args below meth c cy D ad A nL cc own Ts) {x y z : Int} (hz : iI x <<< (iI y &&& 31) = iI z) (d : decode cc pc = .ok (.ishl, 1)) (k : JW p l e R s m args below meth c cy D ad A nL cells slots Q σ (pc + 1) lv (.int (iI z) :: st)) : JW p l e R s m args below meth c cy D ad A nL cells slots Q σ pc lv (.int (iI y) :: .int (iI x) :: st) := by
  intro H locs ls h1 h2 h3
  exact lv_ishl C.1.1 C.1.2.1 d (by rw [hz]; exact k H locs ls h1 h2 h3)
theorem J_ishr (C : Cx p l e R s m args below meth c cy D ad A nL cc own Ts) {x y z : Int} (hz : iI x >>> (iI y &&& 31) = iI z) (d : decode cc pc = .ok (.ishr, 1)) (k : JW p l e R s m args below meth c cy D ad A nL cells slots Q σ (pc + 1) lv (.int (iI z) :: st)) : JW p l e R s m args below meth c cy D ad A nL cells slots Q σ pc lv (.int (iI y) :: .int (iI x) :: st) := by
  intro H locs ls h1 h2 h3
  exact lv_ishr C.1.1 C.1.2.1 d (by rw [hz]; exact k H locs ls h1 h2 h3)
theorem J_lneg (C : Cx p l e R s m args below meth c cy D ad A nL cc own Ts) {x : Int} (d : decode cc pc = .ok (.lneg, 1)) (k : JW p l e R s m args below meth c cy D ad A nL cells slots Q σ (pc + 1) lv (.long (lI (-x)) :: st)) : JW p l e R s m args below meth c cy D ad A nL cells slots Q σ pc lv (.long (lI x) :: st) := by
  intro H locs ls h1 h2 h3
  exact lv_lneg C.1.1 C.1.2.1 d (by rw [lI_neg]; exact k H locs ls h1 h2 h3)
theorem J_icmp_eqS (C : Cx p l e R s m args below meth c cy D ad A nL cc own Ts) {x y off : Int} {tgt : Nat} (h : x = y) (d : decode cc pc = .ok (.if_icmp .eq off, 3)) (ht : (pc : Int) + off = (tgt : Int)) (k1 : JW p l e R s m args below meth c cy D ad A nL cells slots Q σ tgt lv st) : JW p l e R s m args below meth c cy D ad A nL cells slots Q σ pc lv (.int (iI y) :: .int (iI x) :: st) := by
  intro H locs ls h1 h2 h3
  subst h
  exact lv_icmp_eq C.1.1 C.1.2.1 d ht (fun _ => k1 H locs ls h1 h2 h3) (fun z => absurd rfl z)
theorem J_icmp_neS (C : Cx p l e R s m args below meth c cy D ad A nL cc own Ts) {x y off : Int} {tgt : Nat} (h : x = y) (d : decode cc pc = .ok (.if_icmp .ne off, 3)) (ht : (pc : Int) + off = (tgt : Int)) (k1 : JW p l e R s m args below meth c cy D ad A nL cells slots Q σ (pc + 3) lv st) : JW p l e R s m args below meth c cy D ad A nL cells slots Q σ pc lv (.int (iI y) :: .int (iI x) :: st) := by
  intro H locs ls h1 h2 h3
  subst h
  exact lv_icmp_ne C.1.1 C.1.2.1 d ht (fun z => absurd rfl z) (fun _ => k1 H locs ls h1 h2 h3)
theorem lI_rng (x : Int64) : I64 x.toInt := ⟨by have := Int64.le_toInt x; omega, by have := Int64.toInt_lt x; omega⟩
theorem J_lif_neS (C : Cx p l e R s m args below meth c cy D ad A nL cc own Ts) {x y off : Int} {tgt : Nat} (h : x = y) (d : decode cc pc = .ok (.lcmp, 1)) (d2 : decode cc (pc + 1) = .ok (.ifCond .ne off, 3)) (ht : ((pc + 1 : Nat) : Int) + off = (tgt : Int)) (k1 : JW p l e R s m args below meth c cy D ad A nL cells slots Q σ (pc + 1 + 3) lv st) : JW p l e R s m args below meth c cy D ad A nL cells slots Q σ pc lv (.long (lI y) :: .long (lI x) :: st) := by
  subst h
  rw [lI_of (lI x)]
  exact J_lif_ne C (lI_rng _) (lI_rng _) d d2 ht (fun z => absurd rfl z) (fun _ => k1)
/-- one account's addresses among another's -/
def Sub (ad ad' : Ad) : Prop := ∀ a : Nat, a < 41 → Ex ad a → Ex ad' a ∧ ∀ b : Int, ad' a b = ad a b
theorem Sub.trans {a1 a2 a3 : Ad} (h : Sub a1 a2) (h' : Sub a2 a3) : Sub a1 a3 := fun a x y => ⟨(h' a x (h a x y).1).1, fun b => ((h' a x (h a x y).1).2 b).trans ((h a x y).2 b)⟩
theorem cnt_lt {kd : Nat} {k : Int} (h0 : 0 ≤ k) (h : k < cnt kd) : kd < 41 := by
  unfold cnt at h
  by_cases h4 : kd < 41
  · exact h4
  · rw [if_neg (by omega), if_neg (by omega), if_neg (by omega), if_neg h4] at h
    omega
theorem wM_ad {cy : Nat → ClassId} {a1 a2 : Ad} {σ : Sg} {kd : Nat} {k : Int} (h : ∀ a : Nat, a < 22 → ∀ b : Int, a2 a b = a1 a b) : wM cy a2 σ kd k = wM cy a1 σ kd k := by
  unfold wM
  split <;> first | rfl | simp only [h _ (show (0 : Nat) < 22 by decide), h _ (show (1 : Nat) < 22 by decide), h _ (show (2 : Nat) < 22 by decide), h _ (show (3 : Nat) < 22 by decide), h _ (show (4 : Nat) < 22 by decide), h _ (show (5 : Nat) < 22 by decide), h _ (show (6 : Nat) < 22 by decide), h _ (show (7 : Nat) < 22 by decide), h _ (show (8 : Nat) < 22 by decide), h _ (show (9 : Nat) < 22 by decide), h _ (show (10 : Nat) < 22 by decide), h _ (show (11 : Nat) < 22 by decide), h _ (show (12 : Nat) < 22 by decide), h _ (show (13 : Nat) < 22 by decide), h _ (show (14 : Nat) < 22 by decide), h _ (show (15 : Nat) < 22 by decide), h _ (show (16 : Nat) < 22 by decide), h _ (show (17 : Nat) < 22 by decide), h _ (show (18 : Nat) < 22 by decide), h _ (show (19 : Nat) < 22 by decide), h _ (show (20 : Nat) < 22 by decide), h _ (show (21 : Nat) < 22 by decide)]
theorem Sub.lo {a1 a2 : Ad} (h : Sub a1 a2) : ∀ a : Nat, a < 22 → ∀ b : Int, a2 a b = a1 a b := fun a x => (h a (by omega) (Or.inl x)).2
theorem IsL.up {a1 a2 : Ad} {kd n : Nat} (h : IsL a1 kd n) (hs : Sub a1 a2) (hk : kd < 41) : IsL a2 kd n := ⟨h.1, (hs kd hk h.2.1).1, fun cy τ k => (wM_ad hs.lo).trans (h.2.2 cy τ k)⟩
theorem IsI.up {a1 a2 : Ad} {kd n : Nat} (h : IsI a1 kd n) (hs : Sub a1 a2) (hk : kd < 41) : IsI a2 kd n := ⟨h.1, (hs kd hk h.2.1).1, fun cy τ k => (wM_ad hs.lo).trans (h.2.2 cy τ k)⟩
theorem Wd.back {cy : Nat → ClassId} {D : va_G} {a1 a2 : Ad} {σ : Sg} {H : Heap} (hs : Sub a1 a2) (h : Wd cy D a2 σ H) : Wd cy D a1 σ H := fun kd k x y z => by
  have g := hs kd (cnt_lt x y) z
  have := h kd k x y g.1
  rw [wM_ad hs.lo, g.2 k] at this
  exact this
theorem J_back {ad' : Ad} (hs : Sub ad ad') (k : JW p l e R s m args below meth c cy D ad A nL cells slots Q σ pc lv st) : JW p l e R s m args below meth c cy D ad' A nL cells slots Q σ pc lv st := fun H locs ls h1 h2 h3 => k H locs ls (h1.back hs) h2 h3
/-- a kind made anew: all 0 -/
def sz0 (σ : Sg) (kd : Nat) : Sg := fun a b c => if a = kd then 0 else σ a b c
theorem sz0_at {σ : Sg} {kd : Nat} {b c : Int} : sz0 σ kd kd b c = 0 := if_pos rfl
theorem sz0_nk {σ : Sg} {kd a : Nat} {b c : Int} (h : a ≠ kd) : sz0 σ kd a b c = σ a b c := if_neg h
def adN (ad : Ad) (kd q : Nat) : Ad := fun a b => if a = kd then q else if a = 1000 ∧ b = (kd : Int) then 1 else ad a b
theorem adN_ex {kd q a : Nat} (hk : kd < 41) (ha : a ≠ kd) : Ex (adN ad kd q) a ↔ Ex ad a := by
  unfold Ex adN
  rw [if_neg (by omega), if_neg (by omega)]
theorem adN_kd {kd q : Nat} (hk : kd < 41) : adN ad kd q 1000 (kd : Int) = 1 := by
  unfold adN
  rw [if_neg (by omega), if_pos ⟨rfl, rfl⟩]
theorem adN_ne {kd q a : Nat} {b : Int} (ha : a ≠ kd) (h : a ≠ 1000) : adN ad kd q a b = ad a b := by
  unfold adN
  rw [if_neg ha, if_neg (by omega)]
theorem adN_at {kd q : Nat} {b : Int} : adN ad kd q kd b = q := if_pos rfl
theorem adN_sub {kd q : Nat} (hk : 22 ≤ kd ∧ kd < 41) (hf : ¬ ad 1000 (kd : Int) = 1) : Sub ad (adN ad kd q) := fun a x y => by
  have ha : a ≠ kd := fun z => by
    subst z
    exact y.elim (fun z => by omega) hf
  exact ⟨(adN_ex hk.2 ha).mpr y, fun b => adN_ne ha (by omega)⟩
theorem cnt_law {kd : Nat} {k : Int} (hk : 22 ≤ kd) (h0 : 0 ≤ k) (h : k < cnt kd) : k = 0 := by
  unfold cnt at h
  rw [if_neg (by omega), if_neg (by omega), if_neg (by omega)] at h
  split at h <;> omega
theorem J_newL (C : Cx p l e R s m args below meth c cy D ad A nL cc own Ts) {N kd : Nat} (hk : 22 ≤ kd ∧ kd < 41) (hw : ∀ (a : Ad) (τ : Sg), wM cy a τ kd 0 = .inl (cy 1, N, .inr (.inl (fun j => lI (τ kd 0 (j : Int)))))) (hfr : ¬ ad 1000 (kd : Int) = 1) (harr : Cond.arrayClass .long ∈ Ts) (hN : ¬ iI (N : Int) < 0 ∧ (iI (N : Int)).toNatClampNeg = N) (hb : N * componentBytes .long ≤ 536870912) (hf : cells + 1 ≤ R.cells ∧ slots + N ≤ R.slots) (d : decode cc pc = .ok (.newarray .long, 2)) (kk : ∀ (ad' : Ad) (q : Nat), ad' kd 0 = q → Inj ad' → Cx p l e R s m args below meth c cy D ad' A nL cc own Ts → (∀ a : Nat, a ≠ kd → ad' 1000 (a : Int) = ad 1000 (a : Int)) → Sub ad ad' → ad' 1000 (kd : Int) = 1 → JW p l e R s m args below meth c cy D ad' A nL (cells + 1) (slots + N) Q (sz0 σ kd) (pc + 2) lv (.ref q :: st)) : JW p l e R s m args below meth c cy D ad A nL cells slots Q σ pc lv (.int (iI (N : Int)) :: st) := by
  intro H locs ls h1 h2 h3
  refine va_newaK (atype := .long) C.1.1 C.1.2.1 (C.1.2.2.2.2 _ harr) rfl d rfl hN.1 hN.2 hb hf.1 hf.2 rfl fun H1 cA e1 z1 o1 hAr hNm => ?_
  have hcA : cA = cy 1 := Option.some.inj (hNm.symm.trans (C.2.2.2.1.1.2 1 _ rfl).2)
  subst hcA
  have hz : H.size < H1.size := by omega
  have hsub := adN_sub (q := H.size) hk hfr
  have key : ∀ (a : Nat) (b : Int), 0 ≤ b → b < cnt a → Ex (adN ad kd H.size) a → (a = kd ∧ b = 0) ∨ (a ≠ kd ∧ Ex ad a) := fun a b x y z => by
    by_cases ha : a = kd
    · subst ha
      exact Or.inl ⟨rfl, cnt_law hk.1 x y⟩
    · exact Or.inr ⟨ha, (adN_ex hk.2 ha).mp z⟩
  have hAw : ∀ q, Aw (adN ad kd H.size) q → Aw ad q ∨ s.heap.size ≤ q := fun q z => by
    obtain ⟨a, b, x, y, z, rfl⟩ := z
    rcases key a b x y z with ⟨rfl, rfl⟩ | ⟨g1, g2⟩
    · rw [adN_at]; exact Or.inr h2.1
    · have := cnt_lt x y
      exact Or.inl ⟨a, b, x, y, g2, adN_ne g1 (by omega)⟩
  have hAr' : ∀ q, Ar (adN ad kd H.size) s.heap.size q → Ar ad s.heap.size q := fun q z => z.elim (hAw q) Or.inr
  have hinj : Inj (adN ad kd H.size) := fun a b i j x1 x2 y1 y2 za zb e => by
    rcases key a i x1 x2 za with ⟨rfl, rfl⟩ | ⟨g1, g2⟩
    · rcases key b j y1 y2 zb with ⟨rfl, rfl⟩ | ⟨g3, g4⟩
      · exact ⟨rfl, rfl⟩
      · have := cnt_lt y1 y2
        rw [adN_at, adN_ne g3 (by omega)] at e
        have := (h1 b j y1 y2 g4).lt
        dsimp only at this
        omega
    · have := cnt_lt x1 x2
      rcases key b j y1 y2 zb with ⟨rfl, rfl⟩ | ⟨g3, g4⟩
      · rw [adN_at, adN_ne g1 (by omega)] at e
        have := (h1 a i x1 x2 g2).lt
        dsimp only at this
        omega
      · have := cnt_lt y1 y2
        rw [adN_ne g1 (by omega), adN_ne g3 (by omega)] at e
        exact C.2.1 a b i j x1 x2 y1 y2 g2 g4 e
  have hS := C.2.2.2.1
  refine kk (adN ad kd H.size) _ adN_at hinj ⟨C.1, hinj, fun q z => C.2.2.1 q (hAr' q z), ⟨hS.1, vx_Zq.narrow (Zq_up hS.2.1) (fun q z => hAw q z), vx_Zq.narrow (Zq_up hS.2.2.1) (fun q z => hAw q z), hS.2.2.2⟩, C.2.2.2.2.1, C.2.2.2.2.2.1, fun q z => (C.2.2.2.2.2.2 q z).elim (fun zz => ?_) Or.inr⟩ (fun a ha => ?_) hsub (adN_kd hk.2) H1 locs ls (fun a b x y z => ?_) ⟨Nat.le_trans h2.1 (by omega), fun x h1' h2' => (o1 x (Nat.lt_of_lt_of_le h1' h2.1)).trans (h2.2.1 x h1' h2'), h2.2.2⟩ ?_
  · obtain ⟨a, b, x, y, w, e⟩ := zz
    subst e
    have g := hsub a (cnt_lt x y) w
    exact Or.inl ⟨a, b, x, y, g.1, (g.2 b).symm⟩
  · unfold adN
    rw [if_neg (by omega), if_neg (by omega)]
  · rcases key a b x y z with ⟨rfl, rfl⟩ | ⟨g1, g2⟩
    · rw [adN_at, hw]
      have e : (fun j : Nat => lI (sz0 σ a a 0 (j : Int))) = fun _ => lI 0 := by funext j; rw [sz0_at]
      rw [e]
      exact e1
    · have := cnt_lt x y
      rw [adN_ne g1 (by omega), wM_ad hsub.lo, wM_congr (σ := σ) (fun j => sz0_nk g1)]
      have g := h1 a b x y g2
      exact g.kept (o1 _ g.lt)
  · exact h3
end JN
end
section
/-! the law's way of dividing: cents given by a mask, and by the greatest rest among those not given -/
def p2 (k : Int) : Int := if k = 0 then 1 else if k = 1 then 2 else if k = 2 then 4 else if k = 3 then 8 else 16
def shg (g k : Int) : Int := g / p2 k
def chg (g k : Int) : Int := shg g k % 2
theorem fin32 {P : Int → Int → Prop} (h : ∀ g : Fin 32, ∀ k : Fin 5, P (g.val : Int) (k.val : Int)) {g k : Int} (g0 : 0 ≤ g) (g1 : g < 32) (k0 : 0 ≤ k) (k1 : k < 5) : P g k := by
  have := h ⟨g.toNat, by omega⟩ ⟨k.toNat, by omega⟩
  rw [show ((g.toNat : Nat) : Int) = g from by omega, show ((k.toNat : Nat) : Int) = k from by omega] at this
  exact this
theorem shr_ok {g k : Int} (g0 : 0 ≤ g) (g1 : g < 32) (k0 : 0 ≤ k) (k1 : k < 5) : iI g >>> (iI k &&& 31) = iI (shg g k) := fin32 (P := fun g k => iI g >>> (iI k &&& 31) = iI (shg g k)) (by decide +kernel) g0 g1 k0 k1
theorem and1_ok {g k : Int} (g0 : 0 ≤ g) (g1 : g < 32) (k0 : 0 ≤ k) (k1 : k < 5) : iI (shg g k) &&& iI 1 = iI (chg g k) := fin32 (P := fun g k => iI (shg g k) &&& iI 1 = iI (chg g k)) (by decide +kernel) g0 g1 k0 k1
theorem shl_ok {k : Int} (k0 : 0 ≤ k) (k1 : k < 5) : iI 1 <<< (iI k &&& 31) = iI (p2 k) := fin32 (P := fun _ k => iI 1 <<< (iI k &&& 31) = iI (p2 k)) (by decide +kernel) (show (0 : Int) ≤ 0 by decide) (by decide) k0 k1
theorem or_ok {g k : Int} (g0 : 0 ≤ g) (g1 : g < 32) (k0 : 0 ≤ k) (k1 : k < 5) : chg g k = 0 → iI g ||| iI (p2 k) = iI (g + p2 k) ∧ g + p2 k < 32 := fin32 (P := fun g k => chg g k = 0 → iI g ||| iI (p2 k) = iI (g + p2 k) ∧ g + p2 k < 32) (by decide +kernel) g0 g1 k0 k1
theorem p2_nn (k : Int) : 0 ≤ p2 k := by unfold p2; split <;> (try split) <;> (try split) <;> (try split) <;> decide
theorem chg_01 (g k : Int) : chg g k = 0 ∨ chg g k = 1 := by unfold chg; omega
theorem chg_add5 : ∀ g : Fin 32, ∀ b : Fin 5, chg (g.val : Int) (b.val : Int) = 0 → ∀ k : Fin 5, chg ((g.val : Int) + p2 (b.val : Int)) (k.val : Int) = if (k.val : Int) = (b.val : Int) then 1 else chg (g.val : Int) (k.val : Int) := by decide +kernel
theorem chg_add {g b : Int} (g0 : 0 ≤ g) (g1 : g < 32) (b0 : 0 ≤ b) (b1 : b < 5) (h : chg g b = 0) : ∀ k, 0 ≤ k → k < 5 → chg (g + p2 b) k = if k = b then 1 else chg g k := by
  intro k k0 k5
  have := chg_add5 ⟨g.toNat, by omega⟩ ⟨b.toNat, by omega⟩
  dsimp only at this
  rw [show ((g.toNat : Nat) : Int) = g from by omega, show ((b.toNat : Nat) : Int) = b from by omega] at this
  have t := this h ⟨k.toNat, by omega⟩
  dsimp only at t
  rw [show ((k.toNat : Nat) : Int) = k from by omega] at t
  exact t
theorem chg_0 : ∀ k, 0 ≤ k → k < 5 → chg 0 k = 0 := p5 (by decide) (by decide) (by decide) (by decide) (by decide)
/-- the best of the first n -/
def bst (r ch : Int → Int) : Nat → Int
  | 0 => -1
  | n + 1 => if ch (n : Int) = 0 ∧ (bst r ch n < 0 ∨ r (bst r ch n) < r (n : Int)) then (n : Int) else bst r ch n
theorem bst_spec (r ch : Int → Int) : ∀ n : Nat, (bst r ch n = -1 ∧ ∀ j : Int, 0 ≤ j → j < n → ¬ ch j = 0) ∨ (0 ≤ bst r ch n ∧ bst r ch n < n ∧ ch (bst r ch n) = 0 ∧ (∀ j : Int, 0 ≤ j → j < n → ch j = 0 → r j ≤ r (bst r ch n)) ∧ ∀ j : Int, 0 ≤ j → j < bst r ch n → ch j = 0 → r j < r (bst r ch n)) := by
  intro n
  induction n with
  | zero => exact Or.inl ⟨rfl, fun j a b => by omega⟩
  | succ n ih =>
    by_cases hc : ch (n : Int) = 0 ∧ (bst r ch n < 0 ∨ r (bst r ch n) < r (n : Int))
    · have e : bst r ch (n + 1) = (n : Int) := by simp only [bst]; rw [if_pos hc]
      rw [e]
      refine Or.inr ⟨by omega, by omega, hc.1, fun j a b c => ?_, fun j a b c => ?_⟩
      · by_cases hj : j = n
        · rw [hj]; exact Int.le_refl _
        · rcases ih with ⟨i1, i2⟩ | ⟨i1, i2, i3, i4, i5⟩
          · exact absurd c (i2 j a (by omega))
          · have := i4 j a (by omega) c
            omega
      · rcases ih with ⟨i1, i2⟩ | ⟨i1, i2, i3, i4, i5⟩
        · exact absurd c (i2 j a (by omega))
        · have := i4 j a (by omega) c
          omega
    · have e : bst r ch (n + 1) = bst r ch n := by simp only [bst]; rw [if_neg hc]
      rw [e]
      rcases ih with ⟨i1, i2⟩ | ⟨i1, i2, i3, i4, i5⟩
      · refine Or.inl ⟨i1, fun j a b c => ?_⟩
        by_cases hj : j = n
        · subst hj
          exact hc ⟨c, Or.inl (by omega)⟩
        · exact i2 j a (by omega) c
      · refine Or.inr ⟨i1, by omega, i3, fun j a b c => ?_, i5⟩
        by_cases hj : j = n
        · rw [hj] at c ⊢
          by_cases hl : r (n : Int) ≤ r (bst r ch n)
          · exact hl
          · exact absurd ⟨c, Or.inr (by omega)⟩ hc
        · exact i4 j a (by omega) c
theorem bst_step {r ch : Int → Int} {g : Int} (h : Chs r ch g) (hg : g < 5) : 0 ≤ bst r ch 5 ∧ bst r ch 5 < 5 ∧ ch (bst r ch 5) = 0 ∧ Chs r (fun k => if k = bst r ch 5 then 1 else ch k) (g + 1) := by
  obtain ⟨h1, h2, h3⟩ := h
  have hex : ∃ k, 0 ≤ k ∧ k < 5 ∧ ch k = 0 := by
    apply Classical.byContradiction
    intro hn
    have key : ∀ k, 0 ≤ k → k < 5 → ch k = 1 := fun k a c => (h1 k a c).resolve_left (fun z => hn ⟨k, a, c, z⟩)
    have e : s5 ch = 5 := by rw [s5_congr (g := fun _ => 1) key]; rfl
    omega
  obtain ⟨k, k0, k5, hk⟩ := hex
  rcases bst_spec r ch 5 with ⟨i1, i2⟩ | ⟨i1, i2, i3, i4, i5⟩
  · exact absurd hk (i2 k k0 (by omega))
  generalize bst r ch 5 = b at i1 i2 i3 i4 i5 ⊢
  have b5 : b < 5 := by omega
  refine ⟨i1, b5, i3, fun j a c => ?_, ?_, fun j k a1 a2 a3 a4 hj hk => ?_⟩
  · dsimp only
    split
    · exact Or.inr rfl
    · exact h1 j a c
  · have e : s5 (fun k => if k = b then 1 else ch k) = s5 ch + 1 := by
      unfold s5
      rcases c5 i1 b5 with rfl | rfl | rfl | rfl | rfl <;> simp <;> omega
    omega
  · dsimp only at hj hk
    by_cases e2 : k = b
    · simp [e2] at hk
    · rw [if_neg e2] at hk
      by_cases e1 : j = b
      · subst e1
        have x1 := i4 k a3 (by omega) hk
        by_cases hl : k < j
        · have := i5 k a3 hl hk
          omega
        · omega
      · rw [if_neg e1] at hj
        exact h3 j k a1 a2 a3 a4 hj hk
theorem Chs.congr {r ch ch' : Int → Int} {g : Int} (h : Chs r ch g) (e : ∀ k, 0 ≤ k → k < 5 → ch' k = ch k) : Chs r ch' g := by
  obtain ⟨h1, h2, h3⟩ := h
  refine ⟨fun k a b => by rw [e k a b]; exact h1 k a b, by rw [s5_congr e]; exact h2, fun j k a1 a2 a3 a4 hj hk => ?_⟩
  rw [e j a1 a2] at hj
  rw [e k a3 a4] at hk
  exact h3 j k a1 a2 a3 a4 hj hk
theorem mul_rng2 {a b : Int} (ha : 0 ≤ a ∧ a ≤ 1000000000) (hb : 0 ≤ b ∧ b ≤ 1000000000) : 0 ≤ a * b ∧ a * b < 9223372036854775808 := by
  refine ⟨Int.mul_nonneg ha.1 hb.1, ?_⟩
  have : a * b ≤ 1000000000 * 1000000000 := Int.mul_le_mul ha.2 hb.2 hb.1 (by decide)
  omega
end
section
/-! the law's row of eight for a partner: 0 to 4 in, 5 to earn, 10 back at, 15 charged, 20 credited -/
def eT (sh : Int → Int) (T : Nat → Int → Int) : Int → Int := fun j => if j < 5 then (if 0 < sh j ∧ T 14 j = 0 then 1 else 0) else if j < 10 then T 15 (j - 5) else if j < 15 then T 16 (j - 10) else if j < 20 then T 17 (j - 15) else T 18 (j - 20)
def RowE (f g : Int → Int) : Prop := ∀ j, 0 ≤ j → j < 25 → f j = g j
theorem eT_in {sh : Int → Int} {T : Nat → Int → Int} {q : Int} (h : q < 5) : eT sh T q = if 0 < sh q ∧ T 14 q = 0 then 1 else 0 := by unfold eT; rw [if_pos h]
theorem eT_5 {sh : Int → Int} {T : Nat → Int → Int} {q : Int} (h0 : 0 ≤ q) (h : q < 5) : eT sh T (5 + q) = T 15 q := by unfold eT; rw [if_neg (by omega), if_pos (by omega), show 5 + q - 5 = q from by omega]
theorem eT_10 {sh : Int → Int} {T : Nat → Int → Int} {q : Int} (h0 : 0 ≤ q) (h : q < 5) : eT sh T (10 + q) = T 16 q := by unfold eT; rw [if_neg (by omega), if_neg (by omega), if_pos (by omega), show 10 + q - 10 = q from by omega]
theorem eT_15 {sh : Int → Int} {T : Nat → Int → Int} {q : Int} (h0 : 0 ≤ q) (h : q < 5) : eT sh T (15 + q) = T 17 q := by unfold eT; rw [if_neg (by omega), if_neg (by omega), if_neg (by omega), if_pos (by omega), show 15 + q - 15 = q from by omega]
theorem eT_20 {sh : Int → Int} {T : Nat → Int → Int} {q : Int} (h0 : 0 ≤ q) : eT sh T (20 + q) = T 18 q := by unfold eT; rw [if_neg (by omega), if_neg (by omega), if_neg (by omega), if_neg (by omega), show 20 + q - 20 = q from by omega]
def upT (T : Nat → Int → Int) (c0 : Nat) (i v : Int) : Nat → Int → Int := fun c p => if c = c0 ∧ p = i then v else T c p
theorem upT_at {T : Nat → Int → Int} {c0 : Nat} {i v : Int} : upT T c0 i v c0 i = v := if_pos ⟨rfl, rfl⟩
theorem upT_ne {T : Nat → Int → Int} {c0 c : Nat} {i p v : Int} (h : c ≠ c0 ∨ p ≠ i) : upT T c0 i v c p = T c p := if_neg (fun z => h.elim (fun w => w z.1) (fun w => w z.2))
theorem eT_up5 {sh : Int → Int} {T : Nat → Int → Int} {i v : Int} (h0 : 0 ≤ i) (h : i < 5) (j : Int) : eT sh (upT T 15 i v) j = if j = 5 + i then v else eT sh T j := by
  unfold eT upT
  simp only [show ¬ ((14 : Nat) = 15) by decide, show ¬ ((16 : Nat) = 15) by decide, show ¬ ((17 : Nat) = 15) by decide, show ¬ ((18 : Nat) = 15) by decide, false_and, if_false, true_and]
  grind
theorem eT_up10 {sh : Int → Int} {T : Nat → Int → Int} {i v : Int} (h0 : 0 ≤ i) (h : i < 5) (j : Int) : eT sh (upT T 16 i v) j = if j = 10 + i then v else eT sh T j := by
  unfold eT upT
  simp only [show ¬ ((14 : Nat) = 16) by decide, show ¬ ((15 : Nat) = 16) by decide, show ¬ ((17 : Nat) = 16) by decide, show ¬ ((18 : Nat) = 16) by decide, false_and, if_false, true_and]
  grind
theorem eT_up15 {sh : Int → Int} {T : Nat → Int → Int} {i v : Int} (h0 : 0 ≤ i) (h : i < 5) (j : Int) : eT sh (upT T 17 i v) j = if j = 15 + i then v else eT sh T j := by
  unfold eT upT
  simp only [show ¬ ((14 : Nat) = 17) by decide, show ¬ ((15 : Nat) = 17) by decide, show ¬ ((16 : Nat) = 17) by decide, show ¬ ((18 : Nat) = 17) by decide, false_and, if_false, true_and]
  grind
theorem eT_up20 {sh : Int → Int} {T : Nat → Int → Int} {i v : Int} (h0 : 0 ≤ i) (h : i < 5) (j : Int) : eT sh (upT T 18 i v) j = if j = 20 + i then v else eT sh T j := by
  unfold eT upT
  simp only [show ¬ ((14 : Nat) = 18) by decide, show ¬ ((15 : Nat) = 18) by decide, show ¬ ((16 : Nat) = 18) by decide, show ¬ ((17 : Nat) = 18) by decide, false_and, if_false, true_and]
  grind
theorem eT_up0 {sh : Int → Int} {T : Nat → Int → Int} {i v : Int} (h0 : 0 ≤ i) (h : i < 5) (j : Int) : eT sh (upT T 14 i v) j = if j = i then (if 0 < sh i ∧ v = 0 then 1 else 0) else eT sh T j := by
  unfold eT upT
  simp only [show ¬ ((15 : Nat) = 14) by decide, show ¬ ((16 : Nat) = 14) by decide, show ¬ ((17 : Nat) = 14) by decide, show ¬ ((18 : Nat) = 14) by decide, false_and, if_false, true_and]
  grind
theorem su_row {σ : Sg} {kd : Nat} {z v j : Int} : su σ kd 0 z v kd 0 j = if j = z then v else σ kd 0 j := by
  unfold su
  by_cases hj : j = z
  · rw [if_pos ⟨rfl, rfl, hj⟩, if_pos hj]
  · rw [if_neg (fun w => hj w.2.2), if_neg hj]
theorem RowE.su {σ : Sg} {ka : Nat} {g g' : Int → Int} {z v : Int} (h : RowE (σ ka 0) g) (e : ∀ j, g' j = if j = z then v else g j) : RowE (su σ ka 0 z v ka 0) g' := fun j a b => by
  rw [e j, su_row, h j a b]
theorem RowE.eq {f g g' : Int → Int} (h : RowE f g) (e : g = g') : RowE f g' := e ▸ h
theorem RowE.of {f f' g : Int → Int} (h : RowE f g) (e : ∀ j, f' j = f j) : RowE f' g := fun j a b => (e j).trans (h j a b)
def costK (sh : Int → Int) (pen a : Int) (T : Nat → Int → Int) (k : Int) : Nat → Int → Int := fun c p =>
  if c = 17 ∧ 0 ≤ p ∧ p < 5 ∧ p < k then T 17 p + (if T 14 p = 0 then dv a sh p else 0) else if c = 15 ∧ 0 ≤ p ∧ p < 5 ∧ p < k then T 15 p + (if T 14 p = 0 then 0 else pn (dv a sh p) pen) else T c p
def costL (sh : Int → Int) (pen a : Int) (T : Nat → Int → Int) (k : Int) : Nat → Int → Int := fun c p =>
  if c = 17 ∧ 0 ≤ p ∧ p < 5 ∧ p < k then costK sh pen a T 5 17 p + dv (osm sh T a) (inw sh T) p else costK sh pen a T 5 c p
theorem costK_0 {sh : Int → Int} {pen a : Int} {T : Nat → Int → Int} : costK sh pen a T 0 = T := by
  funext c p
  unfold costK
  rw [if_neg (by omega), if_neg (by omega)]
theorem costK_out {sh : Int → Int} {pen a i : Int} {T : Nat → Int → Int} (h0 : 0 ≤ i) (h5 : i < 5) (hT : ¬ T 14 i = 0) : costK sh pen a T (i + 1) = upT (costK sh pen a T i) 15 i (T 15 i + pn (dv a sh i) pen) := by
  funext c p
  unfold costK upT
  by_cases e : p = i
  · subst e
    simp only [hT, if_false, and_true]
    grind
  · grind
theorem costK_in {sh : Int → Int} {pen a i : Int} {T : Nat → Int → Int} (h0 : 0 ≤ i) (h5 : i < 5) (hT : T 14 i = 0) : costK sh pen a T (i + 1) = upT (costK sh pen a T i) 17 i (T 17 i + dv a sh i) := by
  funext c p
  unfold costK upT
  by_cases e : p = i
  · subst e
    simp only [hT, if_true, and_true]
    grind
  · grind
theorem costK_15 {sh : Int → Int} {pen a i : Int} {T : Nat → Int → Int} : costK sh pen a T i 15 i = T 15 i := by
  unfold costK
  rw [if_neg (by omega), if_neg (by omega)]
theorem costK_17 {sh : Int → Int} {pen a i : Int} {T : Nat → Int → Int} : costK sh pen a T i 17 i = T 17 i := by
  unfold costK
  rw [if_neg (by omega), if_neg (by omega)]
theorem costK_14 {sh : Int → Int} {pen a k : Int} {T : Nat → Int → Int} (p : Int) : costK sh pen a T k 14 p = T 14 p := by
  unfold costK
  rw [if_neg (by omega), if_neg (by omega)]
theorem costL_0 {sh : Int → Int} {pen a : Int} {T : Nat → Int → Int} : costL sh pen a T 0 = costK sh pen a T 5 := by
  funext c p
  unfold costL
  rw [if_neg (by omega)]
theorem costL_s {sh : Int → Int} {pen a i : Int} {T : Nat → Int → Int} (h0 : 0 ≤ i) (h5 : i < 5) : costL sh pen a T (i + 1) = upT (costL sh pen a T i) 17 i (costL sh pen a T i 17 i + dv (osm sh T a) (inw sh T) i) := by
  have e : costL sh pen a T i 17 i = costK sh pen a T 5 17 i := by unfold costL; rw [if_neg (by omega)]
  rw [e]
  funext c p
  unfold costL upT
  by_cases e : p = i
  · subst e
    grind
  · grind
theorem costL_5 {sh : Int → Int} {pen a : Int} {T : Nat → Int → Int} : costL sh pen a T 5 = costS sh pen a T := by
  funext c p
  unfold costL costS chp costK
  grind
def incK (sh : Int → Int) (a : Int) (T : Nat → Int → Int) (k : Nat) : Nat → Int → Int := fun c p =>
  if 0 ≤ p ∧ p < 5 then (if c = 15 then T 15 p - (if p < k then tkn sh T a p else 0) else if c = 18 then T 18 p + (if p < k then dv a sh p - tkn sh T a p else 0) + tks sh T a p k else T c p) else T c p
def incJ (sh : Int → Int) (a : Int) (T : Nat → Int → Int) (k : Nat) (j : Int) : Nat → Int → Int := fun c p =>
  if 0 ≤ p ∧ p < 5 then (if c = 15 then T 15 p - (if p < (k : Int) + 1 then tkn sh T a p else 0) else if c = 18 then T 18 p + (if p < (k : Int) + 1 then dv a sh p - tkn sh T a p else 0) + tks sh T a p k + (if p < j then dv (tkn sh T a (k : Int)) (inw sh T) p else 0) else T c p) else T c p
def incF (sh : Int → Int) (v a : Int) (T : Nat → Int → Int) (k : Int) : Nat → Int → Int := fun c p =>
  if 0 ≤ p ∧ p < 5 ∧ p < k ∧ (T 14 p ≠ 0 ∧ T 15 p - tkn sh T a p = 0) ∧ c = 14 then 0 else if 0 ≤ p ∧ p < 5 ∧ p < k ∧ (T 14 p ≠ 0 ∧ T 15 p - tkn sh T a p = 0) ∧ c = 16 then v else incK sh a T 5 c p
theorem incK_0 {sh : Int → Int} {a : Int} {T : Nat → Int → Int} : incK sh a T 0 = T := by
  funext c p
  unfold incK tks
  grind
theorem incK_14 {sh : Int → Int} {a : Int} {k : Nat} {T : Nat → Int → Int} (p : Int) : incK sh a T k 14 p = T 14 p := by
  unfold incK
  split <;> rfl
theorem incK_15 {sh : Int → Int} {a : Int} {k : Nat} {T : Nat → Int → Int} (h5 : (k : Int) < 5) : incK sh a T k 15 (k : Int) = T 15 (k : Int) := by
  unfold incK
  rw [if_pos (by omega), if_pos rfl, if_neg (by omega)]
  omega
theorem incK_18 {sh : Int → Int} {a : Int} {k : Nat} {T : Nat → Int → Int} (h5 : (k : Int) < 5) : incK sh a T k 18 (k : Int) = T 18 (k : Int) + tks sh T a (k : Int) k := by
  unfold incK
  rw [if_pos (by omega), if_neg (by decide), if_pos rfl, if_neg (by omega)]
  omega
theorem incJ_0 {sh : Int → Int} {a : Int} {k : Nat} {T : Nat → Int → Int} (h5 : (k : Int) < 5) : incJ sh a T k 0 = upT (upT (incK sh a T k) 15 (k : Int) (T 15 (k : Int) - tkn sh T a (k : Int))) 18 (k : Int) (T 18 (k : Int) + tks sh T a (k : Int) k + (dv a sh (k : Int) - tkn sh T a (k : Int))) := by
  funext c p
  unfold incJ incK upT
  by_cases e : p = (k : Int)
  · subst e
    grind
  · grind
theorem incJ_s {sh : Int → Int} {a i : Int} {k : Nat} {T : Nat → Int → Int} (h0 : 0 ≤ i) (h5 : i < 5) : incJ sh a T k (i + 1) = upT (incJ sh a T k i) 18 i (incJ sh a T k i 18 i + dv (tkn sh T a (k : Int)) (inw sh T) i) := by
  have e : incJ sh a T k i 18 i = T 18 i + (if i < (k : Int) + 1 then dv a sh i - tkn sh T a i else 0) + tks sh T a i k := by
    unfold incJ
    rw [if_pos ⟨h0, h5⟩, if_neg (by decide), if_pos rfl, if_neg (show ¬ i < i by omega)]
    omega
  rw [e]
  funext c p
  unfold incJ upT
  by_cases e : p = i
  · subst e
    grind
  · grind
theorem incJ_5 {sh : Int → Int} {a : Int} {k : Nat} {T : Nat → Int → Int} : incJ sh a T k 5 = incK sh a T (k + 1) := by
  funext c p
  unfold incJ incK
  by_cases hp : 0 ≤ p ∧ p < 5
  · rw [if_pos hp, if_pos hp, if_pos hp.2, show ((k + 1 : Nat) : Int) = (k : Int) + 1 from by omega]
    simp only [tks]
    grind
  · rw [if_neg hp, if_neg hp]
theorem incK_in {sh : Int → Int} {a : Int} {k : Nat} {T : Nat → Int → Int} (hw : Wt (inw sh T)) (h5 : (k : Int) < 5) (hT : T 14 (k : Int) = 0) : incK sh a T (k + 1) = upT (incK sh a T k) 18 (k : Int) (T 18 (k : Int) + tks sh T a (k : Int) k + dv a sh (k : Int)) := by
  have ht : tkn sh T a (k : Int) = 0 := by unfold tkn; rw [if_pos hT]
  funext c p
  by_cases hp : 0 ≤ p ∧ p < 5
  · have h1 : tks sh T a p (k + 1) = tks sh T a p k := by simp only [tks]; rw [ht, dv_0 hw p hp.1 hp.2]; omega
    unfold incK upT
    dsimp only
    rw [h1, show ((k + 1 : Nat) : Int) = (k : Int) + 1 from by omega, if_pos hp, if_pos hp]
    by_cases e : p = (k : Int)
    · subst e
      rw [ht]
      grind
    · grind
  · unfold incK upT
    dsimp only
    rw [if_neg hp, if_neg hp, if_neg (by omega)]
theorem incF_0 {sh : Int → Int} {v a : Int} {T : Nat → Int → Int} : incF sh v a T 0 = incK sh a T 5 := by
  funext c p
  unfold incF
  rw [if_neg (by omega), if_neg (by omega)]
theorem incF_14 {sh : Int → Int} {v a i : Int} {T : Nat → Int → Int} : incF sh v a T i 14 i = T 14 i := by
  unfold incF
  rw [if_neg (by omega), if_neg (by omega), incK_14]
theorem incF_15 {sh : Int → Int} {v a i : Int} {T : Nat → Int → Int} (h0 : 0 ≤ i) (h5 : i < 5) : incF sh v a T i 15 i = T 15 i - tkn sh T a i := by
  unfold incF
  rw [if_neg (by omega), if_neg (by omega)]
  unfold incK
  rw [if_pos ⟨h0, h5⟩, if_pos rfl, if_pos (by omega)]
theorem incF_y {sh : Int → Int} {v a i : Int} {T : Nat → Int → Int} (h0 : 0 ≤ i) (h5 : i < 5) (hT : ¬ T 14 i = 0) (hz : T 15 i - tkn sh T a i = 0) : incF sh v a T (i + 1) = upT (upT (incF sh v a T i) 14 i 0) 16 i v := by
  funext c p
  unfold incF upT
  by_cases e : p = i
  · subst e
    grind
  · grind
theorem incF_n {sh : Int → Int} {v a i : Int} {T : Nat → Int → Int} (hn : ¬ (T 14 i ≠ 0 ∧ T 15 i - tkn sh T a i = 0)) : incF sh v a T (i + 1) = incF sh v a T i := by
  funext c p
  unfold incF
  by_cases e : p = i
  · subst e
    grind
  · grind
theorem incF_5 {sh : Int → Int} {v a : Int} {T : Nat → Int → Int} : incF sh v a T 5 = incS sh v a T := by
  funext c p
  unfold incF incS incK
  grind
theorem pn_eq {x : Int} (h : 0 ≤ x) : x / 100 + (if x % 100 = 0 then 0 else 1) = (x + 99) / 100 := by split <;> omega
def EqE (ka : Nat) (σ σ' : Sg) : Prop := ∀ (a : Nat) (b c : Int), (a < 35 ∨ 38 < a) → a ≠ ka → σ' a b c = σ a b c
theorem EqE.su {ka kd : Nat} {σ σ' : Sg} {k j v : Int} (h : EqE ka σ σ') (hk : kd = ka ∨ (35 ≤ kd ∧ kd ≤ 38)) : EqE ka σ (su σ' kd k j v) := fun a b c x y => by rw [su_nk (by omega)]; exact h a b c x y
theorem EqE.sf {ka kd : Nat} {σ σ' : Sg} {k n : Int} {f : Int → Int} (h : EqE ka σ σ') (hk : kd = ka ∨ (35 ≤ kd ∧ kd ≤ 38)) : EqE ka σ (sf σ' kd k n f) := fun a b c x y => by rw [sf_nk (by omega)]; exact h a b c x y
theorem EqE.sz {ka kd : Nat} {σ σ' : Sg} (h : EqE ka σ σ') (hk : 35 ≤ kd ∧ kd ≤ 38) : EqE ka σ (sz0 σ' kd) := fun a b c x y => by rw [sz0_nk (by omega)]; exact h a b c x y
theorem EqE.refl {ka : Nat} {σ : Sg} : EqE ka σ σ := fun _ _ _ _ _ => rfl
theorem EqE.trans {ka : Nat} {σ1 σ2 σ3 : Sg} (h : EqE ka σ1 σ2) (h' : EqE ka σ2 σ3) : EqE ka σ1 σ3 := fun a b c x y => (h' a b c x y).trans (h a b c x y)
end
