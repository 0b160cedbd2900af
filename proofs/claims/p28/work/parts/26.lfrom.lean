section LF
variable {p : Program} {l : Launch} {e : Env} {R : Room} {s : State} {m : MethodId} {args : Array Value} {below : List Frame} {meth : Method} {c : Code} {cy : Nat → ClassId} {D : va_G} {ad : Ad} {A : Nat → Prop} {nL : Nat} {cells slots : Nat} {Q : State → Prop} {σ : Sg} {pc : Nat} {lv : List (Option Value)} {st : List Value} {cc : ByteArray} {own : String} {Ts : List Cond}
theorem J_sld (C : Cx p l e R s m args below meth c cy D ad A nL cc own Ts) {b L : Nat} {xs : Nat → Int32} {z : Int} (hX : va_X b L xs s s.heap) (hbl : b < s.heap.size) (hbA : ¬ A b) (hL : L ≤ 260) (h0 : 0 ≤ z ∧ z < L) (d : decode cc pc = .ok (.iaload, 1)) (kk : JW p l e R s m args below meth c cy D ad A nL cells slots Q σ (pc + 1) lv (.int (iI (xs z.toNat).toInt) :: st)) : JW p l e R s m args below meth c cy D ad A nL cells slots Q σ pc lv (.int (iI z) :: .ref b :: st) := by
  intro H locs ls h1 h2 h3
  obtain ⟨g1, g2⟩ := iI_ix h0.1 h0.2 (by omega)
  refine va_sld C.1.1 C.1.2.1 hX hbl hbA h2 g1 d ?_
  rw [g2, iI_of (xs z.toNat)]
  exact kk H locs ls h1 h2 h3
theorem J_slen (C : Cx p l e R s m args below meth c cy D ad A nL cc own Ts) {b L : Nat} {xs : Nat → Int32} (hX : va_X b L xs s s.heap) (hbl : b < s.heap.size) (hbA : ¬ A b) (d : decode cc pc = .ok (.arraylength, 1)) (kk : JW p l e R s m args below meth c cy D ad A nL cells slots Q σ (pc + 1) lv (.int (iI (L : Int)) :: st)) : JW p l e R s m args below meth c cy D ad A nL cells slots Q σ pc lv (.ref b :: st) := by
  intro H locs ls h1 h2 h3
  refine va_slen C.1.1 C.1.2.1 hX hbl hbA h2 d ?_
  have e : Int32.ofNat L = iI (L : Int) := by unfold iI; rw [Int32.ofInt_eq_ofNat]
  rw [e]
  exact kk H locs ls h1 h2 h3
end LF
theorem andM (x : Int) : ∃ z : Int, (0 ≤ z ∧ z < 2147483648) ∧ iI x &&& iI 2147483647 = iI z := by
  refine ⟨(iI x &&& iI 2147483647).toInt, ?_, iI_of _⟩
  have h : (iI x &&& iI 2147483647).toBitVec.toNat ≤ 2147483647 := by
    rw [Int32.toBitVec_and, BitVec.toNat_and]
    exact Nat.and_le_right
  have e : (iI x &&& iI 2147483647).toInt = ((iI x &&& iI 2147483647).toBitVec.toNat : Int) := by
    show (iI x &&& iI 2147483647).toBitVec.toInt = _
    rw [BitVec.toInt_eq_toNat_of_lt (by omega)]
  omega
def PcF (cy : Nat → ClassId) (D : va_G) (ad : Ad) (σ : Sg) (b L : Nat) (xs : Nat → Int32) (av : List Value) (sz : Nat) : Array Value → State → Prop := va_Pc av (fun U => U.heap.size = sz ∧ Wd cy D ad σ U.heap ∧ Sx cy D ad U U.heap ∧ va_X b L xs U U.heap ∧ b < sz ∧ ¬ Ar ad sz b)
def FI (l : Launch) (cy : Nat → ClassId) (D : va_G) (ad : Ad) (σ : Sg) (b L : Nat) (xs : Nat → Int32) (k n : Int) : Prop := ∀ sz : Nat, Met l yL_from wsL_from ({ frames := 0, cells := 0, slots := 0, locals := 0 } : Room) (PcF cy D ad σ b L xs [.ref b, .int (iI k), .int (iI n)] sz) (QcI cy D ad (fun z σ' => σ' = σ ∧ 0 ≤ z ∧ z < n) sz) 0 0 (Ar ad sz)
theorem FI.of {l : Launch} {cy : Nat → ClassId} {D : va_G} {ad : Ad} {σ : Sg} {b L : Nat} {xs : Nat → Int32} {k n : Int} (hl : l.stackTraces = false) (hI : Inj ad)
    (body : ∀ (p : Program) (e : Env) (s : State) (m : MethodId) (args : Array Value) (below : List Frame) (meth : Method) (c : Code), Cx p l e ({ frames := 0, cells := 0, slots := 0, locals := 0 } : Room) s m args below meth c cy D ad (Ar ad s.heap.size) 4 cL_from RL wsL_from → meth.sig.returnType = some .int → va_X b L xs s s.heap → b < s.heap.size → ¬ Ar ad s.heap.size b → JW p l e ({ frames := 0, cells := 0, slots := 0, locals := 0 } : Room) s m args below meth c cy D ad (Ar ad s.heap.size) 4 0 0 (MQ below (QcI cy D ad (fun z σ' => σ' = σ ∧ 0 ≤ z ∧ z < n) s.heap.size) args s 0 0 (Ar ad s.heap.size)) σ 0 [some (.ref b), some (.int (iI k)), some (.int (iI n)), none] []) : FI l cy D ad σ b L xs k n := by
  intro sz
  refine Met.ofW (cc := cL_from) (maxL := 4) (ret := some .int) (by decide) rfl ?_
  intro p e s m args below meth c s₁ B hml hv
  obtain ⟨rfl, hsz, hP, hX0, hX, hbl, hbA⟩ := hv
  subst hsz
  have C : Cx p l e ({ frames := 0, cells := 0, slots := 0, locals := 0 } : Room) s m ([.ref b, .int (iI k), .int (iI n)] : List Value).toArray below meth c cy D ad (Ar ad s.heap.size) 4 cL_from RL wsL_from := ⟨⟨B.exec, B.bytes, hml, findClass_of_methodNamed B.named, atoms_spec (ws := wsL_from) B.pre⟩, hI, fun _ h => h, hX0, B.notSynchronized, hl, fun _ h => h⟩
  have hl := lv_entry ([.ref b, .int (iI k), .int (iI n)] : List Value) (n := 4) (Nat.le_of_ble_eq_true rfl)
  rw [lg_entry_eq]
  generalize (lg_sl ([.ref b, .int (iI k), .int (iI n)] : List Value) ++ List.replicate (4 - (lg_sl ([.ref b, .int (iI k), .int (iI n)] : List Value)).length) Slot.unset).toArray = ls at hl ⊢
  exact body p e s m _ below meth c C B.returns hX hbl hbA s.heap [] ls hP va_S.rf ⟨hl.1, hl.2.1, fun i v h => hl.2.2 (i, v) (by rw [← show lhL [some (Value.ref b), some (.int (iI k)), some (.int (iI n)), none] = lv_args 0 ([.ref b, .int (iI k), .int (iI n)] : List Value) from rfl]; exact lhL_mem.mpr h)⟩
set_option maxRecDepth 20000 in
theorem w_L_from_c7 : Cond.constant RL 7 (iI 132049) ∈ wsL_from := by decide +kernel
set_option maxRecDepth 20000 in
theorem w_L_from_c8 : Cond.constant RL 8 (iI 2147483647) ∈ wsL_from := by decide +kernel
set_option maxHeartbeats 4000000 in
set_option maxRecDepth 100000 in
theorem c_L_from {l : Launch} (hfl : l.stackTraces = false) {cy : Nat → ClassId} {D : va_G} {ad : Ad} (hI : Inj ad) (σ : Sg) {b L : Nat} {xs : Nat → Int32} (hL : L ≤ 260) (k n : Int) (hk : 0 ≤ k ∧ k < 100000) (hn : 0 < n ∧ n < 2147483648) : FI l cy D ad σ b L xs k n := by
  refine FI.of hfl hI ?_
  intro p e s m args below meth c C hr hX hbl hbA
  have K : ∀ x : Int, JW p l e ({ frames := 0, cells := 0, slots := 0, locals := 0 } : Room) s m args below meth c cy D ad (Ar ad s.heap.size) 4 0 0 (MQ below (QcI cy D ad (fun z σ' => σ' = σ ∧ 0 ≤ z ∧ z < n) s.heap.size) args s 0 0 (Ar ad s.heap.size)) σ 27 [some (.ref b), some (.int (iI k)), some (.int (iI n)), none] [.int (iI x)] := by
    intro x
    obtain ⟨z, z1, z2⟩ := andM x
    refine J_istore_3 C (by decide) rfl dL_from_27 ?_
    refine J_iload_3 C dL_from_28 ?_
    refine J_ldc C w_L_from_c8 dL_from_29 ?_
    refine J_iand C z2 dL_from_31 ?_
    refine J_iload_2 C dL_from_32 ?_
    refine J_irem C z1 hn dL_from_33 ?_
    refine J_retI C hr (by decide) (by decide) dL_from_34 ?_
    exact ⟨rfl, Int.emod_nonneg _ (by omega), Int.emod_lt_of_pos _ hn.1⟩
  refine J_aload_0 C dL_from_0 ?_
  refine J_slen C hX hbl hbA dL_from_1 ?_
  refine J_if_ne (tgt := 16) C (by omega) dL_from_2 (by decide) (fun c_2 => ?_) (fun c_2 => ?_)
  · refine J_aload_0 C dL_from_16 ?_
    refine J_iload_1 C dL_from_17 ?_
    refine J_aload_0 C dL_from_18 ?_
    refine J_slen C hX hbl hbA dL_from_19 ?_
    refine J_irem C (by omega) (by omega) dL_from_20 ?_
    refine J_sld C hX hbl hbA hL ⟨Int.emod_nonneg _ (by omega), Int.emod_lt_of_pos _ (by omega)⟩ dL_from_21 ?_
    refine J_ldc C w_L_from_c7 dL_from_22 ?_
    refine J_iload_1 C dL_from_24 ?_
    refine J_imul C dL_from_25 ?_
    refine J_ixor C (iI_of _) dL_from_26 ?_
    exact K _
  · refine J_sipush C (by decide) dL_from_5 ?_
    refine J_iload_1 C dL_from_8 ?_
    refine J_imul C dL_from_9 ?_
    refine J_bipush C (by decide) dL_from_10 ?_
    refine J_iadd C dL_from_12 ?_
    refine J_goto (tgt := 27) C dL_from_13 (by decide) ?_
    exact K _
section LR
variable {p : Program} {l : Launch} {e : Env} {R : Room} {s : State} {m : MethodId} {args : Array Value} {below : List Frame} {meth : Method} {c : Code} {H : Heap} {locs : List Loc} {cells slots : Nat}
/-- a static call with more below it on the stack -/
theorem runS16 {y : MethodName} {bytes cc : ByteArray} {maxL nL mc ms n index : Nat} {ret : Option FieldType} {ws : List Cond} {rm : Room} {Pc : Array Value → State → Prop} {Qc : Array Value → State → Outcome → State → Prop} {free : Addr → Prop} {Ts : List Cond} {own : String} {As rest : List Value} {g : JFrame} (S : CallFix p m c cc nL s args Ts own) (hM : Met l y ws rm Pc Qc mc ms free) (cw : CallB R s args own index y bytes maxL ret ws rm mc ms n ∧ (Cond.static y).before args s = true) (hp : PreS s H Pc As) (hlo16 : 16 + (maxL + 11) + rm.locals ≤ R.locals)
    (hg : g.method = m) (hn : As.length = n) (hsize : g.locals.size = nL) (hstack : g.stack = As.reverse ++ rest) (hW : 2 * g.monitorRoom + (rest.map fun v => v.category).sum ≤ 16) (hdg : decode cc g.pc = .ok (.invokestatic index, 3)) (hf : cells + mc ≤ R.cells ∧ slots + ms ≤ R.slots) :
    va_Run p l e R s m args below meth c H locs cells slots mc ms g rest (Qc As.toArray) (free) := by
  obtain ⟨⟨hrc, hrs, hfr, hlo, hws, hcw, hcode, hini, hy, hlen, hl⟩, hstt⟩ := cw
  have hK : Back l R p e below s args y 3 16 (PreOf R mc ms Pc) (PostOf Qc mc ms free) := back_of (bytes := bytes) (maxL := maxL) (ret := ret) hM hp.1 hrc hrs hfr hlo16 hws hcw (fun a' U hW => word_at hW (Or.inl (by first | rfl | simp [Cond.onTables, Cond.keeps, Cond.steady])) hini)
  obtain ⟨hx, hb, hml, ho, -⟩ := S
  intro T hT X
  obtain ⟨v, vm₁, ⟨U', l2, c2, s2⟩, hW₁, X', ⟨g', mk, t, L, e1, e2, hq, h1, hL, h2, h3⟩, st⟩ := callS X hx (bytes := bytes) (maxL := maxL) (ret := ret) ho hl hstt hini hcode hy hK hg (hsize.trans hml.symm) (argsL := As) (rest := rest) (fun sig h => hn.trans (hlen sig h)) hstack hW (by rw [hb]; exact hdg)
    (fun vm₁ hW₁ => ⟨hf.1, hf.2, hp.2 (T.setVm vm₁) hT hW₁⟩)
  dsimp only [Pt.U, Pt.locs, Pt.cells, Pt.slots] at X' e1 e2 h1 h2 h3 st
  subst h1; subst h2; subst h3
  exact ⟨v, (T.setVm vm₁).calling g' mk As.toArray, t, U', L, hT, X', hL, e1, e2, hq, st⟩
end LR
section LF2
variable {p : Program} {l : Launch} {e : Env} {R : Room} {s : State} {m : MethodId} {args : Array Value} {below : List Frame} {meth : Method} {c : Code} {cy : Nat → ClassId} {D : va_G} {ad : Ad} {A : Nat → Prop} {nL : Nat} {cells slots : Nat} {Q : State → Prop} {σ : Sg} {pc : Nat} {lv : List (Option Value)} {st : List Value} {cc : ByteArray} {own : String} {Ts : List Cond}
theorem F_forb {b L : Nat} {xs : Nat → Int32} {av : List Value} {sz : Nat} : FrameBlind (PcF cy D ad σ b L xs av sz) := fun a U g mk q => ⟨q.1, q.2.1, q.2.2.1, q.2.2.2.1.calling, va_X.moved (u := U) (U := U.calling g mk a) (Vm.Alike.refl U.vm) q.2.2.2.2.1, q.2.2.2.2.2⟩
theorem J_from (C : Cx p l e R s m args below meth c cy D ad A nL cc own Ts) {b L idx : Nat} {xs : Nat → Int32} {k n : Int} {rest : List Value} (hM : FI l cy D ad σ b L xs k n) (cw : CallB R s args own idx yL_from cL_from 4 (some .int) wsL_from ({ frames := 0, cells := 0, slots := 0, locals := 0 } : Room) 0 0 3 ∧ (Cond.static yL_from).before args s = true) (hlo : 16 + (4 + 11) + 0 ≤ R.locals) (hX : va_X b L xs s s.heap) (hbl : b < s.heap.size) (hbA : ¬ A b) (hW : (rest.map fun v => v.category).sum ≤ 16) (d : decode cc pc = .ok (.invokestatic idx, 3)) (hf : cells + 0 ≤ R.cells ∧ slots + 0 ≤ R.slots) (kk : ∀ z : Int, 0 ≤ z → z < n → JW p l e R s m args below meth c cy D ad A nL cells slots Q σ (pc + 3) lv (.int (iI z) :: rest)) : JW p l e R s m args below meth c cy D ad A nL cells slots Q σ pc lv (.int (iI n) :: .int (iI k) :: .ref b :: rest) := by
  intro H locs ls h1 h2 h3
  have hA : ∀ q, Ar ad H.size q → A q := fun q hq => C.2.2.1 q (hq.imp id (fun z => Nat.le_trans h2.1 z))
  have hb2 : ¬ Ar ad H.size b := fun z => hbA (hA b z)
  have hXH : va_X b L xs s H := hX.kept (h2.2.1 b hbl hbA)
  refine va_calli (runS16 (As := [.ref b, .int (iI k), .int (iI n)]) (rest := rest) C.1 (hM H.size) cw ⟨F_forb, fun U hU hW => ⟨rfl, by rw [hU], by rw [hU]; exact h1, by rw [hU]; exact (Sx.at_ C.2.2.2.2.2.2 h2 C.2.2.2.1).warm hW, by rw [hU]; exact hXH.moved hW.alike, Nat.lt_of_lt_of_le hbl h2.1, hb2⟩⟩ hlo rfl rfl h3.1 rfl (by show 2 * 0 + _ ≤ 16; omega) d hf) h2 (fun q _ h => hA q h) hA ?_
  rintro r σ' t H1 locs1 ht hvm ⟨z, rfl, rfl, h5, h6⟩ hB hz1 hk1 hS
  rw [ht] at hB
  exact kk z h5 h6 H1 locs1 ls hB hS h3
/-- the end of a method that says yes, and has made its own things alone -/
abbrev QH (sz : Nat) : Array Value → State → Outcome → State → Prop := va_Qi (fun (r : Int32) (_ : Unit) => r = iI 1) (fun (_ : Unit) (_ : State) => True) (fun q => sz ≤ q)
def PcH (cy : Nat → ClassId) (D : va_G) (b L : Nat) (xs : Nat → Int32) (sz : Nat) : Array Value → State → Prop := va_Pc [.ref b] (fun U => U.heap.size = sz ∧ va_X b L xs U U.heap ∧ b < sz ∧ va_K D vwCl (tysO cy) U ∧ AO U ∧ ∀ ad : Ad, (∀ q, Aw ad q → sz ≤ q) → Sx cy D ad U U.heap)
def HK (l : Launch) (y : MethodName) (ws : List Cond) (rm : Room) (cy : Nat → ClassId) (D : va_G) (b L : Nat) (xs : Nat → Int32) (mc ms : Nat) : Prop := ∀ sz : Nat, Met l y ws rm (PcH cy D b L xs sz) (QH sz) mc ms (fun q => sz ≤ q)
theorem H_forb {b L : Nat} {xs : Nat → Int32} {sz : Nat} : FrameBlind (PcH cy D b L xs sz) := fun a U g mk q => ⟨q.1, q.2.1, va_X.moved (u := U) (U := U.calling g mk a) (Vm.Alike.refl U.vm) q.2.2.1, q.2.2.2.1, va_K.moved (u := U) (U := U.calling g mk a) (Vm.Alike.refl U.vm) q.2.2.2.2.1, AO.calling (g := g) (mk := mk) (a := a) q.2.2.2.2.2.1, fun ad h => (q.2.2.2.2.2.2 ad h).calling⟩
theorem H_ret {l : Launch} {mc ms : Nat} (C : Cx p l e R s m args below meth c cy D ad (fun q => s.heap.size ≤ q) nL cc own Ts) (hr : meth.sig.returnType = some .boolean) (hc : cells ≤ mc) (hs : slots ≤ ms) (d : decode cc pc = .ok (.ireturn, 1)) : JW p l e R s m args below meth c cy D ad (fun q => s.heap.size ≤ q) nL cells slots (MQ below (QH s.heap.size) args s mc ms (fun q => s.heap.size ≤ q)) σ pc lv [.int (iI 1)] := by
  intro H locs ls h1 h2 h3
  refine W.widen hc hs ?_
  exact W.zret C.1.1 C.1.2.1 hr rfl (fun t ht hW => ⟨⟨_, (), rfl, rfl, trivial⟩, h2.F ht⟩) h2.2.2 d C.2.2.2.2.1
end LF2
