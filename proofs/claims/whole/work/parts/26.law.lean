/-- a number of the script -/
def sv (xs : Nat → Int32) (i k : Int) : Int := (xs (i + k).toNat).toInt
theorem sv_r (xs : Nat → Int32) (i k : Int) : I32 (sv xs i k) := i32_r _
section LAW
variable {p : Program} {l : Launch} {e : Env} {R : Room} {s : State} {m : MethodId} {args : Array Value} {below : List Frame} {meth : Method} {c : Code} {cy : Nat → ClassId} {D : va_G} {ad : Ad} {A : Nat → Prop} {nL : Nat} {cells slots : Nat} {Q : State → Prop} {σ : Sg} {pc : Nat} {lv : List (Option Value)} {st : List Value} {cc : ByteArray} {own : String} {Ts : List Cond}
theorem iI_ix2 {z : Int} {n : Nat} (h0 : 0 ≤ z) (h : z < n) (hn : n ≤ 3072) : vp_in (iI z) n ∧ (iI z).toNatClampNeg = z.toNat := by
  have e1 : iI z = nI z.toNat := by unfold iI nI; rw [← Int32.ofInt_eq_ofNat]; congr 1; omega
  rw [e1]
  exact ⟨vp_in_nI (by omega) (by omega), nI_clamp (by omega)⟩
theorem J_sld (C : Cx p l e R s m args below meth c cy D ad A nL cc own Ts) {b L : Nat} {xs : Nat → Int32} {i k z : Int} (hX : va_X b L xs s s.heap) (hbl : b < s.heap.size) (hbA : ¬ A b) (hL : L ≤ 3072) (hz : z = i + k) (h0 : 0 ≤ i + k ∧ i + k < L) (d : decode cc pc = .ok (.iaload, 1)) (kk : JW p l e R s m args below meth c cy D ad A nL cells slots Q σ (pc + 1) lv (.int (iI (sv xs i k)) :: st)) : JW p l e R s m args below meth c cy D ad A nL cells slots Q σ pc lv (.int (iI z) :: .ref b :: st) := by
  intro H locs ls h1 h2 h3
  subst hz
  obtain ⟨g1, g2⟩ := iI_ix2 h0.1 h0.2 hL
  refine va_sld C.1.1 C.1.2.1 hX hbl hbA h2 g1 d ?_
  rw [g2, iI_of (xs (i + k).toNat)]
  exact kk H locs ls h1 h2 h3
theorem J_slen (C : Cx p l e R s m args below meth c cy D ad A nL cc own Ts) {b L : Nat} {xs : Nat → Int32} (hX : va_X b L xs s s.heap) (hbl : b < s.heap.size) (hbA : ¬ A b) (d : decode cc pc = .ok (.arraylength, 1)) (kk : JW p l e R s m args below meth c cy D ad A nL cells slots Q σ (pc + 1) lv (.int (iI (L : Int)) :: st)) : JW p l e R s m args below meth c cy D ad A nL cells slots Q σ pc lv (.ref b :: st) := by
  intro H locs ls h1 h2 h3
  refine va_slen C.1.1 C.1.2.1 hX hbl hbA h2 d ?_
  have e : Int32.ofNat L = iI (L : Int) := by unfold iI; rw [Int32.ofInt_eq_ofNat]
  rw [e]
  exact kk H locs ls h1 h2 h3
theorem J_icmp_eqS (C : Cx p l e R s m args below meth c cy D ad A nL cc own Ts) {x y off : Int} {tgt : Nat} (h : x = y) (d : decode cc pc = .ok (.if_icmp .eq off, 3)) (ht : (pc : Int) + off = (tgt : Int)) (k1 : JW p l e R s m args below meth c cy D ad A nL cells slots Q σ tgt lv st) : JW p l e R s m args below meth c cy D ad A nL cells slots Q σ pc lv (.int (iI y) :: .int (iI x) :: st) := by
  intro H locs ls h1 h2 h3
  subst h
  exact lv_icmp_eq C.1.1 C.1.2.1 d ht (fun _ => k1 H locs ls h1 h2 h3) (fun z => absurd rfl z)
theorem and31 (x : Int) : ∃ z : Int, 0 ≤ z ∧ z < 32 ∧ iI x &&& iI 31 = iI z := by
  refine ⟨(iI x &&& iI 31).toInt, ?_, ?_, iI_of _⟩
  all_goals
    have h : (iI x &&& iI 31).toBitVec.toNat ≤ 31 := by
      rw [Int32.toBitVec_and, BitVec.toNat_and]
      exact Nat.and_le_right
    have e : (iI x &&& iI 31).toInt = ((iI x &&& iI 31).toBitVec.toNat : Int) := by
      show (iI x &&& iI 31).toBitVec.toInt = _
      rw [BitVec.toInt_eq_toNat_of_lt (by omega)]
    omega
theorem J_tabOut (C : Cx p l e R s m args below meth c cy D ad A nL cc own Ts) {dflt lo hi x : Int} {offs : Array Int} {len tgt : Nat} (hx : I32 x) (d : decode cc pc = .ok (.tableswitch dflt lo hi offs, len)) (h : x < lo ∨ hi < x) (ht : (pc : Int) + dflt = (tgt : Int)) (k1 : JW p l e R s m args below meth c cy D ad A nL cells slots Q σ tgt lv st) : JW p l e R s m args below meth c cy D ad A nL cells slots Q σ pc lv (.int (iI x) :: st) := by
  intro H locs ls h1 h2 h3
  exact lv_tableOut C.1.1 C.1.2.1 d (by rw [iI_toInt hx]; exact h) ht (k1 H locs ls h1 h2 h3)
theorem J_tabIn (C : Cx p l e R s m args below meth c cy D ad A nL cc own Ts) {dflt lo hi x off : Int} {offs : Array Int} {len tgt : Nat} (hx : I32 x) (d : decode cc pc = .ok (.tableswitch dflt lo hi offs, len)) (h1' : ¬ x < lo) (h2' : ¬ hi < x) (ho : offs[(x - lo).toNat]? = some off) (ht : (pc : Int) + off = (tgt : Int)) (k1 : JW p l e R s m args below meth c cy D ad A nL cells slots Q σ tgt lv st) : JW p l e R s m args below meth c cy D ad A nL cells slots Q σ pc lv (.int (iI x) :: st) := by
  intro H locs ls h1 h2 h3
  exact lv_tableIn C.1.1 C.1.2.1 d (by rw [iI_toInt hx]; exact h1') (by rw [iI_toInt hx]; exact h2') (by rw [iI_toInt hx]; exact ho) ht (k1 H locs ls h1 h2 h3)
end LAW
