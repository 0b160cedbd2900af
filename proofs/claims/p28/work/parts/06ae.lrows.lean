section JN
variable {p : Program} {l : Launch} {e : Env} {R : Room} {s : State} {m : MethodId} {args : Array Value} {below : List Frame} {meth : Method} {c : Code} {cy : Nat → ClassId} {D : va_G} {ad : Ad} {A : Nat → Prop} {nL : Nat} {cells slots : Nat} {Q : State → Prop} {σ : Sg} {pc : Nat} {lv : List (Option Value)} {st : List Value} {cc : ByteArray} {own : String} {Ts : List Cond}
theorem iI_div {a b : Int} (ha : 0 ≤ a ∧ a < 2147483648) (hb : 0 < b ∧ b < 2147483648) : iI a / iI b = iI (a / b) := by
  apply Int32.toInt_inj.mp
  have h0 : 0 ≤ a / b := Int.ediv_nonneg ha.1 (by omega)
  have h1 : a / b ≤ a := Int.ediv_le_self b ha.1
  rw [Int32.toInt_div, iI_toInt (by omega), iI_toInt (by omega), iI_toInt (by omega), Int.tdiv_eq_ediv_of_nonneg ha.1]
  exact Int.bmod_eq_of_le (by simp; omega) (by simp; omega)
theorem iI_rem {a b : Int} (ha : 0 ≤ a ∧ a < 2147483648) (hb : 0 < b ∧ b < 2147483648) : iI a - iI a / iI b * iI b = iI (a % b) := by
  rw [iI_div ha hb, iI_mul, iI_sub]
  congr 1
  rw [Int.emod_def, Int.mul_comm]
theorem lI_neg (a : Int) : -(lI a) = lI (-a) := by unfold lI; rw [Int64.ofInt_neg]
theorem iI_n0 {b : Int} (hb : 0 < b ∧ b < 2147483648) : ¬ iI b = 0 := fun z => by
  have := (iI_eq (a := b) (b := 0) (by omega) (by omega)).mp (z.trans (by rfl))
  omega
theorem J_idiv (C : Cx p l e R s m args below meth c cy D ad A nL cc own Ts) {x y : Int} (ha : 0 ≤ x ∧ x < 2147483648) (hb : 0 < y ∧ y < 2147483648) (d : decode cc pc = .ok (.idiv, 1)) (k : JW p l e R s m args below meth c cy D ad A nL cells slots Q σ (pc + 1) lv (.int (iI (x / y)) :: st)) : JW p l e R s m args below meth c cy D ad A nL cells slots Q σ pc lv (.int (iI y) :: .int (iI x) :: st) := by
  intro H locs ls h1 h2 h3
  exact lv_idiv C.1.1 C.1.2.1 d (iI_n0 hb) (by rw [iI_div ha hb]; exact k H locs ls h1 h2 h3)
theorem J_irem (C : Cx p l e R s m args below meth c cy D ad A nL cc own Ts) {x y : Int} (ha : 0 ≤ x ∧ x < 2147483648) (hb : 0 < y ∧ y < 2147483648) (d : decode cc pc = .ok (.irem, 1)) (k : JW p l e R s m args below meth c cy D ad A nL cells slots Q σ (pc + 1) lv (.int (iI (x % y)) :: st)) : JW p l e R s m args below meth c cy D ad A nL cells slots Q σ pc lv (.int (iI y) :: .int (iI x) :: st) := by
  intro H locs ls h1 h2 h3
  exact lv_irem C.1.1 C.1.2.1 d (iI_n0 hb) (by rw [iI_rem ha hb]; exact k H locs ls h1 h2 h3)
theorem J_ixor (C : Cx p l e R s m args below meth c cy D ad A nL cc own Ts) {x y z : Int} (hz : iI x ^^^ iI y = iI z) (d : decode cc pc = .ok (.ixor, 1)) (k : JW p l e R s m args below meth c cy D ad A nL cells slots Q σ (pc + 1) lv (.int (iI z) :: st)) : JW p l e R s m args below meth c cy D ad A nL cells slots Q σ pc lv (.int (iI y) :: .int (iI x) :: st) := by
  intro H locs ls h1 h2 h3
  exact lv_ixor C.1.1 C.1.2.1 d (by rw [hz]; exact k H locs ls h1 h2 h3)
theorem J_ior (C : Cx p l e R s m args below meth c cy D ad A nL cc own Ts) {x y z : Int} (hz : iI x ||| iI y = iI z) (d : decode cc pc = .ok (.ior, 1)) (k : JW p l e R s m args below meth c cy D ad A nL cells slots Q σ (pc + 1) lv (.int (iI z) :: st)) : JW p l e R s m args below meth c cy D ad A nL cells slots Q σ pc lv (.int (iI y) :: .int (iI x) :: st) := by
  intro H locs ls h1 h2 h3
  exact lv_ior C.1.1 C.1.2.1 d (by rw [hz]; exact k H locs ls h1 h2 h3)
theorem J_ishl (C : Cx p l e R s m args below meth c cy D ad A nL cc own Ts) {x y z : Int} (hz : iI x <<< (iI y &&& 31) = iI z) (d : decode cc pc = .ok (.ishl, 1)) (k : JW p l e R s m args below meth c cy D ad A nL cells slots Q σ (pc + 1) lv (.int (iI z) :: st)) : JW p l e R s m args below meth c cy D ad A nL cells slots Q σ pc lv (.int (iI y) :: .int (iI x) :: st) := by
  intro H locs ls h1 h2 h3
  exact lv_ishl C.1.1 C.1.2.1 d (by rw [hz]; exact k H locs ls h1 h2 h3)
theorem J_ishr (C : Cx p l e R s m args below meth c cy D ad A nL cc own Ts) {x y z : Int} (hz : iI x >>> (iI y &&& 31) = iI z) (d : decode cc pc = .ok (.ishr, 1)) (k : JW p l e R s m args below meth c cy D ad A nL cells slots Q σ (pc + 1) lv (.int (iI z) :: st)) : JW p l e R s m args below meth c cy D ad A nL cells slots Q σ pc lv (.int (iI y) :: .int (iI x) :: st) := by
  intro H locs ls h1 h2 h3
  exact lv_ishr C.1.1 C.1.2.1 d (by rw [hz]; exact k H locs ls h1 h2 h3)
theorem J_lneg (C : Cx p l e R s m args below meth c cy D ad A nL cc own Ts) {x : Int} (d : decode cc pc = .ok (.lneg, 1)) (k : JW p l e R s m args below meth c cy D ad A nL cells slots Q σ (pc + 1) lv (.long (lI (-x)) :: st)) : JW p l e R s m args below meth c cy D ad A nL cells slots Q σ pc lv (.long (lI x) :: st) := by
  intro H locs ls h1 h2 h3
  exact lv_lneg C.1.1 C.1.2.1 d (by rw [lI_neg]; exact k H locs ls h1 h2 h3)
theorem J_icmp_eqS (C : Cx p l e R s m args below meth c cy D ad A nL cc own Ts) {x y off : Int} {tgt : Nat} (h : x = y) (d : decode cc pc = .ok (.if_icmp .eq off, 3)) (ht : (pc : Int) + off = (tgt : Int)) (k1 : JW p l e R s m args below meth c cy D ad A nL cells slots Q σ tgt lv st) : JW p l e R s m args below meth c cy D ad A nL cells slots Q σ pc lv (.int (iI y) :: .int (iI x) :: st) := by
  intro H locs ls h1 h2 h3
  subst h
  exact lv_icmp_eq C.1.1 C.1.2.1 d ht (fun _ => k1 H locs ls h1 h2 h3) (fun z => absurd rfl z)
theorem J_icmp_neS (C : Cx p l e R s m args below meth c cy D ad A nL cc own Ts) {x y off : Int} {tgt : Nat} (h : x = y) (d : decode cc pc = .ok (.if_icmp .ne off, 3)) (ht : (pc : Int) + off = (tgt : Int)) (k1 : JW p l e R s m args below meth c cy D ad A nL cells slots Q σ (pc + 3) lv st) : JW p l e R s m args below meth c cy D ad A nL cells slots Q σ pc lv (.int (iI y) :: .int (iI x) :: st) := by
  intro H locs ls h1 h2 h3
  subst h
  exact lv_icmp_ne C.1.1 C.1.2.1 d ht (fun z => absurd rfl z) (fun _ => k1 H locs ls h1 h2 h3)
theorem lI_rng (x : Int64) : I64 x.toInt := ⟨by have := Int64.le_toInt x; omega, by have := Int64.toInt_lt x; omega⟩
theorem J_lif_neS (C : Cx p l e R s m args below meth c cy D ad A nL cc own Ts) {x y off : Int} {tgt : Nat} (h : x = y) (d : decode cc pc = .ok (.lcmp, 1)) (d2 : decode cc (pc + 1) = .ok (.ifCond .ne off, 3)) (ht : ((pc + 1 : Nat) : Int) + off = (tgt : Int)) (k1 : JW p l e R s m args below meth c cy D ad A nL cells slots Q σ (pc + 1 + 3) lv st) : JW p l e R s m args below meth c cy D ad A nL cells slots Q σ pc lv (.long (lI y) :: .long (lI x) :: st) := by
  subst h
  rw [lI_of (lI x)]
  exact J_lif_ne C (lI_rng _) (lI_rng _) d d2 ht (fun z => absurd rfl z) (fun _ => k1)
/-- one account's addresses among another's -/
def Sub (ad ad' : Ad) : Prop := ∀ a : Nat, a < 41 → Ex ad a → Ex ad' a ∧ ∀ b : Int, ad' a b = ad a b
theorem Sub.trans {a1 a2 a3 : Ad} (h : Sub a1 a2) (h' : Sub a2 a3) : Sub a1 a3 := fun a x y => ⟨(h' a x (h a x y).1).1, fun b => ((h' a x (h a x y).1).2 b).trans ((h a x y).2 b)⟩
theorem cnt_lt {kd : Nat} {k : Int} (h0 : 0 ≤ k) (h : k < cnt kd) : kd < 41 := by
  unfold cnt at h
  by_cases h4 : kd < 41
  · exact h4
  · rw [if_neg (by omega), if_neg (by omega), if_neg (by omega), if_neg h4] at h
    omega
theorem wM_ad {cy : Nat → ClassId} {a1 a2 : Ad} {σ : Sg} {kd : Nat} {k : Int} (h : ∀ a : Nat, a < 22 → ∀ b : Int, a2 a b = a1 a b) : wM cy a2 σ kd k = wM cy a1 σ kd k := by
  unfold wM
  split <;> first | rfl | simp only [h _ (show (0 : Nat) < 22 by decide), h _ (show (1 : Nat) < 22 by decide), h _ (show (2 : Nat) < 22 by decide), h _ (show (3 : Nat) < 22 by decide), h _ (show (4 : Nat) < 22 by decide), h _ (show (5 : Nat) < 22 by decide), h _ (show (6 : Nat) < 22 by decide), h _ (show (7 : Nat) < 22 by decide), h _ (show (8 : Nat) < 22 by decide), h _ (show (9 : Nat) < 22 by decide), h _ (show (10 : Nat) < 22 by decide), h _ (show (11 : Nat) < 22 by decide), h _ (show (12 : Nat) < 22 by decide), h _ (show (13 : Nat) < 22 by decide), h _ (show (14 : Nat) < 22 by decide), h _ (show (15 : Nat) < 22 by decide), h _ (show (16 : Nat) < 22 by decide), h _ (show (17 : Nat) < 22 by decide), h _ (show (18 : Nat) < 22 by decide), h _ (show (19 : Nat) < 22 by decide), h _ (show (20 : Nat) < 22 by decide), h _ (show (21 : Nat) < 22 by decide)]
theorem Sub.lo {a1 a2 : Ad} (h : Sub a1 a2) : ∀ a : Nat, a < 22 → ∀ b : Int, a2 a b = a1 a b := fun a x => (h a (by omega) (Or.inl x)).2
theorem IsL.up {a1 a2 : Ad} {kd n : Nat} (h : IsL a1 kd n) (hs : Sub a1 a2) (hk : kd < 41) : IsL a2 kd n := ⟨h.1, (hs kd hk h.2.1).1, fun cy τ k => (wM_ad hs.lo).trans (h.2.2 cy τ k)⟩
theorem IsI.up {a1 a2 : Ad} {kd n : Nat} (h : IsI a1 kd n) (hs : Sub a1 a2) (hk : kd < 41) : IsI a2 kd n := ⟨h.1, (hs kd hk h.2.1).1, fun cy τ k => (wM_ad hs.lo).trans (h.2.2 cy τ k)⟩
theorem Wd.back {cy : Nat → ClassId} {D : va_G} {a1 a2 : Ad} {σ : Sg} {H : Heap} (hs : Sub a1 a2) (h : Wd cy D a2 σ H) : Wd cy D a1 σ H := fun kd k x y z => by
  have g := hs kd (cnt_lt x y) z
  have := h kd k x y g.1
  rw [wM_ad hs.lo, g.2 k] at this
  exact this
theorem J_back {ad' : Ad} (hs : Sub ad ad') (k : JW p l e R s m args below meth c cy D ad A nL cells slots Q σ pc lv st) : JW p l e R s m args below meth c cy D ad' A nL cells slots Q σ pc lv st := fun H locs ls h1 h2 h3 => k H locs ls (h1.back hs) h2 h3
/-- a kind made anew: all 0 -/
def sz0 (σ : Sg) (kd : Nat) : Sg := fun a b c => if a = kd then 0 else σ a b c
theorem sz0_at {σ : Sg} {kd : Nat} {b c : Int} : sz0 σ kd kd b c = 0 := if_pos rfl
theorem sz0_nk {σ : Sg} {kd a : Nat} {b c : Int} (h : a ≠ kd) : sz0 σ kd a b c = σ a b c := if_neg h
def adN (ad : Ad) (kd q : Nat) : Ad := fun a b => if a = kd then q else if a = 1000 ∧ b = (kd : Int) then 1 else ad a b
theorem adN_ex {kd q a : Nat} (hk : kd < 41) (ha : a ≠ kd) : Ex (adN ad kd q) a ↔ Ex ad a := by
  unfold Ex adN
  rw [if_neg (by omega), if_neg (by omega)]
theorem adN_kd {kd q : Nat} (hk : kd < 41) : adN ad kd q 1000 (kd : Int) = 1 := by
  unfold adN
  rw [if_neg (by omega), if_pos ⟨rfl, rfl⟩]
theorem adN_ne {kd q a : Nat} {b : Int} (ha : a ≠ kd) (h : a ≠ 1000) : adN ad kd q a b = ad a b := by
  unfold adN
  rw [if_neg ha, if_neg (by omega)]
theorem adN_at {kd q : Nat} {b : Int} : adN ad kd q kd b = q := if_pos rfl
theorem adN_sub {kd q : Nat} (hk : 22 ≤ kd ∧ kd < 41) (hf : ¬ ad 1000 (kd : Int) = 1) : Sub ad (adN ad kd q) := fun a x y => by
  have ha : a ≠ kd := fun z => by
    subst z
    exact y.elim (fun z => by omega) hf
  exact ⟨(adN_ex hk.2 ha).mpr y, fun b => adN_ne ha (by omega)⟩
theorem cnt_law {kd : Nat} {k : Int} (hk : 22 ≤ kd) (h0 : 0 ≤ k) (h : k < cnt kd) : k = 0 := by
  unfold cnt at h
  rw [if_neg (by omega), if_neg (by omega), if_neg (by omega)] at h
  split at h <;> omega
theorem J_newL (C : Cx p l e R s m args below meth c cy D ad A nL cc own Ts) {N kd : Nat} (hk : 22 ≤ kd ∧ kd < 41) (hw : ∀ (a : Ad) (τ : Sg), wM cy a τ kd 0 = .inl (cy 1, N, .inr (.inl (fun j => lI (τ kd 0 (j : Int)))))) (hfr : ¬ ad 1000 (kd : Int) = 1) (harr : Cond.arrayClass .long ∈ Ts) (hN : ¬ iI (N : Int) < 0 ∧ (iI (N : Int)).toNatClampNeg = N) (hb : N * componentBytes .long ≤ 536870912) (hf : cells + 1 ≤ R.cells ∧ slots + N ≤ R.slots) (d : decode cc pc = .ok (.newarray .long, 2)) (kk : ∀ (ad' : Ad) (q : Nat), ad' kd 0 = q → Inj ad' → Cx p l e R s m args below meth c cy D ad' A nL cc own Ts → (∀ a : Nat, a ≠ kd → ad' 1000 (a : Int) = ad 1000 (a : Int)) → Sub ad ad' → ad' 1000 (kd : Int) = 1 → JW p l e R s m args below meth c cy D ad' A nL (cells + 1) (slots + N) Q (sz0 σ kd) (pc + 2) lv (.ref q :: st)) : JW p l e R s m args below meth c cy D ad A nL cells slots Q σ pc lv (.int (iI (N : Int)) :: st) := by
  intro H locs ls h1 h2 h3
  refine va_newaK (atype := .long) C.1.1 C.1.2.1 (C.1.2.2.2.2 _ harr) rfl d rfl hN.1 hN.2 hb hf.1 hf.2 rfl fun H1 cA e1 z1 o1 hAr hNm => ?_
  have hcA : cA = cy 1 := Option.some.inj (hNm.symm.trans (C.2.2.2.1.1.2 1 _ rfl).2)
  subst hcA
  have hz : H.size < H1.size := by omega
  have hsub := adN_sub (q := H.size) hk hfr
  have key : ∀ (a : Nat) (b : Int), 0 ≤ b → b < cnt a → Ex (adN ad kd H.size) a → (a = kd ∧ b = 0) ∨ (a ≠ kd ∧ Ex ad a) := fun a b x y z => by
    by_cases ha : a = kd
    · subst ha
      exact Or.inl ⟨rfl, cnt_law hk.1 x y⟩
    · exact Or.inr ⟨ha, (adN_ex hk.2 ha).mp z⟩
  have hAw : ∀ q, Aw (adN ad kd H.size) q → Aw ad q ∨ s.heap.size ≤ q := fun q z => by
    obtain ⟨a, b, x, y, z, rfl⟩ := z
    rcases key a b x y z with ⟨rfl, rfl⟩ | ⟨g1, g2⟩
    · rw [adN_at]; exact Or.inr h2.1
    · have := cnt_lt x y
      exact Or.inl ⟨a, b, x, y, g2, adN_ne g1 (by omega)⟩
  have hAr' : ∀ q, Ar (adN ad kd H.size) s.heap.size q → Ar ad s.heap.size q := fun q z => z.elim (hAw q) Or.inr
  have hinj : Inj (adN ad kd H.size) := fun a b i j x1 x2 y1 y2 za zb e => by
    rcases key a i x1 x2 za with ⟨rfl, rfl⟩ | ⟨g1, g2⟩
    · rcases key b j y1 y2 zb with ⟨rfl, rfl⟩ | ⟨g3, g4⟩
      · exact ⟨rfl, rfl⟩
      · have := cnt_lt y1 y2
        rw [adN_at, adN_ne g3 (by omega)] at e
        have := (h1 b j y1 y2 g4).lt
        dsimp only at this
        omega
    · have := cnt_lt x1 x2
      rcases key b j y1 y2 zb with ⟨rfl, rfl⟩ | ⟨g3, g4⟩
      · rw [adN_at, adN_ne g1 (by omega)] at e
        have := (h1 a i x1 x2 g2).lt
        dsimp only at this
        omega
      · have := cnt_lt y1 y2
        rw [adN_ne g1 (by omega), adN_ne g3 (by omega)] at e
        exact C.2.1 a b i j x1 x2 y1 y2 g2 g4 e
  have hS := C.2.2.2.1
  refine kk (adN ad kd H.size) _ adN_at hinj ⟨C.1, hinj, fun q z => C.2.2.1 q (hAr' q z), ⟨hS.1, vx_Zq.narrow (Zq_up hS.2.1) (fun q z => hAw q z), vx_Zq.narrow (Zq_up hS.2.2.1) (fun q z => hAw q z), hS.2.2.2⟩, C.2.2.2.2.1, C.2.2.2.2.2.1, fun q z => (C.2.2.2.2.2.2 q z).elim (fun zz => ?_) Or.inr⟩ (fun a ha => ?_) hsub (adN_kd hk.2) H1 locs ls (fun a b x y z => ?_) ⟨Nat.le_trans h2.1 (by omega), fun x h1' h2' => (o1 x (Nat.lt_of_lt_of_le h1' h2.1)).trans (h2.2.1 x h1' h2'), h2.2.2⟩ ?_
  · obtain ⟨a, b, x, y, w, e⟩ := zz
    subst e
    have g := hsub a (cnt_lt x y) w
    exact Or.inl ⟨a, b, x, y, g.1, (g.2 b).symm⟩
  · unfold adN
    rw [if_neg (by omega), if_neg (by omega)]
  · rcases key a b x y z with ⟨rfl, rfl⟩ | ⟨g1, g2⟩
    · rw [adN_at, hw]
      have e : (fun j : Nat => lI (sz0 σ a a 0 (j : Int))) = fun _ => lI 0 := by funext j; rw [sz0_at]
      rw [e]
      exact e1
    · have := cnt_lt x y
      rw [adN_ne g1 (by omega), wM_ad hsub.lo, wM_congr (σ := σ) (fun j => sz0_nk g1)]
      have g := h1 a b x y g2
      exact g.kept (o1 _ g.lt)
  · exact h3
end JN
