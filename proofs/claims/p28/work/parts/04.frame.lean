abbrev Sg : Type := Nat → Int → Int → Int
abbrev Ad : Type := Nat → Int → Nat
def iI (z : Int) : Int32 := Int32.ofInt z
def lI (z : Int) : Int64 := Int64.ofInt z
abbrev I32 (z : Int) : Prop := -2147483648 ≤ z ∧ z < 2147483648
abbrev I64 (z : Int) : Prop := -9223372036854775808 ≤ z ∧ z < 9223372036854775808
theorem iI_toInt {z : Int} (h : I32 z) : (iI z).toInt = z := by
  unfold iI
  rw [Int32.toInt_ofInt]
  exact Int.bmod_eq_of_le (by simp; omega) (by simp; omega)
theorem lI_toInt {z : Int} (h : I64 z) : (lI z).toInt = z := by
  unfold lI
  rw [Int64.toInt_ofInt]
  exact Int.bmod_eq_of_le (by simp; omega) (by simp; omega)
theorem iI_of (x : Int32) : x = iI x.toInt := by unfold iI; simp
theorem lI_of (x : Int64) : x = lI x.toInt := by unfold lI; simp
theorem i32_r (x : Int32) : I32 x.toInt := ⟨by have := Int32.le_toInt x; omega, by have := Int32.toInt_lt x; omega⟩
theorem iI_add (a b : Int) : iI a + iI b = iI (a + b) := by unfold iI; rw [Int32.ofInt_add]
theorem iI_sub (a b : Int) : iI a - iI b = iI (a - b) := by unfold iI; rw [Int32.ofInt_sub]
theorem iI_mul (a b : Int) : iI a * iI b = iI (a * b) := by unfold iI; rw [Int32.ofInt_mul]
theorem iI_neg (a : Int) : -(iI a) = iI (-a) := by unfold iI; rw [Int32.ofInt_neg]
theorem lI_add (a b : Int) : lI a + lI b = lI (a + b) := by unfold lI; rw [Int64.ofInt_add]
theorem lI_sub (a b : Int) : lI a - lI b = lI (a - b) := by unfold lI; rw [Int64.ofInt_sub]
theorem lI_mul (a b : Int) : lI a * lI b = lI (a * b) := by unfold lI; rw [Int64.ofInt_mul]
theorem iI_lt {a b : Int} (ha : I32 a) (hb : I32 b) : iI a < iI b ↔ a < b := by rw [Int32.lt_iff_toInt_lt, iI_toInt ha, iI_toInt hb]
theorem iI_le {a b : Int} (ha : I32 a) (hb : I32 b) : iI a ≤ iI b ↔ a ≤ b := by rw [Int32.le_iff_toInt_le, iI_toInt ha, iI_toInt hb]
theorem iI_eq {a b : Int} (ha : I32 a) (hb : I32 b) : iI a = iI b ↔ a = b := ⟨fun h => by rw [← iI_toInt ha, ← iI_toInt hb, h], fun h => by rw [h]⟩
theorem lI_lt {a b : Int} (ha : I64 a) (hb : I64 b) : lI a < lI b ↔ a < b := by rw [Int64.lt_iff_toInt_lt, lI_toInt ha, lI_toInt hb]
theorem lI_eq {a b : Int} (ha : I64 a) (hb : I64 b) : lI a = lI b ↔ a = b := ⟨fun h => by rw [← lI_toInt ha, ← lI_toInt hb, h], fun h => by rw [h]⟩
theorem iI_wide {a : Int} (ha : I32 a) : (iI a).toInt64 = lI a := by
  apply Int64.toInt_inj.mp
  rw [Int32.toInt_toInt64, iI_toInt ha, lI_toInt (by omega)]
theorem lI_low (a : Int) : (lI a).toInt32 = iI a := by
  unfold lI iI
  simp
theorem lI_div {a b : Int} (ha : 0 ≤ a ∧ a < 9223372036854775808) (hb : 0 < b ∧ b < 9223372036854775808) : lI a / lI b = lI (a / b) := by
  have e1 : lI a = lN a.toNat := by unfold lI lN; rw [← Int64.ofInt_eq_ofNat]; congr 1; omega
  have e2 : lI b = lN b.toNat := by unfold lI lN; rw [← Int64.ofInt_eq_ofNat]; congr 1; omega
  have e3 : lI (a / b) = lN (a.toNat / b.toNat) := by
    unfold lI lN; rw [← Int64.ofInt_eq_ofNat]; congr 1
    rw [Int.natCast_ediv, Int.toNat_of_nonneg ha.1, Int.toNat_of_nonneg (by omega)]
  rw [e1, e2, e3, pk_lDiv (by omega) (by omega) (by omega)]
theorem lI_rem {a b : Int} (ha : 0 ≤ a ∧ a < 9223372036854775808) (hb : 0 < b ∧ b < 9223372036854775808) : lI a - lI a / lI b * lI b = lI (a % b) := by
  rw [lI_div ha hb, lI_mul, lI_sub]
  congr 1
  rw [Int.emod_def, Int.mul_comm]
theorem iI_ix {z : Int} {n : Nat} (h0 : 0 ≤ z) (h : z < n) (hn : n ≤ 1000) : vp_in (iI z) n ∧ (iI z).toNatClampNeg = z.toNat := by
  have e1 : iI z = nI z.toNat := by unfold iI nI; rw [← Int32.ofInt_eq_ofNat]; congr 1; omega
  rw [e1]
  exact ⟨vp_in_nI (by omega) (by omega), nI_clamp (by omega)⟩
def su (σ : Sg) (kd : Nat) (k j v : Int) : Sg := fun a b c => if a = kd ∧ b = k ∧ c = j then v else σ a b c

def cnt (kd : Nat) : Int := if kd < 12 then 1 else if kd < 19 then 6 else if kd < 22 then 20 else if kd < 41 then 1 else 0
def wM (cy : Nat → ClassId) (ad : Ad) (σ : Sg) (kd : Nat) (k : Int) : va_E := match kd with
  | 0 => .inr (3, [.ref (ad 1 0), .int (iI (σ 0 k 1)), .int (iI (σ 0 k 2)), .ref (ad 2 0), .int (iI (σ 0 k 4)), .ref (ad 3 0), .ref (ad 4 0), .int (iI (σ 0 k 7)), .ref (ad 5 0), .int (iI (σ 0 k 9)), .ref (ad 6 0), .ref (ad 7 0), .ref (ad 9 0), .ref (ad 10 0), .ref (ad 11 0)])
  | 1 => .inl (cy 0, 5, .inl (fun j => iI (σ 1 k (j : Int))))
  | 2 => .inl (cy 3, 6, .inr (.inr (.inr (.inr (fun j => some (ad 12 (j : Int)))))))
  | 3 => .inl (cy 0, 60, .inl (fun j => iI (σ 3 k (j : Int))))
  | 4 => .inl (cy 0, 60, .inl (fun j => iI (σ 4 k (j : Int))))
  | 5 => .inl (cy 4, 20, .inr (.inr (.inr (.inr (fun j => some (ad 19 (j : Int)))))))
  | 6 => .inl (cy 0, 5, .inl (fun j => iI (σ 6 k (j : Int))))
  | 7 => .inr (1, [.ref (ad 8 0)])
  | 8 => .inl (cy 1, 5, .inr (.inl (fun j => lI (σ 8 k (j : Int)))))
  | 9 => .inl (cy 0, 5, .inl (fun j => iI (σ 9 k (j : Int))))
  | 10 => .inl (cy 0, 5, .inl (fun j => iI (σ 10 k (j : Int))))
  | 11 => .inl (cy 0, 5, .inl (fun j => iI (σ 11 k (j : Int))))
  | 12 => .inr (2, [.int (iI (σ 12 k 0)), .int (iI (σ 12 k 1)), .ref (ad 13 k), .ref (ad 14 k), .ref (ad 15 k), .ref (ad 16 k), .ref (ad 17 k), .ref (ad 18 k)])
  | 13 => .inl (cy 2, 5, .inl (fun j => iI (σ 13 k (j : Int))))
  | 14 => .inl (cy 2, 5, .inl (fun j => iI (σ 14 k (j : Int))))
  | 15 => .inl (cy 1, 5, .inr (.inl (fun j => lI (σ 15 k (j : Int)))))
  | 16 => .inl (cy 0, 5, .inl (fun j => iI (σ 16 k (j : Int))))
  | 17 => .inl (cy 0, 5, .inl (fun j => iI (σ 17 k (j : Int))))
  | 18 => .inl (cy 0, 5, .inl (fun j => iI (σ 18 k (j : Int))))
  | 19 => .inr (0, [.ref (ad 20 k), .ref (ad 21 k)])
  | 20 => .inl (cy 0, 5, .inl (fun j => iI (σ 20 k (j : Int))))
  | 21 => .inl (cy 0, 5, .inl (fun j => iI (σ 21 k (j : Int))))
  | 22 => .inl (cy 0, 5, .inl (fun j => iI (σ 22 k (j : Int))))
  | 23 => .inl (cy 0, 15, .inl (fun j => iI (σ 23 k (j : Int))))
  | 24 => .inl (cy 0, 3, .inl (fun j => iI (σ 24 k (j : Int))))
  | 25 => .inl (cy 0, 48, .inl (fun j => iI (σ 25 k (j : Int))))
  | 26 => .inl (cy 0, 30, .inl (fun j => iI (σ 26 k (j : Int))))
  | 27 => .inl (cy 0, 30, .inl (fun j => iI (σ 27 k (j : Int))))
  | 28 => .inl (cy 0, 5, .inl (fun j => iI (σ 28 k (j : Int))))
  | 29 => .inl (cy 0, 5, .inl (fun j => iI (σ 29 k (j : Int))))
  | 30 => .inl (cy 0, 3, .inl (fun j => iI (σ 30 k (j : Int))))
  | 31 => .inl (cy 1, 25, .inr (.inl (fun j => lI (σ 31 k (j : Int)))))
  | 32 => .inl (cy 1, 5, .inr (.inl (fun j => lI (σ 32 k (j : Int)))))
  | 33 => .inl (cy 1, 5, .inr (.inl (fun j => lI (σ 33 k (j : Int)))))
  | 34 => .inl (cy 1, 25, .inr (.inl (fun j => lI (σ 34 k (j : Int)))))
  | 35 => .inl (cy 1, 5, .inr (.inl (fun j => lI (σ 35 k (j : Int)))))
  | 36 => .inl (cy 1, 5, .inr (.inl (fun j => lI (σ 36 k (j : Int)))))
  | 37 => .inl (cy 1, 5, .inr (.inl (fun j => lI (σ 37 k (j : Int)))))
  | 38 => .inl (cy 1, 5, .inr (.inl (fun j => lI (σ 38 k (j : Int)))))
  | 39 => .inl (cy 1, 5, .inr (.inl (fun j => lI (σ 39 k (j : Int)))))
  | 40 => .inl (cy 1, 5, .inr (.inl (fun j => lI (σ 40 k (j : Int)))))
  | _ => .inl (cy 0, 0, .inl (fun _ => 0))
theorem wM_congr {cy : Nat → ClassId} {ad : Ad} {σ τ : Sg} {kd : Nat} {k : Int} (h : ∀ j, τ kd k j = σ kd k j) : wM cy ad τ kd k = wM cy ad σ kd k := by
  unfold wM
  split <;> simp only [h]
/-- the kinds that are there: the class's own, and of the law's those that are marked -/
def Ex (ad : Ad) (kd : Nat) : Prop := kd < 22 ∨ ad 1000 (kd : Int) = 1
def IsI (ad : Ad) (kd n : Nat) : Prop := n ≤ 1000 ∧ Ex ad kd ∧ ∀ (cy : Nat → ClassId) (σ : Sg) (k : Int), wM cy ad σ kd k = .inl (cy 0, n, .inl (fun j => iI (σ kd k (j : Int))))
def IsZ (ad : Ad) (kd n : Nat) : Prop := n ≤ 1000 ∧ Ex ad kd ∧ ∀ (cy : Nat → ClassId) (σ : Sg) (k : Int), wM cy ad σ kd k = .inl (cy 2, n, .inl (fun j => iI (σ kd k (j : Int))))
def IsL (ad : Ad) (kd n : Nat) : Prop := n ≤ 1000 ∧ Ex ad kd ∧ ∀ (cy : Nat → ClassId) (σ : Sg) (k : Int), wM cy ad σ kd k = .inl (cy 1, n, .inr (.inl (fun j => lI (σ kd k (j : Int)))))
def IsR (ad : Ad) (kd n t r : Nat) : Prop := n ≤ 1000 ∧ Ex ad kd ∧ ∀ (cy : Nat → ClassId) (σ : Sg) (k : Int), wM cy ad σ kd k = .inl (cy r, n, .inr (.inr (.inr (.inr (fun j => some (ad t (j : Int)))))))
def Rcv (C : String) (kd : Nat) : Prop := kd < 22 ∧ ∃ (ci : Nat) (T : u_T) (N : Nat), vwCl[ci]? = some (C, T, N) ∧ ∀ (cy : Nat → ClassId) (ad : Ad) (σ : Sg) (k : Int), ∃ fs, wM cy ad σ kd k = .inr (ci, fs)
theorem k1 {ad : Ad} : IsI ad 1 5 := ⟨by decide, Or.inl (by decide), fun _ _ _ => rfl⟩
theorem k3 {ad : Ad} : IsI ad 3 60 := ⟨by decide, Or.inl (by decide), fun _ _ _ => rfl⟩
theorem k4 {ad : Ad} : IsI ad 4 60 := ⟨by decide, Or.inl (by decide), fun _ _ _ => rfl⟩
theorem k6 {ad : Ad} : IsI ad 6 5 := ⟨by decide, Or.inl (by decide), fun _ _ _ => rfl⟩
theorem k8 {ad : Ad} : IsL ad 8 5 := ⟨by decide, Or.inl (by decide), fun _ _ _ => rfl⟩
theorem k9 {ad : Ad} : IsI ad 9 5 := ⟨by decide, Or.inl (by decide), fun _ _ _ => rfl⟩
theorem k10 {ad : Ad} : IsI ad 10 5 := ⟨by decide, Or.inl (by decide), fun _ _ _ => rfl⟩
theorem k11 {ad : Ad} : IsI ad 11 5 := ⟨by decide, Or.inl (by decide), fun _ _ _ => rfl⟩
theorem k13 {ad : Ad} : IsZ ad 13 5 := ⟨by decide, Or.inl (by decide), fun _ _ _ => rfl⟩
theorem k14 {ad : Ad} : IsZ ad 14 5 := ⟨by decide, Or.inl (by decide), fun _ _ _ => rfl⟩
theorem k15 {ad : Ad} : IsL ad 15 5 := ⟨by decide, Or.inl (by decide), fun _ _ _ => rfl⟩
theorem k16 {ad : Ad} : IsI ad 16 5 := ⟨by decide, Or.inl (by decide), fun _ _ _ => rfl⟩
theorem k17 {ad : Ad} : IsI ad 17 5 := ⟨by decide, Or.inl (by decide), fun _ _ _ => rfl⟩
theorem k18 {ad : Ad} : IsI ad 18 5 := ⟨by decide, Or.inl (by decide), fun _ _ _ => rfl⟩
theorem k20 {ad : Ad} : IsI ad 20 5 := ⟨by decide, Or.inl (by decide), fun _ _ _ => rfl⟩
theorem k21 {ad : Ad} : IsI ad 21 5 := ⟨by decide, Or.inl (by decide), fun _ _ _ => rfl⟩
theorem k22 {ad : Ad} (h : ad 1000 22 = 1) : IsI ad 22 5 := ⟨by decide, Or.inr h, fun _ _ _ => rfl⟩
theorem k23 {ad : Ad} (h : ad 1000 23 = 1) : IsI ad 23 15 := ⟨by decide, Or.inr h, fun _ _ _ => rfl⟩
theorem k24 {ad : Ad} (h : ad 1000 24 = 1) : IsI ad 24 3 := ⟨by decide, Or.inr h, fun _ _ _ => rfl⟩
theorem k25 {ad : Ad} (h : ad 1000 25 = 1) : IsI ad 25 48 := ⟨by decide, Or.inr h, fun _ _ _ => rfl⟩
theorem k26 {ad : Ad} (h : ad 1000 26 = 1) : IsI ad 26 30 := ⟨by decide, Or.inr h, fun _ _ _ => rfl⟩
theorem k27 {ad : Ad} (h : ad 1000 27 = 1) : IsI ad 27 30 := ⟨by decide, Or.inr h, fun _ _ _ => rfl⟩
theorem k28 {ad : Ad} (h : ad 1000 28 = 1) : IsI ad 28 5 := ⟨by decide, Or.inr h, fun _ _ _ => rfl⟩
theorem k29 {ad : Ad} (h : ad 1000 29 = 1) : IsI ad 29 5 := ⟨by decide, Or.inr h, fun _ _ _ => rfl⟩
theorem k30 {ad : Ad} (h : ad 1000 30 = 1) : IsI ad 30 3 := ⟨by decide, Or.inr h, fun _ _ _ => rfl⟩
theorem k31 {ad : Ad} (h : ad 1000 31 = 1) : IsL ad 31 25 := ⟨by decide, Or.inr h, fun _ _ _ => rfl⟩
theorem k32 {ad : Ad} (h : ad 1000 32 = 1) : IsL ad 32 5 := ⟨by decide, Or.inr h, fun _ _ _ => rfl⟩
theorem k33 {ad : Ad} (h : ad 1000 33 = 1) : IsL ad 33 5 := ⟨by decide, Or.inr h, fun _ _ _ => rfl⟩
theorem k34 {ad : Ad} (h : ad 1000 34 = 1) : IsL ad 34 25 := ⟨by decide, Or.inr h, fun _ _ _ => rfl⟩
theorem k35 {ad : Ad} (h : ad 1000 35 = 1) : IsL ad 35 5 := ⟨by decide, Or.inr h, fun _ _ _ => rfl⟩
theorem k36 {ad : Ad} (h : ad 1000 36 = 1) : IsL ad 36 5 := ⟨by decide, Or.inr h, fun _ _ _ => rfl⟩
theorem k37 {ad : Ad} (h : ad 1000 37 = 1) : IsL ad 37 5 := ⟨by decide, Or.inr h, fun _ _ _ => rfl⟩
theorem k38 {ad : Ad} (h : ad 1000 38 = 1) : IsL ad 38 5 := ⟨by decide, Or.inr h, fun _ _ _ => rfl⟩
theorem k39 {ad : Ad} (h : ad 1000 39 = 1) : IsL ad 39 5 := ⟨by decide, Or.inr h, fun _ _ _ => rfl⟩
theorem k40 {ad : Ad} (h : ad 1000 40 = 1) : IsL ad 40 5 := ⟨by decide, Or.inr h, fun _ _ _ => rfl⟩
theorem k2 {ad : Ad} : IsR ad 2 6 12 3 := ⟨by decide, Or.inl (by decide), fun _ _ _ => rfl⟩
theorem k5 {ad : Ad} : IsR ad 5 20 19 4 := ⟨by decide, Or.inl (by decide), fun _ _ _ => rfl⟩
theorem rc3 : Rcv RX3 0 := ⟨by decide, 3, TX3, 15, rfl, fun _ _ _ _ => ⟨_, rfl⟩⟩
theorem rc1 : Rcv RX1 7 := ⟨by decide, 1, TX1, 1, rfl, fun _ _ _ _ => ⟨_, rfl⟩⟩
theorem rc2 : Rcv RX2 12 := ⟨by decide, 2, TX2, 8, rfl, fun _ _ _ _ => ⟨_, rfl⟩⟩
theorem rc0 : Rcv RX0 19 := ⟨by decide, 0, TX0, 2, rfl, fun _ _ _ _ => ⟨_, rfl⟩⟩
def Wd (cy : Nat → ClassId) (D : va_G) (ad : Ad) (σ : Sg) (H : Heap) : Prop := ∀ (kd : Nat) (k : Int), 0 ≤ k → k < cnt kd → Ex ad kd → va_at D vwCl (ad kd k, wM cy ad σ kd k) H
def Inj (ad : Ad) : Prop := ∀ (a b : Nat) (i j : Int), 0 ≤ i → i < cnt a → 0 ≤ j → j < cnt b → Ex ad a → Ex ad b → ad a i = ad b j → a = b ∧ i = j
def Aw (ad : Ad) : Nat → Prop := fun q => ∃ (kd : Nat) (k : Int), 0 ≤ k ∧ k < cnt kd ∧ Ex ad kd ∧ q = ad kd k
def Ar (ad : Ad) (sz : Nat) : Nat → Prop := fun q => Aw ad q ∨ sz ≤ q
def tysO (cy : Nat → ClassId) : List (ClassId × FieldType) := [(cy 0, .int), (cy 1, .long), (cy 2, .boolean), (cy 3, .object "JointVenture$Well"), (cy 4, .object "JointVenture$CashCall")]
theorem Wd.put {cy : Nat → ClassId} {D : va_G} {ad : Ad} {σ : Sg} {H H1 : Heap} (hI : Inj ad) (h : Wd cy D ad σ H) {kd : Nat} {k j v : Int} (h0 : 0 ≤ k) (h1 : k < cnt kd) (hx : Ex ad kd) (he : va_at D vwCl (ad kd k, wM cy ad (su σ kd k j v) kd k) H1) (oq : ∀ q : Nat, q ≠ ad kd k → H1[q]? = H[q]?) : Wd cy D ad (su σ kd k j v) H1 := by
  intro a b h2 h3 hxa
  by_cases hq : a = kd ∧ b = k
  · obtain ⟨rfl, rfl⟩ := hq
    exact he
  · have e : wM cy ad (su σ kd k j v) a b = wM cy ad σ a b := wM_congr fun c => if_neg fun z => hq ⟨z.1, z.2.1⟩
    rw [e]
    exact (h a b h2 h3 hxa).kept (oq _ fun z => hq (hI a kd b k h2 h3 h0 h1 hxa hx z))
def Lh (ls : Array Slot) (nL : Nat) (lv : List (Option Value)) : Prop := ls.size = nL ∧ lv_wf ls ∧ ∀ (i : Nat) (v : Value), lv[i]? = some (some v) → ls[i]? = some (.val v)
def lhL (lv : List (Option Value)) : List (Nat × Value) := (List.range lv.length).filterMap (fun i => (lv[i]?.join).map (fun v => (i, v)))
theorem lhL_mem {lv : List (Option Value)} {i : Nat} {v : Value} : (i, v) ∈ lhL lv ↔ lv[i]? = some (some v) := by
  unfold lhL
  rw [List.mem_filterMap]
  constructor
  · rintro ⟨j, hj, h⟩
    rw [Option.map_eq_some_iff] at h
    obtain ⟨w, h1, h2⟩ := h
    cases h2
    exact Option.join_eq_some_iff.mp h1
  · intro h
    have hl : i < lv.length := (List.getElem?_eq_some_iff.mp h).1
    exact ⟨i, List.mem_range.mpr hl, by rw [h]; rfl⟩
theorem Lh.has {ls : Array Slot} {nL : Nat} {lv : List (Option Value)} (h : Lh ls nL lv) : lv_has ls nL (lhL lv) := ⟨h.1, h.2.1, fun q hq => h.2.2 q.1 q.2 (lhL_mem.mp hq)⟩
def nlo (o : Option Value) : Bool := match o with
  | some v => v.category == 1
  | none => true
def nlat (lv : List (Option Value)) (i : Nat) : Bool := match i with
  | 0 => true
  | j + 1 => match lv[j]? with
    | some o => nlo o
    | none => true
theorem nlat_spec {lv : List (Option Value)} {i j : Nat} {v : Value} (h : nlat lv i = true) (hv : lv[j]? = some (some v)) (hj : j + 1 = i) : v.category = 1 := by
  subst hj
  simp only [nlat, hv, nlo] at h
  exact beq_iff_eq.mp h
theorem Lh.set1 {ls' : Array Slot} {nL i : Nat} {lv : List (Option Value)} {v : Value} (hn : nlat lv i = true) (h : lv_has ls' nL ((i, v) :: (lhL lv).filter (fun q => !(q.1 == i) && !(q.1 + 1 == i && q.2.category == 2)))) : Lh ls' nL (lv.set i (some v)) := by
  refine ⟨h.1, h.2.1, fun j w hw => ?_⟩
  by_cases hj : i = j
  · subst hj
    have hl : i < lv.length := by
      have := (List.getElem?_eq_some_iff.mp hw).1
      rwa [List.length_set] at this
    rw [List.getElem?_set_self hl] at hw
    cases hw
    exact h.2.2 (i, v) List.mem_cons_self
  · rw [List.getElem?_set_ne hj] at hw
    refine h.2.2 (j, w) (List.mem_cons_of_mem _ (List.mem_filter.mpr ⟨lhL_mem.mpr hw, ?_⟩))
    have h1 : (j == i) = false := by simp; omega
    have h2 : (j + 1 == i && w.category == 2) = false := by
      by_cases hji : j + 1 = i
      · have := nlat_spec hn hw hji
        simp [this]
      · simp [hji]
    simp only [h1, h2]; rfl
theorem Lh.set2 {ls' : Array Slot} {nL i : Nat} {lv : List (Option Value)} {v : Value} (hn : nlat lv i = true) (h : lv_has ls' nL ((i, v) :: (lhL lv).filter (fun q => !(q.1 == i) && (!(q.1 == i + 1) && !(q.1 + 1 == i && q.2.category == 2))))) : Lh ls' nL ((lv.set i (some v)).set (i + 1) none) := by
  refine ⟨h.1, h.2.1, fun j w hw => ?_⟩
  by_cases hj1 : i + 1 = j
  · subst hj1
    have hl := (List.getElem?_eq_some_iff.mp hw).1
    rw [List.getElem?_set_self (by rwa [List.length_set] at hl)] at hw
    cases hw
  · rw [List.getElem?_set_ne hj1] at hw
    by_cases hj : i = j
    · subst hj
      have hl : i < lv.length := by
        have := (List.getElem?_eq_some_iff.mp hw).1
        rwa [List.length_set] at this
      rw [List.getElem?_set_self hl] at hw
      cases hw
      exact h.2.2 (i, v) List.mem_cons_self
    · rw [List.getElem?_set_ne hj] at hw
      refine h.2.2 (j, w) (List.mem_cons_of_mem _ (List.mem_filter.mpr ⟨lhL_mem.mpr hw, ?_⟩))
      have h1 : (j == i) = false := by simp; omega
      have h2 : (j + 1 == i && w.category == 2) = false := by
        by_cases hji : j + 1 = i
        · have := nlat_spec hn hw hji
          simp [this]
        · simp [hji]
      have h3 : (j == i + 1) = false := by simp; omega
      simp only [h1, h2, h3]; rfl
theorem Lh.less {ls : Array Slot} {nL : Nat} {lv lv' : List (Option Value)} (h : Lh ls nL lv) (hs : ∀ (i : Nat) (v : Value), lv'[i]? = some (some v) → lv[i]? = some (some v)) : Lh ls nL lv' := ⟨h.1, h.2.1, fun i v hv => h.2.2 i v (hs i v hv)⟩

