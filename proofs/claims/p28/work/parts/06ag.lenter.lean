/-! the law's row of eight for a partner: 0 to 4 in, 5 to earn, 10 back at, 15 charged, 20 credited -/
def eT (sh : Int → Int) (T : Nat → Int → Int) : Int → Int := fun j => if j < 5 then (if 0 < sh j ∧ T 14 j = 0 then 1 else 0) else if j < 10 then T 15 (j - 5) else if j < 15 then T 16 (j - 10) else if j < 20 then T 17 (j - 15) else T 18 (j - 20)
def RowE (f g : Int → Int) : Prop := ∀ j, 0 ≤ j → j < 25 → f j = g j
theorem eT_in {sh : Int → Int} {T : Nat → Int → Int} {q : Int} (h : q < 5) : eT sh T q = if 0 < sh q ∧ T 14 q = 0 then 1 else 0 := by unfold eT; rw [if_pos h]
theorem eT_5 {sh : Int → Int} {T : Nat → Int → Int} {q : Int} (h0 : 0 ≤ q) (h : q < 5) : eT sh T (5 + q) = T 15 q := by unfold eT; rw [if_neg (by omega), if_pos (by omega), show 5 + q - 5 = q from by omega]
theorem eT_10 {sh : Int → Int} {T : Nat → Int → Int} {q : Int} (h0 : 0 ≤ q) (h : q < 5) : eT sh T (10 + q) = T 16 q := by unfold eT; rw [if_neg (by omega), if_neg (by omega), if_pos (by omega), show 10 + q - 10 = q from by omega]
theorem eT_15 {sh : Int → Int} {T : Nat → Int → Int} {q : Int} (h0 : 0 ≤ q) (h : q < 5) : eT sh T (15 + q) = T 17 q := by unfold eT; rw [if_neg (by omega), if_neg (by omega), if_neg (by omega), if_pos (by omega), show 15 + q - 15 = q from by omega]
theorem eT_20 {sh : Int → Int} {T : Nat → Int → Int} {q : Int} (h0 : 0 ≤ q) : eT sh T (20 + q) = T 18 q := by unfold eT; rw [if_neg (by omega), if_neg (by omega), if_neg (by omega), if_neg (by omega), show 20 + q - 20 = q from by omega]
def upT (T : Nat → Int → Int) (c0 : Nat) (i v : Int) : Nat → Int → Int := fun c p => if c = c0 ∧ p = i then v else T c p
theorem upT_at {T : Nat → Int → Int} {c0 : Nat} {i v : Int} : upT T c0 i v c0 i = v := if_pos ⟨rfl, rfl⟩
theorem upT_ne {T : Nat → Int → Int} {c0 c : Nat} {i p v : Int} (h : c ≠ c0 ∨ p ≠ i) : upT T c0 i v c p = T c p := if_neg (fun z => h.elim (fun w => w z.1) (fun w => w z.2))
theorem eT_up5 {sh : Int → Int} {T : Nat → Int → Int} {i v : Int} (h0 : 0 ≤ i) (h : i < 5) (j : Int) : eT sh (upT T 15 i v) j = if j = 5 + i then v else eT sh T j := by
  unfold eT upT
  simp only [show ¬ ((14 : Nat) = 15) by decide, show ¬ ((16 : Nat) = 15) by decide, show ¬ ((17 : Nat) = 15) by decide, show ¬ ((18 : Nat) = 15) by decide, false_and, if_false, true_and]
  grind
theorem eT_up10 {sh : Int → Int} {T : Nat → Int → Int} {i v : Int} (h0 : 0 ≤ i) (h : i < 5) (j : Int) : eT sh (upT T 16 i v) j = if j = 10 + i then v else eT sh T j := by
  unfold eT upT
  simp only [show ¬ ((14 : Nat) = 16) by decide, show ¬ ((15 : Nat) = 16) by decide, show ¬ ((17 : Nat) = 16) by decide, show ¬ ((18 : Nat) = 16) by decide, false_and, if_false, true_and]
  grind
theorem eT_up15 {sh : Int → Int} {T : Nat → Int → Int} {i v : Int} (h0 : 0 ≤ i) (h : i < 5) (j : Int) : eT sh (upT T 17 i v) j = if j = 15 + i then v else eT sh T j := by
  unfold eT upT
  simp only [show ¬ ((14 : Nat) = 17) by decide, show ¬ ((15 : Nat) = 17) by decide, show ¬ ((16 : Nat) = 17) by decide, show ¬ ((18 : Nat) = 17) by decide, false_and, if_false, true_and]
  grind
theorem eT_up20 {sh : Int → Int} {T : Nat → Int → Int} {i v : Int} (h0 : 0 ≤ i) (h : i < 5) (j : Int) : eT sh (upT T 18 i v) j = if j = 20 + i then v else eT sh T j := by
  unfold eT upT
  simp only [show ¬ ((14 : Nat) = 18) by decide, show ¬ ((15 : Nat) = 18) by decide, show ¬ ((16 : Nat) = 18) by decide, show ¬ ((17 : Nat) = 18) by decide, false_and, if_false, true_and]
  grind
theorem eT_up0 {sh : Int → Int} {T : Nat → Int → Int} {i v : Int} (h0 : 0 ≤ i) (h : i < 5) (j : Int) : eT sh (upT T 14 i v) j = if j = i then (if 0 < sh i ∧ v = 0 then 1 else 0) else eT sh T j := by
  unfold eT upT
  simp only [show ¬ ((15 : Nat) = 14) by decide, show ¬ ((16 : Nat) = 14) by decide, show ¬ ((17 : Nat) = 14) by decide, show ¬ ((18 : Nat) = 14) by decide, false_and, if_false, true_and]
  grind
theorem su_rw0 {σ : Sg} {kd : Nat} {z v j : Int} : su σ kd 0 z v kd 0 j = if j = z then v else σ kd 0 j := by
  unfold su
  by_cases hj : j = z
  · rw [if_pos ⟨rfl, rfl, hj⟩, if_pos hj]
  · rw [if_neg (fun w => hj w.2.2), if_neg hj]
theorem RowE.su {σ : Sg} {ka : Nat} {g g' : Int → Int} {z v : Int} (h : RowE (σ ka 0) g) (e : ∀ j, g' j = if j = z then v else g j) : RowE (su σ ka 0 z v ka 0) g' := fun j a b => by
  rw [e j, su_rw0, h j a b]
theorem RowE.eq {f g g' : Int → Int} (h : RowE f g) (e : g = g') : RowE f g' := e ▸ h
theorem RowE.of {f f' g : Int → Int} (h : RowE f g) (e : ∀ j, f' j = f j) : RowE f' g := fun j a b => (e j).trans (h j a b)
def costK (sh : Int → Int) (pen a : Int) (T : Nat → Int → Int) (k : Int) : Nat → Int → Int := fun c p =>
  if c = 17 ∧ 0 ≤ p ∧ p < 5 ∧ p < k then T 17 p + (if T 14 p = 0 then dv a sh p else 0) else if c = 15 ∧ 0 ≤ p ∧ p < 5 ∧ p < k then T 15 p + (if T 14 p = 0 then 0 else pn (dv a sh p) pen) else T c p
def costL (sh : Int → Int) (pen a : Int) (T : Nat → Int → Int) (k : Int) : Nat → Int → Int := fun c p =>
  if c = 17 ∧ 0 ≤ p ∧ p < 5 ∧ p < k then costK sh pen a T 5 17 p + dv (osm sh T a) (inw sh T) p else costK sh pen a T 5 c p
theorem costK_0 {sh : Int → Int} {pen a : Int} {T : Nat → Int → Int} : costK sh pen a T 0 = T := by
  funext c p
  unfold costK
  rw [if_neg (by omega), if_neg (by omega)]
theorem costK_out {sh : Int → Int} {pen a i : Int} {T : Nat → Int → Int} (h0 : 0 ≤ i) (h5 : i < 5) (hT : ¬ T 14 i = 0) : costK sh pen a T (i + 1) = upT (costK sh pen a T i) 15 i (T 15 i + pn (dv a sh i) pen) := by
  funext c p
  unfold costK upT
  by_cases e : p = i
  · subst e
    simp only [hT, if_false, and_true]
    grind
  · grind
theorem costK_in {sh : Int → Int} {pen a i : Int} {T : Nat → Int → Int} (h0 : 0 ≤ i) (h5 : i < 5) (hT : T 14 i = 0) : costK sh pen a T (i + 1) = upT (costK sh pen a T i) 17 i (T 17 i + dv a sh i) := by
  funext c p
  unfold costK upT
  by_cases e : p = i
  · subst e
    simp only [hT, if_true, and_true]
    grind
  · grind
theorem costK_15 {sh : Int → Int} {pen a i : Int} {T : Nat → Int → Int} : costK sh pen a T i 15 i = T 15 i := by
  unfold costK
  rw [if_neg (by omega), if_neg (by omega)]
theorem costK_17 {sh : Int → Int} {pen a i : Int} {T : Nat → Int → Int} : costK sh pen a T i 17 i = T 17 i := by
  unfold costK
  rw [if_neg (by omega), if_neg (by omega)]
theorem costK_14 {sh : Int → Int} {pen a k : Int} {T : Nat → Int → Int} (p : Int) : costK sh pen a T k 14 p = T 14 p := by
  unfold costK
  rw [if_neg (by omega), if_neg (by omega)]
theorem costL_0 {sh : Int → Int} {pen a : Int} {T : Nat → Int → Int} : costL sh pen a T 0 = costK sh pen a T 5 := by
  funext c p
  unfold costL
  rw [if_neg (by omega)]
theorem costL_s {sh : Int → Int} {pen a i : Int} {T : Nat → Int → Int} (h0 : 0 ≤ i) (h5 : i < 5) : costL sh pen a T (i + 1) = upT (costL sh pen a T i) 17 i (costL sh pen a T i 17 i + dv (osm sh T a) (inw sh T) i) := by
  have e : costL sh pen a T i 17 i = costK sh pen a T 5 17 i := by unfold costL; rw [if_neg (by omega)]
  rw [e]
  funext c p
  unfold costL upT
  by_cases e : p = i
  · subst e
    grind
  · grind
theorem costL_5 {sh : Int → Int} {pen a : Int} {T : Nat → Int → Int} : costL sh pen a T 5 = costS sh pen a T := by
  funext c p
  unfold costL costS chp costK
  grind
def incK (sh : Int → Int) (a : Int) (T : Nat → Int → Int) (k : Nat) : Nat → Int → Int := fun c p =>
  if 0 ≤ p ∧ p < 5 then (if c = 15 then T 15 p - (if p < k then tkn sh T a p else 0) else if c = 18 then T 18 p + (if p < k then dv a sh p - tkn sh T a p else 0) + tks sh T a p k else T c p) else T c p
def incJ (sh : Int → Int) (a : Int) (T : Nat → Int → Int) (k : Nat) (j : Int) : Nat → Int → Int := fun c p =>
  if 0 ≤ p ∧ p < 5 then (if c = 15 then T 15 p - (if p < (k : Int) + 1 then tkn sh T a p else 0) else if c = 18 then T 18 p + (if p < (k : Int) + 1 then dv a sh p - tkn sh T a p else 0) + tks sh T a p k + (if p < j then dv (tkn sh T a (k : Int)) (inw sh T) p else 0) else T c p) else T c p
def incF (sh : Int → Int) (v a : Int) (T : Nat → Int → Int) (k : Int) : Nat → Int → Int := fun c p =>
  if 0 ≤ p ∧ p < 5 ∧ p < k ∧ (T 14 p ≠ 0 ∧ T 15 p - tkn sh T a p = 0) ∧ c = 14 then 0 else if 0 ≤ p ∧ p < 5 ∧ p < k ∧ (T 14 p ≠ 0 ∧ T 15 p - tkn sh T a p = 0) ∧ c = 16 then v else incK sh a T 5 c p
theorem incK_0 {sh : Int → Int} {a : Int} {T : Nat → Int → Int} : incK sh a T 0 = T := by
  funext c p
  unfold incK tks
  grind
theorem incK_14 {sh : Int → Int} {a : Int} {k : Nat} {T : Nat → Int → Int} (p : Int) : incK sh a T k 14 p = T 14 p := by
  unfold incK
  split <;> rfl
theorem incK_15 {sh : Int → Int} {a : Int} {k : Nat} {T : Nat → Int → Int} (h5 : (k : Int) < 5) : incK sh a T k 15 (k : Int) = T 15 (k : Int) := by
  unfold incK
  rw [if_pos (by omega), if_pos rfl, if_neg (by omega)]
  omega
theorem incK_18 {sh : Int → Int} {a : Int} {k : Nat} {T : Nat → Int → Int} (h5 : (k : Int) < 5) : incK sh a T k 18 (k : Int) = T 18 (k : Int) + tks sh T a (k : Int) k := by
  unfold incK
  rw [if_pos (by omega), if_neg (by decide), if_pos rfl, if_neg (by omega)]
  omega
theorem incJ_0 {sh : Int → Int} {a : Int} {k : Nat} {T : Nat → Int → Int} (h5 : (k : Int) < 5) : incJ sh a T k 0 = upT (upT (incK sh a T k) 15 (k : Int) (T 15 (k : Int) - tkn sh T a (k : Int))) 18 (k : Int) (T 18 (k : Int) + tks sh T a (k : Int) k + (dv a sh (k : Int) - tkn sh T a (k : Int))) := by
  funext c p
  unfold incJ incK upT
  by_cases e : p = (k : Int)
  · subst e
    grind
  · grind
theorem incJ_s {sh : Int → Int} {a i : Int} {k : Nat} {T : Nat → Int → Int} (h0 : 0 ≤ i) (h5 : i < 5) : incJ sh a T k (i + 1) = upT (incJ sh a T k i) 18 i (incJ sh a T k i 18 i + dv (tkn sh T a (k : Int)) (inw sh T) i) := by
  have e : incJ sh a T k i 18 i = T 18 i + (if i < (k : Int) + 1 then dv a sh i - tkn sh T a i else 0) + tks sh T a i k := by
    unfold incJ
    rw [if_pos ⟨h0, h5⟩, if_neg (by decide), if_pos rfl, if_neg (show ¬ i < i by omega)]
    omega
  rw [e]
  funext c p
  unfold incJ upT
  by_cases e : p = i
  · subst e
    grind
  · grind
theorem incJ_5 {sh : Int → Int} {a : Int} {k : Nat} {T : Nat → Int → Int} : incJ sh a T k 5 = incK sh a T (k + 1) := by
  funext c p
  unfold incJ incK
  by_cases hp : 0 ≤ p ∧ p < 5
  · rw [if_pos hp, if_pos hp, if_pos hp.2, show ((k + 1 : Nat) : Int) = (k : Int) + 1 from by omega]
    simp only [tks]
    grind
  · rw [if_neg hp, if_neg hp]
theorem incK_in {sh : Int → Int} {a : Int} {k : Nat} {T : Nat → Int → Int} (hw : Wt (inw sh T)) (h5 : (k : Int) < 5) (hT : T 14 (k : Int) = 0) : incK sh a T (k + 1) = upT (incK sh a T k) 18 (k : Int) (T 18 (k : Int) + tks sh T a (k : Int) k + dv a sh (k : Int)) := by
  have ht : tkn sh T a (k : Int) = 0 := by unfold tkn; rw [if_pos hT]
  funext c p
  by_cases hp : 0 ≤ p ∧ p < 5
  · have h1 : tks sh T a p (k + 1) = tks sh T a p k := by simp only [tks]; rw [ht, dv_0 hw p hp.1 hp.2]; omega
    unfold incK upT
    dsimp only
    rw [h1, show ((k + 1 : Nat) : Int) = (k : Int) + 1 from by omega, if_pos hp, if_pos hp]
    by_cases e : p = (k : Int)
    · subst e
      rw [ht]
      grind
    · grind
  · unfold incK upT
    dsimp only
    rw [if_neg hp, if_neg hp, if_neg (by omega)]
theorem incF_0 {sh : Int → Int} {v a : Int} {T : Nat → Int → Int} : incF sh v a T 0 = incK sh a T 5 := by
  funext c p
  unfold incF
  rw [if_neg (by omega), if_neg (by omega)]
theorem incF_14 {sh : Int → Int} {v a i : Int} {T : Nat → Int → Int} : incF sh v a T i 14 i = T 14 i := by
  unfold incF
  rw [if_neg (by omega), if_neg (by omega), incK_14]
theorem incF_15 {sh : Int → Int} {v a i : Int} {T : Nat → Int → Int} (h0 : 0 ≤ i) (h5 : i < 5) : incF sh v a T i 15 i = T 15 i - tkn sh T a i := by
  unfold incF
  rw [if_neg (by omega), if_neg (by omega)]
  unfold incK
  rw [if_pos ⟨h0, h5⟩, if_pos rfl, if_pos (by omega)]
theorem incF_y {sh : Int → Int} {v a i : Int} {T : Nat → Int → Int} (h0 : 0 ≤ i) (h5 : i < 5) (hT : ¬ T 14 i = 0) (hz : T 15 i - tkn sh T a i = 0) : incF sh v a T (i + 1) = upT (upT (incF sh v a T i) 14 i 0) 16 i v := by
  funext c p
  unfold incF upT
  by_cases e : p = i
  · subst e
    grind
  · grind
theorem incF_n {sh : Int → Int} {v a i : Int} {T : Nat → Int → Int} (hn : ¬ (T 14 i ≠ 0 ∧ T 15 i - tkn sh T a i = 0)) : incF sh v a T (i + 1) = incF sh v a T i := by
  funext c p
  unfold incF
  by_cases e : p = i
  · subst e
    grind
  · grind
theorem incF_5 {sh : Int → Int} {v a : Int} {T : Nat → Int → Int} : incF sh v a T 5 = incS sh v a T := by
  funext c p
  unfold incF incS incK
  grind
theorem pn_eq {x : Int} (h : 0 ≤ x) : x / 100 + (if x % 100 = 0 then 0 else 1) = (x + 99) / 100 := by split <;> omega
def EqE (ka : Nat) (σ σ' : Sg) : Prop := ∀ (a : Nat) (b c : Int), (a < 35 ∨ 38 < a) → a ≠ ka → σ' a b c = σ a b c
theorem EqE.su {ka kd : Nat} {σ σ' : Sg} {k j v : Int} (h : EqE ka σ σ') (hk : kd = ka ∨ (35 ≤ kd ∧ kd ≤ 38)) : EqE ka σ (su σ' kd k j v) := fun a b c x y => by rw [su_nk (by omega)]; exact h a b c x y
theorem EqE.sf {ka kd : Nat} {σ σ' : Sg} {k n : Int} {f : Int → Int} (h : EqE ka σ σ') (hk : kd = ka ∨ (35 ≤ kd ∧ kd ≤ 38)) : EqE ka σ (sf σ' kd k n f) := fun a b c x y => by rw [sf_nk (by omega)]; exact h a b c x y
theorem EqE.sz {ka kd : Nat} {σ σ' : Sg} (h : EqE ka σ σ') (hk : 35 ≤ kd ∧ kd ≤ 38) : EqE ka σ (sz0 σ' kd) := fun a b c x y => by rw [sz0_nk (by omega)]; exact h a b c x y
theorem EqE.refl {ka : Nat} {σ : Sg} : EqE ka σ σ := fun _ _ _ _ _ => rfl
theorem EqE.trans {ka : Nat} {σ1 σ2 σ3 : Sg} (h : EqE ka σ1 σ2) (h' : EqE ka σ2 σ3) : EqE ka σ1 σ3 := fun a b c x y => (h' a b c x y).trans (h a b c x y)
