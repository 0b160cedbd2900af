/-- a number of the script -/
def sv (xs : Nat → Int32) (i k : Int) : Int := (xs (i + k).toNat).toInt
theorem sv_r (xs : Nat → Int32) (i k : Int) : I32 (sv xs i k) := i32_r _
section LAW
variable {p : Program} {l : Launch} {e : Env} {R : Room} {s : State} {m : MethodId} {args : Array Value} {below : List Frame} {meth : Method} {c : Code} {cy : Nat → ClassId} {D : va_G} {ad : Ad} {A : Nat → Prop} {nL : Nat} {cells slots : Nat} {Q : State → Prop} {σ : Sg} {pc : Nat} {lv : List (Option Value)} {st : List Value} {cc : ByteArray} {own : String} {Ts : List Cond}
theorem iI_ix2 {z : Int} {n : Nat} (h0 : 0 ≤ z) (h : z < n) (hn : n ≤ 3072) : vp_in (iI z) n ∧ (iI z).toNatClampNeg = z.toNat := by
  have e1 : iI z = nI z.toNat := by unfold iI nI; rw [← Int32.ofInt_eq_ofNat]; congr 1; omega
  rw [e1]
  exact ⟨vp_in_nI (by omega) (by omega), nI_clamp (by omega)⟩
theorem J_sld (C : Cx p l e R s m args below meth c cy D ad A nL cc own Ts) {b L : Nat} {xs : Nat → Int32} {i k z : Int} (hX : va_X b L xs s s.heap) (hbl : b < s.heap.size) (hbA : ¬ A b) (hL : L ≤ 3072) (hz : z = i + k) (h0 : 0 ≤ i + k ∧ i + k < L) (d : decode cc pc = .ok (.iaload, 1)) (kk : JW p l e R s m args below meth c cy D ad A nL cells slots Q σ (pc + 1) lv (.int (iI (sv xs i k)) :: st)) : JW p l e R s m args below meth c cy D ad A nL cells slots Q σ pc lv (.int (iI z) :: .ref b :: st) := by
  intro H locs ls h1 h2 h3
  subst hz
  obtain ⟨g1, g2⟩ := iI_ix2 h0.1 h0.2 hL
  refine va_sld C.1.1 C.1.2.1 hX hbl hbA h2 g1 d ?_
  rw [g2, iI_of (xs (i + k).toNat)]
  exact kk H locs ls h1 h2 h3
theorem J_slen (C : Cx p l e R s m args below meth c cy D ad A nL cc own Ts) {b L : Nat} {xs : Nat → Int32} (hX : va_X b L xs s s.heap) (hbl : b < s.heap.size) (hbA : ¬ A b) (d : decode cc pc = .ok (.arraylength, 1)) (kk : JW p l e R s m args below meth c cy D ad A nL cells slots Q σ (pc + 1) lv (.int (iI (L : Int)) :: st)) : JW p l e R s m args below meth c cy D ad A nL cells slots Q σ pc lv (.ref b :: st) := by
  intro H locs ls h1 h2 h3
  refine va_slen C.1.1 C.1.2.1 hX hbl hbA h2 d ?_
  have e : Int32.ofNat L = iI (L : Int) := by unfold iI; rw [Int32.ofInt_eq_ofNat]
  rw [e]
  exact kk H locs ls h1 h2 h3
theorem J_icmp_eqS (C : Cx p l e R s m args below meth c cy D ad A nL cc own Ts) {x y off : Int} {tgt : Nat} (h : x = y) (d : decode cc pc = .ok (.if_icmp .eq off, 3)) (ht : (pc : Int) + off = (tgt : Int)) (k1 : JW p l e R s m args below meth c cy D ad A nL cells slots Q σ tgt lv st) : JW p l e R s m args below meth c cy D ad A nL cells slots Q σ pc lv (.int (iI y) :: .int (iI x) :: st) := by
  intro H locs ls h1 h2 h3
  subst h
  exact lv_icmp_eq C.1.1 C.1.2.1 d ht (fun _ => k1 H locs ls h1 h2 h3) (fun z => absurd rfl z)
theorem and31 (x : Int) : ∃ z : Int, 0 ≤ z ∧ z < 32 ∧ iI x &&& iI 31 = iI z := by
  refine ⟨(iI x &&& iI 31).toInt, ?_, ?_, iI_of _⟩
  all_goals
    have h : (iI x &&& iI 31).toBitVec.toNat ≤ 31 := by
      rw [Int32.toBitVec_and, BitVec.toNat_and]
      exact Nat.and_le_right
    have e : (iI x &&& iI 31).toInt = ((iI x &&& iI 31).toBitVec.toNat : Int) := by
      show (iI x &&& iI 31).toBitVec.toInt = _
      rw [BitVec.toInt_eq_toNat_of_lt (by omega)]
    omega
theorem J_tabOut (C : Cx p l e R s m args below meth c cy D ad A nL cc own Ts) {dflt lo hi x : Int} {offs : Array Int} {len tgt : Nat} (hx : I32 x) (d : decode cc pc = .ok (.tableswitch dflt lo hi offs, len)) (h : x < lo ∨ hi < x) (ht : (pc : Int) + dflt = (tgt : Int)) (k1 : JW p l e R s m args below meth c cy D ad A nL cells slots Q σ tgt lv st) : JW p l e R s m args below meth c cy D ad A nL cells slots Q σ pc lv (.int (iI x) :: st) := by
  intro H locs ls h1 h2 h3
  exact lv_tableOut C.1.1 C.1.2.1 d (by rw [iI_toInt hx]; exact h) ht (k1 H locs ls h1 h2 h3)
theorem J_tabIn (C : Cx p l e R s m args below meth c cy D ad A nL cc own Ts) {dflt lo hi x off : Int} {offs : Array Int} {len tgt : Nat} (hx : I32 x) (d : decode cc pc = .ok (.tableswitch dflt lo hi offs, len)) (h1' : ¬ x < lo) (h2' : ¬ hi < x) (ho : offs[(x - lo).toNat]? = some off) (ht : (pc : Int) + off = (tgt : Int)) (k1 : JW p l e R s m args below meth c cy D ad A nL cells slots Q σ tgt lv st) : JW p l e R s m args below meth c cy D ad A nL cells slots Q σ pc lv (.int (iI x) :: st) := by
  intro H locs ls h1 h2 h3
  exact lv_tableIn C.1.1 C.1.2.1 d (by rw [iI_toInt hx]; exact h1') (by rw [iI_toInt hx]; exact h2') (by rw [iI_toInt hx]; exact ho) ht (k1 H locs ls h1 h2 h3)
theorem lI_rng (x : Int64) : I64 x.toInt := ⟨by have := Int64.le_toInt x; omega, by have := Int64.toInt_lt x; omega⟩
theorem J_lif_eqS (C : Cx p l e R s m args below meth c cy D ad A nL cc own Ts) {x y off : Int} {tgt : Nat} (h : x = y) (d : decode cc pc = .ok (.lcmp, 1)) (d2 : decode cc (pc + 1) = .ok (.ifCond .eq off, 3)) (ht : ((pc + 1 : Nat) : Int) + off = (tgt : Int)) (k1 : JW p l e R s m args below meth c cy D ad A nL cells slots Q σ tgt lv st) : JW p l e R s m args below meth c cy D ad A nL cells slots Q σ pc lv (.long (lI y) :: .long (lI x) :: st) := by
  subst h
  rw [lI_of (lI x)]
  exact J_lif_eq C (lI_rng _) (lI_rng _) d d2 ht (fun _ => k1) (fun z => absurd rfl z)
end LAW
set_option maxHeartbeats 4000000 in
set_option maxRecDepth 100000 in
theorem b_setShares {p : Program} {l : Launch} {e : Env} {s : State} {m : MethodId} {below : List Frame} {meth : Method} {c : Code} {cy : Nat → ClassId} {D : va_G} {ad : Ad} {A : Nat → Prop} {Q : State → Prop} {b L : Nat} {xs : Nat → Int32} {σ : Sg} {i : Int} {cells slots : Nat} (C : Cx p l e room_1 s m #[Value.ref b] below meth c cy D ad A 8 cL_law RL wsL_law) (hfl : l.stackTraces = false) (hX : va_X b L xs s s.heap) (hbl : b < s.heap.size) (hbA : ¬ A b) (hL : L ≤ 3072) (r : Rel σ) (hi : 0 ≤ i ∧ i + 6 ≤ L) (hcap : cells + 6 ≤ 648160 ∧ slots + 36 ≤ 7151623) (K : ∀ σ' : Sg, Rel σ' → JW p l e room_1 s m #[Value.ref b] below meth c cy D ad A 8 (cells + 6) (slots + 36) Q σ' 1737 [some (.ref b), some (.ref (ad 0 0)), some (.ref (ad 22 0)), some (.ref (ad 42 0)), some (.int (iI i)), none, none, none] []) : JW p l e room_1 s m #[Value.ref b] below meth c cy D ad A 8 cells slots Q σ 156 [some (.ref b), some (.ref (ad 0 0)), some (.ref (ad 22 0)), some (.ref (ad 42 0)), some (.int (iI i)), none, none, none] [] := by
  refine J_aload_1 C dL_law_156 ?_
  refine J_aload_0 C dL_law_157 ?_
  refine J_iload4 C dL_law_158 ?_
  refine J_iconst C dL_law_160 ?_
  refine J_iadd C dL_law_161 ?_
  refine J_sld (i := i) (k := 1) C hX hbl hbA hL rfl ⟨by omega, by omega⟩ dL_law_162 ?_
  refine J_aload_0 C dL_law_163 ?_
  refine J_iload4 C dL_law_164 ?_
  refine J_iconst C dL_law_166 ?_
  refine J_iadd C dL_law_167 ?_
  refine J_sld (i := i) (k := 2) C hX hbl hbA hL rfl ⟨by omega, by omega⟩ dL_law_168 ?_
  refine J_aload_0 C dL_law_169 ?_
  refine J_iload4 C dL_law_170 ?_
  refine J_iconst C dL_law_172 ?_
  refine J_iadd C dL_law_173 ?_
  refine J_sld (i := i) (k := 3) C hX hbl hbA hL rfl ⟨by omega, by omega⟩ dL_law_174 ?_
  refine J_aload_0 C dL_law_175 ?_
  refine J_iload4 C dL_law_176 ?_
  refine J_iconst C dL_law_178 ?_
  refine J_iadd C dL_law_179 ?_
  refine J_sld (i := i) (k := 4) C hX hbl hbA hL rfl ⟨by omega, by omega⟩ dL_law_180 ?_
  refine J_aload_0 C dL_law_181 ?_
  refine J_iload4 C dL_law_182 ?_
  refine J_iconst C dL_law_184 ?_
  refine J_iadd C dL_law_185 ?_
  refine J_sld (i := i) (k := 5) C hX hbl hbA hL rfl ⟨by omega, by omega⟩ dL_law_186 ?_
  refine J_KWI C (c_L_setShares hfl C.2.1 _ (sv xs i 1) (sv xs i 2) (sv xs i 3) (sv xs i 4) (sv xs i 5) (sv_r _ _ _) (sv_r _ _ _) (sv_r _ _ _) (sv_r _ _ _) (sv_r _ _ _) r.hwc) (vx_cwSW 6 C.1.2.2.2.2 gL_law_L_setShares rfl rfl rfl (by decide +kernel) ⟨Nat.le_of_ble_eq_true rfl, Nat.le_of_ble_eq_true rfl⟩) rfl rfl (Nat.le_of_ble_eq_true rfl) dL_law_187 hcap (fun k σ1 h1 => ?_)
  have hk := m_setShares h1
  have hk03 : 0 ≤ k ∧ k ≤ 3 := by rcases h1 with ⟨rfl, _⟩ | ⟨rfl, _⟩ | ⟨rfl, _⟩ <;> decide
  refine J_istore5 C (by decide) rfl dL_law_190 ?_
  refine J_aload_2 C dL_law_192 ?_
  refine J_aload_0 C dL_law_193 ?_
  refine J_iload4 C dL_law_194 ?_
  refine J_iconst C dL_law_196 ?_
  refine J_iadd C dL_law_197 ?_
  refine J_sld (i := i) (k := 1) C hX hbl hbA hL rfl ⟨by omega, by omega⟩ dL_law_198 ?_
  refine J_aload_0 C dL_law_199 ?_
  refine J_iload4 C dL_law_200 ?_
  refine J_iconst C dL_law_202 ?_
  refine J_iadd C dL_law_203 ?_
  refine J_sld (i := i) (k := 2) C hX hbl hbA hL rfl ⟨by omega, by omega⟩ dL_law_204 ?_
  refine J_aload_0 C dL_law_205 ?_
  refine J_iload4 C dL_law_206 ?_
  refine J_iconst C dL_law_208 ?_
  refine J_iadd C dL_law_209 ?_
  refine J_sld (i := i) (k := 3) C hX hbl hbA hL rfl ⟨by omega, by omega⟩ dL_law_210 ?_
  refine J_aload_0 C dL_law_211 ?_
  refine J_iload4 C dL_law_212 ?_
  refine J_iconst C dL_law_214 ?_
  refine J_iadd C dL_law_215 ?_
  refine J_sld (i := i) (k := 4) C hX hbl hbA hL rfl ⟨by omega, by omega⟩ dL_law_216 ?_
  refine J_aload_0 C dL_law_217 ?_
  refine J_iload4 C dL_law_218 ?_
  refine J_iconst C dL_law_220 ?_
  refine J_iadd C dL_law_221 ?_
  refine J_sld (i := i) (k := 5) C hX hbl hbA hL rfl ⟨by omega, by omega⟩ dL_law_222 ?_
  refine J_KVV C (c_X4_setShares hfl C.2.1 _ (sv xs i 1) (sv xs i 2) (sv xs i 3) (sv xs i 4) (sv xs i 5) (sv_r _ _ _) (sv_r _ _ _) (sv_r _ _ _) (sv_r _ _ _) (sv_r _ _ _) (hk.hwm r)) (cwV 5 C.1.2.2.2.2 gL_law_X4_setShares rfl rfl rfl (by decide +kernel) ⟨Nat.le_of_ble_eq_true rfl, Nat.le_of_ble_eq_true rfl⟩) rc4 (by decide) rfl rfl (Nat.le_of_ble_eq_true rfl) dL_law_223 ⟨by have := hcap.1; show cells + 6 + 0 ≤ 648160; omega, by have := hcap.2; show slots + 36 + 0 ≤ 7151623; omega⟩ (fun σ2 h2 => ?_)
  obtain ⟨e1, r2⟩ := o_setShares r h1 h2
  refine J_aload_2 C dL_law_226 ?_
  refine J_KVI C (c_X4_thrown hfl C.2.1 _) (cwV 0 C.1.2.2.2.2 gL_law_X4_thrown rfl rfl rfl (by decide +kernel) ⟨Nat.le_of_ble_eq_true rfl, Nat.le_of_ble_eq_true rfl⟩) rc4 (by decide) rfl rfl (Nat.le_of_ble_eq_true rfl) dL_law_227 ⟨by have := hcap.1; show cells + 6 + 0 + 0 ≤ 648160; omega, by have := hcap.2; show slots + 36 + 0 + 0 ≤ 7151623; omega⟩ (fun z7 σ7 hp => ?_)
  obtain ⟨rfl, rfl⟩ := hp
  refine J_iload5 C dL_law_230 ?_
  refine J_icmp_eqS (tgt := 237) C e1 dL_law_232 (by decide) ?_
  refine J_goto (tgt := 1737) C dL_law_237 (by decide) ?_
  refine J_fg5 ?_
  exact K _ r2
set_option maxHeartbeats 4000000 in
set_option maxRecDepth 100000 in
theorem b_setPenalty {p : Program} {l : Launch} {e : Env} {s : State} {m : MethodId} {below : List Frame} {meth : Method} {c : Code} {cy : Nat → ClassId} {D : va_G} {ad : Ad} {A : Nat → Prop} {Q : State → Prop} {b L : Nat} {xs : Nat → Int32} {σ : Sg} {i : Int} {cells slots : Nat} (C : Cx p l e room_1 s m #[Value.ref b] below meth c cy D ad A 8 cL_law RL wsL_law) (hfl : l.stackTraces = false) (hX : va_X b L xs s s.heap) (hbl : b < s.heap.size) (hbA : ¬ A b) (hL : L ≤ 3072) (r : Rel σ) (hi : 0 ≤ i ∧ i + 6 ≤ L) (hcap : cells + 6 ≤ 648160 ∧ slots + 36 ≤ 7151623) (K : ∀ σ' : Sg, Rel σ' → JW p l e room_1 s m #[Value.ref b] below meth c cy D ad A 8 (cells + 6) (slots + 36) Q σ' 1737 [some (.ref b), some (.ref (ad 0 0)), some (.ref (ad 22 0)), some (.ref (ad 42 0)), some (.int (iI i)), none, none, none] []) : JW p l e room_1 s m #[Value.ref b] below meth c cy D ad A 8 cells slots Q σ 240 [some (.ref b), some (.ref (ad 0 0)), some (.ref (ad 22 0)), some (.ref (ad 42 0)), some (.int (iI i)), none, none, none] [] := by
  refine J_aload_1 C dL_law_240 ?_
  refine J_aload_0 C dL_law_241 ?_
  refine J_iload4 C dL_law_242 ?_
  refine J_iconst C dL_law_244 ?_
  refine J_iadd C dL_law_245 ?_
  refine J_sld (i := i) (k := 1) C hX hbl hbA hL rfl ⟨by omega, by omega⟩ dL_law_246 ?_
  refine J_aload_3 C dL_law_247 ?_
  refine J_KWI C (c_L_setPenalty hfl C.2.1 _ (sv xs i 1) (sv_r _ _ _)) (vx_cwSW 3 C.1.2.2.2.2 gL_law_L_setPenalty rfl rfl rfl (by decide +kernel) ⟨Nat.le_of_ble_eq_true rfl, Nat.le_of_ble_eq_true rfl⟩) rfl rfl (Nat.le_of_ble_eq_true rfl) dL_law_248 hcap (fun k σ1 h1 => ?_)
  have hk := m_setPenalty h1
  have hk03 : 0 ≤ k ∧ k ≤ 3 := by rcases h1 with ⟨rfl, _⟩ | ⟨rfl, _⟩ <;> decide
  refine J_istore5 C (by decide) rfl dL_law_251 ?_
  refine J_aload_2 C dL_law_253 ?_
  refine J_aload_0 C dL_law_254 ?_
  refine J_iload4 C dL_law_255 ?_
  refine J_iconst C dL_law_257 ?_
  refine J_iadd C dL_law_258 ?_
  refine J_sld (i := i) (k := 1) C hX hbl hbA hL rfl ⟨by omega, by omega⟩ dL_law_259 ?_
  refine J_KVI C (c_X4_setPenalty hfl C.2.1 _ (sv xs i 1) (sv_r _ _ _)) (cwV 1 C.1.2.2.2.2 gL_law_X4_setPenalty rfl rfl rfl (by decide +kernel) ⟨Nat.le_of_ble_eq_true rfl, Nat.le_of_ble_eq_true rfl⟩) rc4 (by decide) rfl rfl (Nat.le_of_ble_eq_true rfl) dL_law_260 ⟨by have := hcap.1; show cells + 6 + 0 ≤ 648160; omega, by have := hcap.2; show slots + 36 + 0 ≤ 7151623; omega⟩ (fun z σ2 h2 => ?_)
  obtain ⟨e1, e2, r2⟩ := o_setPenalty r h1 h2
  refine J_istore6 C (by decide) rfl dL_law_263 ?_
  refine J_aload_2 C dL_law_265 ?_
  refine J_KVI C (c_X4_thrown hfl C.2.1 _) (cwV 0 C.1.2.2.2.2 gL_law_X4_thrown rfl rfl rfl (by decide +kernel) ⟨Nat.le_of_ble_eq_true rfl, Nat.le_of_ble_eq_true rfl⟩) rc4 (by decide) rfl rfl (Nat.le_of_ble_eq_true rfl) dL_law_266 ⟨by have := hcap.1; show cells + 6 + 0 + 0 ≤ 648160; omega, by have := hcap.2; show slots + 36 + 0 + 0 ≤ 7151623; omega⟩ (fun z7 σ7 hp => ?_)
  obtain ⟨rfl, rfl⟩ := hp
  refine J_iload5 C dL_law_269 ?_
  refine J_icmp_eqS (tgt := 276) C e1 dL_law_271 (by decide) ?_
  refine J_iload5 C dL_law_276 ?_
  refine J_if_ne (tgt := 293) C (by omega) dL_law_278 (by decide) (fun ck => ?_) (fun ck => ?_)
  · skip
    refine J_goto (tgt := 1737) C dL_law_293 (by decide) ?_
    refine J_fg5 ?_
    refine J_fg6 ?_
    exact K _ r2
  · have e2 := e2 ck
    refine J_aload_3 C dL_law_281 ?_
    refine J_iconst C dL_law_282 ?_
    refine J_laload C k42 (by decide) ⟨by decide, by decide⟩ dL_law_283 ?_
    refine J_iload6 C dL_law_284 ?_
    refine J_i2lw C dL_law_286 ?_
    refine J_lif_eqS (tgt := 293) C e2 dL_law_287 dL_law_288 (by decide) ?_
    refine J_goto (tgt := 1737) C dL_law_293 (by decide) ?_
    refine J_fg5 ?_
    refine J_fg6 ?_
    exact K _ r2
set_option maxHeartbeats 4000000 in
set_option maxRecDepth 100000 in
theorem b_setOverhead {p : Program} {l : Launch} {e : Env} {s : State} {m : MethodId} {below : List Frame} {meth : Method} {c : Code} {cy : Nat → ClassId} {D : va_G} {ad : Ad} {A : Nat → Prop} {Q : State → Prop} {b L : Nat} {xs : Nat → Int32} {σ : Sg} {i : Int} {cells slots : Nat} (C : Cx p l e room_1 s m #[Value.ref b] below meth c cy D ad A 8 cL_law RL wsL_law) (hfl : l.stackTraces = false) (hX : va_X b L xs s s.heap) (hbl : b < s.heap.size) (hbA : ¬ A b) (hL : L ≤ 3072) (r : Rel σ) (hi : 0 ≤ i ∧ i + 6 ≤ L) (hcap : cells + 6 ≤ 648160 ∧ slots + 36 ≤ 7151623) (K : ∀ σ' : Sg, Rel σ' → JW p l e room_1 s m #[Value.ref b] below meth c cy D ad A 8 (cells + 6) (slots + 36) Q σ' 1737 [some (.ref b), some (.ref (ad 0 0)), some (.ref (ad 22 0)), some (.ref (ad 42 0)), some (.int (iI i)), none, none, none] []) : JW p l e room_1 s m #[Value.ref b] below meth c cy D ad A 8 cells slots Q σ 296 [some (.ref b), some (.ref (ad 0 0)), some (.ref (ad 22 0)), some (.ref (ad 42 0)), some (.int (iI i)), none, none, none] [] := by
  refine J_aload_1 C dL_law_296 ?_
  refine J_aload_0 C dL_law_297 ?_
  refine J_iload4 C dL_law_298 ?_
  refine J_iconst C dL_law_300 ?_
  refine J_iadd C dL_law_301 ?_
  refine J_sld (i := i) (k := 1) C hX hbl hbA hL rfl ⟨by omega, by omega⟩ dL_law_302 ?_
  refine J_aload_3 C dL_law_303 ?_
  refine J_KWI C (c_L_setOverhead hfl C.2.1 _ (sv xs i 1) (sv_r _ _ _)) (vx_cwSW 3 C.1.2.2.2.2 gL_law_L_setOverhead rfl rfl rfl (by decide +kernel) ⟨Nat.le_of_ble_eq_true rfl, Nat.le_of_ble_eq_true rfl⟩) rfl rfl (Nat.le_of_ble_eq_true rfl) dL_law_304 hcap (fun k σ1 h1 => ?_)
  have hk := m_setOverhead h1
  have hk03 : 0 ≤ k ∧ k ≤ 3 := by rcases h1 with ⟨rfl, _⟩ | ⟨rfl, _⟩ <;> decide
  refine J_istore5 C (by decide) rfl dL_law_307 ?_
  refine J_aload_2 C dL_law_309 ?_
  refine J_aload_0 C dL_law_310 ?_
  refine J_iload4 C dL_law_311 ?_
  refine J_iconst C dL_law_313 ?_
  refine J_iadd C dL_law_314 ?_
  refine J_sld (i := i) (k := 1) C hX hbl hbA hL rfl ⟨by omega, by omega⟩ dL_law_315 ?_
  refine J_KVI C (c_X4_setOverhead hfl C.2.1 _ (sv xs i 1) (sv_r _ _ _)) (cwV 1 C.1.2.2.2.2 gL_law_X4_setOverhead rfl rfl rfl (by decide +kernel) ⟨Nat.le_of_ble_eq_true rfl, Nat.le_of_ble_eq_true rfl⟩) rc4 (by decide) rfl rfl (Nat.le_of_ble_eq_true rfl) dL_law_316 ⟨by have := hcap.1; show cells + 6 + 0 ≤ 648160; omega, by have := hcap.2; show slots + 36 + 0 ≤ 7151623; omega⟩ (fun z σ2 h2 => ?_)
  obtain ⟨e1, e2, r2⟩ := o_setOverhead r h1 h2
  refine J_istore6 C (by decide) rfl dL_law_319 ?_
  refine J_aload_2 C dL_law_321 ?_
  refine J_KVI C (c_X4_thrown hfl C.2.1 _) (cwV 0 C.1.2.2.2.2 gL_law_X4_thrown rfl rfl rfl (by decide +kernel) ⟨Nat.le_of_ble_eq_true rfl, Nat.le_of_ble_eq_true rfl⟩) rc4 (by decide) rfl rfl (Nat.le_of_ble_eq_true rfl) dL_law_322 ⟨by have := hcap.1; show cells + 6 + 0 + 0 ≤ 648160; omega, by have := hcap.2; show slots + 36 + 0 + 0 ≤ 7151623; omega⟩ (fun z7 σ7 hp => ?_)
  obtain ⟨rfl, rfl⟩ := hp
  refine J_iload5 C dL_law_325 ?_
  refine J_icmp_eqS (tgt := 332) C e1 dL_law_327 (by decide) ?_
  refine J_iload5 C dL_law_332 ?_
  refine J_if_ne (tgt := 349) C (by omega) dL_law_334 (by decide) (fun ck => ?_) (fun ck => ?_)
  · skip
    refine J_goto (tgt := 1737) C dL_law_349 (by decide) ?_
    refine J_fg5 ?_
    refine J_fg6 ?_
    exact K _ r2
  · have e2 := e2 ck
    refine J_aload_3 C dL_law_337 ?_
    refine J_iconst C dL_law_338 ?_
    refine J_laload C k42 (by decide) ⟨by decide, by decide⟩ dL_law_339 ?_
    refine J_iload6 C dL_law_340 ?_
    refine J_i2lw C dL_law_342 ?_
    refine J_lif_eqS (tgt := 349) C e2 dL_law_343 dL_law_344 (by decide) ?_
    refine J_goto (tgt := 1737) C dL_law_349 (by decide) ?_
    refine J_fg5 ?_
    refine J_fg6 ?_
    exact K _ r2
set_option maxHeartbeats 4000000 in
set_option maxRecDepth 100000 in
theorem b_addWell {p : Program} {l : Launch} {e : Env} {s : State} {m : MethodId} {below : List Frame} {meth : Method} {c : Code} {cy : Nat → ClassId} {D : va_G} {ad : Ad} {A : Nat → Prop} {Q : State → Prop} {b L : Nat} {xs : Nat → Int32} {σ : Sg} {i : Int} {cells slots : Nat} (C : Cx p l e room_1 s m #[Value.ref b] below meth c cy D ad A 8 cL_law RL wsL_law) (hfl : l.stackTraces = false) (hX : va_X b L xs s s.heap) (hbl : b < s.heap.size) (hbA : ¬ A b) (hL : L ≤ 3072) (r : Rel σ) (hi : 0 ≤ i ∧ i + 6 ≤ L) (hcap : cells + 6 ≤ 648160 ∧ slots + 36 ≤ 7151623) (K : ∀ σ' : Sg, Rel σ' → JW p l e room_1 s m #[Value.ref b] below meth c cy D ad A 8 (cells + 6) (slots + 36) Q σ' 1737 [some (.ref b), some (.ref (ad 0 0)), some (.ref (ad 22 0)), some (.ref (ad 42 0)), some (.int (iI i)), none, none, none] []) : JW p l e room_1 s m #[Value.ref b] below meth c cy D ad A 8 cells slots Q σ 352 [some (.ref b), some (.ref (ad 0 0)), some (.ref (ad 22 0)), some (.ref (ad 42 0)), some (.int (iI i)), none, none, none] [] := by
  refine J_aload_1 C dL_law_352 ?_
  refine J_aload_3 C dL_law_353 ?_
  refine J_KWI C (c_L_addWell hfl C.2.1 _ r.hwc) (vx_cwSW 2 C.1.2.2.2.2 gL_law_L_addWell rfl rfl rfl (by decide +kernel) ⟨Nat.le_of_ble_eq_true rfl, Nat.le_of_ble_eq_true rfl⟩) rfl rfl (Nat.le_of_ble_eq_true rfl) dL_law_354 hcap (fun k σ1 h1 => ?_)
  have hk := m_addWell h1
  have hk03 : 0 ≤ k ∧ k ≤ 3 := by rcases h1 with ⟨rfl, _⟩ | ⟨rfl, _⟩ <;> decide
  refine J_istore5 C (by decide) rfl dL_law_357 ?_
  refine J_aload_2 C dL_law_359 ?_
  refine J_KVI C (c_X4_addWell hfl C.2.1 _ (hk.hwm r)) (cwV 0 C.1.2.2.2.2 gL_law_X4_addWell rfl rfl rfl (by decide +kernel) ⟨Nat.le_of_ble_eq_true rfl, Nat.le_of_ble_eq_true rfl⟩) rc4 (by decide) rfl rfl (Nat.le_of_ble_eq_true rfl) dL_law_360 ⟨by have := hcap.1; show cells + 6 + 0 ≤ 648160; omega, by have := hcap.2; show slots + 36 + 0 ≤ 7151623; omega⟩ (fun z σ2 h2 => ?_)
  obtain ⟨e1, e2, r2⟩ := o_addWell r h1 h2
  refine J_istore6 C (by decide) rfl dL_law_363 ?_
  refine J_aload_2 C dL_law_365 ?_
  refine J_KVI C (c_X4_thrown hfl C.2.1 _) (cwV 0 C.1.2.2.2.2 gL_law_X4_thrown rfl rfl rfl (by decide +kernel) ⟨Nat.le_of_ble_eq_true rfl, Nat.le_of_ble_eq_true rfl⟩) rc4 (by decide) rfl rfl (Nat.le_of_ble_eq_true rfl) dL_law_366 ⟨by have := hcap.1; show cells + 6 + 0 + 0 ≤ 648160; omega, by have := hcap.2; show slots + 36 + 0 + 0 ≤ 7151623; omega⟩ (fun z7 σ7 hp => ?_)
  obtain ⟨rfl, rfl⟩ := hp
  refine J_iload5 C dL_law_369 ?_
  refine J_icmp_eqS (tgt := 376) C e1 dL_law_371 (by decide) ?_
  refine J_iload5 C dL_law_376 ?_
  refine J_if_ne (tgt := 393) C (by omega) dL_law_378 (by decide) (fun ck => ?_) (fun ck => ?_)
  · skip
    refine J_goto (tgt := 1737) C dL_law_393 (by decide) ?_
    refine J_fg5 ?_
    refine J_fg6 ?_
    exact K _ r2
  · have e2 := e2 ck
    refine J_aload_3 C dL_law_381 ?_
    refine J_iconst C dL_law_382 ?_
    refine J_laload C k42 (by decide) ⟨by decide, by decide⟩ dL_law_383 ?_
    refine J_iload6 C dL_law_384 ?_
    refine J_i2lw C dL_law_386 ?_
    refine J_lif_eqS (tgt := 393) C e2 dL_law_387 dL_law_388 (by decide) ?_
    refine J_goto (tgt := 1737) C dL_law_393 (by decide) ?_
    refine J_fg5 ?_
    refine J_fg6 ?_
    exact K _ r2
set_option maxHeartbeats 4000000 in
set_option maxRecDepth 100000 in
theorem b_elect {p : Program} {l : Launch} {e : Env} {s : State} {m : MethodId} {below : List Frame} {meth : Method} {c : Code} {cy : Nat → ClassId} {D : va_G} {ad : Ad} {A : Nat → Prop} {Q : State → Prop} {b L : Nat} {xs : Nat → Int32} {σ : Sg} {i : Int} {cells slots : Nat} (C : Cx p l e room_1 s m #[Value.ref b] below meth c cy D ad A 8 cL_law RL wsL_law) (hfl : l.stackTraces = false) (hX : va_X b L xs s s.heap) (hbl : b < s.heap.size) (hbA : ¬ A b) (hL : L ≤ 3072) (r : Rel σ) (hi : 0 ≤ i ∧ i + 6 ≤ L) (hcap : cells + 6 ≤ 648160 ∧ slots + 36 ≤ 7151623) (K : ∀ σ' : Sg, Rel σ' → JW p l e room_1 s m #[Value.ref b] below meth c cy D ad A 8 (cells + 6) (slots + 36) Q σ' 1737 [some (.ref b), some (.ref (ad 0 0)), some (.ref (ad 22 0)), some (.ref (ad 42 0)), some (.int (iI i)), none, none, none] []) : JW p l e room_1 s m #[Value.ref b] below meth c cy D ad A 8 cells slots Q σ 396 [some (.ref b), some (.ref (ad 0 0)), some (.ref (ad 22 0)), some (.ref (ad 42 0)), some (.int (iI i)), none, none, none] [] := by
  have K1 : ∀ b9 : Int, (b9 = 0 ∨ b9 = 1) → (b9 = 0 ↔ sv xs i 3 = 0) → JW p l e room_1 s m #[Value.ref b] below meth c cy D ad A 8 cells slots Q σ 423 [some (.ref b), some (.ref (ad 0 0)), some (.ref (ad 22 0)), some (.ref (ad 42 0)), some (.int (iI i)), none, none, none] [.int (iI b9), .int (iI (sv xs i 2)), .int (iI (sv xs i 1)), .ref (ad 0 0)] := by
    intro b9 hb9 hbs
    refine J_aload_3 C dL_law_423 ?_
    refine J_KWI C (c_L_elect hfl C.2.1 _ (sv xs i 1) (sv xs i 2) b9 r.hwc (sv_r _ _ _) (sv_r _ _ _) hb9 r.hf r.hf3 r.hs r.hhd) (vx_cwSW 5 C.1.2.2.2.2 gL_law_L_elect rfl rfl rfl (by decide +kernel) ⟨Nat.le_of_ble_eq_true rfl, Nat.le_of_ble_eq_true rfl⟩) rfl rfl (Nat.le_of_ble_eq_true rfl) dL_law_424 hcap (fun k σ1 h1 => ?_)
    have hk := m_elect h1
    have hk03 : 0 ≤ k ∧ k ≤ 3 := by rcases h1 with ⟨rfl, _⟩ | ⟨rfl, _⟩ | ⟨rfl, _⟩ <;> decide
    have K2 : ∀ b8 : Int, b8 = b9 → JW p l e room_1 s m #[Value.ref b] below meth c cy D ad A 8 (cells + 6) (slots + 36) Q σ1 456 [some (.ref b), some (.ref (ad 0 0)), some (.ref (ad 22 0)), some (.ref (ad 42 0)), some (.int (iI i)), some (.int (iI k)), none, none] [.int (iI b8), .int (iI (sv xs i 2)), .int (iI (sv xs i 1)), .ref (ad 22 0)] := by
      intro b8 hb8
      subst hb8
      refine J_KVI C (c_X4_elect hfl C.2.1 _ (sv xs i 1) (sv xs i 2) b8 (sv_r _ _ _) (sv_r _ _ _) hb9 (hk.mi r)) (cwV 3 C.1.2.2.2.2 gL_law_X4_elect rfl rfl rfl (by decide +kernel) ⟨Nat.le_of_ble_eq_true rfl, Nat.le_of_ble_eq_true rfl⟩) rc4 (by decide) rfl rfl (Nat.le_of_ble_eq_true rfl) dL_law_456 ⟨by have := hcap.1; show cells + 6 + 0 ≤ 648160; omega, by have := hcap.2; show slots + 36 + 0 ≤ 7151623; omega⟩ (fun z σ2 h2 => ?_)
      obtain ⟨e1, e2, r2⟩ := o_elect hb9 r h1 h2
      refine J_istore6 C (by decide) rfl dL_law_459 ?_
      refine J_aload_2 C dL_law_461 ?_
      refine J_KVI C (c_X4_thrown hfl C.2.1 _) (cwV 0 C.1.2.2.2.2 gL_law_X4_thrown rfl rfl rfl (by decide +kernel) ⟨Nat.le_of_ble_eq_true rfl, Nat.le_of_ble_eq_true rfl⟩) rc4 (by decide) rfl rfl (Nat.le_of_ble_eq_true rfl) dL_law_462 ⟨by have := hcap.1; show cells + 6 + 0 + 0 ≤ 648160; omega, by have := hcap.2; show slots + 36 + 0 + 0 ≤ 7151623; omega⟩ (fun z7 σ7 hp => ?_)
      obtain ⟨rfl, rfl⟩ := hp
      refine J_iload5 C dL_law_465 ?_
      refine J_icmp_eqS (tgt := 472) C e1 dL_law_467 (by decide) ?_
      refine J_iload5 C dL_law_472 ?_
      refine J_if_ne (tgt := 496) C (by omega) dL_law_474 (by decide) (fun ck => ?_) (fun ck => ?_)
      · skip
        refine J_goto (tgt := 1737) C dL_law_496 (by decide) ?_
        refine J_fg5 ?_
        refine J_fg6 ?_
        exact K _ r2
      · have e2 := e2 ck
        refine J_aload_3 C dL_law_477 ?_
        refine J_iconst C dL_law_478 ?_
        refine J_laload C k42 (by decide) ⟨by decide, by decide⟩ dL_law_479 ?_
        refine J_iload6 C dL_law_480 ?_
        refine J_if_eq (tgt := 489) C (by omega) dL_law_482 (by decide) (fun cb => ?_) (fun cb => ?_)
        · skip
          refine J_lconst (z := 0) C (by decide) dL_law_489 ?_
          refine J_lif_eqS (tgt := 496) C (by omega) dL_law_490 dL_law_491 (by decide) ?_
          refine J_goto (tgt := 1737) C dL_law_496 (by decide) ?_
          refine J_fg5 ?_
          refine J_fg6 ?_
          exact K _ r2
        · skip
          refine J_lconst (z := 1) C (by decide) dL_law_485 ?_
          refine J_goto (tgt := 490) C dL_law_486 (by decide) ?_
          refine J_lif_eqS (tgt := 496) C (by omega) dL_law_490 dL_law_491 (by decide) ?_
          refine J_goto (tgt := 1737) C dL_law_496 (by decide) ?_
          refine J_fg5 ?_
          refine J_fg6 ?_
          exact K _ r2
    refine J_istore5 C (by decide) rfl dL_law_427 ?_
    refine J_aload_2 C dL_law_429 ?_
    refine J_aload_0 C dL_law_430 ?_
    refine J_iload4 C dL_law_431 ?_
    refine J_iconst C dL_law_433 ?_
    refine J_iadd C dL_law_434 ?_
    refine J_sld (i := i) (k := 1) C hX hbl hbA hL rfl ⟨by omega, by omega⟩ dL_law_435 ?_
    refine J_aload_0 C dL_law_436 ?_
    refine J_iload4 C dL_law_437 ?_
    refine J_iconst C dL_law_439 ?_
    refine J_iadd C dL_law_440 ?_
    refine J_sld (i := i) (k := 2) C hX hbl hbA hL rfl ⟨by omega, by omega⟩ dL_law_441 ?_
    refine J_aload_0 C dL_law_442 ?_
    refine J_iload4 C dL_law_443 ?_
    refine J_iconst C dL_law_445 ?_
    refine J_iadd C dL_law_446 ?_
    refine J_sld (i := i) (k := 3) C hX hbl hbA hL rfl ⟨by omega, by omega⟩ dL_law_447 ?_
    refine J_if_eq (tgt := 455) C (sv_r _ _ _) dL_law_448 (by decide) (fun cc => ?_) (fun cc => ?_)
    · exact J_iconst C dL_law_455 (K2 0 (hbs.mpr cc).symm)
    · exact J_iconst C dL_law_451 (J_goto (tgt := 456) C dL_law_452 (by decide) (K2 1 (hb9.resolve_left (fun z => cc (hbs.mp z))).symm))
  refine J_aload_1 C dL_law_396 ?_
  refine J_aload_0 C dL_law_397 ?_
  refine J_iload4 C dL_law_398 ?_
  refine J_iconst C dL_law_400 ?_
  refine J_iadd C dL_law_401 ?_
  refine J_sld (i := i) (k := 1) C hX hbl hbA hL rfl ⟨by omega, by omega⟩ dL_law_402 ?_
  refine J_aload_0 C dL_law_403 ?_
  refine J_iload4 C dL_law_404 ?_
  refine J_iconst C dL_law_406 ?_
  refine J_iadd C dL_law_407 ?_
  refine J_sld (i := i) (k := 2) C hX hbl hbA hL rfl ⟨by omega, by omega⟩ dL_law_408 ?_
  refine J_aload_0 C dL_law_409 ?_
  refine J_iload4 C dL_law_410 ?_
  refine J_iconst C dL_law_412 ?_
  refine J_iadd C dL_law_413 ?_
  refine J_sld (i := i) (k := 3) C hX hbl hbA hL rfl ⟨by omega, by omega⟩ dL_law_414 ?_
  refine J_if_eq (tgt := 422) C (sv_r _ _ _) dL_law_415 (by decide) (fun cc => ?_) (fun cc => ?_)
  · exact J_iconst C dL_law_422 (K1 0 (by omega) (by omega))
  · exact J_iconst C dL_law_418 (J_goto (tgt := 423) C dL_law_419 (by decide) (K1 1 (by omega) (by omega)))
set_option maxHeartbeats 4000000 in
set_option maxRecDepth 100000 in
theorem b_cost {p : Program} {l : Launch} {e : Env} {s : State} {m : MethodId} {below : List Frame} {meth : Method} {c : Code} {cy : Nat → ClassId} {D : va_G} {ad : Ad} {A : Nat → Prop} {Q : State → Prop} {b L : Nat} {xs : Nat → Int32} {σ : Sg} {i : Int} {cells slots : Nat} (C : Cx p l e room_1 s m #[Value.ref b] below meth c cy D ad A 8 cL_law RL wsL_law) (hfl : l.stackTraces = false) (hX : va_X b L xs s s.heap) (hbl : b < s.heap.size) (hbA : ¬ A b) (hL : L ≤ 3072) (r : Rel σ) (hi : 0 ≤ i ∧ i + 6 ≤ L) (hcap : cells + 6 ≤ 648160 ∧ slots + 36 ≤ 7151623) (K : ∀ σ' : Sg, Rel σ' → JW p l e room_1 s m #[Value.ref b] below meth c cy D ad A 8 (cells + 6) (slots + 36) Q σ' 1737 [some (.ref b), some (.ref (ad 0 0)), some (.ref (ad 22 0)), some (.ref (ad 42 0)), some (.int (iI i)), none, none, none] []) : JW p l e room_1 s m #[Value.ref b] below meth c cy D ad A 8 cells slots Q σ 499 [some (.ref b), some (.ref (ad 0 0)), some (.ref (ad 22 0)), some (.ref (ad 42 0)), some (.int (iI i)), none, none, none] [] := by
  refine J_aload_1 C dL_law_499 ?_
  refine J_aload_0 C dL_law_500 ?_
  refine J_iload4 C dL_law_501 ?_
  refine J_iconst C dL_law_503 ?_
  refine J_iadd C dL_law_504 ?_
  refine J_sld (i := i) (k := 1) C hX hbl hbA hL rfl ⟨by omega, by omega⟩ dL_law_505 ?_
  refine J_aload_0 C dL_law_506 ?_
  refine J_iload4 C dL_law_507 ?_
  refine J_iconst C dL_law_509 ?_
  refine J_iadd C dL_law_510 ?_
  refine J_sld (i := i) (k := 2) C hX hbl hbA hL rfl ⟨by omega, by omega⟩ dL_law_511 ?_
  refine J_aload_3 C dL_law_512 ?_
  refine J_KWI C (c_L_cost hfl C.2.1 _ (sv xs i 1) (sv xs i 2) r.hwc r.hvc (sv_r _ _ _) (sv_r _ _ _) r.hsh r.hall) (vx_cwSW 4 C.1.2.2.2.2 gL_law_L_cost rfl rfl rfl (by decide +kernel) ⟨Nat.le_of_ble_eq_true rfl, Nat.le_of_ble_eq_true rfl⟩) rfl rfl (Nat.le_of_ble_eq_true rfl) dL_law_513 hcap (fun k σ1 h1 => ?_)
  have hk := m_cost h1
  have hk03 : 0 ≤ k ∧ k ≤ 3 := by rcases h1 with ⟨rfl, _⟩ | ⟨rfl, _⟩ | ⟨rfl, _⟩ | ⟨rfl, _⟩ <;> decide
  refine J_istore5 C (by decide) rfl dL_law_516 ?_
  refine J_aload_2 C dL_law_518 ?_
  refine J_aload_0 C dL_law_519 ?_
  refine J_iload4 C dL_law_520 ?_
  refine J_iconst C dL_law_522 ?_
  refine J_iadd C dL_law_523 ?_
  refine J_sld (i := i) (k := 1) C hX hbl hbA hL rfl ⟨by omega, by omega⟩ dL_law_524 ?_
  refine J_aload_0 C dL_law_525 ?_
  refine J_iload4 C dL_law_526 ?_
  refine J_iconst C dL_law_528 ?_
  refine J_iadd C dL_law_529 ?_
  refine J_sld (i := i) (k := 2) C hX hbl hbA hL rfl ⟨by omega, by omega⟩ dL_law_530 ?_
  refine J_KVI C (c_X4_cost hfl C.2.1 _ (sv xs i 1) (sv xs i 2) (sv_r _ _ _) (sv_r _ _ _) (hk.mi r)) (cwV 2 C.1.2.2.2.2 gL_law_X4_cost rfl rfl rfl (by decide +kernel) ⟨Nat.le_of_ble_eq_true rfl, Nat.le_of_ble_eq_true rfl⟩) rc4 (by decide) rfl rfl (Nat.le_of_ble_eq_true rfl) dL_law_531 ⟨by have := hcap.1; show cells + 6 + 0 ≤ 648160; omega, by have := hcap.2; show slots + 36 + 0 ≤ 7151623; omega⟩ (fun z σ2 h2 => ?_)
  obtain ⟨e1, e2, r2⟩ := o_cost r h1 h2
  refine J_istore6 C (by decide) rfl dL_law_534 ?_
  refine J_aload_2 C dL_law_536 ?_
  refine J_KVI C (c_X4_thrown hfl C.2.1 _) (cwV 0 C.1.2.2.2.2 gL_law_X4_thrown rfl rfl rfl (by decide +kernel) ⟨Nat.le_of_ble_eq_true rfl, Nat.le_of_ble_eq_true rfl⟩) rc4 (by decide) rfl rfl (Nat.le_of_ble_eq_true rfl) dL_law_537 ⟨by have := hcap.1; show cells + 6 + 0 + 0 ≤ 648160; omega, by have := hcap.2; show slots + 36 + 0 + 0 ≤ 7151623; omega⟩ (fun z7 σ7 hp => ?_)
  obtain ⟨rfl, rfl⟩ := hp
  refine J_iload5 C dL_law_540 ?_
  refine J_icmp_eqS (tgt := 547) C e1 dL_law_542 (by decide) ?_
  refine J_iload5 C dL_law_547 ?_
  refine J_if_ne (tgt := 564) C (by omega) dL_law_549 (by decide) (fun ck => ?_) (fun ck => ?_)
  · skip
    refine J_goto (tgt := 1737) C dL_law_564 (by decide) ?_
    refine J_fg5 ?_
    refine J_fg6 ?_
    exact K _ r2
  · have e2 := e2 ck
    refine J_aload_3 C dL_law_552 ?_
    refine J_iconst C dL_law_553 ?_
    refine J_laload C k42 (by decide) ⟨by decide, by decide⟩ dL_law_554 ?_
    refine J_iload6 C dL_law_555 ?_
    refine J_i2lw C dL_law_557 ?_
    refine J_lif_eqS (tgt := 564) C e2 dL_law_558 dL_law_559 (by decide) ?_
    refine J_goto (tgt := 1737) C dL_law_564 (by decide) ?_
    refine J_fg5 ?_
    refine J_fg6 ?_
    exact K _ r2
set_option maxHeartbeats 4000000 in
set_option maxRecDepth 100000 in
theorem b_overhead {p : Program} {l : Launch} {e : Env} {s : State} {m : MethodId} {below : List Frame} {meth : Method} {c : Code} {cy : Nat → ClassId} {D : va_G} {ad : Ad} {A : Nat → Prop} {Q : State → Prop} {b L : Nat} {xs : Nat → Int32} {σ : Sg} {i : Int} {cells slots : Nat} (C : Cx p l e room_1 s m #[Value.ref b] below meth c cy D ad A 8 cL_law RL wsL_law) (hfl : l.stackTraces = false) (hX : va_X b L xs s s.heap) (hbl : b < s.heap.size) (hbA : ¬ A b) (hL : L ≤ 3072) (r : Rel σ) (hi : 0 ≤ i ∧ i + 6 ≤ L) (hcap : cells + 6 ≤ 648160 ∧ slots + 36 ≤ 7151623) (K : ∀ σ' : Sg, Rel σ' → JW p l e room_1 s m #[Value.ref b] below meth c cy D ad A 8 (cells + 6) (slots + 36) Q σ' 1737 [some (.ref b), some (.ref (ad 0 0)), some (.ref (ad 22 0)), some (.ref (ad 42 0)), some (.int (iI i)), none, none, none] []) : JW p l e room_1 s m #[Value.ref b] below meth c cy D ad A 8 cells slots Q σ 567 [some (.ref b), some (.ref (ad 0 0)), some (.ref (ad 22 0)), some (.ref (ad 42 0)), some (.int (iI i)), none, none, none] [] := by
  refine J_aload_1 C dL_law_567 ?_
  refine J_aload_0 C dL_law_568 ?_
  refine J_iload4 C dL_law_569 ?_
  refine J_iconst C dL_law_571 ?_
  refine J_iadd C dL_law_572 ?_
  refine J_sld (i := i) (k := 1) C hX hbl hbA hL rfl ⟨by omega, by omega⟩ dL_law_573 ?_
  refine J_aload_0 C dL_law_574 ?_
  refine J_iload4 C dL_law_575 ?_
  refine J_iconst C dL_law_577 ?_
  refine J_iadd C dL_law_578 ?_
  refine J_sld (i := i) (k := 2) C hX hbl hbA hL rfl ⟨by omega, by omega⟩ dL_law_579 ?_
  refine J_aload_3 C dL_law_580 ?_
  refine J_KWI C (c_L_overhead hfl C.2.1 _ (sv xs i 1) (sv xs i 2) r.hwc r.hvc (sv_r _ _ _) (sv_r _ _ _) r.hsh r.hall r.hoh) (vx_cwSW 4 C.1.2.2.2.2 gL_law_L_overhead rfl rfl rfl (by decide +kernel) ⟨Nat.le_of_ble_eq_true rfl, Nat.le_of_ble_eq_true rfl⟩) rfl rfl (Nat.le_of_ble_eq_true rfl) dL_law_581 hcap (fun k σ1 h1 => ?_)
  have hk := m_overhead h1
  have hk03 : 0 ≤ k ∧ k ≤ 3 := by rcases h1 with ⟨rfl, _⟩ | ⟨rfl, _⟩ | ⟨rfl, _⟩ | ⟨rfl, _⟩ <;> decide
  refine J_istore5 C (by decide) rfl dL_law_584 ?_
  refine J_aload_2 C dL_law_586 ?_
  refine J_aload_0 C dL_law_587 ?_
  refine J_iload4 C dL_law_588 ?_
  refine J_iconst C dL_law_590 ?_
  refine J_iadd C dL_law_591 ?_
  refine J_sld (i := i) (k := 1) C hX hbl hbA hL rfl ⟨by omega, by omega⟩ dL_law_592 ?_
  refine J_aload_0 C dL_law_593 ?_
  refine J_iload4 C dL_law_594 ?_
  refine J_iconst C dL_law_596 ?_
  refine J_iadd C dL_law_597 ?_
  refine J_sld (i := i) (k := 2) C hX hbl hbA hL rfl ⟨by omega, by omega⟩ dL_law_598 ?_
  refine J_KVI C (c_X4_overhead hfl C.2.1 _ (sv xs i 1) (sv xs i 2) (sv_r _ _ _) (sv_r _ _ _) (hk.mi r) (hk.hom r)) (cwV 2 C.1.2.2.2.2 gL_law_X4_overhead rfl rfl rfl (by decide +kernel) ⟨Nat.le_of_ble_eq_true rfl, Nat.le_of_ble_eq_true rfl⟩) rc4 (by decide) rfl rfl (Nat.le_of_ble_eq_true rfl) dL_law_599 ⟨by have := hcap.1; show cells + 6 + 0 ≤ 648160; omega, by have := hcap.2; show slots + 36 + 0 ≤ 7151623; omega⟩ (fun z σ2 h2 => ?_)
  obtain ⟨e1, e2, r2⟩ := o_overhead r h1 h2
  refine J_istore6 C (by decide) rfl dL_law_602 ?_
  refine J_aload_2 C dL_law_604 ?_
  refine J_KVI C (c_X4_thrown hfl C.2.1 _) (cwV 0 C.1.2.2.2.2 gL_law_X4_thrown rfl rfl rfl (by decide +kernel) ⟨Nat.le_of_ble_eq_true rfl, Nat.le_of_ble_eq_true rfl⟩) rc4 (by decide) rfl rfl (Nat.le_of_ble_eq_true rfl) dL_law_605 ⟨by have := hcap.1; show cells + 6 + 0 + 0 ≤ 648160; omega, by have := hcap.2; show slots + 36 + 0 + 0 ≤ 7151623; omega⟩ (fun z7 σ7 hp => ?_)
  obtain ⟨rfl, rfl⟩ := hp
  refine J_iload5 C dL_law_608 ?_
  refine J_icmp_eqS (tgt := 615) C e1 dL_law_610 (by decide) ?_
  refine J_iload5 C dL_law_615 ?_
  refine J_if_ne (tgt := 632) C (by omega) dL_law_617 (by decide) (fun ck => ?_) (fun ck => ?_)
  · skip
    refine J_goto (tgt := 1737) C dL_law_632 (by decide) ?_
    refine J_fg5 ?_
    refine J_fg6 ?_
    exact K _ r2
  · have e2 := e2 ck
    refine J_aload_3 C dL_law_620 ?_
    refine J_iconst C dL_law_621 ?_
    refine J_laload C k42 (by decide) ⟨by decide, by decide⟩ dL_law_622 ?_
    refine J_iload6 C dL_law_623 ?_
    refine J_i2lw C dL_law_625 ?_
    refine J_lif_eqS (tgt := 632) C e2 dL_law_626 dL_law_627 (by decide) ?_
    refine J_goto (tgt := 1737) C dL_law_632 (by decide) ?_
    refine J_fg5 ?_
    refine J_fg6 ?_
    exact K _ r2
set_option maxHeartbeats 4000000 in
set_option maxRecDepth 100000 in
theorem b_income {p : Program} {l : Launch} {e : Env} {s : State} {m : MethodId} {below : List Frame} {meth : Method} {c : Code} {cy : Nat → ClassId} {D : va_G} {ad : Ad} {A : Nat → Prop} {Q : State → Prop} {b L : Nat} {xs : Nat → Int32} {σ : Sg} {i : Int} {cells slots : Nat} (C : Cx p l e room_1 s m #[Value.ref b] below meth c cy D ad A 8 cL_law RL wsL_law) (hfl : l.stackTraces = false) (hX : va_X b L xs s s.heap) (hbl : b < s.heap.size) (hbA : ¬ A b) (hL : L ≤ 3072) (r : Rel σ) (hi : 0 ≤ i ∧ i + 6 ≤ L) (hcap : cells + 6 ≤ 648160 ∧ slots + 36 ≤ 7151623) (K : ∀ σ' : Sg, Rel σ' → JW p l e room_1 s m #[Value.ref b] below meth c cy D ad A 8 (cells + 6) (slots + 36) Q σ' 1737 [some (.ref b), some (.ref (ad 0 0)), some (.ref (ad 22 0)), some (.ref (ad 42 0)), some (.int (iI i)), none, none, none] []) : JW p l e room_1 s m #[Value.ref b] below meth c cy D ad A 8 cells slots Q σ 635 [some (.ref b), some (.ref (ad 0 0)), some (.ref (ad 22 0)), some (.ref (ad 42 0)), some (.int (iI i)), none, none, none] [] := by
  refine J_aload_1 C dL_law_635 ?_
  refine J_aload_0 C dL_law_636 ?_
  refine J_iload4 C dL_law_637 ?_
  refine J_iconst C dL_law_639 ?_
  refine J_iadd C dL_law_640 ?_
  refine J_sld (i := i) (k := 1) C hX hbl hbA hL rfl ⟨by omega, by omega⟩ dL_law_641 ?_
  refine J_aload_0 C dL_law_642 ?_
  refine J_iload4 C dL_law_643 ?_
  refine J_iconst C dL_law_645 ?_
  refine J_iadd C dL_law_646 ?_
  refine J_sld (i := i) (k := 2) C hX hbl hbA hL rfl ⟨by omega, by omega⟩ dL_law_647 ?_
  refine J_aload_3 C dL_law_648 ?_
  refine J_KWI C (c_L_income hfl C.2.1 _ (sv xs i 1) (sv xs i 2) r.hwc r.hvc (sv_r _ _ _) (sv_r _ _ _) r.hsh r.hall) (vx_cwSW 4 C.1.2.2.2.2 gL_law_L_income rfl rfl rfl (by decide +kernel) ⟨Nat.le_of_ble_eq_true rfl, Nat.le_of_ble_eq_true rfl⟩) rfl rfl (Nat.le_of_ble_eq_true rfl) dL_law_649 hcap (fun k σ1 h1 => ?_)
  have hk := m_income h1
  have hk03 : 0 ≤ k ∧ k ≤ 3 := by rcases h1 with ⟨rfl, _⟩ | ⟨rfl, _⟩ | ⟨rfl, _⟩ | ⟨rfl, _⟩ <;> decide
  refine J_istore5 C (by decide) rfl dL_law_652 ?_
  refine J_aload_2 C dL_law_654 ?_
  refine J_aload_0 C dL_law_655 ?_
  refine J_iload4 C dL_law_656 ?_
  refine J_iconst C dL_law_658 ?_
  refine J_iadd C dL_law_659 ?_
  refine J_sld (i := i) (k := 1) C hX hbl hbA hL rfl ⟨by omega, by omega⟩ dL_law_660 ?_
  refine J_aload_0 C dL_law_661 ?_
  refine J_iload4 C dL_law_662 ?_
  refine J_iconst C dL_law_664 ?_
  refine J_iadd C dL_law_665 ?_
  refine J_sld (i := i) (k := 2) C hX hbl hbA hL rfl ⟨by omega, by omega⟩ dL_law_666 ?_
  refine J_KVI C (c_X4_income hfl C.2.1 _ (sv xs i 1) (sv xs i 2) (sv_r _ _ _) (sv_r _ _ _) (hk.mi r)) (cwV 2 C.1.2.2.2.2 gL_law_X4_income rfl rfl rfl (by decide +kernel) ⟨Nat.le_of_ble_eq_true rfl, Nat.le_of_ble_eq_true rfl⟩) rc4 (by decide) rfl rfl (Nat.le_of_ble_eq_true rfl) dL_law_667 ⟨by have := hcap.1; show cells + 6 + 0 ≤ 648160; omega, by have := hcap.2; show slots + 36 + 0 ≤ 7151623; omega⟩ (fun z σ2 h2 => ?_)
  obtain ⟨e1, e2, r2⟩ := o_income r h1 h2
  refine J_istore6 C (by decide) rfl dL_law_670 ?_
  refine J_aload_2 C dL_law_672 ?_
  refine J_KVI C (c_X4_thrown hfl C.2.1 _) (cwV 0 C.1.2.2.2.2 gL_law_X4_thrown rfl rfl rfl (by decide +kernel) ⟨Nat.le_of_ble_eq_true rfl, Nat.le_of_ble_eq_true rfl⟩) rc4 (by decide) rfl rfl (Nat.le_of_ble_eq_true rfl) dL_law_673 ⟨by have := hcap.1; show cells + 6 + 0 + 0 ≤ 648160; omega, by have := hcap.2; show slots + 36 + 0 + 0 ≤ 7151623; omega⟩ (fun z7 σ7 hp => ?_)
  obtain ⟨rfl, rfl⟩ := hp
  refine J_iload5 C dL_law_676 ?_
  refine J_icmp_eqS (tgt := 683) C e1 dL_law_678 (by decide) ?_
  refine J_iload5 C dL_law_683 ?_
  refine J_if_ne (tgt := 700) C (by omega) dL_law_685 (by decide) (fun ck => ?_) (fun ck => ?_)
  · skip
    refine J_goto (tgt := 1737) C dL_law_700 (by decide) ?_
    refine J_fg5 ?_
    refine J_fg6 ?_
    exact K _ r2
  · have e2 := e2 ck
    refine J_aload_3 C dL_law_688 ?_
    refine J_iconst C dL_law_689 ?_
    refine J_laload C k42 (by decide) ⟨by decide, by decide⟩ dL_law_690 ?_
    refine J_iload6 C dL_law_691 ?_
    refine J_i2lw C dL_law_693 ?_
    refine J_lif_eqS (tgt := 700) C e2 dL_law_694 dL_law_695 (by decide) ?_
    refine J_goto (tgt := 1737) C dL_law_700 (by decide) ?_
    refine J_fg5 ?_
    refine J_fg6 ?_
    exact K _ r2
set_option maxHeartbeats 4000000 in
set_option maxRecDepth 100000 in
theorem b_move {p : Program} {l : Launch} {e : Env} {s : State} {m : MethodId} {below : List Frame} {meth : Method} {c : Code} {cy : Nat → ClassId} {D : va_G} {ad : Ad} {A : Nat → Prop} {Q : State → Prop} {b L : Nat} {xs : Nat → Int32} {σ : Sg} {i : Int} {cells slots : Nat} (C : Cx p l e room_1 s m #[Value.ref b] below meth c cy D ad A 8 cL_law RL wsL_law) (hfl : l.stackTraces = false) (hX : va_X b L xs s s.heap) (hbl : b < s.heap.size) (hbA : ¬ A b) (hL : L ≤ 3072) (r : Rel σ) (hi : 0 ≤ i ∧ i + 6 ≤ L) (hcap : cells + 6 ≤ 648160 ∧ slots + 36 ≤ 7151623) (K : ∀ σ' : Sg, Rel σ' → JW p l e room_1 s m #[Value.ref b] below meth c cy D ad A 8 (cells + 6) (slots + 36) Q σ' 1737 [some (.ref b), some (.ref (ad 0 0)), some (.ref (ad 22 0)), some (.ref (ad 42 0)), some (.int (iI i)), none, none, none] []) : JW p l e room_1 s m #[Value.ref b] below meth c cy D ad A 8 cells slots Q σ 703 [some (.ref b), some (.ref (ad 0 0)), some (.ref (ad 22 0)), some (.ref (ad 42 0)), some (.int (iI i)), none, none, none] [] := by
  refine J_aload_1 C dL_law_703 ?_
  refine J_aload_0 C dL_law_704 ?_
  refine J_iload4 C dL_law_705 ?_
  refine J_iconst C dL_law_707 ?_
  refine J_iadd C dL_law_708 ?_
  refine J_sld (i := i) (k := 1) C hX hbl hbA hL rfl ⟨by omega, by omega⟩ dL_law_709 ?_
  refine J_aload_0 C dL_law_710 ?_
  refine J_iload4 C dL_law_711 ?_
  refine J_iconst C dL_law_713 ?_
  refine J_iadd C dL_law_714 ?_
  refine J_sld (i := i) (k := 2) C hX hbl hbA hL rfl ⟨by omega, by omega⟩ dL_law_715 ?_
  refine J_aload_3 C dL_law_716 ?_
  refine J_KWI C (c_L_move hfl C.2.1 _ (sv xs i 1) (sv xs i 2) r.hwc r.hvc (sv_r _ _ _) (sv_r _ _ _) r.hvs r.hsh r.hel) (vx_cwSW 4 C.1.2.2.2.2 gL_law_L_move rfl rfl rfl (by decide +kernel) ⟨Nat.le_of_ble_eq_true rfl, Nat.le_of_ble_eq_true rfl⟩) rfl rfl (Nat.le_of_ble_eq_true rfl) dL_law_717 hcap (fun k σ1 h1 => ?_)
  have hk := m_move h1
  have hk03 : 0 ≤ k ∧ k ≤ 3 := by rcases h1 with ⟨rfl, _⟩ | ⟨rfl, _⟩ | ⟨rfl, _⟩ <;> decide
  refine J_istore5 C (by decide) rfl dL_law_720 ?_
  refine J_aload_2 C dL_law_722 ?_
  refine J_aload_0 C dL_law_723 ?_
  refine J_iload4 C dL_law_724 ?_
  refine J_iconst C dL_law_726 ?_
  refine J_iadd C dL_law_727 ?_
  refine J_sld (i := i) (k := 1) C hX hbl hbA hL rfl ⟨by omega, by omega⟩ dL_law_728 ?_
  refine J_aload_0 C dL_law_729 ?_
  refine J_iload4 C dL_law_730 ?_
  refine J_iconst C dL_law_732 ?_
  refine J_iadd C dL_law_733 ?_
  refine J_sld (i := i) (k := 2) C hX hbl hbA hL rfl ⟨by omega, by omega⟩ dL_law_734 ?_
  refine J_KVI C (c_X4_move hfl C.2.1 _ (sv xs i 1) (sv xs i 2) (sv_r _ _ _) (sv_r _ _ _) (hk.mi r)) (cwV 2 C.1.2.2.2.2 gL_law_X4_move rfl rfl rfl (by decide +kernel) ⟨Nat.le_of_ble_eq_true rfl, Nat.le_of_ble_eq_true rfl⟩) rc4 (by decide) rfl rfl (Nat.le_of_ble_eq_true rfl) dL_law_735 ⟨by have := hcap.1; show cells + 6 + 0 ≤ 648160; omega, by have := hcap.2; show slots + 36 + 0 ≤ 7151623; omega⟩ (fun z σ2 h2 => ?_)
  obtain ⟨e1, e2, r2⟩ := o_move r h1 h2
  refine J_istore6 C (by decide) rfl dL_law_738 ?_
  refine J_aload_2 C dL_law_740 ?_
  refine J_KVI C (c_X4_thrown hfl C.2.1 _) (cwV 0 C.1.2.2.2.2 gL_law_X4_thrown rfl rfl rfl (by decide +kernel) ⟨Nat.le_of_ble_eq_true rfl, Nat.le_of_ble_eq_true rfl⟩) rc4 (by decide) rfl rfl (Nat.le_of_ble_eq_true rfl) dL_law_741 ⟨by have := hcap.1; show cells + 6 + 0 + 0 ≤ 648160; omega, by have := hcap.2; show slots + 36 + 0 + 0 ≤ 7151623; omega⟩ (fun z7 σ7 hp => ?_)
  obtain ⟨rfl, rfl⟩ := hp
  refine J_iload5 C dL_law_744 ?_
  refine J_icmp_eqS (tgt := 751) C e1 dL_law_746 (by decide) ?_
  refine J_iload5 C dL_law_751 ?_
  refine J_if_ne (tgt := 768) C (by omega) dL_law_753 (by decide) (fun ck => ?_) (fun ck => ?_)
  · skip
    refine J_goto (tgt := 1737) C dL_law_768 (by decide) ?_
    refine J_fg5 ?_
    refine J_fg6 ?_
    exact K _ r2
  · have e2 := e2 ck
    refine J_aload_3 C dL_law_756 ?_
    refine J_iconst C dL_law_757 ?_
    refine J_laload C k42 (by decide) ⟨by decide, by decide⟩ dL_law_758 ?_
    refine J_iload6 C dL_law_759 ?_
    refine J_i2lw C dL_law_761 ?_
    refine J_lif_eqS (tgt := 768) C e2 dL_law_762 dL_law_763 (by decide) ?_
    refine J_goto (tgt := 1737) C dL_law_768 (by decide) ?_
    refine J_fg5 ?_
    refine J_fg6 ?_
    exact K _ r2
set_option maxHeartbeats 4000000 in
set_option maxRecDepth 100000 in
theorem b_vouchers {p : Program} {l : Launch} {e : Env} {s : State} {m : MethodId} {below : List Frame} {meth : Method} {c : Code} {cy : Nat → ClassId} {D : va_G} {ad : Ad} {A : Nat → Prop} {Q : State → Prop} {b L : Nat} {xs : Nat → Int32} {σ : Sg} {i : Int} {cells slots : Nat} (C : Cx p l e room_1 s m #[Value.ref b] below meth c cy D ad A 8 cL_law RL wsL_law) (hfl : l.stackTraces = false) (hX : va_X b L xs s s.heap) (hbl : b < s.heap.size) (hbA : ¬ A b) (hL : L ≤ 3072) (r : Rel σ) (hi : 0 ≤ i ∧ i + 6 ≤ L) (hcap : cells + 6 ≤ 648160 ∧ slots + 36 ≤ 7151623) (K : ∀ σ' : Sg, Rel σ' → JW p l e room_1 s m #[Value.ref b] below meth c cy D ad A 8 (cells + 6) (slots + 36) Q σ' 1737 [some (.ref b), some (.ref (ad 0 0)), some (.ref (ad 22 0)), some (.ref (ad 42 0)), some (.int (iI i)), none, none, none] []) : JW p l e room_1 s m #[Value.ref b] below meth c cy D ad A 8 cells slots Q σ 771 [some (.ref b), some (.ref (ad 0 0)), some (.ref (ad 22 0)), some (.ref (ad 42 0)), some (.int (iI i)), none, none, none] [] := by
  refine J_aload_1 C dL_law_771 ?_
  refine J_KVI C (c_X3_vouchers hfl C.2.1 _) (cwV 0 C.1.2.2.2.2 gL_law_X3_vouchers rfl rfl rfl (by decide +kernel) ⟨Nat.le_of_ble_eq_true rfl, Nat.le_of_ble_eq_true rfl⟩) rc3 (by decide) rfl rfl (Nat.le_of_ble_eq_true rfl) dL_law_772 ⟨by have := hcap.1; show cells + 0 ≤ 648160; omega, by have := hcap.2; show slots + 0 ≤ 7151623; omega⟩ (fun z1 σ1 hp => ?_)
  obtain ⟨rfl, rfl⟩ := hp
  refine J_aload_2 C dL_law_775 ?_
  refine J_KVI C (c_X4_vouchers hfl C.2.1 _) (cwV 0 C.1.2.2.2.2 gL_law_X4_vouchers rfl rfl rfl (by decide +kernel) ⟨Nat.le_of_ble_eq_true rfl, Nat.le_of_ble_eq_true rfl⟩) rc4 (by decide) rfl rfl (Nat.le_of_ble_eq_true rfl) dL_law_776 ⟨by have := hcap.1; show cells + 0 + 0 ≤ 648160; omega, by have := hcap.2; show slots + 0 + 0 ≤ 7151623; omega⟩ (fun z2 σ2 hp => ?_)
  obtain ⟨rfl, rfl⟩ := hp
  refine J_icmp_eqS (tgt := 1737) C r.1.2.2.2.1.2.1.symm dL_law_779 (by decide) ?_
  refine J_widen (k := cells + 6) (n := slots + 36) (by omega) (by omega) ?_
  exact K _ (rel_e r (cd := 0) (fun a b c _ => rfl)).2
set_option maxHeartbeats 4000000 in
set_option maxRecDepth 100000 in
theorem b_wellOf {p : Program} {l : Launch} {e : Env} {s : State} {m : MethodId} {below : List Frame} {meth : Method} {c : Code} {cy : Nat → ClassId} {D : va_G} {ad : Ad} {A : Nat → Prop} {Q : State → Prop} {b L : Nat} {xs : Nat → Int32} {σ : Sg} {i : Int} {cells slots : Nat} (C : Cx p l e room_1 s m #[Value.ref b] below meth c cy D ad A 8 cL_law RL wsL_law) (hfl : l.stackTraces = false) (hX : va_X b L xs s s.heap) (hbl : b < s.heap.size) (hbA : ¬ A b) (hL : L ≤ 3072) (r : Rel σ) (hi : 0 ≤ i ∧ i + 6 ≤ L) (hcap : cells + 6 ≤ 648160 ∧ slots + 36 ≤ 7151623) (K : ∀ σ' : Sg, Rel σ' → JW p l e room_1 s m #[Value.ref b] below meth c cy D ad A 8 (cells + 6) (slots + 36) Q σ' 1737 [some (.ref b), some (.ref (ad 0 0)), some (.ref (ad 22 0)), some (.ref (ad 42 0)), some (.int (iI i)), none, none, none] []) : JW p l e room_1 s m #[Value.ref b] below meth c cy D ad A 8 cells slots Q σ 784 [some (.ref b), some (.ref (ad 0 0)), some (.ref (ad 22 0)), some (.ref (ad 42 0)), some (.int (iI i)), none, none, none] [] := by
  refine J_aload_1 C dL_law_784 ?_
  refine J_aload_0 C dL_law_785 ?_
  refine J_iload4 C dL_law_786 ?_
  refine J_iconst C dL_law_788 ?_
  refine J_iadd C dL_law_789 ?_
  refine J_sld (i := i) (k := 1) C hX hbl hbA hL rfl ⟨by omega, by omega⟩ dL_law_790 ?_
  refine J_aload_3 C dL_law_791 ?_
  refine J_KWI C (c_L_wellOf hfl C.2.1 _ (sv xs i 1) r.hvc (sv_r _ _ _)) (vx_cwSW 3 C.1.2.2.2.2 gL_law_L_wellOf rfl rfl rfl (by decide +kernel) ⟨Nat.le_of_ble_eq_true rfl, Nat.le_of_ble_eq_true rfl⟩) rfl rfl (Nat.le_of_ble_eq_true rfl) dL_law_792 hcap (fun k σ1 h1 => ?_)
  have hk := m_wellOf h1
  have hk03 : 0 ≤ k ∧ k ≤ 3 := by rcases h1 with ⟨rfl, _⟩ | ⟨rfl, _⟩ <;> decide
  refine J_istore5 C (by decide) rfl dL_law_795 ?_
  refine J_aload_2 C dL_law_797 ?_
  refine J_aload_0 C dL_law_798 ?_
  refine J_iload4 C dL_law_799 ?_
  refine J_iconst C dL_law_801 ?_
  refine J_iadd C dL_law_802 ?_
  refine J_sld (i := i) (k := 1) C hX hbl hbA hL rfl ⟨by omega, by omega⟩ dL_law_803 ?_
  refine J_KVI C (c_X4_wellOf hfl C.2.1 _ (sv xs i 1) (sv_r _ _ _) (hk.mi r)) (cwV 1 C.1.2.2.2.2 gL_law_X4_wellOf rfl rfl rfl (by decide +kernel) ⟨Nat.le_of_ble_eq_true rfl, Nat.le_of_ble_eq_true rfl⟩) rc4 (by decide) rfl rfl (Nat.le_of_ble_eq_true rfl) dL_law_804 ⟨by have := hcap.1; show cells + 6 + 0 ≤ 648160; omega, by have := hcap.2; show slots + 36 + 0 ≤ 7151623; omega⟩ (fun z σ2 h2 => ?_)
  obtain ⟨e1, e2, r2⟩ := o_wellOf r h1 h2
  refine J_istore6 C (by decide) rfl dL_law_807 ?_
  refine J_aload_2 C dL_law_809 ?_
  refine J_KVI C (c_X4_thrown hfl C.2.1 _) (cwV 0 C.1.2.2.2.2 gL_law_X4_thrown rfl rfl rfl (by decide +kernel) ⟨Nat.le_of_ble_eq_true rfl, Nat.le_of_ble_eq_true rfl⟩) rc4 (by decide) rfl rfl (Nat.le_of_ble_eq_true rfl) dL_law_810 ⟨by have := hcap.1; show cells + 6 + 0 + 0 ≤ 648160; omega, by have := hcap.2; show slots + 36 + 0 + 0 ≤ 7151623; omega⟩ (fun z7 σ7 hp => ?_)
  obtain ⟨rfl, rfl⟩ := hp
  refine J_iload5 C dL_law_813 ?_
  refine J_icmp_eqS (tgt := 820) C e1 dL_law_815 (by decide) ?_
  refine J_iload5 C dL_law_820 ?_
  refine J_if_ne (tgt := 837) C (by omega) dL_law_822 (by decide) (fun ck => ?_) (fun ck => ?_)
  · skip
    refine J_goto (tgt := 1737) C dL_law_837 (by decide) ?_
    refine J_fg5 ?_
    refine J_fg6 ?_
    exact K _ r2
  · have e2 := e2 ck
    refine J_aload_3 C dL_law_825 ?_
    refine J_iconst C dL_law_826 ?_
    refine J_laload C k42 (by decide) ⟨by decide, by decide⟩ dL_law_827 ?_
    refine J_iload6 C dL_law_828 ?_
    refine J_i2lw C dL_law_830 ?_
    refine J_lif_eqS (tgt := 837) C e2 dL_law_831 dL_law_832 (by decide) ?_
    refine J_goto (tgt := 1737) C dL_law_837 (by decide) ?_
    refine J_fg5 ?_
    refine J_fg6 ?_
    exact K _ r2
set_option maxHeartbeats 4000000 in
set_option maxRecDepth 100000 in
theorem b_amountOf {p : Program} {l : Launch} {e : Env} {s : State} {m : MethodId} {below : List Frame} {meth : Method} {c : Code} {cy : Nat → ClassId} {D : va_G} {ad : Ad} {A : Nat → Prop} {Q : State → Prop} {b L : Nat} {xs : Nat → Int32} {σ : Sg} {i : Int} {cells slots : Nat} (C : Cx p l e room_1 s m #[Value.ref b] below meth c cy D ad A 8 cL_law RL wsL_law) (hfl : l.stackTraces = false) (hX : va_X b L xs s s.heap) (hbl : b < s.heap.size) (hbA : ¬ A b) (hL : L ≤ 3072) (r : Rel σ) (hi : 0 ≤ i ∧ i + 6 ≤ L) (hcap : cells + 6 ≤ 648160 ∧ slots + 36 ≤ 7151623) (K : ∀ σ' : Sg, Rel σ' → JW p l e room_1 s m #[Value.ref b] below meth c cy D ad A 8 (cells + 6) (slots + 36) Q σ' 1737 [some (.ref b), some (.ref (ad 0 0)), some (.ref (ad 22 0)), some (.ref (ad 42 0)), some (.int (iI i)), none, none, none] []) : JW p l e room_1 s m #[Value.ref b] below meth c cy D ad A 8 cells slots Q σ 840 [some (.ref b), some (.ref (ad 0 0)), some (.ref (ad 22 0)), some (.ref (ad 42 0)), some (.int (iI i)), none, none, none] [] := by
  refine J_aload_1 C dL_law_840 ?_
  refine J_aload_0 C dL_law_841 ?_
  refine J_iload4 C dL_law_842 ?_
  refine J_iconst C dL_law_844 ?_
  refine J_iadd C dL_law_845 ?_
  refine J_sld (i := i) (k := 1) C hX hbl hbA hL rfl ⟨by omega, by omega⟩ dL_law_846 ?_
  refine J_aload_3 C dL_law_847 ?_
  refine J_KWI C (c_L_amountOf hfl C.2.1 _ (sv xs i 1) r.hvc (sv_r _ _ _)) (vx_cwSW 3 C.1.2.2.2.2 gL_law_L_amountOf rfl rfl rfl (by decide +kernel) ⟨Nat.le_of_ble_eq_true rfl, Nat.le_of_ble_eq_true rfl⟩) rfl rfl (Nat.le_of_ble_eq_true rfl) dL_law_848 hcap (fun k σ1 h1 => ?_)
  have hk := m_amountOf h1
  have hk03 : 0 ≤ k ∧ k ≤ 3 := by rcases h1 with ⟨rfl, _⟩ | ⟨rfl, _⟩ <;> decide
  refine J_istore5 C (by decide) rfl dL_law_851 ?_
  refine J_aload_2 C dL_law_853 ?_
  refine J_aload_0 C dL_law_854 ?_
  refine J_iload4 C dL_law_855 ?_
  refine J_iconst C dL_law_857 ?_
  refine J_iadd C dL_law_858 ?_
  refine J_sld (i := i) (k := 1) C hX hbl hbA hL rfl ⟨by omega, by omega⟩ dL_law_859 ?_
  refine J_KVI C (c_X4_amountOf hfl C.2.1 _ (sv xs i 1) (sv_r _ _ _) (hk.mi r)) (cwV 1 C.1.2.2.2.2 gL_law_X4_amountOf rfl rfl rfl (by decide +kernel) ⟨Nat.le_of_ble_eq_true rfl, Nat.le_of_ble_eq_true rfl⟩) rc4 (by decide) rfl rfl (Nat.le_of_ble_eq_true rfl) dL_law_860 ⟨by have := hcap.1; show cells + 6 + 0 ≤ 648160; omega, by have := hcap.2; show slots + 36 + 0 ≤ 7151623; omega⟩ (fun z σ2 h2 => ?_)
  obtain ⟨e1, e2, r2⟩ := o_amountOf r h1 h2
  refine J_istore6 C (by decide) rfl dL_law_863 ?_
  refine J_aload_2 C dL_law_865 ?_
  refine J_KVI C (c_X4_thrown hfl C.2.1 _) (cwV 0 C.1.2.2.2.2 gL_law_X4_thrown rfl rfl rfl (by decide +kernel) ⟨Nat.le_of_ble_eq_true rfl, Nat.le_of_ble_eq_true rfl⟩) rc4 (by decide) rfl rfl (Nat.le_of_ble_eq_true rfl) dL_law_866 ⟨by have := hcap.1; show cells + 6 + 0 + 0 ≤ 648160; omega, by have := hcap.2; show slots + 36 + 0 + 0 ≤ 7151623; omega⟩ (fun z7 σ7 hp => ?_)
  obtain ⟨rfl, rfl⟩ := hp
  refine J_iload5 C dL_law_869 ?_
  refine J_icmp_eqS (tgt := 876) C e1 dL_law_871 (by decide) ?_
  refine J_iload5 C dL_law_876 ?_
  refine J_if_ne (tgt := 893) C (by omega) dL_law_878 (by decide) (fun ck => ?_) (fun ck => ?_)
  · skip
    refine J_goto (tgt := 1737) C dL_law_893 (by decide) ?_
    refine J_fg5 ?_
    refine J_fg6 ?_
    exact K _ r2
  · have e2 := e2 ck
    refine J_aload_3 C dL_law_881 ?_
    refine J_iconst C dL_law_882 ?_
    refine J_laload C k42 (by decide) ⟨by decide, by decide⟩ dL_law_883 ?_
    refine J_iload6 C dL_law_884 ?_
    refine J_i2lw C dL_law_886 ?_
    refine J_lif_eqS (tgt := 893) C e2 dL_law_887 dL_law_888 (by decide) ?_
    refine J_goto (tgt := 1737) C dL_law_893 (by decide) ?_
    refine J_fg5 ?_
    refine J_fg6 ?_
    exact K _ r2
set_option maxHeartbeats 4000000 in
set_option maxRecDepth 100000 in
theorem b_isIn {p : Program} {l : Launch} {e : Env} {s : State} {m : MethodId} {below : List Frame} {meth : Method} {c : Code} {cy : Nat → ClassId} {D : va_G} {ad : Ad} {A : Nat → Prop} {Q : State → Prop} {b L : Nat} {xs : Nat → Int32} {σ : Sg} {i : Int} {cells slots : Nat} (C : Cx p l e room_1 s m #[Value.ref b] below meth c cy D ad A 8 cL_law RL wsL_law) (hfl : l.stackTraces = false) (hX : va_X b L xs s s.heap) (hbl : b < s.heap.size) (hbA : ¬ A b) (hL : L ≤ 3072) (r : Rel σ) (hi : 0 ≤ i ∧ i + 6 ≤ L) (hcap : cells + 6 ≤ 648160 ∧ slots + 36 ≤ 7151623) (K : ∀ σ' : Sg, Rel σ' → JW p l e room_1 s m #[Value.ref b] below meth c cy D ad A 8 (cells + 6) (slots + 36) Q σ' 1737 [some (.ref b), some (.ref (ad 0 0)), some (.ref (ad 22 0)), some (.ref (ad 42 0)), some (.int (iI i)), none, none, none] []) : JW p l e room_1 s m #[Value.ref b] below meth c cy D ad A 8 cells slots Q σ 896 [some (.ref b), some (.ref (ad 0 0)), some (.ref (ad 22 0)), some (.ref (ad 42 0)), some (.int (iI i)), none, none, none] [] := by
  refine J_aload_1 C dL_law_896 ?_
  refine J_aload_0 C dL_law_897 ?_
  refine J_iload4 C dL_law_898 ?_
  refine J_iconst C dL_law_900 ?_
  refine J_iadd C dL_law_901 ?_
  refine J_sld (i := i) (k := 1) C hX hbl hbA hL rfl ⟨by omega, by omega⟩ dL_law_902 ?_
  refine J_aload_0 C dL_law_903 ?_
  refine J_iload4 C dL_law_904 ?_
  refine J_iconst C dL_law_906 ?_
  refine J_iadd C dL_law_907 ?_
  refine J_sld (i := i) (k := 2) C hX hbl hbA hL rfl ⟨by omega, by omega⟩ dL_law_908 ?_
  refine J_aload_3 C dL_law_909 ?_
  refine J_KWI C (c_L_isIn hfl C.2.1 _ (sv xs i 1) (sv xs i 2) r.hwc (sv_r _ _ _) (sv_r _ _ _) r.hf r.hs) (vx_cwSW 4 C.1.2.2.2.2 gL_law_L_isIn rfl rfl rfl (by decide +kernel) ⟨Nat.le_of_ble_eq_true rfl, Nat.le_of_ble_eq_true rfl⟩) rfl rfl (Nat.le_of_ble_eq_true rfl) dL_law_910 hcap (fun k σ1 h1 => ?_)
  have hk := m_isIn h1
  have hk03 : 0 ≤ k ∧ k ≤ 3 := by rcases h1 with ⟨rfl, _⟩ | ⟨rfl, _⟩ <;> decide
  refine J_istore5 C (by decide) rfl dL_law_913 ?_
  refine J_aload_2 C dL_law_915 ?_
  refine J_aload_0 C dL_law_916 ?_
  refine J_iload4 C dL_law_917 ?_
  refine J_iconst C dL_law_919 ?_
  refine J_iadd C dL_law_920 ?_
  refine J_sld (i := i) (k := 1) C hX hbl hbA hL rfl ⟨by omega, by omega⟩ dL_law_921 ?_
  refine J_aload_0 C dL_law_922 ?_
  refine J_iload4 C dL_law_923 ?_
  refine J_iconst C dL_law_925 ?_
  refine J_iadd C dL_law_926 ?_
  refine J_sld (i := i) (k := 2) C hX hbl hbA hL rfl ⟨by omega, by omega⟩ dL_law_927 ?_
  refine J_KVI C (c_X4_isIn hfl C.2.1 _ (sv xs i 1) (sv xs i 2) (sv_r _ _ _) (sv_r _ _ _) (hk.mi r)) (cwV 2 C.1.2.2.2.2 gL_law_X4_isIn rfl rfl rfl (by decide +kernel) ⟨Nat.le_of_ble_eq_true rfl, Nat.le_of_ble_eq_true rfl⟩) rc4 (by decide) rfl rfl (Nat.le_of_ble_eq_true rfl) dL_law_928 ⟨by have := hcap.1; show cells + 6 + 0 ≤ 648160; omega, by have := hcap.2; show slots + 36 + 0 ≤ 7151623; omega⟩ (fun z σ2 h2 => ?_)
  obtain ⟨e1, e2, r2⟩ := o_isIn r h1 h2
  refine J_istore6 C (by decide) rfl dL_law_931 ?_
  refine J_aload_2 C dL_law_933 ?_
  refine J_KVI C (c_X4_thrown hfl C.2.1 _) (cwV 0 C.1.2.2.2.2 gL_law_X4_thrown rfl rfl rfl (by decide +kernel) ⟨Nat.le_of_ble_eq_true rfl, Nat.le_of_ble_eq_true rfl⟩) rc4 (by decide) rfl rfl (Nat.le_of_ble_eq_true rfl) dL_law_934 ⟨by have := hcap.1; show cells + 6 + 0 + 0 ≤ 648160; omega, by have := hcap.2; show slots + 36 + 0 + 0 ≤ 7151623; omega⟩ (fun z7 σ7 hp => ?_)
  obtain ⟨rfl, rfl⟩ := hp
  refine J_iload5 C dL_law_937 ?_
  refine J_icmp_eqS (tgt := 944) C e1 dL_law_939 (by decide) ?_
  refine J_iload5 C dL_law_944 ?_
  refine J_if_ne (tgt := 968) C (by omega) dL_law_946 (by decide) (fun ck => ?_) (fun ck => ?_)
  · skip
    refine J_goto (tgt := 1737) C dL_law_968 (by decide) ?_
    refine J_fg5 ?_
    refine J_fg6 ?_
    exact K _ r2
  · have e2 := e2 ck
    refine J_aload_3 C dL_law_949 ?_
    refine J_iconst C dL_law_950 ?_
    refine J_laload C k42 (by decide) ⟨by decide, by decide⟩ dL_law_951 ?_
    refine J_iload6 C dL_law_952 ?_
    refine J_if_eq (tgt := 961) C (by omega) dL_law_954 (by decide) (fun cb => ?_) (fun cb => ?_)
    · skip
      refine J_lconst (z := 0) C (by decide) dL_law_961 ?_
      refine J_lif_eqS (tgt := 968) C (by omega) dL_law_962 dL_law_963 (by decide) ?_
      refine J_goto (tgt := 1737) C dL_law_968 (by decide) ?_
      refine J_fg5 ?_
      refine J_fg6 ?_
      exact K _ r2
    · skip
      refine J_lconst (z := 1) C (by decide) dL_law_957 ?_
      refine J_goto (tgt := 962) C dL_law_958 (by decide) ?_
      refine J_lif_eqS (tgt := 968) C (by omega) dL_law_962 dL_law_963 (by decide) ?_
      refine J_goto (tgt := 1737) C dL_law_968 (by decide) ?_
      refine J_fg5 ?_
      refine J_fg6 ?_
      exact K _ r2
set_option maxHeartbeats 4000000 in
set_option maxRecDepth 100000 in
theorem b_toEarn {p : Program} {l : Launch} {e : Env} {s : State} {m : MethodId} {below : List Frame} {meth : Method} {c : Code} {cy : Nat → ClassId} {D : va_G} {ad : Ad} {A : Nat → Prop} {Q : State → Prop} {b L : Nat} {xs : Nat → Int32} {σ : Sg} {i : Int} {cells slots : Nat} (C : Cx p l e room_1 s m #[Value.ref b] below meth c cy D ad A 8 cL_law RL wsL_law) (hfl : l.stackTraces = false) (hX : va_X b L xs s s.heap) (hbl : b < s.heap.size) (hbA : ¬ A b) (hL : L ≤ 3072) (r : Rel σ) (hi : 0 ≤ i ∧ i + 6 ≤ L) (hcap : cells + 6 ≤ 648160 ∧ slots + 36 ≤ 7151623) (K : ∀ σ' : Sg, Rel σ' → JW p l e room_1 s m #[Value.ref b] below meth c cy D ad A 8 (cells + 6) (slots + 36) Q σ' 1737 [some (.ref b), some (.ref (ad 0 0)), some (.ref (ad 22 0)), some (.ref (ad 42 0)), some (.int (iI i)), none, none, none] []) : JW p l e room_1 s m #[Value.ref b] below meth c cy D ad A 8 cells slots Q σ 971 [some (.ref b), some (.ref (ad 0 0)), some (.ref (ad 22 0)), some (.ref (ad 42 0)), some (.int (iI i)), none, none, none] [] := by
  refine J_aload_1 C dL_law_971 ?_
  refine J_aload_0 C dL_law_972 ?_
  refine J_iload4 C dL_law_973 ?_
  refine J_iconst C dL_law_975 ?_
  refine J_iadd C dL_law_976 ?_
  refine J_sld (i := i) (k := 1) C hX hbl hbA hL rfl ⟨by omega, by omega⟩ dL_law_977 ?_
  refine J_aload_0 C dL_law_978 ?_
  refine J_iload4 C dL_law_979 ?_
  refine J_iconst C dL_law_981 ?_
  refine J_iadd C dL_law_982 ?_
  refine J_sld (i := i) (k := 2) C hX hbl hbA hL rfl ⟨by omega, by omega⟩ dL_law_983 ?_
  refine J_aload_3 C dL_law_984 ?_
  refine J_KWI C (c_L_toEarn hfl C.2.1 _ (sv xs i 1) (sv xs i 2) r.hwc (sv_r _ _ _) (sv_r _ _ _)) (vx_cwSW 4 C.1.2.2.2.2 gL_law_L_toEarn rfl rfl rfl (by decide +kernel) ⟨Nat.le_of_ble_eq_true rfl, Nat.le_of_ble_eq_true rfl⟩) rfl rfl (Nat.le_of_ble_eq_true rfl) dL_law_985 hcap (fun k σ1 h1 => ?_)
  have hk := m_toEarn h1
  have hk03 : 0 ≤ k ∧ k ≤ 3 := by rcases h1 with ⟨rfl, _⟩ | ⟨rfl, _⟩ <;> decide
  refine J_istore5 C (by decide) rfl dL_law_988 ?_
  refine J_aload_2 C dL_law_990 ?_
  refine J_aload_0 C dL_law_991 ?_
  refine J_iload4 C dL_law_992 ?_
  refine J_iconst C dL_law_994 ?_
  refine J_iadd C dL_law_995 ?_
  refine J_sld (i := i) (k := 1) C hX hbl hbA hL rfl ⟨by omega, by omega⟩ dL_law_996 ?_
  refine J_aload_0 C dL_law_997 ?_
  refine J_iload4 C dL_law_998 ?_
  refine J_iconst C dL_law_1000 ?_
  refine J_iadd C dL_law_1001 ?_
  refine J_sld (i := i) (k := 2) C hX hbl hbA hL rfl ⟨by omega, by omega⟩ dL_law_1002 ?_
  refine J_KVL C (c_X4_toEarn hfl C.2.1 _ (sv xs i 1) (sv xs i 2) (sv_r _ _ _) (sv_r _ _ _) (hk.mi r)) (cwV 2 C.1.2.2.2.2 gL_law_X4_toEarn rfl rfl rfl (by decide +kernel) ⟨Nat.le_of_ble_eq_true rfl, Nat.le_of_ble_eq_true rfl⟩) rc4 (by decide) rfl rfl (Nat.le_of_ble_eq_true rfl) dL_law_1003 ⟨by have := hcap.1; show cells + 6 + 0 ≤ 648160; omega, by have := hcap.2; show slots + 36 + 0 ≤ 7151623; omega⟩ (fun z σ2 h2 => ?_)
  obtain ⟨e1, e2, r2⟩ := o_toEarn r h1 h2
  refine J_lstore6 C (by decide) rfl dL_law_1006 ?_
  refine J_aload_2 C dL_law_1008 ?_
  refine J_KVI C (c_X4_thrown hfl C.2.1 _) (cwV 0 C.1.2.2.2.2 gL_law_X4_thrown rfl rfl rfl (by decide +kernel) ⟨Nat.le_of_ble_eq_true rfl, Nat.le_of_ble_eq_true rfl⟩) rc4 (by decide) rfl rfl (Nat.le_of_ble_eq_true rfl) dL_law_1009 ⟨by have := hcap.1; show cells + 6 + 0 + 0 ≤ 648160; omega, by have := hcap.2; show slots + 36 + 0 + 0 ≤ 7151623; omega⟩ (fun z7 σ7 hp => ?_)
  obtain ⟨rfl, rfl⟩ := hp
  refine J_iload5 C dL_law_1012 ?_
  refine J_icmp_eqS (tgt := 1019) C e1 dL_law_1014 (by decide) ?_
  refine J_iload5 C dL_law_1019 ?_
  refine J_if_ne (tgt := 1035) C (by omega) dL_law_1021 (by decide) (fun ck => ?_) (fun ck => ?_)
  · skip
    refine J_goto (tgt := 1737) C dL_law_1035 (by decide) ?_
    refine J_fg5 ?_
    refine J_fg6 ?_
    exact K _ r2
  · have e2 := e2 ck
    refine J_aload_3 C dL_law_1024 ?_
    refine J_iconst C dL_law_1025 ?_
    refine J_laload C k42 (by decide) ⟨by decide, by decide⟩ dL_law_1026 ?_
    refine J_lload6 C dL_law_1027 ?_
    refine J_lif_eqS (tgt := 1035) C e2 dL_law_1029 dL_law_1030 (by decide) ?_
    refine J_goto (tgt := 1737) C dL_law_1035 (by decide) ?_
    refine J_fg5 ?_
    refine J_fg6 ?_
    exact K _ r2
set_option maxHeartbeats 4000000 in
set_option maxRecDepth 100000 in
theorem b_backAt {p : Program} {l : Launch} {e : Env} {s : State} {m : MethodId} {below : List Frame} {meth : Method} {c : Code} {cy : Nat → ClassId} {D : va_G} {ad : Ad} {A : Nat → Prop} {Q : State → Prop} {b L : Nat} {xs : Nat → Int32} {σ : Sg} {i : Int} {cells slots : Nat} (C : Cx p l e room_1 s m #[Value.ref b] below meth c cy D ad A 8 cL_law RL wsL_law) (hfl : l.stackTraces = false) (hX : va_X b L xs s s.heap) (hbl : b < s.heap.size) (hbA : ¬ A b) (hL : L ≤ 3072) (r : Rel σ) (hi : 0 ≤ i ∧ i + 6 ≤ L) (hcap : cells + 6 ≤ 648160 ∧ slots + 36 ≤ 7151623) (K : ∀ σ' : Sg, Rel σ' → JW p l e room_1 s m #[Value.ref b] below meth c cy D ad A 8 (cells + 6) (slots + 36) Q σ' 1737 [some (.ref b), some (.ref (ad 0 0)), some (.ref (ad 22 0)), some (.ref (ad 42 0)), some (.int (iI i)), none, none, none] []) : JW p l e room_1 s m #[Value.ref b] below meth c cy D ad A 8 cells slots Q σ 1038 [some (.ref b), some (.ref (ad 0 0)), some (.ref (ad 22 0)), some (.ref (ad 42 0)), some (.int (iI i)), none, none, none] [] := by
  refine J_aload_1 C dL_law_1038 ?_
  refine J_aload_0 C dL_law_1039 ?_
  refine J_iload4 C dL_law_1040 ?_
  refine J_iconst C dL_law_1042 ?_
  refine J_iadd C dL_law_1043 ?_
  refine J_sld (i := i) (k := 1) C hX hbl hbA hL rfl ⟨by omega, by omega⟩ dL_law_1044 ?_
  refine J_aload_0 C dL_law_1045 ?_
  refine J_iload4 C dL_law_1046 ?_
  refine J_iconst C dL_law_1048 ?_
  refine J_iadd C dL_law_1049 ?_
  refine J_sld (i := i) (k := 2) C hX hbl hbA hL rfl ⟨by omega, by omega⟩ dL_law_1050 ?_
  refine J_aload_3 C dL_law_1051 ?_
  refine J_KWI C (c_L_backAt hfl C.2.1 _ (sv xs i 1) (sv xs i 2) r.hwc (sv_r _ _ _) (sv_r _ _ _)) (vx_cwSW 4 C.1.2.2.2.2 gL_law_L_backAt rfl rfl rfl (by decide +kernel) ⟨Nat.le_of_ble_eq_true rfl, Nat.le_of_ble_eq_true rfl⟩) rfl rfl (Nat.le_of_ble_eq_true rfl) dL_law_1052 hcap (fun k σ1 h1 => ?_)
  have hk := m_backAt h1
  have hk03 : 0 ≤ k ∧ k ≤ 3 := by rcases h1 with ⟨rfl, _⟩ | ⟨rfl, _⟩ <;> decide
  refine J_istore5 C (by decide) rfl dL_law_1055 ?_
  refine J_aload_2 C dL_law_1057 ?_
  refine J_aload_0 C dL_law_1058 ?_
  refine J_iload4 C dL_law_1059 ?_
  refine J_iconst C dL_law_1061 ?_
  refine J_iadd C dL_law_1062 ?_
  refine J_sld (i := i) (k := 1) C hX hbl hbA hL rfl ⟨by omega, by omega⟩ dL_law_1063 ?_
  refine J_aload_0 C dL_law_1064 ?_
  refine J_iload4 C dL_law_1065 ?_
  refine J_iconst C dL_law_1067 ?_
  refine J_iadd C dL_law_1068 ?_
  refine J_sld (i := i) (k := 2) C hX hbl hbA hL rfl ⟨by omega, by omega⟩ dL_law_1069 ?_
  refine J_KVI C (c_X4_backAt hfl C.2.1 _ (sv xs i 1) (sv xs i 2) (sv_r _ _ _) (sv_r _ _ _) (hk.mi r)) (cwV 2 C.1.2.2.2.2 gL_law_X4_backAt rfl rfl rfl (by decide +kernel) ⟨Nat.le_of_ble_eq_true rfl, Nat.le_of_ble_eq_true rfl⟩) rc4 (by decide) rfl rfl (Nat.le_of_ble_eq_true rfl) dL_law_1070 ⟨by have := hcap.1; show cells + 6 + 0 ≤ 648160; omega, by have := hcap.2; show slots + 36 + 0 ≤ 7151623; omega⟩ (fun z σ2 h2 => ?_)
  obtain ⟨e1, e2, r2⟩ := o_backAt r h1 h2
  refine J_istore6 C (by decide) rfl dL_law_1073 ?_
  refine J_aload_2 C dL_law_1075 ?_
  refine J_KVI C (c_X4_thrown hfl C.2.1 _) (cwV 0 C.1.2.2.2.2 gL_law_X4_thrown rfl rfl rfl (by decide +kernel) ⟨Nat.le_of_ble_eq_true rfl, Nat.le_of_ble_eq_true rfl⟩) rc4 (by decide) rfl rfl (Nat.le_of_ble_eq_true rfl) dL_law_1076 ⟨by have := hcap.1; show cells + 6 + 0 + 0 ≤ 648160; omega, by have := hcap.2; show slots + 36 + 0 + 0 ≤ 7151623; omega⟩ (fun z7 σ7 hp => ?_)
  obtain ⟨rfl, rfl⟩ := hp
  refine J_iload5 C dL_law_1079 ?_
  refine J_icmp_eqS (tgt := 1086) C e1 dL_law_1081 (by decide) ?_
  refine J_iload5 C dL_law_1086 ?_
  refine J_if_ne (tgt := 1103) C (by omega) dL_law_1088 (by decide) (fun ck => ?_) (fun ck => ?_)
  · skip
    refine J_goto (tgt := 1737) C dL_law_1103 (by decide) ?_
    refine J_fg5 ?_
    refine J_fg6 ?_
    exact K _ r2
  · have e2 := e2 ck
    refine J_aload_3 C dL_law_1091 ?_
    refine J_iconst C dL_law_1092 ?_
    refine J_laload C k42 (by decide) ⟨by decide, by decide⟩ dL_law_1093 ?_
    refine J_iload6 C dL_law_1094 ?_
    refine J_i2lw C dL_law_1096 ?_
    refine J_lif_eqS (tgt := 1103) C e2 dL_law_1097 dL_law_1098 (by decide) ?_
    refine J_goto (tgt := 1737) C dL_law_1103 (by decide) ?_
    refine J_fg5 ?_
    refine J_fg6 ?_
    exact K _ r2
set_option maxHeartbeats 4000000 in
set_option maxRecDepth 100000 in
theorem b_charged {p : Program} {l : Launch} {e : Env} {s : State} {m : MethodId} {below : List Frame} {meth : Method} {c : Code} {cy : Nat → ClassId} {D : va_G} {ad : Ad} {A : Nat → Prop} {Q : State → Prop} {b L : Nat} {xs : Nat → Int32} {σ : Sg} {i : Int} {cells slots : Nat} (C : Cx p l e room_1 s m #[Value.ref b] below meth c cy D ad A 8 cL_law RL wsL_law) (hfl : l.stackTraces = false) (hX : va_X b L xs s s.heap) (hbl : b < s.heap.size) (hbA : ¬ A b) (hL : L ≤ 3072) (r : Rel σ) (hi : 0 ≤ i ∧ i + 6 ≤ L) (hcap : cells + 6 ≤ 648160 ∧ slots + 36 ≤ 7151623) (K : ∀ σ' : Sg, Rel σ' → JW p l e room_1 s m #[Value.ref b] below meth c cy D ad A 8 (cells + 6) (slots + 36) Q σ' 1737 [some (.ref b), some (.ref (ad 0 0)), some (.ref (ad 22 0)), some (.ref (ad 42 0)), some (.int (iI i)), none, none, none] []) : JW p l e room_1 s m #[Value.ref b] below meth c cy D ad A 8 cells slots Q σ 1106 [some (.ref b), some (.ref (ad 0 0)), some (.ref (ad 22 0)), some (.ref (ad 42 0)), some (.int (iI i)), none, none, none] [] := by
  refine J_aload_1 C dL_law_1106 ?_
  refine J_aload_0 C dL_law_1107 ?_
  refine J_iload4 C dL_law_1108 ?_
  refine J_iconst C dL_law_1110 ?_
  refine J_iadd C dL_law_1111 ?_
  refine J_sld (i := i) (k := 1) C hX hbl hbA hL rfl ⟨by omega, by omega⟩ dL_law_1112 ?_
  refine J_aload_0 C dL_law_1113 ?_
  refine J_iload4 C dL_law_1114 ?_
  refine J_iconst C dL_law_1116 ?_
  refine J_iadd C dL_law_1117 ?_
  refine J_sld (i := i) (k := 2) C hX hbl hbA hL rfl ⟨by omega, by omega⟩ dL_law_1118 ?_
  refine J_aload_3 C dL_law_1119 ?_
  refine J_KWI C (c_L_charged hfl C.2.1 _ (sv xs i 1) (sv xs i 2) r.hwc (sv_r _ _ _) (sv_r _ _ _)) (vx_cwSW 4 C.1.2.2.2.2 gL_law_L_charged rfl rfl rfl (by decide +kernel) ⟨Nat.le_of_ble_eq_true rfl, Nat.le_of_ble_eq_true rfl⟩) rfl rfl (Nat.le_of_ble_eq_true rfl) dL_law_1120 hcap (fun k σ1 h1 => ?_)
  have hk := m_charged h1
  have hk03 : 0 ≤ k ∧ k ≤ 3 := by rcases h1 with ⟨rfl, _⟩ | ⟨rfl, _⟩ <;> decide
  refine J_istore5 C (by decide) rfl dL_law_1123 ?_
  refine J_aload_2 C dL_law_1125 ?_
  refine J_aload_0 C dL_law_1126 ?_
  refine J_iload4 C dL_law_1127 ?_
  refine J_iconst C dL_law_1129 ?_
  refine J_iadd C dL_law_1130 ?_
  refine J_sld (i := i) (k := 1) C hX hbl hbA hL rfl ⟨by omega, by omega⟩ dL_law_1131 ?_
  refine J_aload_0 C dL_law_1132 ?_
  refine J_iload4 C dL_law_1133 ?_
  refine J_iconst C dL_law_1135 ?_
  refine J_iadd C dL_law_1136 ?_
  refine J_sld (i := i) (k := 2) C hX hbl hbA hL rfl ⟨by omega, by omega⟩ dL_law_1137 ?_
  refine J_KVI C (c_X4_charged hfl C.2.1 _ (sv xs i 1) (sv xs i 2) (sv_r _ _ _) (sv_r _ _ _) (hk.mi r)) (cwV 2 C.1.2.2.2.2 gL_law_X4_charged rfl rfl rfl (by decide +kernel) ⟨Nat.le_of_ble_eq_true rfl, Nat.le_of_ble_eq_true rfl⟩) rc4 (by decide) rfl rfl (Nat.le_of_ble_eq_true rfl) dL_law_1138 ⟨by have := hcap.1; show cells + 6 + 0 ≤ 648160; omega, by have := hcap.2; show slots + 36 + 0 ≤ 7151623; omega⟩ (fun z σ2 h2 => ?_)
  obtain ⟨e1, e2, r2⟩ := o_charged r h1 h2
  refine J_istore6 C (by decide) rfl dL_law_1141 ?_
  refine J_aload_2 C dL_law_1143 ?_
  refine J_KVI C (c_X4_thrown hfl C.2.1 _) (cwV 0 C.1.2.2.2.2 gL_law_X4_thrown rfl rfl rfl (by decide +kernel) ⟨Nat.le_of_ble_eq_true rfl, Nat.le_of_ble_eq_true rfl⟩) rc4 (by decide) rfl rfl (Nat.le_of_ble_eq_true rfl) dL_law_1144 ⟨by have := hcap.1; show cells + 6 + 0 + 0 ≤ 648160; omega, by have := hcap.2; show slots + 36 + 0 + 0 ≤ 7151623; omega⟩ (fun z7 σ7 hp => ?_)
  obtain ⟨rfl, rfl⟩ := hp
  refine J_iload5 C dL_law_1147 ?_
  refine J_icmp_eqS (tgt := 1154) C e1 dL_law_1149 (by decide) ?_
  refine J_iload5 C dL_law_1154 ?_
  refine J_if_ne (tgt := 1171) C (by omega) dL_law_1156 (by decide) (fun ck => ?_) (fun ck => ?_)
  · skip
    refine J_goto (tgt := 1737) C dL_law_1171 (by decide) ?_
    refine J_fg5 ?_
    refine J_fg6 ?_
    exact K _ r2
  · have e2 := e2 ck
    refine J_aload_3 C dL_law_1159 ?_
    refine J_iconst C dL_law_1160 ?_
    refine J_laload C k42 (by decide) ⟨by decide, by decide⟩ dL_law_1161 ?_
    refine J_iload6 C dL_law_1162 ?_
    refine J_i2lw C dL_law_1164 ?_
    refine J_lif_eqS (tgt := 1171) C e2 dL_law_1165 dL_law_1166 (by decide) ?_
    refine J_goto (tgt := 1737) C dL_law_1171 (by decide) ?_
    refine J_fg5 ?_
    refine J_fg6 ?_
    exact K _ r2
set_option maxHeartbeats 4000000 in
set_option maxRecDepth 100000 in
theorem b_credited {p : Program} {l : Launch} {e : Env} {s : State} {m : MethodId} {below : List Frame} {meth : Method} {c : Code} {cy : Nat → ClassId} {D : va_G} {ad : Ad} {A : Nat → Prop} {Q : State → Prop} {b L : Nat} {xs : Nat → Int32} {σ : Sg} {i : Int} {cells slots : Nat} (C : Cx p l e room_1 s m #[Value.ref b] below meth c cy D ad A 8 cL_law RL wsL_law) (hfl : l.stackTraces = false) (hX : va_X b L xs s s.heap) (hbl : b < s.heap.size) (hbA : ¬ A b) (hL : L ≤ 3072) (r : Rel σ) (hi : 0 ≤ i ∧ i + 6 ≤ L) (hcap : cells + 6 ≤ 648160 ∧ slots + 36 ≤ 7151623) (K : ∀ σ' : Sg, Rel σ' → JW p l e room_1 s m #[Value.ref b] below meth c cy D ad A 8 (cells + 6) (slots + 36) Q σ' 1737 [some (.ref b), some (.ref (ad 0 0)), some (.ref (ad 22 0)), some (.ref (ad 42 0)), some (.int (iI i)), none, none, none] []) : JW p l e room_1 s m #[Value.ref b] below meth c cy D ad A 8 cells slots Q σ 1174 [some (.ref b), some (.ref (ad 0 0)), some (.ref (ad 22 0)), some (.ref (ad 42 0)), some (.int (iI i)), none, none, none] [] := by
  refine J_aload_1 C dL_law_1174 ?_
  refine J_aload_0 C dL_law_1175 ?_
  refine J_iload4 C dL_law_1176 ?_
  refine J_iconst C dL_law_1178 ?_
  refine J_iadd C dL_law_1179 ?_
  refine J_sld (i := i) (k := 1) C hX hbl hbA hL rfl ⟨by omega, by omega⟩ dL_law_1180 ?_
  refine J_aload_0 C dL_law_1181 ?_
  refine J_iload4 C dL_law_1182 ?_
  refine J_iconst C dL_law_1184 ?_
  refine J_iadd C dL_law_1185 ?_
  refine J_sld (i := i) (k := 2) C hX hbl hbA hL rfl ⟨by omega, by omega⟩ dL_law_1186 ?_
  refine J_aload_3 C dL_law_1187 ?_
  refine J_KWI C (c_L_credited hfl C.2.1 _ (sv xs i 1) (sv xs i 2) r.hwc (sv_r _ _ _) (sv_r _ _ _)) (vx_cwSW 4 C.1.2.2.2.2 gL_law_L_credited rfl rfl rfl (by decide +kernel) ⟨Nat.le_of_ble_eq_true rfl, Nat.le_of_ble_eq_true rfl⟩) rfl rfl (Nat.le_of_ble_eq_true rfl) dL_law_1188 hcap (fun k σ1 h1 => ?_)
  have hk := m_credited h1
  have hk03 : 0 ≤ k ∧ k ≤ 3 := by rcases h1 with ⟨rfl, _⟩ | ⟨rfl, _⟩ <;> decide
  refine J_istore5 C (by decide) rfl dL_law_1191 ?_
  refine J_aload_2 C dL_law_1193 ?_
  refine J_aload_0 C dL_law_1194 ?_
  refine J_iload4 C dL_law_1195 ?_
  refine J_iconst C dL_law_1197 ?_
  refine J_iadd C dL_law_1198 ?_
  refine J_sld (i := i) (k := 1) C hX hbl hbA hL rfl ⟨by omega, by omega⟩ dL_law_1199 ?_
  refine J_aload_0 C dL_law_1200 ?_
  refine J_iload4 C dL_law_1201 ?_
  refine J_iconst C dL_law_1203 ?_
  refine J_iadd C dL_law_1204 ?_
  refine J_sld (i := i) (k := 2) C hX hbl hbA hL rfl ⟨by omega, by omega⟩ dL_law_1205 ?_
  refine J_KVI C (c_X4_credited hfl C.2.1 _ (sv xs i 1) (sv xs i 2) (sv_r _ _ _) (sv_r _ _ _) (hk.mi r)) (cwV 2 C.1.2.2.2.2 gL_law_X4_credited rfl rfl rfl (by decide +kernel) ⟨Nat.le_of_ble_eq_true rfl, Nat.le_of_ble_eq_true rfl⟩) rc4 (by decide) rfl rfl (Nat.le_of_ble_eq_true rfl) dL_law_1206 ⟨by have := hcap.1; show cells + 6 + 0 ≤ 648160; omega, by have := hcap.2; show slots + 36 + 0 ≤ 7151623; omega⟩ (fun z σ2 h2 => ?_)
  obtain ⟨e1, e2, r2⟩ := o_credited r h1 h2
  refine J_istore6 C (by decide) rfl dL_law_1209 ?_
  refine J_aload_2 C dL_law_1211 ?_
  refine J_KVI C (c_X4_thrown hfl C.2.1 _) (cwV 0 C.1.2.2.2.2 gL_law_X4_thrown rfl rfl rfl (by decide +kernel) ⟨Nat.le_of_ble_eq_true rfl, Nat.le_of_ble_eq_true rfl⟩) rc4 (by decide) rfl rfl (Nat.le_of_ble_eq_true rfl) dL_law_1212 ⟨by have := hcap.1; show cells + 6 + 0 + 0 ≤ 648160; omega, by have := hcap.2; show slots + 36 + 0 + 0 ≤ 7151623; omega⟩ (fun z7 σ7 hp => ?_)
  obtain ⟨rfl, rfl⟩ := hp
  refine J_iload5 C dL_law_1215 ?_
  refine J_icmp_eqS (tgt := 1222) C e1 dL_law_1217 (by decide) ?_
  refine J_iload5 C dL_law_1222 ?_
  refine J_if_ne (tgt := 1239) C (by omega) dL_law_1224 (by decide) (fun ck => ?_) (fun ck => ?_)
  · skip
    refine J_goto (tgt := 1737) C dL_law_1239 (by decide) ?_
    refine J_fg5 ?_
    refine J_fg6 ?_
    exact K _ r2
  · have e2 := e2 ck
    refine J_aload_3 C dL_law_1227 ?_
    refine J_iconst C dL_law_1228 ?_
    refine J_laload C k42 (by decide) ⟨by decide, by decide⟩ dL_law_1229 ?_
    refine J_iload6 C dL_law_1230 ?_
    refine J_i2lw C dL_law_1232 ?_
    refine J_lif_eqS (tgt := 1239) C e2 dL_law_1233 dL_law_1234 (by decide) ?_
    refine J_goto (tgt := 1737) C dL_law_1239 (by decide) ?_
    refine J_fg5 ?_
    refine J_fg6 ?_
    exact K _ r2
set_option maxHeartbeats 4000000 in
set_option maxRecDepth 100000 in
theorem b_weight {p : Program} {l : Launch} {e : Env} {s : State} {m : MethodId} {below : List Frame} {meth : Method} {c : Code} {cy : Nat → ClassId} {D : va_G} {ad : Ad} {A : Nat → Prop} {Q : State → Prop} {b L : Nat} {xs : Nat → Int32} {σ : Sg} {i : Int} {cells slots : Nat} (C : Cx p l e room_1 s m #[Value.ref b] below meth c cy D ad A 8 cL_law RL wsL_law) (hfl : l.stackTraces = false) (hX : va_X b L xs s s.heap) (hbl : b < s.heap.size) (hbA : ¬ A b) (hL : L ≤ 3072) (r : Rel σ) (hi : 0 ≤ i ∧ i + 6 ≤ L) (hcap : cells + 6 ≤ 648160 ∧ slots + 36 ≤ 7151623) (K : ∀ σ' : Sg, Rel σ' → JW p l e room_1 s m #[Value.ref b] below meth c cy D ad A 8 (cells + 6) (slots + 36) Q σ' 1737 [some (.ref b), some (.ref (ad 0 0)), some (.ref (ad 22 0)), some (.ref (ad 42 0)), some (.int (iI i)), none, none, none] []) : JW p l e room_1 s m #[Value.ref b] below meth c cy D ad A 8 cells slots Q σ 1242 [some (.ref b), some (.ref (ad 0 0)), some (.ref (ad 22 0)), some (.ref (ad 42 0)), some (.int (iI i)), none, none, none] [] := by
  refine J_aload_1 C dL_law_1242 ?_
  refine J_aload_0 C dL_law_1243 ?_
  refine J_iload4 C dL_law_1244 ?_
  refine J_iconst C dL_law_1246 ?_
  refine J_iadd C dL_law_1247 ?_
  refine J_sld (i := i) (k := 1) C hX hbl hbA hL rfl ⟨by omega, by omega⟩ dL_law_1248 ?_
  refine J_aload_0 C dL_law_1249 ?_
  refine J_iload4 C dL_law_1250 ?_
  refine J_iconst C dL_law_1252 ?_
  refine J_iadd C dL_law_1253 ?_
  refine J_sld (i := i) (k := 2) C hX hbl hbA hL rfl ⟨by omega, by omega⟩ dL_law_1254 ?_
  refine J_aload_3 C dL_law_1255 ?_
  refine J_KWI C (c_L_weight hfl C.2.1 _ (sv xs i 1) (sv xs i 2) r.hwc (sv_r _ _ _) (sv_r _ _ _) r.hsh r.hall) (vx_cwSW 4 C.1.2.2.2.2 gL_law_L_weight rfl rfl rfl (by decide +kernel) ⟨Nat.le_of_ble_eq_true rfl, Nat.le_of_ble_eq_true rfl⟩) rfl rfl (Nat.le_of_ble_eq_true rfl) dL_law_1256 hcap (fun k σ1 h1 => ?_)
  have hk := m_weight h1
  have hk03 : 0 ≤ k ∧ k ≤ 3 := by rcases h1 with ⟨rfl, _⟩ | ⟨rfl, _⟩ <;> decide
  refine J_istore5 C (by decide) rfl dL_law_1259 ?_
  refine J_aload_2 C dL_law_1261 ?_
  refine J_aload_0 C dL_law_1262 ?_
  refine J_iload4 C dL_law_1263 ?_
  refine J_iconst C dL_law_1265 ?_
  refine J_iadd C dL_law_1266 ?_
  refine J_sld (i := i) (k := 1) C hX hbl hbA hL rfl ⟨by omega, by omega⟩ dL_law_1267 ?_
  refine J_aload_0 C dL_law_1268 ?_
  refine J_iload4 C dL_law_1269 ?_
  refine J_iconst C dL_law_1271 ?_
  refine J_iadd C dL_law_1272 ?_
  refine J_sld (i := i) (k := 2) C hX hbl hbA hL rfl ⟨by omega, by omega⟩ dL_law_1273 ?_
  refine J_KVI C (c_X4_weight hfl C.2.1 _ (sv xs i 1) (sv xs i 2) (sv_r _ _ _) (sv_r _ _ _) (hk.mi r)) (cwV 2 C.1.2.2.2.2 gL_law_X4_weight rfl rfl rfl (by decide +kernel) ⟨Nat.le_of_ble_eq_true rfl, Nat.le_of_ble_eq_true rfl⟩) rc4 (by decide) rfl rfl (Nat.le_of_ble_eq_true rfl) dL_law_1274 ⟨by have := hcap.1; show cells + 6 + 0 ≤ 648160; omega, by have := hcap.2; show slots + 36 + 0 ≤ 7151623; omega⟩ (fun z σ2 h2 => ?_)
  obtain ⟨e1, e2, r2⟩ := o_weight r h1 h2
  refine J_istore6 C (by decide) rfl dL_law_1277 ?_
  refine J_aload_2 C dL_law_1279 ?_
  refine J_KVI C (c_X4_thrown hfl C.2.1 _) (cwV 0 C.1.2.2.2.2 gL_law_X4_thrown rfl rfl rfl (by decide +kernel) ⟨Nat.le_of_ble_eq_true rfl, Nat.le_of_ble_eq_true rfl⟩) rc4 (by decide) rfl rfl (Nat.le_of_ble_eq_true rfl) dL_law_1280 ⟨by have := hcap.1; show cells + 6 + 0 + 0 ≤ 648160; omega, by have := hcap.2; show slots + 36 + 0 + 0 ≤ 7151623; omega⟩ (fun z7 σ7 hp => ?_)
  obtain ⟨rfl, rfl⟩ := hp
  refine J_iload5 C dL_law_1283 ?_
  refine J_icmp_eqS (tgt := 1290) C e1 dL_law_1285 (by decide) ?_
  refine J_iload5 C dL_law_1290 ?_
  refine J_if_ne (tgt := 1307) C (by omega) dL_law_1292 (by decide) (fun ck => ?_) (fun ck => ?_)
  · skip
    refine J_goto (tgt := 1737) C dL_law_1307 (by decide) ?_
    refine J_fg5 ?_
    refine J_fg6 ?_
    exact K _ r2
  · have e2 := e2 ck
    refine J_aload_3 C dL_law_1295 ?_
    refine J_iconst C dL_law_1296 ?_
    refine J_laload C k42 (by decide) ⟨by decide, by decide⟩ dL_law_1297 ?_
    refine J_iload6 C dL_law_1298 ?_
    refine J_i2lw C dL_law_1300 ?_
    refine J_lif_eqS (tgt := 1307) C e2 dL_law_1301 dL_law_1302 (by decide) ?_
    refine J_goto (tgt := 1737) C dL_law_1307 (by decide) ?_
    refine J_fg5 ?_
    refine J_fg6 ?_
    exact K _ r2
set_option maxHeartbeats 4000000 in
set_option maxRecDepth 100000 in
theorem b_call {p : Program} {l : Launch} {e : Env} {s : State} {m : MethodId} {below : List Frame} {meth : Method} {c : Code} {cy : Nat → ClassId} {D : va_G} {ad : Ad} {A : Nat → Prop} {Q : State → Prop} {b L : Nat} {xs : Nat → Int32} {σ : Sg} {i : Int} {cells slots : Nat} (C : Cx p l e room_1 s m #[Value.ref b] below meth c cy D ad A 8 cL_law RL wsL_law) (hfl : l.stackTraces = false) (hX : va_X b L xs s s.heap) (hbl : b < s.heap.size) (hbA : ¬ A b) (hL : L ≤ 3072) (r : Rel σ) (hi : 0 ≤ i ∧ i + 6 ≤ L) (hcap : cells + 6 ≤ 648160 ∧ slots + 36 ≤ 7151623) (K : ∀ σ' : Sg, Rel σ' → JW p l e room_1 s m #[Value.ref b] below meth c cy D ad A 8 (cells + 6) (slots + 36) Q σ' 1737 [some (.ref b), some (.ref (ad 0 0)), some (.ref (ad 22 0)), some (.ref (ad 42 0)), some (.int (iI i)), none, none, none] []) : JW p l e room_1 s m #[Value.ref b] below meth c cy D ad A 8 cells slots Q σ 1310 [some (.ref b), some (.ref (ad 0 0)), some (.ref (ad 22 0)), some (.ref (ad 42 0)), some (.int (iI i)), none, none, none] [] := by
  refine J_aload_1 C dL_law_1310 ?_
  refine J_aload_0 C dL_law_1311 ?_
  refine J_iload4 C dL_law_1312 ?_
  refine J_iconst C dL_law_1314 ?_
  refine J_iadd C dL_law_1315 ?_
  refine J_sld (i := i) (k := 1) C hX hbl hbA hL rfl ⟨by omega, by omega⟩ dL_law_1316 ?_
  refine J_aload_0 C dL_law_1317 ?_
  refine J_iload4 C dL_law_1318 ?_
  refine J_iconst C dL_law_1320 ?_
  refine J_iadd C dL_law_1321 ?_
  refine J_sld (i := i) (k := 2) C hX hbl hbA hL rfl ⟨by omega, by omega⟩ dL_law_1322 ?_
  refine J_aload_3 C dL_law_1323 ?_
  refine J_KWI C (c_L_call hfl C.2.1 _ (sv xs i 1) (sv xs i 2) r.hwc r.hcc (sv_r _ _ _) (sv_r _ _ _) r.hsh r.hall) (vx_cwSW 4 C.1.2.2.2.2 gL_law_L_call rfl rfl rfl (by decide +kernel) ⟨Nat.le_of_ble_eq_true rfl, Nat.le_of_ble_eq_true rfl⟩) rfl rfl (Nat.le_of_ble_eq_true rfl) dL_law_1324 hcap (fun k σ1 h1 => ?_)
  have hk := m_call h1
  have hk03 : 0 ≤ k ∧ k ≤ 3 := by rcases h1 with ⟨rfl, _⟩ | ⟨rfl, _⟩ | ⟨rfl, _⟩ | ⟨rfl, _⟩ <;> decide
  refine J_istore5 C (by decide) rfl dL_law_1327 ?_
  refine J_aload_2 C dL_law_1329 ?_
  refine J_aload_0 C dL_law_1330 ?_
  refine J_iload4 C dL_law_1331 ?_
  refine J_iconst C dL_law_1333 ?_
  refine J_iadd C dL_law_1334 ?_
  refine J_sld (i := i) (k := 1) C hX hbl hbA hL rfl ⟨by omega, by omega⟩ dL_law_1335 ?_
  refine J_aload_0 C dL_law_1336 ?_
  refine J_iload4 C dL_law_1337 ?_
  refine J_iconst C dL_law_1339 ?_
  refine J_iadd C dL_law_1340 ?_
  refine J_sld (i := i) (k := 2) C hX hbl hbA hL rfl ⟨by omega, by omega⟩ dL_law_1341 ?_
  refine J_KVI C (c_X4_call hfl C.2.1 _ (sv xs i 1) (sv xs i 2) (sv_r _ _ _) (sv_r _ _ _) (hk.mi r)) (cwV 2 C.1.2.2.2.2 gL_law_X4_call rfl rfl rfl (by decide +kernel) ⟨Nat.le_of_ble_eq_true rfl, Nat.le_of_ble_eq_true rfl⟩) rc4 (by decide) rfl rfl (Nat.le_of_ble_eq_true rfl) dL_law_1342 ⟨by have := hcap.1; show cells + 6 + 0 ≤ 648160; omega, by have := hcap.2; show slots + 36 + 0 ≤ 7151623; omega⟩ (fun z σ2 h2 => ?_)
  obtain ⟨e1, e2, r2⟩ := o_call r h1 h2
  refine J_istore6 C (by decide) rfl dL_law_1345 ?_
  refine J_aload_2 C dL_law_1347 ?_
  refine J_KVI C (c_X4_thrown hfl C.2.1 _) (cwV 0 C.1.2.2.2.2 gL_law_X4_thrown rfl rfl rfl (by decide +kernel) ⟨Nat.le_of_ble_eq_true rfl, Nat.le_of_ble_eq_true rfl⟩) rc4 (by decide) rfl rfl (Nat.le_of_ble_eq_true rfl) dL_law_1348 ⟨by have := hcap.1; show cells + 6 + 0 + 0 ≤ 648160; omega, by have := hcap.2; show slots + 36 + 0 + 0 ≤ 7151623; omega⟩ (fun z7 σ7 hp => ?_)
  obtain ⟨rfl, rfl⟩ := hp
  refine J_iload5 C dL_law_1351 ?_
  refine J_icmp_eqS (tgt := 1358) C e1 dL_law_1353 (by decide) ?_
  refine J_iload5 C dL_law_1358 ?_
  refine J_if_ne (tgt := 1375) C (by omega) dL_law_1360 (by decide) (fun ck => ?_) (fun ck => ?_)
  · skip
    refine J_goto (tgt := 1737) C dL_law_1375 (by decide) ?_
    refine J_fg5 ?_
    refine J_fg6 ?_
    exact K _ r2
  · have e2 := e2 ck
    refine J_aload_3 C dL_law_1363 ?_
    refine J_iconst C dL_law_1364 ?_
    refine J_laload C k42 (by decide) ⟨by decide, by decide⟩ dL_law_1365 ?_
    refine J_iload6 C dL_law_1366 ?_
    refine J_i2lw C dL_law_1368 ?_
    refine J_lif_eqS (tgt := 1375) C e2 dL_law_1369 dL_law_1370 (by decide) ?_
    refine J_goto (tgt := 1737) C dL_law_1375 (by decide) ?_
    refine J_fg5 ?_
    refine J_fg6 ?_
    exact K _ r2
set_option maxHeartbeats 4000000 in
set_option maxRecDepth 100000 in
theorem b_pay {p : Program} {l : Launch} {e : Env} {s : State} {m : MethodId} {below : List Frame} {meth : Method} {c : Code} {cy : Nat → ClassId} {D : va_G} {ad : Ad} {A : Nat → Prop} {Q : State → Prop} {b L : Nat} {xs : Nat → Int32} {σ : Sg} {i : Int} {cells slots : Nat} (C : Cx p l e room_1 s m #[Value.ref b] below meth c cy D ad A 8 cL_law RL wsL_law) (hfl : l.stackTraces = false) (hX : va_X b L xs s s.heap) (hbl : b < s.heap.size) (hbA : ¬ A b) (hL : L ≤ 3072) (r : Rel σ) (hi : 0 ≤ i ∧ i + 6 ≤ L) (hcap : cells + 6 ≤ 648160 ∧ slots + 36 ≤ 7151623) (K : ∀ σ' : Sg, Rel σ' → JW p l e room_1 s m #[Value.ref b] below meth c cy D ad A 8 (cells + 6) (slots + 36) Q σ' 1737 [some (.ref b), some (.ref (ad 0 0)), some (.ref (ad 22 0)), some (.ref (ad 42 0)), some (.int (iI i)), none, none, none] []) : JW p l e room_1 s m #[Value.ref b] below meth c cy D ad A 8 cells slots Q σ 1378 [some (.ref b), some (.ref (ad 0 0)), some (.ref (ad 22 0)), some (.ref (ad 42 0)), some (.int (iI i)), none, none, none] [] := by
  refine J_aload_1 C dL_law_1378 ?_
  refine J_aload_0 C dL_law_1379 ?_
  refine J_iload4 C dL_law_1380 ?_
  refine J_iconst C dL_law_1382 ?_
  refine J_iadd C dL_law_1383 ?_
  refine J_sld (i := i) (k := 1) C hX hbl hbA hL rfl ⟨by omega, by omega⟩ dL_law_1384 ?_
  refine J_aload_0 C dL_law_1385 ?_
  refine J_iload4 C dL_law_1386 ?_
  refine J_iconst C dL_law_1388 ?_
  refine J_iadd C dL_law_1389 ?_
  refine J_sld (i := i) (k := 2) C hX hbl hbA hL rfl ⟨by omega, by omega⟩ dL_law_1390 ?_
  refine J_aload_3 C dL_law_1391 ?_
  refine J_KWI C (c_L_pay hfl C.2.1 _ (sv xs i 1) (sv xs i 2) r.hcc (sv_r _ _ _) (sv_r _ _ _) r.hr9p) (vx_cwSW 4 C.1.2.2.2.2 gL_law_L_pay rfl rfl rfl (by decide +kernel) ⟨Nat.le_of_ble_eq_true rfl, Nat.le_of_ble_eq_true rfl⟩) rfl rfl (Nat.le_of_ble_eq_true rfl) dL_law_1392 hcap (fun k σ1 h1 => ?_)
  have hk := m_pay h1
  have hk03 : 0 ≤ k ∧ k ≤ 3 := by rcases h1 with ⟨rfl, _⟩ | ⟨rfl, _⟩ | ⟨rfl, _⟩ <;> decide
  refine J_istore5 C (by decide) rfl dL_law_1395 ?_
  refine J_aload_2 C dL_law_1397 ?_
  refine J_aload_0 C dL_law_1398 ?_
  refine J_iload4 C dL_law_1399 ?_
  refine J_iconst C dL_law_1401 ?_
  refine J_iadd C dL_law_1402 ?_
  refine J_sld (i := i) (k := 1) C hX hbl hbA hL rfl ⟨by omega, by omega⟩ dL_law_1403 ?_
  refine J_aload_0 C dL_law_1404 ?_
  refine J_iload4 C dL_law_1405 ?_
  refine J_iconst C dL_law_1407 ?_
  refine J_iadd C dL_law_1408 ?_
  refine J_sld (i := i) (k := 2) C hX hbl hbA hL rfl ⟨by omega, by omega⟩ dL_law_1409 ?_
  refine J_KVI C (c_X4_pay hfl C.2.1 _ (sv xs i 1) (sv xs i 2) (sv_r _ _ _) (sv_r _ _ _) (hk.mi r) (hk.hpr r)) (cwV 2 C.1.2.2.2.2 gL_law_X4_pay rfl rfl rfl (by decide +kernel) ⟨Nat.le_of_ble_eq_true rfl, Nat.le_of_ble_eq_true rfl⟩) rc4 (by decide) rfl rfl (Nat.le_of_ble_eq_true rfl) dL_law_1410 ⟨by have := hcap.1; show cells + 6 + 0 ≤ 648160; omega, by have := hcap.2; show slots + 36 + 0 ≤ 7151623; omega⟩ (fun z σ2 h2 => ?_)
  obtain ⟨e1, e2, r2⟩ := o_pay r h1 h2
  refine J_istore6 C (by decide) rfl dL_law_1413 ?_
  refine J_aload_2 C dL_law_1415 ?_
  refine J_KVI C (c_X4_thrown hfl C.2.1 _) (cwV 0 C.1.2.2.2.2 gL_law_X4_thrown rfl rfl rfl (by decide +kernel) ⟨Nat.le_of_ble_eq_true rfl, Nat.le_of_ble_eq_true rfl⟩) rc4 (by decide) rfl rfl (Nat.le_of_ble_eq_true rfl) dL_law_1416 ⟨by have := hcap.1; show cells + 6 + 0 + 0 ≤ 648160; omega, by have := hcap.2; show slots + 36 + 0 + 0 ≤ 7151623; omega⟩ (fun z7 σ7 hp => ?_)
  obtain ⟨rfl, rfl⟩ := hp
  refine J_iload5 C dL_law_1419 ?_
  refine J_icmp_eqS (tgt := 1426) C e1 dL_law_1421 (by decide) ?_
  refine J_iload5 C dL_law_1426 ?_
  refine J_if_ne (tgt := 1443) C (by omega) dL_law_1428 (by decide) (fun ck => ?_) (fun ck => ?_)
  · skip
    refine J_goto (tgt := 1737) C dL_law_1443 (by decide) ?_
    refine J_fg5 ?_
    refine J_fg6 ?_
    exact K _ r2
  · have e2 := e2 ck
    refine J_aload_3 C dL_law_1431 ?_
    refine J_iconst C dL_law_1432 ?_
    refine J_laload C k42 (by decide) ⟨by decide, by decide⟩ dL_law_1433 ?_
    refine J_iload6 C dL_law_1434 ?_
    refine J_i2lw C dL_law_1436 ?_
    refine J_lif_eqS (tgt := 1443) C e2 dL_law_1437 dL_law_1438 (by decide) ?_
    refine J_goto (tgt := 1737) C dL_law_1443 (by decide) ?_
    refine J_fg5 ?_
    refine J_fg6 ?_
    exact K _ r2
set_option maxHeartbeats 4000000 in
set_option maxRecDepth 100000 in
theorem b_shareOut {p : Program} {l : Launch} {e : Env} {s : State} {m : MethodId} {below : List Frame} {meth : Method} {c : Code} {cy : Nat → ClassId} {D : va_G} {ad : Ad} {A : Nat → Prop} {Q : State → Prop} {b L : Nat} {xs : Nat → Int32} {σ : Sg} {i : Int} {cells slots : Nat} (C : Cx p l e room_1 s m #[Value.ref b] below meth c cy D ad A 8 cL_law RL wsL_law) (hfl : l.stackTraces = false) (hX : va_X b L xs s s.heap) (hbl : b < s.heap.size) (hbA : ¬ A b) (hL : L ≤ 3072) (r : Rel σ) (hi : 0 ≤ i ∧ i + 6 ≤ L) (hcap : cells + 6 ≤ 648160 ∧ slots + 36 ≤ 7151623) (K : ∀ σ' : Sg, Rel σ' → JW p l e room_1 s m #[Value.ref b] below meth c cy D ad A 8 (cells + 6) (slots + 36) Q σ' 1737 [some (.ref b), some (.ref (ad 0 0)), some (.ref (ad 22 0)), some (.ref (ad 42 0)), some (.int (iI i)), none, none, none] []) : JW p l e room_1 s m #[Value.ref b] below meth c cy D ad A 8 cells slots Q σ 1446 [some (.ref b), some (.ref (ad 0 0)), some (.ref (ad 22 0)), some (.ref (ad 42 0)), some (.int (iI i)), none, none, none] [] := by
  refine J_aload_1 C dL_law_1446 ?_
  refine J_aload_0 C dL_law_1447 ?_
  refine J_iload4 C dL_law_1448 ?_
  refine J_iconst C dL_law_1450 ?_
  refine J_iadd C dL_law_1451 ?_
  refine J_sld (i := i) (k := 1) C hX hbl hbA hL rfl ⟨by omega, by omega⟩ dL_law_1452 ?_
  refine J_aload_3 C dL_law_1453 ?_
  refine J_KWI C (c_L_shareOut hfl C.2.1 _ (sv xs i 1) r.hcc (sv_r _ _ _) r.c20) (vx_cwSW 3 C.1.2.2.2.2 gL_law_L_shareOut rfl rfl rfl (by decide +kernel) ⟨Nat.le_of_ble_eq_true rfl, Nat.le_of_ble_eq_true rfl⟩) rfl rfl (Nat.le_of_ble_eq_true rfl) dL_law_1454 hcap (fun k σ1 h1 => ?_)
  have hk := m_shareOut h1
  have hk03 : 0 ≤ k ∧ k ≤ 3 := by rcases h1 with ⟨rfl, _⟩ | ⟨rfl, _⟩ | ⟨rfl, _⟩ <;> decide
  refine J_istore5 C (by decide) rfl dL_law_1457 ?_
  refine J_aload_2 C dL_law_1459 ?_
  refine J_aload_0 C dL_law_1460 ?_
  refine J_iload4 C dL_law_1461 ?_
  refine J_iconst C dL_law_1463 ?_
  refine J_iadd C dL_law_1464 ?_
  refine J_sld (i := i) (k := 1) C hX hbl hbA hL rfl ⟨by omega, by omega⟩ dL_law_1465 ?_
  refine J_KVI C (c_X4_shareOut hfl C.2.1 _ (sv xs i 1) (sv_r _ _ _) (hk.mi r) (hk.hpa r)) (cwV 1 C.1.2.2.2.2 gL_law_X4_shareOut rfl rfl rfl (by decide +kernel) ⟨Nat.le_of_ble_eq_true rfl, Nat.le_of_ble_eq_true rfl⟩) rc4 (by decide) rfl rfl (Nat.le_of_ble_eq_true rfl) dL_law_1466 ⟨by have := hcap.1; show cells + 6 + 0 ≤ 648160; omega, by have := hcap.2; show slots + 36 + 0 ≤ 7151623; omega⟩ (fun z σ2 h2 => ?_)
  obtain ⟨e1, e2, r2⟩ := o_shareOut r h1 h2
  refine J_istore6 C (by decide) rfl dL_law_1469 ?_
  refine J_aload_2 C dL_law_1471 ?_
  refine J_KVI C (c_X4_thrown hfl C.2.1 _) (cwV 0 C.1.2.2.2.2 gL_law_X4_thrown rfl rfl rfl (by decide +kernel) ⟨Nat.le_of_ble_eq_true rfl, Nat.le_of_ble_eq_true rfl⟩) rc4 (by decide) rfl rfl (Nat.le_of_ble_eq_true rfl) dL_law_1472 ⟨by have := hcap.1; show cells + 6 + 0 + 0 ≤ 648160; omega, by have := hcap.2; show slots + 36 + 0 + 0 ≤ 7151623; omega⟩ (fun z7 σ7 hp => ?_)
  obtain ⟨rfl, rfl⟩ := hp
  refine J_iload5 C dL_law_1475 ?_
  refine J_icmp_eqS (tgt := 1482) C e1 dL_law_1477 (by decide) ?_
  refine J_iload5 C dL_law_1482 ?_
  refine J_if_ne (tgt := 1499) C (by omega) dL_law_1484 (by decide) (fun ck => ?_) (fun ck => ?_)
  · skip
    refine J_goto (tgt := 1737) C dL_law_1499 (by decide) ?_
    refine J_fg5 ?_
    refine J_fg6 ?_
    exact K _ r2
  · have e2 := e2 ck
    refine J_aload_3 C dL_law_1487 ?_
    refine J_iconst C dL_law_1488 ?_
    refine J_laload C k42 (by decide) ⟨by decide, by decide⟩ dL_law_1489 ?_
    refine J_iload6 C dL_law_1490 ?_
    refine J_i2lw C dL_law_1492 ?_
    refine J_lif_eqS (tgt := 1499) C e2 dL_law_1493 dL_law_1494 (by decide) ?_
    refine J_goto (tgt := 1737) C dL_law_1499 (by decide) ?_
    refine J_fg5 ?_
    refine J_fg6 ?_
    exact K _ r2
set_option maxHeartbeats 4000000 in
set_option maxRecDepth 100000 in
theorem b_asked {p : Program} {l : Launch} {e : Env} {s : State} {m : MethodId} {below : List Frame} {meth : Method} {c : Code} {cy : Nat → ClassId} {D : va_G} {ad : Ad} {A : Nat → Prop} {Q : State → Prop} {b L : Nat} {xs : Nat → Int32} {σ : Sg} {i : Int} {cells slots : Nat} (C : Cx p l e room_1 s m #[Value.ref b] below meth c cy D ad A 8 cL_law RL wsL_law) (hfl : l.stackTraces = false) (hX : va_X b L xs s s.heap) (hbl : b < s.heap.size) (hbA : ¬ A b) (hL : L ≤ 3072) (r : Rel σ) (hi : 0 ≤ i ∧ i + 6 ≤ L) (hcap : cells + 6 ≤ 648160 ∧ slots + 36 ≤ 7151623) (K : ∀ σ' : Sg, Rel σ' → JW p l e room_1 s m #[Value.ref b] below meth c cy D ad A 8 (cells + 6) (slots + 36) Q σ' 1737 [some (.ref b), some (.ref (ad 0 0)), some (.ref (ad 22 0)), some (.ref (ad 42 0)), some (.int (iI i)), none, none, none] []) : JW p l e room_1 s m #[Value.ref b] below meth c cy D ad A 8 cells slots Q σ 1502 [some (.ref b), some (.ref (ad 0 0)), some (.ref (ad 22 0)), some (.ref (ad 42 0)), some (.int (iI i)), none, none, none] [] := by
  refine J_aload_1 C dL_law_1502 ?_
  refine J_aload_0 C dL_law_1503 ?_
  refine J_iload4 C dL_law_1504 ?_
  refine J_iconst C dL_law_1506 ?_
  refine J_iadd C dL_law_1507 ?_
  refine J_sld (i := i) (k := 1) C hX hbl hbA hL rfl ⟨by omega, by omega⟩ dL_law_1508 ?_
  refine J_aload_0 C dL_law_1509 ?_
  refine J_iload4 C dL_law_1510 ?_
  refine J_iconst C dL_law_1512 ?_
  refine J_iadd C dL_law_1513 ?_
  refine J_sld (i := i) (k := 2) C hX hbl hbA hL rfl ⟨by omega, by omega⟩ dL_law_1514 ?_
  refine J_aload_3 C dL_law_1515 ?_
  refine J_KWI C (c_L_asked hfl C.2.1 _ (sv xs i 1) (sv xs i 2) r.hcc (sv_r _ _ _) (sv_r _ _ _)) (vx_cwSW 4 C.1.2.2.2.2 gL_law_L_asked rfl rfl rfl (by decide +kernel) ⟨Nat.le_of_ble_eq_true rfl, Nat.le_of_ble_eq_true rfl⟩) rfl rfl (Nat.le_of_ble_eq_true rfl) dL_law_1516 hcap (fun k σ1 h1 => ?_)
  have hk := m_asked h1
  have hk03 : 0 ≤ k ∧ k ≤ 3 := by rcases h1 with ⟨rfl, _⟩ | ⟨rfl, _⟩ <;> decide
  refine J_istore5 C (by decide) rfl dL_law_1519 ?_
  refine J_aload_2 C dL_law_1521 ?_
  refine J_aload_0 C dL_law_1522 ?_
  refine J_iload4 C dL_law_1523 ?_
  refine J_iconst C dL_law_1525 ?_
  refine J_iadd C dL_law_1526 ?_
  refine J_sld (i := i) (k := 1) C hX hbl hbA hL rfl ⟨by omega, by omega⟩ dL_law_1527 ?_
  refine J_aload_0 C dL_law_1528 ?_
  refine J_iload4 C dL_law_1529 ?_
  refine J_iconst C dL_law_1531 ?_
  refine J_iadd C dL_law_1532 ?_
  refine J_sld (i := i) (k := 2) C hX hbl hbA hL rfl ⟨by omega, by omega⟩ dL_law_1533 ?_
  refine J_KVI C (c_X4_asked hfl C.2.1 _ (sv xs i 1) (sv xs i 2) (sv_r _ _ _) (sv_r _ _ _) (hk.mi r)) (cwV 2 C.1.2.2.2.2 gL_law_X4_asked rfl rfl rfl (by decide +kernel) ⟨Nat.le_of_ble_eq_true rfl, Nat.le_of_ble_eq_true rfl⟩) rc4 (by decide) rfl rfl (Nat.le_of_ble_eq_true rfl) dL_law_1534 ⟨by have := hcap.1; show cells + 6 + 0 ≤ 648160; omega, by have := hcap.2; show slots + 36 + 0 ≤ 7151623; omega⟩ (fun z σ2 h2 => ?_)
  obtain ⟨e1, e2, r2⟩ := o_asked r h1 h2
  refine J_istore6 C (by decide) rfl dL_law_1537 ?_
  refine J_aload_2 C dL_law_1539 ?_
  refine J_KVI C (c_X4_thrown hfl C.2.1 _) (cwV 0 C.1.2.2.2.2 gL_law_X4_thrown rfl rfl rfl (by decide +kernel) ⟨Nat.le_of_ble_eq_true rfl, Nat.le_of_ble_eq_true rfl⟩) rc4 (by decide) rfl rfl (Nat.le_of_ble_eq_true rfl) dL_law_1540 ⟨by have := hcap.1; show cells + 6 + 0 + 0 ≤ 648160; omega, by have := hcap.2; show slots + 36 + 0 + 0 ≤ 7151623; omega⟩ (fun z7 σ7 hp => ?_)
  obtain ⟨rfl, rfl⟩ := hp
  refine J_iload5 C dL_law_1543 ?_
  refine J_icmp_eqS (tgt := 1550) C e1 dL_law_1545 (by decide) ?_
  refine J_iload5 C dL_law_1550 ?_
  refine J_if_ne (tgt := 1567) C (by omega) dL_law_1552 (by decide) (fun ck => ?_) (fun ck => ?_)
  · skip
    refine J_goto (tgt := 1737) C dL_law_1567 (by decide) ?_
    refine J_fg5 ?_
    refine J_fg6 ?_
    exact K _ r2
  · have e2 := e2 ck
    refine J_aload_3 C dL_law_1555 ?_
    refine J_iconst C dL_law_1556 ?_
    refine J_laload C k42 (by decide) ⟨by decide, by decide⟩ dL_law_1557 ?_
    refine J_iload6 C dL_law_1558 ?_
    refine J_i2lw C dL_law_1560 ?_
    refine J_lif_eqS (tgt := 1567) C e2 dL_law_1561 dL_law_1562 (by decide) ?_
    refine J_goto (tgt := 1737) C dL_law_1567 (by decide) ?_
    refine J_fg5 ?_
    refine J_fg6 ?_
    exact K _ r2
set_option maxHeartbeats 4000000 in
set_option maxRecDepth 100000 in
theorem b_paid {p : Program} {l : Launch} {e : Env} {s : State} {m : MethodId} {below : List Frame} {meth : Method} {c : Code} {cy : Nat → ClassId} {D : va_G} {ad : Ad} {A : Nat → Prop} {Q : State → Prop} {b L : Nat} {xs : Nat → Int32} {σ : Sg} {i : Int} {cells slots : Nat} (C : Cx p l e room_1 s m #[Value.ref b] below meth c cy D ad A 8 cL_law RL wsL_law) (hfl : l.stackTraces = false) (hX : va_X b L xs s s.heap) (hbl : b < s.heap.size) (hbA : ¬ A b) (hL : L ≤ 3072) (r : Rel σ) (hi : 0 ≤ i ∧ i + 6 ≤ L) (hcap : cells + 6 ≤ 648160 ∧ slots + 36 ≤ 7151623) (K : ∀ σ' : Sg, Rel σ' → JW p l e room_1 s m #[Value.ref b] below meth c cy D ad A 8 (cells + 6) (slots + 36) Q σ' 1737 [some (.ref b), some (.ref (ad 0 0)), some (.ref (ad 22 0)), some (.ref (ad 42 0)), some (.int (iI i)), none, none, none] []) : JW p l e room_1 s m #[Value.ref b] below meth c cy D ad A 8 cells slots Q σ 1570 [some (.ref b), some (.ref (ad 0 0)), some (.ref (ad 22 0)), some (.ref (ad 42 0)), some (.int (iI i)), none, none, none] [] := by
  refine J_aload_1 C dL_law_1570 ?_
  refine J_aload_0 C dL_law_1571 ?_
  refine J_iload4 C dL_law_1572 ?_
  refine J_iconst C dL_law_1574 ?_
  refine J_iadd C dL_law_1575 ?_
  refine J_sld (i := i) (k := 1) C hX hbl hbA hL rfl ⟨by omega, by omega⟩ dL_law_1576 ?_
  refine J_aload_3 C dL_law_1577 ?_
  refine J_KWI C (c_L_paid hfl C.2.1 _ (sv xs i 1) r.hcc (sv_r _ _ _)) (vx_cwSW 3 C.1.2.2.2.2 gL_law_L_paid rfl rfl rfl (by decide +kernel) ⟨Nat.le_of_ble_eq_true rfl, Nat.le_of_ble_eq_true rfl⟩) rfl rfl (Nat.le_of_ble_eq_true rfl) dL_law_1578 hcap (fun k σ1 h1 => ?_)
  have hk := m_paid h1
  have hk03 : 0 ≤ k ∧ k ≤ 3 := by rcases h1 with ⟨rfl, _⟩ | ⟨rfl, _⟩ <;> decide
  refine J_istore5 C (by decide) rfl dL_law_1581 ?_
  refine J_aload_2 C dL_law_1583 ?_
  refine J_aload_0 C dL_law_1584 ?_
  refine J_iload4 C dL_law_1585 ?_
  refine J_iconst C dL_law_1587 ?_
  refine J_iadd C dL_law_1588 ?_
  refine J_sld (i := i) (k := 1) C hX hbl hbA hL rfl ⟨by omega, by omega⟩ dL_law_1589 ?_
  refine J_KVI C (c_X4_paid hfl C.2.1 _ (sv xs i 1) (sv_r _ _ _) (hk.mi r)) (cwV 1 C.1.2.2.2.2 gL_law_X4_paid rfl rfl rfl (by decide +kernel) ⟨Nat.le_of_ble_eq_true rfl, Nat.le_of_ble_eq_true rfl⟩) rc4 (by decide) rfl rfl (Nat.le_of_ble_eq_true rfl) dL_law_1590 ⟨by have := hcap.1; show cells + 6 + 0 ≤ 648160; omega, by have := hcap.2; show slots + 36 + 0 ≤ 7151623; omega⟩ (fun z σ2 h2 => ?_)
  obtain ⟨e1, e2, r2⟩ := o_paid r h1 h2
  refine J_istore6 C (by decide) rfl dL_law_1593 ?_
  refine J_aload_2 C dL_law_1595 ?_
  refine J_KVI C (c_X4_thrown hfl C.2.1 _) (cwV 0 C.1.2.2.2.2 gL_law_X4_thrown rfl rfl rfl (by decide +kernel) ⟨Nat.le_of_ble_eq_true rfl, Nat.le_of_ble_eq_true rfl⟩) rc4 (by decide) rfl rfl (Nat.le_of_ble_eq_true rfl) dL_law_1596 ⟨by have := hcap.1; show cells + 6 + 0 + 0 ≤ 648160; omega, by have := hcap.2; show slots + 36 + 0 + 0 ≤ 7151623; omega⟩ (fun z7 σ7 hp => ?_)
  obtain ⟨rfl, rfl⟩ := hp
  refine J_iload5 C dL_law_1599 ?_
  refine J_icmp_eqS (tgt := 1606) C e1 dL_law_1601 (by decide) ?_
  refine J_iload5 C dL_law_1606 ?_
  refine J_if_ne (tgt := 1623) C (by omega) dL_law_1608 (by decide) (fun ck => ?_) (fun ck => ?_)
  · skip
    refine J_goto (tgt := 1737) C dL_law_1623 (by decide) ?_
    refine J_fg5 ?_
    refine J_fg6 ?_
    exact K _ r2
  · have e2 := e2 ck
    refine J_aload_3 C dL_law_1611 ?_
    refine J_iconst C dL_law_1612 ?_
    refine J_laload C k42 (by decide) ⟨by decide, by decide⟩ dL_law_1613 ?_
    refine J_iload6 C dL_law_1614 ?_
    refine J_i2lw C dL_law_1616 ?_
    refine J_lif_eqS (tgt := 1623) C e2 dL_law_1617 dL_law_1618 (by decide) ?_
    refine J_goto (tgt := 1737) C dL_law_1623 (by decide) ?_
    refine J_fg5 ?_
    refine J_fg6 ?_
    exact K _ r2
set_option maxHeartbeats 4000000 in
set_option maxRecDepth 100000 in
theorem b_owes {p : Program} {l : Launch} {e : Env} {s : State} {m : MethodId} {below : List Frame} {meth : Method} {c : Code} {cy : Nat → ClassId} {D : va_G} {ad : Ad} {A : Nat → Prop} {Q : State → Prop} {b L : Nat} {xs : Nat → Int32} {σ : Sg} {i : Int} {cells slots : Nat} (C : Cx p l e room_1 s m #[Value.ref b] below meth c cy D ad A 8 cL_law RL wsL_law) (hfl : l.stackTraces = false) (hX : va_X b L xs s s.heap) (hbl : b < s.heap.size) (hbA : ¬ A b) (hL : L ≤ 3072) (r : Rel σ) (hi : 0 ≤ i ∧ i + 6 ≤ L) (hcap : cells + 6 ≤ 648160 ∧ slots + 36 ≤ 7151623) (K : ∀ σ' : Sg, Rel σ' → JW p l e room_1 s m #[Value.ref b] below meth c cy D ad A 8 (cells + 6) (slots + 36) Q σ' 1737 [some (.ref b), some (.ref (ad 0 0)), some (.ref (ad 22 0)), some (.ref (ad 42 0)), some (.int (iI i)), none, none, none] []) : JW p l e room_1 s m #[Value.ref b] below meth c cy D ad A 8 cells slots Q σ 1626 [some (.ref b), some (.ref (ad 0 0)), some (.ref (ad 22 0)), some (.ref (ad 42 0)), some (.int (iI i)), none, none, none] [] := by
  refine J_aload_1 C dL_law_1626 ?_
  refine J_aload_0 C dL_law_1627 ?_
  refine J_iload4 C dL_law_1628 ?_
  refine J_iconst C dL_law_1630 ?_
  refine J_iadd C dL_law_1631 ?_
  refine J_sld (i := i) (k := 1) C hX hbl hbA hL rfl ⟨by omega, by omega⟩ dL_law_1632 ?_
  refine J_aload_3 C dL_law_1633 ?_
  refine J_KWI C (c_L_owes hfl C.2.1 _ (sv xs i 1) (sv_r _ _ _)) (vx_cwSW 3 C.1.2.2.2.2 gL_law_L_owes rfl rfl rfl (by decide +kernel) ⟨Nat.le_of_ble_eq_true rfl, Nat.le_of_ble_eq_true rfl⟩) rfl rfl (Nat.le_of_ble_eq_true rfl) dL_law_1634 hcap (fun k σ1 h1 => ?_)
  have hk := m_owes h1
  have hk03 : 0 ≤ k ∧ k ≤ 3 := by rcases h1 with ⟨rfl, _⟩ | ⟨rfl, _⟩ <;> decide
  refine J_istore5 C (by decide) rfl dL_law_1637 ?_
  refine J_aload_2 C dL_law_1639 ?_
  refine J_aload_0 C dL_law_1640 ?_
  refine J_iload4 C dL_law_1641 ?_
  refine J_iconst C dL_law_1643 ?_
  refine J_iadd C dL_law_1644 ?_
  refine J_sld (i := i) (k := 1) C hX hbl hbA hL rfl ⟨by omega, by omega⟩ dL_law_1645 ?_
  refine J_KVI C (c_X4_owes hfl C.2.1 _ (sv xs i 1) (sv_r _ _ _) (hk.mi r)) (cwV 1 C.1.2.2.2.2 gL_law_X4_owes rfl rfl rfl (by decide +kernel) ⟨Nat.le_of_ble_eq_true rfl, Nat.le_of_ble_eq_true rfl⟩) rc4 (by decide) rfl rfl (Nat.le_of_ble_eq_true rfl) dL_law_1646 ⟨by have := hcap.1; show cells + 6 + 0 ≤ 648160; omega, by have := hcap.2; show slots + 36 + 0 ≤ 7151623; omega⟩ (fun z σ2 h2 => ?_)
  obtain ⟨e1, e2, r2⟩ := o_owes r h1 h2
  refine J_istore6 C (by decide) rfl dL_law_1649 ?_
  refine J_aload_2 C dL_law_1651 ?_
  refine J_KVI C (c_X4_thrown hfl C.2.1 _) (cwV 0 C.1.2.2.2.2 gL_law_X4_thrown rfl rfl rfl (by decide +kernel) ⟨Nat.le_of_ble_eq_true rfl, Nat.le_of_ble_eq_true rfl⟩) rc4 (by decide) rfl rfl (Nat.le_of_ble_eq_true rfl) dL_law_1652 ⟨by have := hcap.1; show cells + 6 + 0 + 0 ≤ 648160; omega, by have := hcap.2; show slots + 36 + 0 + 0 ≤ 7151623; omega⟩ (fun z7 σ7 hp => ?_)
  obtain ⟨rfl, rfl⟩ := hp
  refine J_iload5 C dL_law_1655 ?_
  refine J_icmp_eqS (tgt := 1662) C e1 dL_law_1657 (by decide) ?_
  refine J_iload5 C dL_law_1662 ?_
  refine J_if_ne (tgt := 1679) C (by omega) dL_law_1664 (by decide) (fun ck => ?_) (fun ck => ?_)
  · skip
    refine J_goto (tgt := 1737) C dL_law_1679 (by decide) ?_
    refine J_fg5 ?_
    refine J_fg6 ?_
    exact K _ r2
  · have e2 := e2 ck
    refine J_aload_3 C dL_law_1667 ?_
    refine J_iconst C dL_law_1668 ?_
    refine J_laload C k42 (by decide) ⟨by decide, by decide⟩ dL_law_1669 ?_
    refine J_iload6 C dL_law_1670 ?_
    refine J_i2lw C dL_law_1672 ?_
    refine J_lif_eqS (tgt := 1679) C e2 dL_law_1673 dL_law_1674 (by decide) ?_
    refine J_goto (tgt := 1737) C dL_law_1679 (by decide) ?_
    refine J_fg5 ?_
    refine J_fg6 ?_
    exact K _ r2
set_option maxHeartbeats 4000000 in
set_option maxRecDepth 100000 in
theorem b_balance {p : Program} {l : Launch} {e : Env} {s : State} {m : MethodId} {below : List Frame} {meth : Method} {c : Code} {cy : Nat → ClassId} {D : va_G} {ad : Ad} {A : Nat → Prop} {Q : State → Prop} {b L : Nat} {xs : Nat → Int32} {σ : Sg} {i : Int} {cells slots : Nat} (C : Cx p l e room_1 s m #[Value.ref b] below meth c cy D ad A 8 cL_law RL wsL_law) (hfl : l.stackTraces = false) (hX : va_X b L xs s s.heap) (hbl : b < s.heap.size) (hbA : ¬ A b) (hL : L ≤ 3072) (r : Rel σ) (hi : 0 ≤ i ∧ i + 6 ≤ L) (hcap : cells + 6 ≤ 648160 ∧ slots + 36 ≤ 7151623) (K : ∀ σ' : Sg, Rel σ' → JW p l e room_1 s m #[Value.ref b] below meth c cy D ad A 8 (cells + 6) (slots + 36) Q σ' 1737 [some (.ref b), some (.ref (ad 0 0)), some (.ref (ad 22 0)), some (.ref (ad 42 0)), some (.int (iI i)), none, none, none] []) : JW p l e room_1 s m #[Value.ref b] below meth c cy D ad A 8 cells slots Q σ 1682 [some (.ref b), some (.ref (ad 0 0)), some (.ref (ad 22 0)), some (.ref (ad 42 0)), some (.int (iI i)), none, none, none] [] := by
  refine J_aload_1 C dL_law_1682 ?_
  refine J_aload_0 C dL_law_1683 ?_
  refine J_iload4 C dL_law_1684 ?_
  refine J_iconst C dL_law_1686 ?_
  refine J_iadd C dL_law_1687 ?_
  refine J_sld (i := i) (k := 1) C hX hbl hbA hL rfl ⟨by omega, by omega⟩ dL_law_1688 ?_
  refine J_aload_3 C dL_law_1689 ?_
  refine J_KWI C (c_L_balance hfl C.2.1 _ (sv xs i 1) r.hwc r.hcc (sv_r _ _ _) r.hr9b) (vx_cwSW 3 C.1.2.2.2.2 gL_law_L_balance rfl rfl rfl (by decide +kernel) ⟨Nat.le_of_ble_eq_true rfl, Nat.le_of_ble_eq_true rfl⟩) rfl rfl (Nat.le_of_ble_eq_true rfl) dL_law_1690 hcap (fun k σ1 h1 => ?_)
  have hk := m_balance h1
  have hk03 : 0 ≤ k ∧ k ≤ 3 := by rcases h1 with ⟨rfl, _⟩ | ⟨rfl, _⟩ <;> decide
  refine J_istore5 C (by decide) rfl dL_law_1693 ?_
  refine J_aload_2 C dL_law_1695 ?_
  refine J_aload_0 C dL_law_1696 ?_
  refine J_iload4 C dL_law_1697 ?_
  refine J_iconst C dL_law_1699 ?_
  refine J_iadd C dL_law_1700 ?_
  refine J_sld (i := i) (k := 1) C hX hbl hbA hL rfl ⟨by omega, by omega⟩ dL_law_1701 ?_
  refine J_KVL C (c_X4_balance hfl C.2.1 _ (sv xs i 1) (sv_r _ _ _) (hk.mi r)) (cwV 1 C.1.2.2.2.2 gL_law_X4_balance rfl rfl rfl (by decide +kernel) ⟨Nat.le_of_ble_eq_true rfl, Nat.le_of_ble_eq_true rfl⟩) rc4 (by decide) rfl rfl (Nat.le_of_ble_eq_true rfl) dL_law_1702 ⟨by have := hcap.1; show cells + 6 + 0 ≤ 648160; omega, by have := hcap.2; show slots + 36 + 0 ≤ 7151623; omega⟩ (fun z σ2 h2 => ?_)
  obtain ⟨e1, e2, r2⟩ := o_balance r h1 h2
  refine J_lstore6 C (by decide) rfl dL_law_1705 ?_
  refine J_aload_2 C dL_law_1707 ?_
  refine J_KVI C (c_X4_thrown hfl C.2.1 _) (cwV 0 C.1.2.2.2.2 gL_law_X4_thrown rfl rfl rfl (by decide +kernel) ⟨Nat.le_of_ble_eq_true rfl, Nat.le_of_ble_eq_true rfl⟩) rc4 (by decide) rfl rfl (Nat.le_of_ble_eq_true rfl) dL_law_1708 ⟨by have := hcap.1; show cells + 6 + 0 + 0 ≤ 648160; omega, by have := hcap.2; show slots + 36 + 0 + 0 ≤ 7151623; omega⟩ (fun z7 σ7 hp => ?_)
  obtain ⟨rfl, rfl⟩ := hp
  refine J_iload5 C dL_law_1711 ?_
  refine J_icmp_eqS (tgt := 1718) C e1 dL_law_1713 (by decide) ?_
  refine J_iload5 C dL_law_1718 ?_
  refine J_if_ne (tgt := 1734) C (by omega) dL_law_1720 (by decide) (fun ck => ?_) (fun ck => ?_)
  · skip
    refine J_goto (tgt := 1737) C dL_law_1734 (by decide) ?_
    refine J_fg5 ?_
    refine J_fg6 ?_
    exact K _ r2
  · have e2 := e2 ck
    refine J_aload_3 C dL_law_1723 ?_
    refine J_iconst C dL_law_1724 ?_
    refine J_laload C k42 (by decide) ⟨by decide, by decide⟩ dL_law_1725 ?_
    refine J_lload6 C dL_law_1726 ?_
    refine J_lif_eqS (tgt := 1734) C e2 dL_law_1728 dL_law_1729 (by decide) ?_
    refine J_goto (tgt := 1737) C dL_law_1734 (by decide) ?_
    refine J_fg5 ?_
    refine J_fg6 ?_
    exact K _ r2
