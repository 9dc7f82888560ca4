/-- the script's number j -/
def sc (xs : Nat → Int32) (j : Int) : Int := (xs j.toNat).toInt
theorem sc_rg (xs : Nat → Int32) (j : Int) : -2147483648 ≤ sc xs j ∧ sc xs j < 2147483648 := I_rg _
/-- class and reference tell the same cam -/
def IN2 (σ : St) : Prop := ∃ (N : Int) (r : Int → Int) (n : Int) (hs : Int → Int → Int), CX σ N r n hs ∧ MX σ N r n hs
theorem KYkeep {σ τ : St} (h : KY σ τ) {N : Int} {r : Int → Int} {n : Int} {hs : Int → Int → Int} (hC : CX σ N r n hs) : CX τ N r n hs := hC.keep (fun k a => h k (Or.inl a))
theorem tell_end {C : Prop} {hd : Decidable C} {σ τ1 τ2 : St} {N N2 x x0 a1 a2 : Int} {r r2 : Int → Int} {n n2 : Int} {hs hs2 : Int → Int → Int} (h1 : KX σ τ1 ∧ if C then a1 = x ∧ CX τ1 N2 r2 n2 hs2 else a1 = x0 ∧ CX τ1 N r n hs) (h2 : (KY τ1 τ2 ∧ τ2 36 0 = 0) ∧ if C then a2 = x ∧ MX τ2 N2 r2 n2 hs2 else a2 = x0 ∧ MX τ2 N r n hs) : a1 = a2 ∧ IN2 τ2 := by
  obtain ⟨k1, b1⟩ := h1
  obtain ⟨⟨k2, -⟩, b2⟩ := h2
  by_cases hc : C
  · rw [if_pos hc] at b1 b2
    exact ⟨b1.1.trans b2.1.symm, _, _, _, _, KYkeep k2 b1.2, b2.2⟩
  · rw [if_neg hc] at b1 b2
    exact ⟨b1.1.trans b2.1.symm, _, _, _, _, KYkeep k2 b1.2, b2.2⟩
theorem ask_end {σ τ1 τ2 : St} {N q a1 a2 : Int} {r : Int → Int} {n : Int} {hs : Int → Int → Int} (h1 : a1 = q ∧ CX τ1 N r n hs ∧ KX σ τ1) (h2 : a2 = q ∧ MX τ2 N r n hs ∧ KY τ1 τ2 ∧ τ2 36 0 = 0) : a1 = a2 ∧ IN2 τ2 :=
  ⟨h1.1.trans h2.1.symm, _, _, _, _, KYkeep h2.2.2.1 h1.2.1, h2.2.1⟩
theorem thr_end {C : Prop} {hd : Decidable C} {σ τ1 τ2 : St} {N q a1 a2 : Int} {r : Int → Int} {n : Int} {hs : Int → Int → Int} (h1 : CX τ1 N r n hs ∧ (∀ k : Nat, 36 ≤ k → k ≠ 42 → τ1 k = σ k) ∧ ((C ∧ a1 = 0 ∧ τ1 42 0 = q) ∨ (¬ C ∧ a1 = 1))) (h2 : MX τ2 N r n hs ∧ KY τ1 τ2 ∧ τ2 36 0 = (if C then 0 else 1) ∧ (C → a2 = q)) : τ2 36 0 = a1 ∧ (a1 = 0 ∨ a1 = 1) ∧ (a1 = 0 → C ∧ τ2 42 0 = a2) ∧ IN2 τ2 := by
  obtain ⟨c1, k1, b1⟩ := h1
  obtain ⟨m2, k2, t2, b2⟩ := h2
  have hI : IN2 τ2 := ⟨_, _, _, _, KYkeep k2 c1, m2⟩
  rcases b1 with ⟨hc, e1, e2⟩ | ⟨hc, e1⟩
  · rw [if_pos hc] at t2
    exact ⟨t2.trans e1.symm, Or.inl e1, fun _ => ⟨hc, by rw [k2 42 (Or.inr rfl), e2, b2 hc]⟩, hI⟩
  · rw [if_neg hc] at t2
    exact ⟨t2.trans e1.symm, Or.inr e1, fun z => by omega, hI⟩
abbrev LL (G : GT) (b : Nat) (i : Int) : List (Nat × Value) := [(0, .ref b), (1, .ref (gY G 0)), (2, .ref (gY G 36)), (3, .ref (gY G 42)), (4, .int (I i))]
/-- the script lies below the world -/
def SX (G : GT) (b L : Nat) (xs : Nat → Int32) (s : State) : Prop := va_X b L xs s s.heap ∧ b < s.heap.size ∧ ¬ gA G b ∧ L ≤ 2048
section LW
variable {p : Program} {l : Launch} {e : Env} {R : Room} {s : State} {m : MethodId} {args : Array Value} {below : List Frame} {meth : Method} {c : Code} {H : Heap} {locs : List Loc} {cells slots : Nat} {Q : State → Prop}
variable {cc : ByteArray} {nL pc : Nat} {ls : Array Slot} {rest : List Value} {own : String} {G : GT} {σ : St} {b L : Nat} {xs : Nat → Int32}
theorem r_slda (F : FX G p m c cc nL s args own) (X : HX G σ s H locs) (hX : SX G b L xs s) {a : Int} (h : 0 ≤ a ∧ a < L) (hdg : decode cc pc = .ok (.iaload, 1)) (kk : W p l e R s m args below meth c H locs cells slots Q (F0 m (pc + 1) ls (.int (I (sc xs a)) :: rest))) : W p l e R s m args below meth c H locs cells slots Q (F0 m pc ls (.int (I a) :: .ref b :: rest)) := by
  obtain ⟨h1, h2, h3, h4⟩ := hX
  refine va_sld F.1.1 F.1.2.1 h1 h2 h3 X.2 (I_in h.1 h.2 (by omega)) hdg ?_
  rw [I_nat (by omega), I_of (xs a.toNat)]
  exact kk
theorem r_slen (F : FX G p m c cc nL s args own) (X : HX G σ s H locs) (hX : SX G b L xs s) (hdg : decode cc pc = .ok (.arraylength, 1)) (kk : W p l e R s m args below meth c H locs cells slots Q (F0 m (pc + 1) ls (.int (I (L : Int)) :: rest))) : W p l e R s m args below meth c H locs cells slots Q (F0 m pc ls (.ref b :: rest)) :=
  va_slen F.1.1 F.1.2.1 hX.1 hX.2.1 hX.2.2.1 X.2 hdg kk
theorem r_same (F : FX G p m c cc nL s args own) {off : Int} (tgt : Nat) {x y : Int} (h : x = y) (ht : (pc : Int) + off = (tgt : Int)) (hdg : decode cc pc = .ok (.if_icmp .eq off, 3)) (kt : W p l e R s m args below meth c H locs cells slots Q (F0 m tgt ls rest)) : W p l e R s m args below meth c H locs cells slots Q (F0 m pc ls (.int (I y) :: .int (I x) :: rest)) := by
  subst h
  exact lv_icmp_eq F.1.1 F.1.2.1 hdg ht (fun _ => kt) (fun z => absurd rfl z)
end LW
theorem law_steps (l : Launch) (hst9 : l.stackTraces = false) {p : Program} {e : Env} {s : State} {m : MethodId} {args : Array Value} {below : List Frame} {meth : Method} {c : Code} {H : Heap} {locs : List Loc} {cells slots : Nat} {Q : State → Prop} {ls : Array Slot} {G : GT} {σ : St} {b L : Nat} {xs : Nat → Int32} {i : Int} (F : FX G p m c code 8 s args RL) (hTX : TX G s s.heap) (hS : SX G b L xs s) (hI : IN2 σ) (X : HX G σ s H locs) (hl : lv_has ls 8 (LL G b i)) (hi : 0 ≤ i ∧ i + 4 ≤ L) (hc1 : cells + 1 ≤ 601024) (hc2 : slots + 6 ≤ 7293034) (kk : ∀ (ls : Array Slot) (σ : St) (H : Heap) (locs : List Loc), IN2 σ → HX G σ s H locs → lv_has ls 8 (LL G b i) → W p l e room_1 s m args below meth c H locs (cells + 1) (slots + 6) Q (F0 m 1145 ls [])) : W p l e room_1 s m args below meth c H locs cells slots Q (F0 m 172 ls []) := by
  obtain ⟨N, r, n, hs, hC, hM⟩ := hI
  have hW := hC.2.1
  have hL9 := hS.2.2.2
  refine r_aload_n F hl 1 rfl rfl dL_law_172 ?_
  refine r_aload_n F hl 0 rfl rfl dL_law_173 ?_
  refine r_iload F hl 4 rfl dL_law_174 ?_
  refine r_iconst F dL_law_176 ?_
  refine r_iadd F dL_law_177 ?_
  refine r_slda F X hS (by omega) dL_law_178 ?_
  refine r_cVI F X 0 (by decide) (eK_0 G _) rfl (c_X4_steps l G σ N r n hs (sc xs (i + 1)) hC (sc_rg xs (i + 1))) gv_RL_27 rfl nd_X4_steps rfl (rest := []) rfl (Nat.le_of_ble_eq_true rfl) ⟨Nat.le_of_ble_eq_true rfl, Nat.le_of_ble_eq_true rfl⟩ ⟨Nat.le_of_succ_le hc1, Nat.le_of_add_right_le hc2⟩ hl.1 dL_law_179 (fun a1 τ1 H locs h1 X => ?_)
  have hM1 : MX τ1 N r n hs := hM.keep (fun k a _ => h1.1 k a)
  refine r_aload_n F hl 2 rfl rfl dL_law_182 ?_
  refine r_aload_n F hl 0 rfl rfl dL_law_183 ?_
  refine r_iload F hl 4 rfl dL_law_184 ?_
  refine r_iconst F dL_law_186 ?_
  refine r_iadd F dL_law_187 ?_
  refine r_slda F X hS (by omega) dL_law_188 ?_
  refine r_cVI F X 36 (by decide) (eK_36 G _) rfl (c_X5_steps l G τ1 N r n hs (sc xs (i + 1)) hM1 hW (sc_rg xs (i + 1))) gv_RL_31 rfl nd_X5_steps rfl (rest := [.int (I a1)]) rfl (Nat.le_of_ble_eq_true rfl) ⟨Nat.le_of_ble_eq_true rfl, Nat.le_of_ble_eq_true rfl⟩ ⟨Nat.le_of_succ_le hc1, Nat.le_of_add_right_le hc2⟩ hl.1 dL_law_189 (fun a2 τ2 H locs h2 X => ?_)
  obtain ⟨he, hI2⟩ := tell_end h1 h2
  refine r_same F 1145 he (by decide) dL_law_192 ?_
  exact W.widen (Nat.le_succ _) (Nat.le_add_right _ 6) (kk ls _ _ _ hI2 X hl)
theorem law_segment (l : Launch) (hst9 : l.stackTraces = false) {p : Program} {e : Env} {s : State} {m : MethodId} {args : Array Value} {below : List Frame} {meth : Method} {c : Code} {H : Heap} {locs : List Loc} {cells slots : Nat} {Q : State → Prop} {ls : Array Slot} {G : GT} {σ : St} {b L : Nat} {xs : Nat → Int32} {i : Int} (F : FX G p m c code 8 s args RL) (hTX : TX G s s.heap) (hS : SX G b L xs s) (hI : IN2 σ) (X : HX G σ s H locs) (hl : lv_has ls 8 (LL G b i)) (hi : 0 ≤ i ∧ i + 4 ≤ L) (hc1 : cells + 1 ≤ 601024) (hc2 : slots + 6 ≤ 7293034) (kk : ∀ (ls : Array Slot) (σ : St) (H : Heap) (locs : List Loc), IN2 σ → HX G σ s H locs → lv_has ls 8 (LL G b i) → W p l e room_1 s m args below meth c H locs (cells + 1) (slots + 6) Q (F0 m 1145 ls [])) : W p l e room_1 s m args below meth c H locs cells slots Q (F0 m 197 ls []) := by
  obtain ⟨N, r, n, hs, hC, hM⟩ := hI
  have hW := hC.2.1
  have hL9 := hS.2.2.2
  refine r_aload_n F hl 1 rfl rfl dL_law_197 ?_
  refine r_aload_n F hl 0 rfl rfl dL_law_198 ?_
  refine r_iload F hl 4 rfl dL_law_199 ?_
  refine r_iconst F dL_law_201 ?_
  refine r_iadd F dL_law_202 ?_
  refine r_slda F X hS (by omega) dL_law_203 ?_
  refine r_aload_n F hl 0 rfl rfl dL_law_204 ?_
  refine r_iload F hl 4 rfl dL_law_205 ?_
  refine r_iconst F dL_law_207 ?_
  refine r_iadd F dL_law_208 ?_
  refine r_slda F X hS (by omega) dL_law_209 ?_
  refine r_aload_n F hl 0 rfl rfl dL_law_210 ?_
  refine r_iload F hl 4 rfl dL_law_211 ?_
  refine r_iconst F dL_law_213 ?_
  refine r_iadd F dL_law_214 ?_
  refine r_slda F X hS (by omega) dL_law_215 ?_
  refine r_cVI F X 0 (by decide) (eK_0 G _) rfl (c_X4_segment l G σ N r n hs (sc xs (i + 1)) (sc xs (i + 2)) (sc xs (i + 3)) hC (sc_rg xs (i + 1)) (sc_rg xs (i + 2)) (sc_rg xs (i + 3))) gv_RL_32 rfl nd_X4_segment rfl (rest := []) rfl (Nat.le_of_ble_eq_true rfl) ⟨Nat.le_of_ble_eq_true rfl, Nat.le_of_ble_eq_true rfl⟩ ⟨Nat.le_of_succ_le hc1, Nat.le_of_add_right_le hc2⟩ hl.1 dL_law_216 (fun a1 τ1 H locs h1 X => ?_)
  have hM1 : MX τ1 N r n hs := hM.keep (fun k a _ => h1.1 k a)
  refine r_aload_n F hl 2 rfl rfl dL_law_219 ?_
  refine r_aload_n F hl 0 rfl rfl dL_law_220 ?_
  refine r_iload F hl 4 rfl dL_law_221 ?_
  refine r_iconst F dL_law_223 ?_
  refine r_iadd F dL_law_224 ?_
  refine r_slda F X hS (by omega) dL_law_225 ?_
  refine r_aload_n F hl 0 rfl rfl dL_law_226 ?_
  refine r_iload F hl 4 rfl dL_law_227 ?_
  refine r_iconst F dL_law_229 ?_
  refine r_iadd F dL_law_230 ?_
  refine r_slda F X hS (by omega) dL_law_231 ?_
  refine r_aload_n F hl 0 rfl rfl dL_law_232 ?_
  refine r_iload F hl 4 rfl dL_law_233 ?_
  refine r_iconst F dL_law_235 ?_
  refine r_iadd F dL_law_236 ?_
  refine r_slda F X hS (by omega) dL_law_237 ?_
  refine r_cVI F X 36 (by decide) (eK_36 G _) rfl (c_X5_segment l G τ1 N r n hs (sc xs (i + 1)) (sc xs (i + 2)) (sc xs (i + 3)) hM1 hW (sc_rg xs (i + 1)) (sc_rg xs (i + 2)) (sc_rg xs (i + 3))) gv_RL_36 rfl nd_X5_segment rfl (rest := [.int (I a1)]) rfl (Nat.le_of_ble_eq_true rfl) ⟨Nat.le_of_ble_eq_true rfl, Nat.le_of_ble_eq_true rfl⟩ ⟨Nat.le_of_succ_le hc1, Nat.le_of_add_right_le hc2⟩ hl.1 dL_law_238 (fun a2 τ2 H locs h2 X => ?_)
  obtain ⟨he, hI2⟩ := tell_end h1 h2
  refine r_same F 1145 he (by decide) dL_law_241 ?_
  exact W.widen (Nat.le_succ _) (Nat.le_add_right _ 6) (kk ls _ _ _ hI2 X hl)
theorem law_alter (l : Launch) (hst9 : l.stackTraces = false) {p : Program} {e : Env} {s : State} {m : MethodId} {args : Array Value} {below : List Frame} {meth : Method} {c : Code} {H : Heap} {locs : List Loc} {cells slots : Nat} {Q : State → Prop} {ls : Array Slot} {G : GT} {σ : St} {b L : Nat} {xs : Nat → Int32} {i : Int} (F : FX G p m c code 8 s args RL) (hTX : TX G s s.heap) (hS : SX G b L xs s) (hI : IN2 σ) (X : HX G σ s H locs) (hl : lv_has ls 8 (LL G b i)) (hi : 0 ≤ i ∧ i + 4 ≤ L) (hc1 : cells + 1 ≤ 601024) (hc2 : slots + 6 ≤ 7293034) (kk : ∀ (ls : Array Slot) (σ : St) (H : Heap) (locs : List Loc), IN2 σ → HX G σ s H locs → lv_has ls 8 (LL G b i) → W p l e room_1 s m args below meth c H locs (cells + 1) (slots + 6) Q (F0 m 1145 ls [])) : W p l e room_1 s m args below meth c H locs cells slots Q (F0 m 246 ls []) := by
  obtain ⟨N, r, n, hs, hC, hM⟩ := hI
  have hW := hC.2.1
  have hL9 := hS.2.2.2
  refine r_aload_n F hl 1 rfl rfl dL_law_246 ?_
  refine r_aload_n F hl 0 rfl rfl dL_law_247 ?_
  refine r_iload F hl 4 rfl dL_law_248 ?_
  refine r_iconst F dL_law_250 ?_
  refine r_iadd F dL_law_251 ?_
  refine r_slda F X hS (by omega) dL_law_252 ?_
  refine r_aload_n F hl 0 rfl rfl dL_law_253 ?_
  refine r_iload F hl 4 rfl dL_law_254 ?_
  refine r_iconst F dL_law_256 ?_
  refine r_iadd F dL_law_257 ?_
  refine r_slda F X hS (by omega) dL_law_258 ?_
  refine r_aload_n F hl 0 rfl rfl dL_law_259 ?_
  refine r_iload F hl 4 rfl dL_law_260 ?_
  refine r_iconst F dL_law_262 ?_
  refine r_iadd F dL_law_263 ?_
  refine r_slda F X hS (by omega) dL_law_264 ?_
  refine r_cVI F X 0 (by decide) (eK_0 G _) rfl (c_X4_alter l G σ N r n hs (sc xs (i + 1)) (sc xs (i + 2)) (sc xs (i + 3)) hC (sc_rg xs (i + 1)) (sc_rg xs (i + 2)) (sc_rg xs (i + 3))) gv_RL_37 rfl nd_X4_alter rfl (rest := []) rfl (Nat.le_of_ble_eq_true rfl) ⟨Nat.le_of_ble_eq_true rfl, Nat.le_of_ble_eq_true rfl⟩ ⟨Nat.le_of_succ_le hc1, Nat.le_of_add_right_le hc2⟩ hl.1 dL_law_265 (fun a1 τ1 H locs h1 X => ?_)
  have hM1 : MX τ1 N r n hs := hM.keep (fun k a _ => h1.1 k a)
  refine r_aload_n F hl 2 rfl rfl dL_law_268 ?_
  refine r_aload_n F hl 0 rfl rfl dL_law_269 ?_
  refine r_iload F hl 4 rfl dL_law_270 ?_
  refine r_iconst F dL_law_272 ?_
  refine r_iadd F dL_law_273 ?_
  refine r_slda F X hS (by omega) dL_law_274 ?_
  refine r_aload_n F hl 0 rfl rfl dL_law_275 ?_
  refine r_iload F hl 4 rfl dL_law_276 ?_
  refine r_iconst F dL_law_278 ?_
  refine r_iadd F dL_law_279 ?_
  refine r_slda F X hS (by omega) dL_law_280 ?_
  refine r_aload_n F hl 0 rfl rfl dL_law_281 ?_
  refine r_iload F hl 4 rfl dL_law_282 ?_
  refine r_iconst F dL_law_284 ?_
  refine r_iadd F dL_law_285 ?_
  refine r_slda F X hS (by omega) dL_law_286 ?_
  refine r_cVI F X 36 (by decide) (eK_36 G _) rfl (c_X5_alter l G τ1 N r n hs (sc xs (i + 1)) (sc xs (i + 2)) (sc xs (i + 3)) hM1 hW (sc_rg xs (i + 1)) (sc_rg xs (i + 2)) (sc_rg xs (i + 3))) gv_RL_40 rfl nd_X5_alter rfl (rest := [.int (I a1)]) rfl (Nat.le_of_ble_eq_true rfl) ⟨Nat.le_of_ble_eq_true rfl, Nat.le_of_ble_eq_true rfl⟩ ⟨Nat.le_of_succ_le hc1, Nat.le_of_add_right_le hc2⟩ hl.1 dL_law_287 (fun a2 τ2 H locs h2 X => ?_)
  obtain ⟨he, hI2⟩ := tell_end h1 h2
  refine r_same F 1145 he (by decide) dL_law_290 ?_
  exact W.widen (Nat.le_succ _) (Nat.le_add_right _ 6) (kk ls _ _ _ hI2 X hl)
theorem law_drop (l : Launch) (hst9 : l.stackTraces = false) {p : Program} {e : Env} {s : State} {m : MethodId} {args : Array Value} {below : List Frame} {meth : Method} {c : Code} {H : Heap} {locs : List Loc} {cells slots : Nat} {Q : State → Prop} {ls : Array Slot} {G : GT} {σ : St} {b L : Nat} {xs : Nat → Int32} {i : Int} (F : FX G p m c code 8 s args RL) (hTX : TX G s s.heap) (hS : SX G b L xs s) (hI : IN2 σ) (X : HX G σ s H locs) (hl : lv_has ls 8 (LL G b i)) (hi : 0 ≤ i ∧ i + 4 ≤ L) (hc1 : cells + 1 ≤ 601024) (hc2 : slots + 6 ≤ 7293034) (kk : ∀ (ls : Array Slot) (σ : St) (H : Heap) (locs : List Loc), IN2 σ → HX G σ s H locs → lv_has ls 8 (LL G b i) → W p l e room_1 s m args below meth c H locs (cells + 1) (slots + 6) Q (F0 m 1145 ls [])) : W p l e room_1 s m args below meth c H locs cells slots Q (F0 m 295 ls []) := by
  obtain ⟨N, r, n, hs, hC, hM⟩ := hI
  have hW := hC.2.1
  have hL9 := hS.2.2.2
  refine r_aload_n F hl 1 rfl rfl dL_law_295 ?_
  refine r_cVI F X 0 (by decide) (eK_0 G _) rfl (c_X4_drop l G σ N r n hs hC) gv_RL_41 rfl nd_X4_drop rfl (rest := []) rfl (Nat.le_of_ble_eq_true rfl) ⟨Nat.le_of_ble_eq_true rfl, Nat.le_of_ble_eq_true rfl⟩ ⟨Nat.le_of_succ_le hc1, Nat.le_of_add_right_le hc2⟩ hl.1 dL_law_296 (fun a1 τ1 H locs h1 X => ?_)
  have hM1 : MX τ1 N r n hs := hM.keep (fun k a _ => h1.1 k a)
  refine r_aload_n F hl 2 rfl rfl dL_law_299 ?_
  refine r_cVI F X 36 (by decide) (eK_36 G _) rfl (c_X5_drop l G τ1 N r n hs hM1 hW) gv_RL_45 rfl nd_X5_drop rfl (rest := [.int (I a1)]) rfl (Nat.le_of_ble_eq_true rfl) ⟨Nat.le_of_ble_eq_true rfl, Nat.le_of_ble_eq_true rfl⟩ ⟨Nat.le_of_succ_le hc1, Nat.le_of_add_right_le hc2⟩ hl.1 dL_law_300 (fun a2 τ2 H locs h2 X => ?_)
  obtain ⟨he, hI2⟩ := tell_end h1 h2
  refine r_same F 1145 he (by decide) dL_law_303 ?_
  exact W.widen (Nat.le_succ _) (Nat.le_add_right _ 6) (kk ls _ _ _ hI2 X hl)
theorem law_start (l : Launch) (hst9 : l.stackTraces = false) {p : Program} {e : Env} {s : State} {m : MethodId} {args : Array Value} {below : List Frame} {meth : Method} {c : Code} {H : Heap} {locs : List Loc} {cells slots : Nat} {Q : State → Prop} {ls : Array Slot} {G : GT} {σ : St} {b L : Nat} {xs : Nat → Int32} {i : Int} (F : FX G p m c code 8 s args RL) (hTX : TX G s s.heap) (hS : SX G b L xs s) (hI : IN2 σ) (X : HX G σ s H locs) (hl : lv_has ls 8 (LL G b i)) (hi : 0 ≤ i ∧ i + 4 ≤ L) (hc1 : cells + 1 ≤ 601024) (hc2 : slots + 6 ≤ 7293034) (kk : ∀ (ls : Array Slot) (σ : St) (H : Heap) (locs : List Loc), IN2 σ → HX G σ s H locs → lv_has ls 8 (LL G b i) → W p l e room_1 s m args below meth c H locs (cells + 1) (slots + 6) Q (F0 m 1145 ls [])) : W p l e room_1 s m args below meth c H locs cells slots Q (F0 m 308 ls []) := by
  obtain ⟨N, r, n, hs, hC, hM⟩ := hI
  have hW := hC.2.1
  have hL9 := hS.2.2.2
  refine r_aload_n F hl 1 rfl rfl dL_law_308 ?_
  refine r_aload_n F hl 0 rfl rfl dL_law_309 ?_
  refine r_iload F hl 4 rfl dL_law_310 ?_
  refine r_iconst F dL_law_312 ?_
  refine r_iadd F dL_law_313 ?_
  refine r_slda F X hS (by omega) dL_law_314 ?_
  refine r_cVI F X 0 (by decide) (eK_0 G _) rfl (c_X4_start l G σ N r n hs (sc xs (i + 1)) hC (sc_rg xs (i + 1))) gv_RL_46 rfl nd_X4_start rfl (rest := []) rfl (Nat.le_of_ble_eq_true rfl) ⟨Nat.le_of_ble_eq_true rfl, Nat.le_of_ble_eq_true rfl⟩ ⟨Nat.le_of_succ_le hc1, Nat.le_of_add_right_le hc2⟩ hl.1 dL_law_315 (fun a1 τ1 H locs h1 X => ?_)
  have hM1 : MX τ1 N r n hs := hM.keep (fun k a _ => h1.1 k a)
  refine r_aload_n F hl 2 rfl rfl dL_law_318 ?_
  refine r_aload_n F hl 0 rfl rfl dL_law_319 ?_
  refine r_iload F hl 4 rfl dL_law_320 ?_
  refine r_iconst F dL_law_322 ?_
  refine r_iadd F dL_law_323 ?_
  refine r_slda F X hS (by omega) dL_law_324 ?_
  refine r_cVI F X 36 (by decide) (eK_36 G _) rfl (c_X5_start l G τ1 N r n hs (sc xs (i + 1)) hM1 hW (sc_rg xs (i + 1))) gv_RL_49 rfl nd_X5_start rfl (rest := [.int (I a1)]) rfl (Nat.le_of_ble_eq_true rfl) ⟨Nat.le_of_ble_eq_true rfl, Nat.le_of_ble_eq_true rfl⟩ ⟨Nat.le_of_succ_le hc1, Nat.le_of_add_right_le hc2⟩ hl.1 dL_law_325 (fun a2 τ2 H locs h2 X => ?_)
  obtain ⟨he, hI2⟩ := tell_end h1 h2
  refine r_same F 1145 he (by decide) dL_law_328 ?_
  exact W.widen (Nat.le_succ _) (Nat.le_add_right _ 6) (kk ls _ _ _ hI2 X hl)
theorem law_base (l : Launch) (hst9 : l.stackTraces = false) {p : Program} {e : Env} {s : State} {m : MethodId} {args : Array Value} {below : List Frame} {meth : Method} {c : Code} {H : Heap} {locs : List Loc} {cells slots : Nat} {Q : State → Prop} {ls : Array Slot} {G : GT} {σ : St} {b L : Nat} {xs : Nat → Int32} {i : Int} (F : FX G p m c code 8 s args RL) (hTX : TX G s s.heap) (hS : SX G b L xs s) (hI : IN2 σ) (X : HX G σ s H locs) (hl : lv_has ls 8 (LL G b i)) (hi : 0 ≤ i ∧ i + 4 ≤ L) (hc1 : cells + 1 ≤ 601024) (hc2 : slots + 6 ≤ 7293034) (kk : ∀ (ls : Array Slot) (σ : St) (H : Heap) (locs : List Loc), IN2 σ → HX G σ s H locs → lv_has ls 8 (LL G b i) → W p l e room_1 s m args below meth c H locs (cells + 1) (slots + 6) Q (F0 m 1145 ls [])) : W p l e room_1 s m args below meth c H locs cells slots Q (F0 m 333 ls []) := by
  obtain ⟨N, r, n, hs, hC, hM⟩ := hI
  have hW := hC.2.1
  have hL9 := hS.2.2.2
  refine r_aload_n F hl 1 rfl rfl dL_law_333 ?_
  refine r_aload_n F hl 0 rfl rfl dL_law_334 ?_
  refine r_iload F hl 4 rfl dL_law_335 ?_
  refine r_iconst F dL_law_337 ?_
  refine r_iadd F dL_law_338 ?_
  refine r_slda F X hS (by omega) dL_law_339 ?_
  refine r_cVI F X 0 (by decide) (eK_0 G _) rfl (c_X4_base l G σ N r n hs (sc xs (i + 1)) hC (sc_rg xs (i + 1))) gv_RL_50 rfl nd_X4_base rfl (rest := []) rfl (Nat.le_of_ble_eq_true rfl) ⟨Nat.le_of_ble_eq_true rfl, Nat.le_of_ble_eq_true rfl⟩ ⟨Nat.le_of_succ_le hc1, Nat.le_of_add_right_le hc2⟩ hl.1 dL_law_340 (fun a1 τ1 H locs h1 X => ?_)
  have hM1 : MX τ1 N r n hs := hM.keep (fun k a _ => h1.1 k a)
  refine r_aload_n F hl 2 rfl rfl dL_law_343 ?_
  refine r_aload_n F hl 0 rfl rfl dL_law_344 ?_
  refine r_iload F hl 4 rfl dL_law_345 ?_
  refine r_iconst F dL_law_347 ?_
  refine r_iadd F dL_law_348 ?_
  refine r_slda F X hS (by omega) dL_law_349 ?_
  refine r_cVI F X 36 (by decide) (eK_36 G _) rfl (c_X5_base l G τ1 N r n hs (sc xs (i + 1)) hM1 hW (sc_rg xs (i + 1))) gv_RL_53 rfl nd_X5_base rfl (rest := [.int (I a1)]) rfl (Nat.le_of_ble_eq_true rfl) ⟨Nat.le_of_ble_eq_true rfl, Nat.le_of_ble_eq_true rfl⟩ ⟨Nat.le_of_succ_le hc1, Nat.le_of_add_right_le hc2⟩ hl.1 dL_law_350 (fun a2 τ2 H locs h2 X => ?_)
  obtain ⟨he, hI2⟩ := tell_end h1 h2
  refine r_same F 1145 he (by decide) dL_law_353 ?_
  exact W.widen (Nat.le_succ _) (Nat.le_add_right _ 6) (kk ls _ _ _ hI2 X hl)
theorem law_roller (l : Launch) (hst9 : l.stackTraces = false) {p : Program} {e : Env} {s : State} {m : MethodId} {args : Array Value} {below : List Frame} {meth : Method} {c : Code} {H : Heap} {locs : List Loc} {cells slots : Nat} {Q : State → Prop} {ls : Array Slot} {G : GT} {σ : St} {b L : Nat} {xs : Nat → Int32} {i : Int} (F : FX G p m c code 8 s args RL) (hTX : TX G s s.heap) (hS : SX G b L xs s) (hI : IN2 σ) (X : HX G σ s H locs) (hl : lv_has ls 8 (LL G b i)) (hi : 0 ≤ i ∧ i + 4 ≤ L) (hc1 : cells + 1 ≤ 601024) (hc2 : slots + 6 ≤ 7293034) (kk : ∀ (ls : Array Slot) (σ : St) (H : Heap) (locs : List Loc), IN2 σ → HX G σ s H locs → lv_has ls 8 (LL G b i) → W p l e room_1 s m args below meth c H locs (cells + 1) (slots + 6) Q (F0 m 1145 ls [])) : W p l e room_1 s m args below meth c H locs cells slots Q (F0 m 358 ls []) := by
  obtain ⟨N, r, n, hs, hC, hM⟩ := hI
  have hW := hC.2.1
  have hL9 := hS.2.2.2
  refine r_aload_n F hl 1 rfl rfl dL_law_358 ?_
  refine r_aload_n F hl 0 rfl rfl dL_law_359 ?_
  refine r_iload F hl 4 rfl dL_law_360 ?_
  refine r_iconst F dL_law_362 ?_
  refine r_iadd F dL_law_363 ?_
  refine r_slda F X hS (by omega) dL_law_364 ?_
  refine r_cVI F X 0 (by decide) (eK_0 G _) rfl (c_X4_roller l G σ N r n hs (sc xs (i + 1)) hC (sc_rg xs (i + 1))) gv_RL_54 rfl nd_X4_roller rfl (rest := []) rfl (Nat.le_of_ble_eq_true rfl) ⟨Nat.le_of_ble_eq_true rfl, Nat.le_of_ble_eq_true rfl⟩ ⟨Nat.le_of_succ_le hc1, Nat.le_of_add_right_le hc2⟩ hl.1 dL_law_365 (fun a1 τ1 H locs h1 X => ?_)
  have hM1 : MX τ1 N r n hs := hM.keep (fun k a _ => h1.1 k a)
  refine r_aload_n F hl 2 rfl rfl dL_law_368 ?_
  refine r_aload_n F hl 0 rfl rfl dL_law_369 ?_
  refine r_iload F hl 4 rfl dL_law_370 ?_
  refine r_iconst F dL_law_372 ?_
  refine r_iadd F dL_law_373 ?_
  refine r_slda F X hS (by omega) dL_law_374 ?_
  refine r_cVI F X 36 (by decide) (eK_36 G _) rfl (c_X5_roller l G τ1 N r n hs (sc xs (i + 1)) hM1 hW (sc_rg xs (i + 1))) gv_RL_57 rfl nd_X5_roller rfl (rest := [.int (I a1)]) rfl (Nat.le_of_ble_eq_true rfl) ⟨Nat.le_of_ble_eq_true rfl, Nat.le_of_ble_eq_true rfl⟩ ⟨Nat.le_of_succ_le hc1, Nat.le_of_add_right_le hc2⟩ hl.1 dL_law_375 (fun a2 τ2 H locs h2 X => ?_)
  obtain ⟨he, hI2⟩ := tell_end h1 h2
  refine r_same F 1145 he (by decide) dL_law_378 ?_
  exact W.widen (Nat.le_succ _) (Nat.le_add_right _ 6) (kk ls _ _ _ hI2 X hl)
theorem law_spring (l : Launch) (hst9 : l.stackTraces = false) {p : Program} {e : Env} {s : State} {m : MethodId} {args : Array Value} {below : List Frame} {meth : Method} {c : Code} {H : Heap} {locs : List Loc} {cells slots : Nat} {Q : State → Prop} {ls : Array Slot} {G : GT} {σ : St} {b L : Nat} {xs : Nat → Int32} {i : Int} (F : FX G p m c code 8 s args RL) (hTX : TX G s s.heap) (hS : SX G b L xs s) (hI : IN2 σ) (X : HX G σ s H locs) (hl : lv_has ls 8 (LL G b i)) (hi : 0 ≤ i ∧ i + 4 ≤ L) (hc1 : cells + 1 ≤ 601024) (hc2 : slots + 6 ≤ 7293034) (kk : ∀ (ls : Array Slot) (σ : St) (H : Heap) (locs : List Loc), IN2 σ → HX G σ s H locs → lv_has ls 8 (LL G b i) → W p l e room_1 s m args below meth c H locs (cells + 1) (slots + 6) Q (F0 m 1145 ls [])) : W p l e room_1 s m args below meth c H locs cells slots Q (F0 m 383 ls []) := by
  obtain ⟨N, r, n, hs, hC, hM⟩ := hI
  have hW := hC.2.1
  have hL9 := hS.2.2.2
  refine r_aload_n F hl 1 rfl rfl dL_law_383 ?_
  refine r_aload_n F hl 0 rfl rfl dL_law_384 ?_
  refine r_iload F hl 4 rfl dL_law_385 ?_
  refine r_iconst F dL_law_387 ?_
  refine r_iadd F dL_law_388 ?_
  refine r_slda F X hS (by omega) dL_law_389 ?_
  refine r_aload_n F hl 0 rfl rfl dL_law_390 ?_
  refine r_iload F hl 4 rfl dL_law_391 ?_
  refine r_iconst F dL_law_393 ?_
  refine r_iadd F dL_law_394 ?_
  refine r_slda F X hS (by omega) dL_law_395 ?_
  refine r_aload_n F hl 0 rfl rfl dL_law_396 ?_
  refine r_iload F hl 4 rfl dL_law_397 ?_
  refine r_iconst F dL_law_399 ?_
  refine r_iadd F dL_law_400 ?_
  refine r_slda F X hS (by omega) dL_law_401 ?_
  refine r_cVI F X 0 (by decide) (eK_0 G _) rfl (c_X4_spring l G σ N r n hs (sc xs (i + 1)) (sc xs (i + 2)) (sc xs (i + 3)) hC (sc_rg xs (i + 1)) (sc_rg xs (i + 2)) (sc_rg xs (i + 3))) gv_RL_58 rfl nd_X4_spring rfl (rest := []) rfl (Nat.le_of_ble_eq_true rfl) ⟨Nat.le_of_ble_eq_true rfl, Nat.le_of_ble_eq_true rfl⟩ ⟨Nat.le_of_succ_le hc1, Nat.le_of_add_right_le hc2⟩ hl.1 dL_law_402 (fun a1 τ1 H locs h1 X => ?_)
  have hM1 : MX τ1 N r n hs := hM.keep (fun k a _ => h1.1 k a)
  refine r_aload_n F hl 2 rfl rfl dL_law_405 ?_
  refine r_aload_n F hl 0 rfl rfl dL_law_406 ?_
  refine r_iload F hl 4 rfl dL_law_407 ?_
  refine r_iconst F dL_law_409 ?_
  refine r_iadd F dL_law_410 ?_
  refine r_slda F X hS (by omega) dL_law_411 ?_
  refine r_aload_n F hl 0 rfl rfl dL_law_412 ?_
  refine r_iload F hl 4 rfl dL_law_413 ?_
  refine r_iconst F dL_law_415 ?_
  refine r_iadd F dL_law_416 ?_
  refine r_slda F X hS (by omega) dL_law_417 ?_
  refine r_aload_n F hl 0 rfl rfl dL_law_418 ?_
  refine r_iload F hl 4 rfl dL_law_419 ?_
  refine r_iconst F dL_law_421 ?_
  refine r_iadd F dL_law_422 ?_
  refine r_slda F X hS (by omega) dL_law_423 ?_
  refine r_cVI F X 36 (by decide) (eK_36 G _) rfl (c_X5_spring l G τ1 N r n hs (sc xs (i + 1)) (sc xs (i + 2)) (sc xs (i + 3)) hM1 hW (sc_rg xs (i + 1)) (sc_rg xs (i + 2)) (sc_rg xs (i + 3))) gv_RL_62 rfl nd_X5_spring rfl (rest := [.int (I a1)]) rfl (Nat.le_of_ble_eq_true rfl) ⟨Nat.le_of_ble_eq_true rfl, Nat.le_of_ble_eq_true rfl⟩ ⟨Nat.le_of_succ_le hc1, Nat.le_of_add_right_le hc2⟩ hl.1 dL_law_424 (fun a2 τ2 H locs h2 X => ?_)
  obtain ⟨he, hI2⟩ := tell_end h1 h2
  refine r_same F 1145 he (by decide) dL_law_427 ?_
  exact W.widen (Nat.le_succ _) (Nat.le_add_right _ 6) (kk ls _ _ _ hI2 X hl)
theorem law_speed (l : Launch) (hst9 : l.stackTraces = false) {p : Program} {e : Env} {s : State} {m : MethodId} {args : Array Value} {below : List Frame} {meth : Method} {c : Code} {H : Heap} {locs : List Loc} {cells slots : Nat} {Q : State → Prop} {ls : Array Slot} {G : GT} {σ : St} {b L : Nat} {xs : Nat → Int32} {i : Int} (F : FX G p m c code 8 s args RL) (hTX : TX G s s.heap) (hS : SX G b L xs s) (hI : IN2 σ) (X : HX G σ s H locs) (hl : lv_has ls 8 (LL G b i)) (hi : 0 ≤ i ∧ i + 4 ≤ L) (hc1 : cells + 1 ≤ 601024) (hc2 : slots + 6 ≤ 7293034) (kk : ∀ (ls : Array Slot) (σ : St) (H : Heap) (locs : List Loc), IN2 σ → HX G σ s H locs → lv_has ls 8 (LL G b i) → W p l e room_1 s m args below meth c H locs (cells + 1) (slots + 6) Q (F0 m 1145 ls [])) : W p l e room_1 s m args below meth c H locs cells slots Q (F0 m 432 ls []) := by
  obtain ⟨N, r, n, hs, hC, hM⟩ := hI
  have hW := hC.2.1
  have hL9 := hS.2.2.2
  refine r_aload_n F hl 1 rfl rfl dL_law_432 ?_
  refine r_aload_n F hl 0 rfl rfl dL_law_433 ?_
  refine r_iload F hl 4 rfl dL_law_434 ?_
  refine r_iconst F dL_law_436 ?_
  refine r_iadd F dL_law_437 ?_
  refine r_slda F X hS (by omega) dL_law_438 ?_
  refine r_cVI F X 0 (by decide) (eK_0 G _) rfl (c_X4_speed l G σ N r n hs (sc xs (i + 1)) hC (sc_rg xs (i + 1))) gv_RL_63 rfl nd_X4_speed rfl (rest := []) rfl (Nat.le_of_ble_eq_true rfl) ⟨Nat.le_of_ble_eq_true rfl, Nat.le_of_ble_eq_true rfl⟩ ⟨Nat.le_of_succ_le hc1, Nat.le_of_add_right_le hc2⟩ hl.1 dL_law_439 (fun a1 τ1 H locs h1 X => ?_)
  have hM1 : MX τ1 N r n hs := hM.keep (fun k a _ => h1.1 k a)
  refine r_aload_n F hl 2 rfl rfl dL_law_442 ?_
  refine r_aload_n F hl 0 rfl rfl dL_law_443 ?_
  refine r_iload F hl 4 rfl dL_law_444 ?_
  refine r_iconst F dL_law_446 ?_
  refine r_iadd F dL_law_447 ?_
  refine r_slda F X hS (by omega) dL_law_448 ?_
  refine r_cVI F X 36 (by decide) (eK_36 G _) rfl (c_X5_speed l G τ1 N r n hs (sc xs (i + 1)) hM1 hW (sc_rg xs (i + 1))) gv_RL_66 rfl nd_X5_speed rfl (rest := [.int (I a1)]) rfl (Nat.le_of_ble_eq_true rfl) ⟨Nat.le_of_ble_eq_true rfl, Nat.le_of_ble_eq_true rfl⟩ ⟨Nat.le_of_succ_le hc1, Nat.le_of_add_right_le hc2⟩ hl.1 dL_law_449 (fun a2 τ2 H locs h2 X => ?_)
  obtain ⟨he, hI2⟩ := tell_end h1 h2
  refine r_same F 1145 he (by decide) dL_law_452 ?_
  exact W.widen (Nat.le_succ _) (Nat.le_add_right _ 6) (kk ls _ _ _ hI2 X hl)
theorem law_steepest (l : Launch) (hst9 : l.stackTraces = false) {p : Program} {e : Env} {s : State} {m : MethodId} {args : Array Value} {below : List Frame} {meth : Method} {c : Code} {H : Heap} {locs : List Loc} {cells slots : Nat} {Q : State → Prop} {ls : Array Slot} {G : GT} {σ : St} {b L : Nat} {xs : Nat → Int32} {i : Int} (F : FX G p m c code 8 s args RL) (hTX : TX G s s.heap) (hS : SX G b L xs s) (hI : IN2 σ) (X : HX G σ s H locs) (hl : lv_has ls 8 (LL G b i)) (hi : 0 ≤ i ∧ i + 4 ≤ L) (hc1 : cells + 1 ≤ 601024) (hc2 : slots + 6 ≤ 7293034) (kk : ∀ (ls : Array Slot) (σ : St) (H : Heap) (locs : List Loc), IN2 σ → HX G σ s H locs → lv_has ls 8 (LL G b i) → W p l e room_1 s m args below meth c H locs (cells + 1) (slots + 6) Q (F0 m 1145 ls [])) : W p l e room_1 s m args below meth c H locs cells slots Q (F0 m 457 ls []) := by
  obtain ⟨N, r, n, hs, hC, hM⟩ := hI
  have hW := hC.2.1
  have hL9 := hS.2.2.2
  refine r_aload_n F hl 1 rfl rfl dL_law_457 ?_
  refine r_aload_n F hl 0 rfl rfl dL_law_458 ?_
  refine r_iload F hl 4 rfl dL_law_459 ?_
  refine r_iconst F dL_law_461 ?_
  refine r_iadd F dL_law_462 ?_
  refine r_slda F X hS (by omega) dL_law_463 ?_
  refine r_cVI F X 0 (by decide) (eK_0 G _) rfl (c_X4_steepest l G σ N r n hs (sc xs (i + 1)) hC (sc_rg xs (i + 1))) gv_RL_67 rfl nd_X4_steepest rfl (rest := []) rfl (Nat.le_of_ble_eq_true rfl) ⟨Nat.le_of_ble_eq_true rfl, Nat.le_of_ble_eq_true rfl⟩ ⟨Nat.le_of_succ_le hc1, Nat.le_of_add_right_le hc2⟩ hl.1 dL_law_464 (fun a1 τ1 H locs h1 X => ?_)
  have hM1 : MX τ1 N r n hs := hM.keep (fun k a _ => h1.1 k a)
  refine r_aload_n F hl 2 rfl rfl dL_law_467 ?_
  refine r_aload_n F hl 0 rfl rfl dL_law_468 ?_
  refine r_iload F hl 4 rfl dL_law_469 ?_
  refine r_iconst F dL_law_471 ?_
  refine r_iadd F dL_law_472 ?_
  refine r_slda F X hS (by omega) dL_law_473 ?_
  refine r_cVI F X 36 (by decide) (eK_36 G _) rfl (c_X5_steepest l G τ1 N r n hs (sc xs (i + 1)) hM1 hW (sc_rg xs (i + 1))) gv_RL_70 rfl nd_X5_steepest rfl (rest := [.int (I a1)]) rfl (Nat.le_of_ble_eq_true rfl) ⟨Nat.le_of_ble_eq_true rfl, Nat.le_of_ble_eq_true rfl⟩ ⟨Nat.le_of_succ_le hc1, Nat.le_of_add_right_le hc2⟩ hl.1 dL_law_474 (fun a2 τ2 H locs h2 X => ?_)
  obtain ⟨he, hI2⟩ := tell_end h1 h2
  refine r_same F 1145 he (by decide) dL_law_477 ?_
  exact W.widen (Nat.le_succ _) (Nat.le_add_right _ 6) (kk ls _ _ _ hI2 X hl)
theorem law_slack (l : Launch) (hst9 : l.stackTraces = false) {p : Program} {e : Env} {s : State} {m : MethodId} {args : Array Value} {below : List Frame} {meth : Method} {c : Code} {H : Heap} {locs : List Loc} {cells slots : Nat} {Q : State → Prop} {ls : Array Slot} {G : GT} {σ : St} {b L : Nat} {xs : Nat → Int32} {i : Int} (F : FX G p m c code 8 s args RL) (hTX : TX G s s.heap) (hS : SX G b L xs s) (hI : IN2 σ) (X : HX G σ s H locs) (hl : lv_has ls 8 (LL G b i)) (hi : 0 ≤ i ∧ i + 4 ≤ L) (hc1 : cells + 1 ≤ 601024) (hc2 : slots + 6 ≤ 7293034) (kk : ∀ (ls : Array Slot) (σ : St) (H : Heap) (locs : List Loc), IN2 σ → HX G σ s H locs → lv_has ls 8 (LL G b i) → W p l e room_1 s m args below meth c H locs (cells + 1) (slots + 6) Q (F0 m 1145 ls [])) : W p l e room_1 s m args below meth c H locs cells slots Q (F0 m 482 ls []) := by
  obtain ⟨N, r, n, hs, hC, hM⟩ := hI
  have hW := hC.2.1
  have hL9 := hS.2.2.2
  refine r_aload_n F hl 1 rfl rfl dL_law_482 ?_
  refine r_aload_n F hl 0 rfl rfl dL_law_483 ?_
  refine r_iload F hl 4 rfl dL_law_484 ?_
  refine r_iconst F dL_law_486 ?_
  refine r_iadd F dL_law_487 ?_
  refine r_slda F X hS (by omega) dL_law_488 ?_
  refine r_cVI F X 0 (by decide) (eK_0 G _) rfl (c_X4_slack l G σ N r n hs (sc xs (i + 1)) hC (sc_rg xs (i + 1))) gv_RL_71 rfl nd_X4_slack rfl (rest := []) rfl (Nat.le_of_ble_eq_true rfl) ⟨Nat.le_of_ble_eq_true rfl, Nat.le_of_ble_eq_true rfl⟩ ⟨Nat.le_of_succ_le hc1, Nat.le_of_add_right_le hc2⟩ hl.1 dL_law_489 (fun a1 τ1 H locs h1 X => ?_)
  have hM1 : MX τ1 N r n hs := hM.keep (fun k a _ => h1.1 k a)
  refine r_aload_n F hl 2 rfl rfl dL_law_492 ?_
  refine r_aload_n F hl 0 rfl rfl dL_law_493 ?_
  refine r_iload F hl 4 rfl dL_law_494 ?_
  refine r_iconst F dL_law_496 ?_
  refine r_iadd F dL_law_497 ?_
  refine r_slda F X hS (by omega) dL_law_498 ?_
  refine r_cVI F X 36 (by decide) (eK_36 G _) rfl (c_X5_slack l G τ1 N r n hs (sc xs (i + 1)) hM1 hW (sc_rg xs (i + 1))) gv_RL_74 rfl nd_X5_slack rfl (rest := [.int (I a1)]) rfl (Nat.le_of_ble_eq_true rfl) ⟨Nat.le_of_ble_eq_true rfl, Nat.le_of_ble_eq_true rfl⟩ ⟨Nat.le_of_succ_le hc1, Nat.le_of_add_right_le hc2⟩ hl.1 dL_law_499 (fun a2 τ2 H locs h2 X => ?_)
  obtain ⟨he, hI2⟩ := tell_end h1 h2
  refine r_same F 1145 he (by decide) dL_law_502 ?_
  exact W.widen (Nat.le_succ _) (Nat.le_add_right _ 6) (kk ls _ _ _ hI2 X hl)
theorem law_mark (l : Launch) (hst9 : l.stackTraces = false) {p : Program} {e : Env} {s : State} {m : MethodId} {args : Array Value} {below : List Frame} {meth : Method} {c : Code} {H : Heap} {locs : List Loc} {cells slots : Nat} {Q : State → Prop} {ls : Array Slot} {G : GT} {σ : St} {b L : Nat} {xs : Nat → Int32} {i : Int} (F : FX G p m c code 8 s args RL) (hTX : TX G s s.heap) (hS : SX G b L xs s) (hI : IN2 σ) (X : HX G σ s H locs) (hl : lv_has ls 8 (LL G b i)) (hi : 0 ≤ i ∧ i + 4 ≤ L) (hc1 : cells + 1 ≤ 601024) (hc2 : slots + 6 ≤ 7293034) (kk : ∀ (ls : Array Slot) (σ : St) (H : Heap) (locs : List Loc), IN2 σ → HX G σ s H locs → lv_has ls 8 (LL G b i) → W p l e room_1 s m args below meth c H locs (cells + 1) (slots + 6) Q (F0 m 1145 ls [])) : W p l e room_1 s m args below meth c H locs cells slots Q (F0 m 507 ls []) := by
  obtain ⟨N, r, n, hs, hC, hM⟩ := hI
  have hW := hC.2.1
  have hL9 := hS.2.2.2
  refine r_aload_n F hl 1 rfl rfl dL_law_507 ?_
  refine r_aload_n F hl 0 rfl rfl dL_law_508 ?_
  refine r_iload F hl 4 rfl dL_law_509 ?_
  refine r_iconst F dL_law_511 ?_
  refine r_iadd F dL_law_512 ?_
  refine r_slda F X hS (by omega) dL_law_513 ?_
  refine r_aload_n F hl 0 rfl rfl dL_law_514 ?_
  refine r_iload F hl 4 rfl dL_law_515 ?_
  refine r_iconst F dL_law_517 ?_
  refine r_iadd F dL_law_518 ?_
  refine r_slda F X hS (by omega) dL_law_519 ?_
  refine r_aload_n F hl 0 rfl rfl dL_law_520 ?_
  refine r_iload F hl 4 rfl dL_law_521 ?_
  refine r_iconst F dL_law_523 ?_
  refine r_iadd F dL_law_524 ?_
  refine r_slda F X hS (by omega) dL_law_525 ?_
  refine r_cVI F X 0 (by decide) (eK_0 G _) rfl (c_X4_mark l G σ N r n hs (sc xs (i + 1)) (sc xs (i + 2)) (sc xs (i + 3)) hC (sc_rg xs (i + 1)) (sc_rg xs (i + 2)) (sc_rg xs (i + 3))) gv_RL_75 rfl nd_X4_mark rfl (rest := []) rfl (Nat.le_of_ble_eq_true rfl) ⟨Nat.le_of_ble_eq_true rfl, Nat.le_of_ble_eq_true rfl⟩ ⟨Nat.le_of_succ_le hc1, Nat.le_of_add_right_le hc2⟩ hl.1 dL_law_526 (fun a1 τ1 H locs h1 X => ?_)
  have hM1 : MX τ1 N r n hs := hM.keep (fun k a _ => h1.1 k a)
  refine r_aload_n F hl 2 rfl rfl dL_law_529 ?_
  refine r_aload_n F hl 0 rfl rfl dL_law_530 ?_
  refine r_iload F hl 4 rfl dL_law_531 ?_
  refine r_iconst F dL_law_533 ?_
  refine r_iadd F dL_law_534 ?_
  refine r_slda F X hS (by omega) dL_law_535 ?_
  refine r_aload_n F hl 0 rfl rfl dL_law_536 ?_
  refine r_iload F hl 4 rfl dL_law_537 ?_
  refine r_iconst F dL_law_539 ?_
  refine r_iadd F dL_law_540 ?_
  refine r_slda F X hS (by omega) dL_law_541 ?_
  refine r_aload_n F hl 0 rfl rfl dL_law_542 ?_
  refine r_iload F hl 4 rfl dL_law_543 ?_
  refine r_iconst F dL_law_545 ?_
  refine r_iadd F dL_law_546 ?_
  refine r_slda F X hS (by omega) dL_law_547 ?_
  refine r_cVI F X 36 (by decide) (eK_36 G _) rfl (c_X5_mark l G τ1 N r n hs (sc xs (i + 1)) (sc xs (i + 2)) (sc xs (i + 3)) hM1 hW (sc_rg xs (i + 1)) (sc_rg xs (i + 2)) (sc_rg xs (i + 3))) gv_RL_78 rfl nd_X5_mark rfl (rest := [.int (I a1)]) rfl (Nat.le_of_ble_eq_true rfl) ⟨Nat.le_of_ble_eq_true rfl, Nat.le_of_ble_eq_true rfl⟩ ⟨Nat.le_of_succ_le hc1, Nat.le_of_add_right_le hc2⟩ hl.1 dL_law_548 (fun a2 τ2 H locs h2 X => ?_)
  obtain ⟨he, hI2⟩ := tell_end h1 h2
  refine r_same F 1145 he (by decide) dL_law_551 ?_
  exact W.widen (Nat.le_succ _) (Nat.le_add_right _ 6) (kk ls _ _ _ hI2 X hl)
theorem law_unmark (l : Launch) (hst9 : l.stackTraces = false) {p : Program} {e : Env} {s : State} {m : MethodId} {args : Array Value} {below : List Frame} {meth : Method} {c : Code} {H : Heap} {locs : List Loc} {cells slots : Nat} {Q : State → Prop} {ls : Array Slot} {G : GT} {σ : St} {b L : Nat} {xs : Nat → Int32} {i : Int} (F : FX G p m c code 8 s args RL) (hTX : TX G s s.heap) (hS : SX G b L xs s) (hI : IN2 σ) (X : HX G σ s H locs) (hl : lv_has ls 8 (LL G b i)) (hi : 0 ≤ i ∧ i + 4 ≤ L) (hc1 : cells + 1 ≤ 601024) (hc2 : slots + 6 ≤ 7293034) (kk : ∀ (ls : Array Slot) (σ : St) (H : Heap) (locs : List Loc), IN2 σ → HX G σ s H locs → lv_has ls 8 (LL G b i) → W p l e room_1 s m args below meth c H locs (cells + 1) (slots + 6) Q (F0 m 1145 ls [])) : W p l e room_1 s m args below meth c H locs cells slots Q (F0 m 556 ls []) := by
  obtain ⟨N, r, n, hs, hC, hM⟩ := hI
  have hW := hC.2.1
  have hL9 := hS.2.2.2
  refine r_aload_n F hl 1 rfl rfl dL_law_556 ?_
  refine r_aload_n F hl 0 rfl rfl dL_law_557 ?_
  refine r_iload F hl 4 rfl dL_law_558 ?_
  refine r_iconst F dL_law_560 ?_
  refine r_iadd F dL_law_561 ?_
  refine r_slda F X hS (by omega) dL_law_562 ?_
  refine r_cVI F X 0 (by decide) (eK_0 G _) rfl (c_X4_unmark l G σ N r n hs (sc xs (i + 1)) hC (sc_rg xs (i + 1))) gv_RL_79 rfl nd_X4_unmark rfl (rest := []) rfl (Nat.le_of_ble_eq_true rfl) ⟨Nat.le_of_ble_eq_true rfl, Nat.le_of_ble_eq_true rfl⟩ ⟨Nat.le_of_succ_le hc1, Nat.le_of_add_right_le hc2⟩ hl.1 dL_law_563 (fun a1 τ1 H locs h1 X => ?_)
  have hM1 : MX τ1 N r n hs := hM.keep (fun k a _ => h1.1 k a)
  refine r_aload_n F hl 2 rfl rfl dL_law_566 ?_
  refine r_aload_n F hl 0 rfl rfl dL_law_567 ?_
  refine r_iload F hl 4 rfl dL_law_568 ?_
  refine r_iconst F dL_law_570 ?_
  refine r_iadd F dL_law_571 ?_
  refine r_slda F X hS (by omega) dL_law_572 ?_
  refine r_cVI F X 36 (by decide) (eK_36 G _) rfl (c_X5_unmark l G τ1 N r n hs (sc xs (i + 1)) hM1 hW (sc_rg xs (i + 1))) gv_RL_83 rfl nd_X5_unmark rfl (rest := [.int (I a1)]) rfl (Nat.le_of_ble_eq_true rfl) ⟨Nat.le_of_ble_eq_true rfl, Nat.le_of_ble_eq_true rfl⟩ ⟨Nat.le_of_succ_le hc1, Nat.le_of_add_right_le hc2⟩ hl.1 dL_law_573 (fun a2 τ2 H locs h2 X => ?_)
  obtain ⟨he, hI2⟩ := tell_end h1 h2
  refine r_same F 1145 he (by decide) dL_law_576 ?_
  exact W.widen (Nat.le_succ _) (Nat.le_add_right _ 6) (kk ls _ _ _ hI2 X hl)
theorem law_back (l : Launch) (hst9 : l.stackTraces = false) {p : Program} {e : Env} {s : State} {m : MethodId} {args : Array Value} {below : List Frame} {meth : Method} {c : Code} {H : Heap} {locs : List Loc} {cells slots : Nat} {Q : State → Prop} {ls : Array Slot} {G : GT} {σ : St} {b L : Nat} {xs : Nat → Int32} {i : Int} (F : FX G p m c code 8 s args RL) (hTX : TX G s s.heap) (hS : SX G b L xs s) (hI : IN2 σ) (X : HX G σ s H locs) (hl : lv_has ls 8 (LL G b i)) (hi : 0 ≤ i ∧ i + 4 ≤ L) (hc1 : cells + 1 ≤ 601024) (hc2 : slots + 6 ≤ 7293034) (kk : ∀ (ls : Array Slot) (σ : St) (H : Heap) (locs : List Loc), IN2 σ → HX G σ s H locs → lv_has ls 8 (LL G b i) → W p l e room_1 s m args below meth c H locs (cells + 1) (slots + 6) Q (F0 m 1145 ls [])) : W p l e room_1 s m args below meth c H locs cells slots Q (F0 m 581 ls []) := by
  obtain ⟨N, r, n, hs, hC, hM⟩ := hI
  have hW := hC.2.1
  have hL9 := hS.2.2.2
  refine r_aload_n F hl 1 rfl rfl dL_law_581 ?_
  refine r_cVI F X 0 (by decide) (eK_0 G _) rfl (c_X4_back l G σ N r n hs hC) gv_RL_84 rfl nd_X4_back rfl (rest := []) rfl (Nat.le_of_ble_eq_true rfl) ⟨Nat.le_of_ble_eq_true rfl, Nat.le_of_ble_eq_true rfl⟩ ⟨Nat.le_of_succ_le hc1, Nat.le_of_add_right_le hc2⟩ hl.1 dL_law_582 (fun a1 τ1 H locs h1 X => ?_)
  have hM1 : MX τ1 N r n hs := hM.keep (fun k a _ => h1.1 k a)
  refine r_aload_n F hl 2 rfl rfl dL_law_585 ?_
  refine r_cVI F X 36 (by decide) (eK_36 G _) rfl (c_X5_back l G τ1 N r n hs hM1 hW) gv_RL_88 rfl nd_X5_back rfl (rest := [.int (I a1)]) rfl (Nat.le_of_ble_eq_true rfl) ⟨Nat.le_of_ble_eq_true rfl, Nat.le_of_ble_eq_true rfl⟩ ⟨Nat.le_of_succ_le hc1, Nat.le_of_add_right_le hc2⟩ hl.1 dL_law_586 (fun a2 τ2 H locs h2 X => ?_)
  obtain ⟨he, hI2⟩ := tell_end h1 h2
  refine r_same F 1145 he (by decide) dL_law_589 ?_
  exact W.widen (Nat.le_succ _) (Nat.le_add_right _ 6) (kk ls _ _ _ hI2 X hl)
theorem law_of (l : Launch) (hst9 : l.stackTraces = false) {p : Program} {e : Env} {s : State} {m : MethodId} {args : Array Value} {below : List Frame} {meth : Method} {c : Code} {H : Heap} {locs : List Loc} {cells slots : Nat} {Q : State → Prop} {ls : Array Slot} {G : GT} {σ : St} {b L : Nat} {xs : Nat → Int32} {i : Int} (F : FX G p m c code 8 s args RL) (hTX : TX G s s.heap) (hS : SX G b L xs s) (hI : IN2 σ) (X : HX G σ s H locs) (hl : lv_has ls 8 (LL G b i)) (hi : 0 ≤ i ∧ i + 4 ≤ L) (hc1 : cells + 1 ≤ 601024) (hc2 : slots + 6 ≤ 7293034) (kk : ∀ (ls : Array Slot) (σ : St) (H : Heap) (locs : List Loc), IN2 σ → HX G σ s H locs → lv_has ls 8 (LL G b i) → W p l e room_1 s m args below meth c H locs (cells + 1) (slots + 6) Q (F0 m 1145 ls [])) : W p l e room_1 s m args below meth c H locs cells slots Q (F0 m 594 ls []) := by
  obtain ⟨N, r, n, hs, hC, hM⟩ := hI
  have hW := hC.2.1
  have hL9 := hS.2.2.2
  refine r_aload_n F hl 1 rfl rfl dL_law_594 ?_
  refine r_aload_n F hl 0 rfl rfl dL_law_595 ?_
  refine r_iload F hl 4 rfl dL_law_596 ?_
  refine r_iconst F dL_law_598 ?_
  refine r_iadd F dL_law_599 ?_
  refine r_slda F X hS (by omega) dL_law_600 ?_
  refine r_aload_n F hl 0 rfl rfl dL_law_601 ?_
  refine r_iload F hl 4 rfl dL_law_602 ?_
  refine r_iconst F dL_law_604 ?_
  refine r_iadd F dL_law_605 ?_
  refine r_slda F X hS (by omega) dL_law_606 ?_
  refine r_cVI F X 0 (by decide) (eK_0 G _) rfl (c_X4_of l G σ N r n hs (sc xs (i + 1)) (sc xs (i + 2)) hC (sc_rg xs (i + 1)) (sc_rg xs (i + 2))) gv_RL_89 rfl nd_X4_of rfl (rest := []) rfl (Nat.le_of_ble_eq_true rfl) ⟨Nat.le_of_ble_eq_true rfl, Nat.le_of_ble_eq_true rfl⟩ ⟨Nat.le_of_succ_le hc1, Nat.le_of_add_right_le hc2⟩ hl.1 dL_law_607 (fun a1 τ1 H locs h1 X => ?_)
  have hM1 : MX τ1 N r n hs := hM.keep (fun k a _ => h1.2.2 k a)
  refine r_aload_n F hl 2 rfl rfl dL_law_610 ?_
  refine r_aload_n F hl 0 rfl rfl dL_law_611 ?_
  refine r_iload F hl 4 rfl dL_law_612 ?_
  refine r_iconst F dL_law_614 ?_
  refine r_iadd F dL_law_615 ?_
  refine r_slda F X hS (by omega) dL_law_616 ?_
  refine r_aload_n F hl 0 rfl rfl dL_law_617 ?_
  refine r_iload F hl 4 rfl dL_law_618 ?_
  refine r_iconst F dL_law_620 ?_
  refine r_iadd F dL_law_621 ?_
  refine r_slda F X hS (by omega) dL_law_622 ?_
  refine r_cVI F X 36 (by decide) (eK_36 G _) rfl (c_X5_of l G τ1 N r n hs (sc xs (i + 1)) (sc xs (i + 2)) hM1 hW (sc_rg xs (i + 1)) (sc_rg xs (i + 2))) gv_RL_92 rfl nd_X5_of rfl (rest := [.int (I a1)]) rfl (Nat.le_of_ble_eq_true rfl) ⟨Nat.le_of_ble_eq_true rfl, Nat.le_of_ble_eq_true rfl⟩ ⟨Nat.le_of_succ_le hc1, Nat.le_of_add_right_le hc2⟩ hl.1 dL_law_623 (fun a2 τ2 H locs h2 X => ?_)
  obtain ⟨he, hI2⟩ := ask_end h1 h2
  refine r_same F 1145 he (by decide) dL_law_626 ?_
  exact W.widen (Nat.le_succ _) (Nat.le_add_right _ 6) (kk ls _ _ _ hI2 X hl)
theorem law_lift (l : Launch) (hst9 : l.stackTraces = false) {p : Program} {e : Env} {s : State} {m : MethodId} {args : Array Value} {below : List Frame} {meth : Method} {c : Code} {H : Heap} {locs : List Loc} {cells slots : Nat} {Q : State → Prop} {ls : Array Slot} {G : GT} {σ : St} {b L : Nat} {xs : Nat → Int32} {i : Int} (F : FX G p m c code 8 s args RL) (hTX : TX G s s.heap) (hS : SX G b L xs s) (hI : IN2 σ) (X : HX G σ s H locs) (hl : lv_has ls 8 (LL G b i)) (hi : 0 ≤ i ∧ i + 4 ≤ L) (hc1 : cells + 1 ≤ 601024) (hc2 : slots + 6 ≤ 7293034) (kk : ∀ (ls : Array Slot) (σ : St) (H : Heap) (locs : List Loc), IN2 σ → HX G σ s H locs → lv_has ls 8 (LL G b i) → W p l e room_1 s m args below meth c H locs (cells + 1) (slots + 6) Q (F0 m 1145 ls [])) : W p l e room_1 s m args below meth c H locs cells slots Q (F0 m 631 ls []) := by
  obtain ⟨N, r, n, hs, hC, hM⟩ := hI
  have hW := hC.2.1
  have hL9 := hS.2.2.2
  refine r_aload_n F hl 1 rfl rfl dL_law_631 ?_
  refine r_aload_n F hl 0 rfl rfl dL_law_632 ?_
  refine r_iload F hl 4 rfl dL_law_633 ?_
  refine r_iconst F dL_law_635 ?_
  refine r_iadd F dL_law_636 ?_
  refine r_slda F X hS (by omega) dL_law_637 ?_
  refine r_cVI F X 0 (by decide) (eK_0 G _) rfl (c_X4_lift l G σ N r n hs (sc xs (i + 1)) hC (sc_rg xs (i + 1))) gv_RL_93 rfl nd_X4_lift rfl (rest := []) rfl (Nat.le_of_ble_eq_true rfl) ⟨Nat.le_of_ble_eq_true rfl, Nat.le_of_ble_eq_true rfl⟩ ⟨Nat.le_of_succ_le hc1, Nat.le_of_add_right_le hc2⟩ hl.1 dL_law_638 (fun a1 τ1 H locs h1 X => ?_)
  have hM1 : MX τ1 N r n hs := hM.keep (fun k a _ => h1.2.2 k a)
  refine r_aload_n F hl 2 rfl rfl dL_law_641 ?_
  refine r_aload_n F hl 0 rfl rfl dL_law_642 ?_
  refine r_iload F hl 4 rfl dL_law_643 ?_
  refine r_iconst F dL_law_645 ?_
  refine r_iadd F dL_law_646 ?_
  refine r_slda F X hS (by omega) dL_law_647 ?_
  refine r_cVI F X 36 (by decide) (eK_36 G _) rfl (c_X5_lift l G τ1 N r n hs (sc xs (i + 1)) hM1 hW (sc_rg xs (i + 1))) gv_RL_96 rfl nd_X5_lift rfl (rest := [.int (I a1)]) rfl (Nat.le_of_ble_eq_true rfl) ⟨Nat.le_of_ble_eq_true rfl, Nat.le_of_ble_eq_true rfl⟩ ⟨Nat.le_of_succ_le hc1, Nat.le_of_add_right_le hc2⟩ hl.1 dL_law_648 (fun a2 τ2 H locs h2 X => ?_)
  obtain ⟨he, hI2⟩ := ask_end h1 h2
  refine r_same F 1145 he (by decide) dL_law_651 ?_
  exact W.widen (Nat.le_succ _) (Nat.le_add_right _ 6) (kk ls _ _ _ hI2 X hl)
theorem law_diff (l : Launch) (hst9 : l.stackTraces = false) {p : Program} {e : Env} {s : State} {m : MethodId} {args : Array Value} {below : List Frame} {meth : Method} {c : Code} {H : Heap} {locs : List Loc} {cells slots : Nat} {Q : State → Prop} {ls : Array Slot} {G : GT} {σ : St} {b L : Nat} {xs : Nat → Int32} {i : Int} (F : FX G p m c code 8 s args RL) (hTX : TX G s s.heap) (hS : SX G b L xs s) (hI : IN2 σ) (X : HX G σ s H locs) (hl : lv_has ls 8 (LL G b i)) (hi : 0 ≤ i ∧ i + 4 ≤ L) (hc1 : cells + 1 ≤ 601024) (hc2 : slots + 6 ≤ 7293034) (kk : ∀ (ls : Array Slot) (σ : St) (H : Heap) (locs : List Loc), IN2 σ → HX G σ s H locs → lv_has ls 8 (LL G b i) → W p l e room_1 s m args below meth c H locs (cells + 1) (slots + 6) Q (F0 m 1145 ls [])) : W p l e room_1 s m args below meth c H locs cells slots Q (F0 m 656 ls []) := by
  obtain ⟨N, r, n, hs, hC, hM⟩ := hI
  have hW := hC.2.1
  have hL9 := hS.2.2.2
  refine r_aload_n F hl 1 rfl rfl dL_law_656 ?_
  refine r_aload_n F hl 0 rfl rfl dL_law_657 ?_
  refine r_iload F hl 4 rfl dL_law_658 ?_
  refine r_iconst F dL_law_660 ?_
  refine r_iadd F dL_law_661 ?_
  refine r_slda F X hS (by omega) dL_law_662 ?_
  refine r_aload_n F hl 0 rfl rfl dL_law_663 ?_
  refine r_iload F hl 4 rfl dL_law_664 ?_
  refine r_iconst F dL_law_666 ?_
  refine r_iadd F dL_law_667 ?_
  refine r_slda F X hS (by omega) dL_law_668 ?_
  refine r_aload_n F hl 3 rfl rfl dL_law_669 ?_
  refine w_cSI F X hTX (c_L_diff l hst9 G σ N r n hs (sc xs (i + 1)) (sc xs (i + 2)) hC (sc_rg xs (i + 1)) (sc_rg xs (i + 2))) gv_RL_97 nd_L_diff rfl (rest := []) rfl (Nat.le_of_ble_eq_true rfl) ⟨Nat.le_of_ble_eq_true rfl, Nat.le_of_ble_eq_true rfl⟩ ⟨hc1, hc2⟩ hl.1 dL_law_670 (fun a1 τ1 H locs h1 X => ?_)
  have hM1 : MX τ1 N r n hs := hM.keep h1.2.1
  refine r_istore F hl ((5, .int (I a1)) :: LL G b i) (by decide) rfl dL_law_673 (fun ls hl => ?_)
  refine r_aload_n F hl 3 rfl rfl dL_law_675 ?_
  refine r_aload_n F hl 1 rfl rfl dL_law_676 ?_
  refine r_iload F hl 5 rfl dL_law_677 ?_
  refine r_iconst F dL_law_679 ?_
  refine r_iadd F dL_law_680 ?_
  refine r_slda F X hS (by omega) dL_law_681 ?_
  refine r_aload_n F hl 1 rfl rfl dL_law_682 ?_
  refine r_iload F hl 5 rfl dL_law_683 ?_
  refine r_iconst F dL_law_685 ?_
  refine r_iadd F dL_law_686 ?_
  refine r_slda F X hS (by omega) dL_law_687 ?_
  refine r_cVI F X 36 (by decide) (eK_36 G _) rfl (c_X5_diff l G τ1 N r n hs (sc xs (i + 1)) (sc xs (i + 2)) hM1 hW (sc_rg xs (i + 1)) (sc_rg xs (i + 2))) gv_RL_102 rfl nd_X5_diff rfl (rest := []) rfl (Nat.le_of_ble_eq_true rfl) ⟨Nat.le_of_ble_eq_true rfl, Nat.le_of_ble_eq_true rfl⟩ ⟨hc1, hc2⟩ hl.1 dL_law_688 (fun a2 τ2 H locs h2 X => ?_)
  obtain ⟨he1, he2, he3, hI2⟩ := thr_end h1 h2
  refine r_istore F hl ((6, .int (I a2)) :: (5, .int (I a1)) :: LL G b i) (by decide) rfl dL_law_691 (fun ls hl => ?_)
  refine r_aload_n F hl 4 rfl rfl dL_law_693 ?_
  refine d_cVI F X 36 (by decide) (eK_36 G _) rfl (c_X5_thrown l G τ2) gv_RL_103 rfl nd_X5_thrown rfl (rest := []) rfl (Nat.le_of_ble_eq_true rfl) ⟨Nat.le_of_ble_eq_true rfl, Nat.le_of_ble_eq_true rfl⟩ ⟨hc1, hc2⟩ hl.1 dL_law_694 (fun H locs X => ?_)
  refine r_eqI (b := a1) he1 ?_
  refine r_iload F hl 1 rfl dL_law_697 ?_
  refine r_same F 704 rfl (by decide) dL_law_699 ?_
  refine r_iload F hl 1 rfl dL_law_704 ?_
  refine r_if_ne F 721 (by decide) (by omega) dL_law_706 (fun _ => ?_) (fun c0 => ?_)
  · skip
    refine r_goto F 1145 (by decide) dL_law_721 ?_
    exact kk ls _ _ _ hI2 X (lv_sub hl [2, 3, 4, 5, 6] rfl)
  · skip
    obtain ⟨hcC, he4⟩ := he3 (by omega)
    have hrg := mval_rg (r := r) (lfI_LR hW hcC.1) (show 0 < N by have := hW.num; omega) (sc xs (i + 1)) (k := (sc xs (i + 2)).toNat) (by omega)
    have ha2 := h2.2.2.2 hcC
    refine r_aload_n F hl 5 rfl rfl dL_law_709 ?_
    refine r_iconst F dL_law_710 ?_
    refine r_lald F X 42 (by decide) (eK_42 G) (by decide) (by decide) dL_law_711 ?_
    refine r_eqJ (b := a2) he4 ?_
    refine r_iload F hl 0 rfl dL_law_712 ?_
    refine r_i2l F (by omega) dL_law_714 ?_
    refine r_lcmp_eq F 721 (by decide) (by omega) (by omega) dL_law_715 dL_law_716 (fun _ => ?_) (fun z => absurd rfl z)
    refine r_goto F 1145 (by decide) dL_law_721 ?_
    exact kk ls _ _ _ hI2 X (lv_sub hl [2, 3, 4, 5, 6] rfl)
theorem law_most (l : Launch) (hst9 : l.stackTraces = false) {p : Program} {e : Env} {s : State} {m : MethodId} {args : Array Value} {below : List Frame} {meth : Method} {c : Code} {H : Heap} {locs : List Loc} {cells slots : Nat} {Q : State → Prop} {ls : Array Slot} {G : GT} {σ : St} {b L : Nat} {xs : Nat → Int32} {i : Int} (F : FX G p m c code 8 s args RL) (hTX : TX G s s.heap) (hS : SX G b L xs s) (hI : IN2 σ) (X : HX G σ s H locs) (hl : lv_has ls 8 (LL G b i)) (hi : 0 ≤ i ∧ i + 4 ≤ L) (hc1 : cells + 1 ≤ 601024) (hc2 : slots + 6 ≤ 7293034) (kk : ∀ (ls : Array Slot) (σ : St) (H : Heap) (locs : List Loc), IN2 σ → HX G σ s H locs → lv_has ls 8 (LL G b i) → W p l e room_1 s m args below meth c H locs (cells + 1) (slots + 6) Q (F0 m 1145 ls [])) : W p l e room_1 s m args below meth c H locs cells slots Q (F0 m 724 ls []) := by
  obtain ⟨N, r, n, hs, hC, hM⟩ := hI
  have hW := hC.2.1
  have hL9 := hS.2.2.2
  refine r_aload_n F hl 1 rfl rfl dL_law_724 ?_
  refine r_aload_n F hl 0 rfl rfl dL_law_725 ?_
  refine r_iload F hl 4 rfl dL_law_726 ?_
  refine r_iconst F dL_law_728 ?_
  refine r_iadd F dL_law_729 ?_
  refine r_slda F X hS (by omega) dL_law_730 ?_
  refine r_aload_n F hl 0 rfl rfl dL_law_731 ?_
  refine r_iload F hl 4 rfl dL_law_732 ?_
  refine r_iconst F dL_law_734 ?_
  refine r_iadd F dL_law_735 ?_
  refine r_slda F X hS (by omega) dL_law_736 ?_
  refine r_cVI F X 0 (by decide) (eK_0 G _) rfl (c_X4_most l G σ N r n hs (sc xs (i + 1)) (sc xs (i + 2)) hC (sc_rg xs (i + 1)) (sc_rg xs (i + 2))) gv_RL_106 rfl nd_X4_most rfl (rest := []) rfl (Nat.le_of_ble_eq_true rfl) ⟨Nat.le_of_ble_eq_true rfl, Nat.le_of_ble_eq_true rfl⟩ ⟨Nat.le_of_succ_le hc1, Nat.le_of_add_right_le hc2⟩ hl.1 dL_law_737 (fun a1 τ1 H locs h1 X => ?_)
  have hM1 : MX τ1 N r n hs := hM.keep (fun k a _ => h1.2.2 k a)
  refine r_aload_n F hl 2 rfl rfl dL_law_740 ?_
  refine r_aload_n F hl 0 rfl rfl dL_law_741 ?_
  refine r_iload F hl 4 rfl dL_law_742 ?_
  refine r_iconst F dL_law_744 ?_
  refine r_iadd F dL_law_745 ?_
  refine r_slda F X hS (by omega) dL_law_746 ?_
  refine r_aload_n F hl 0 rfl rfl dL_law_747 ?_
  refine r_iload F hl 4 rfl dL_law_748 ?_
  refine r_iconst F dL_law_750 ?_
  refine r_iadd F dL_law_751 ?_
  refine r_slda F X hS (by omega) dL_law_752 ?_
  refine r_cVI F X 36 (by decide) (eK_36 G _) rfl (c_X5_most l G τ1 N r n hs (sc xs (i + 1)) (sc xs (i + 2)) hM1 hW (sc_rg xs (i + 1)) (sc_rg xs (i + 2))) gv_RL_109 rfl nd_X5_most rfl (rest := [.int (I a1)]) rfl (Nat.le_of_ble_eq_true rfl) ⟨Nat.le_of_ble_eq_true rfl, Nat.le_of_ble_eq_true rfl⟩ ⟨Nat.le_of_succ_le hc1, Nat.le_of_add_right_le hc2⟩ hl.1 dL_law_753 (fun a2 τ2 H locs h2 X => ?_)
  obtain ⟨he, hI2⟩ := ask_end h1 h2
  refine r_same F 1145 he (by decide) dL_law_756 ?_
  exact W.widen (Nat.le_succ _) (Nat.le_add_right _ 6) (kk ls _ _ _ hI2 X hl)
theorem law_border (l : Launch) (hst9 : l.stackTraces = false) {p : Program} {e : Env} {s : State} {m : MethodId} {args : Array Value} {below : List Frame} {meth : Method} {c : Code} {H : Heap} {locs : List Loc} {cells slots : Nat} {Q : State → Prop} {ls : Array Slot} {G : GT} {σ : St} {b L : Nat} {xs : Nat → Int32} {i : Int} (F : FX G p m c code 8 s args RL) (hTX : TX G s s.heap) (hS : SX G b L xs s) (hI : IN2 σ) (X : HX G σ s H locs) (hl : lv_has ls 8 (LL G b i)) (hi : 0 ≤ i ∧ i + 4 ≤ L) (hc1 : cells + 1 ≤ 601024) (hc2 : slots + 6 ≤ 7293034) (kk : ∀ (ls : Array Slot) (σ : St) (H : Heap) (locs : List Loc), IN2 σ → HX G σ s H locs → lv_has ls 8 (LL G b i) → W p l e room_1 s m args below meth c H locs (cells + 1) (slots + 6) Q (F0 m 1145 ls [])) : W p l e room_1 s m args below meth c H locs cells slots Q (F0 m 761 ls []) := by
  obtain ⟨N, r, n, hs, hC, hM⟩ := hI
  have hW := hC.2.1
  have hL9 := hS.2.2.2
  refine r_aload_n F hl 1 rfl rfl dL_law_761 ?_
  refine r_aload_n F hl 0 rfl rfl dL_law_762 ?_
  refine r_iload F hl 4 rfl dL_law_763 ?_
  refine r_iconst F dL_law_765 ?_
  refine r_iadd F dL_law_766 ?_
  refine r_slda F X hS (by omega) dL_law_767 ?_
  refine r_cVI F X 0 (by decide) (eK_0 G _) rfl (c_X4_border l G σ N r n hs (sc xs (i + 1)) hC (sc_rg xs (i + 1))) gv_RL_110 rfl nd_X4_border rfl (rest := []) rfl (Nat.le_of_ble_eq_true rfl) ⟨Nat.le_of_ble_eq_true rfl, Nat.le_of_ble_eq_true rfl⟩ ⟨Nat.le_of_succ_le hc1, Nat.le_of_add_right_le hc2⟩ hl.1 dL_law_768 (fun a1 τ1 H locs h1 X => ?_)
  have hM1 : MX τ1 N r n hs := hM.keep (fun k a _ => h1.2.2 k a)
  refine r_aload_n F hl 2 rfl rfl dL_law_771 ?_
  refine r_aload_n F hl 0 rfl rfl dL_law_772 ?_
  refine r_iload F hl 4 rfl dL_law_773 ?_
  refine r_iconst F dL_law_775 ?_
  refine r_iadd F dL_law_776 ?_
  refine r_slda F X hS (by omega) dL_law_777 ?_
  refine r_cVI F X 36 (by decide) (eK_36 G _) rfl (c_X5_border l G τ1 N r n hs (sc xs (i + 1)) hM1 hW (sc_rg xs (i + 1))) gv_RL_113 rfl nd_X5_border rfl (rest := [.int (I a1)]) rfl (Nat.le_of_ble_eq_true rfl) ⟨Nat.le_of_ble_eq_true rfl, Nat.le_of_ble_eq_true rfl⟩ ⟨Nat.le_of_succ_le hc1, Nat.le_of_add_right_le hc2⟩ hl.1 dL_law_778 (fun a2 τ2 H locs h2 X => ?_)
  obtain ⟨he, hI2⟩ := ask_end h1 h2
  refine r_same F 1145 he (by decide) dL_law_781 ?_
  exact W.widen (Nat.le_succ _) (Nat.le_add_right _ 6) (kk ls _ _ _ hI2 X hl)
theorem law_shape (l : Launch) (hst9 : l.stackTraces = false) {p : Program} {e : Env} {s : State} {m : MethodId} {args : Array Value} {below : List Frame} {meth : Method} {c : Code} {H : Heap} {locs : List Loc} {cells slots : Nat} {Q : State → Prop} {ls : Array Slot} {G : GT} {σ : St} {b L : Nat} {xs : Nat → Int32} {i : Int} (F : FX G p m c code 8 s args RL) (hTX : TX G s s.heap) (hS : SX G b L xs s) (hI : IN2 σ) (X : HX G σ s H locs) (hl : lv_has ls 8 (LL G b i)) (hi : 0 ≤ i ∧ i + 4 ≤ L) (hc1 : cells + 1 ≤ 601024) (hc2 : slots + 6 ≤ 7293034) (kk : ∀ (ls : Array Slot) (σ : St) (H : Heap) (locs : List Loc), IN2 σ → HX G σ s H locs → lv_has ls 8 (LL G b i) → W p l e room_1 s m args below meth c H locs (cells + 1) (slots + 6) Q (F0 m 1145 ls [])) : W p l e room_1 s m args below meth c H locs cells slots Q (F0 m 786 ls []) := by
  obtain ⟨N, r, n, hs, hC, hM⟩ := hI
  have hW := hC.2.1
  have hL9 := hS.2.2.2
  refine r_aload_n F hl 1 rfl rfl dL_law_786 ?_
  refine r_aload_n F hl 0 rfl rfl dL_law_787 ?_
  refine r_iload F hl 4 rfl dL_law_788 ?_
  refine r_iconst F dL_law_790 ?_
  refine r_iadd F dL_law_791 ?_
  refine r_slda F X hS (by omega) dL_law_792 ?_
  refine r_aload_n F hl 0 rfl rfl dL_law_793 ?_
  refine r_iload F hl 4 rfl dL_law_794 ?_
  refine r_iconst F dL_law_796 ?_
  refine r_iadd F dL_law_797 ?_
  refine r_slda F X hS (by omega) dL_law_798 ?_
  refine r_aload_n F hl 3 rfl rfl dL_law_799 ?_
  refine w_cSI F X hTX (c_L_shape l hst9 G σ N r n hs (sc xs (i + 1)) (sc xs (i + 2)) hC (sc_rg xs (i + 1)) (sc_rg xs (i + 2))) gv_RL_114 nd_L_shape rfl (rest := []) rfl (Nat.le_of_ble_eq_true rfl) ⟨Nat.le_of_ble_eq_true rfl, Nat.le_of_ble_eq_true rfl⟩ ⟨hc1, hc2⟩ hl.1 dL_law_800 (fun a1 τ1 H locs h1 X => ?_)
  have hM1 : MX τ1 N r n hs := hM.keep h1.2.1
  refine r_istore F hl ((5, .int (I a1)) :: LL G b i) (by decide) rfl dL_law_803 (fun ls hl => ?_)
  refine r_aload_n F hl 3 rfl rfl dL_law_805 ?_
  refine r_aload_n F hl 1 rfl rfl dL_law_806 ?_
  refine r_iload F hl 5 rfl dL_law_807 ?_
  refine r_iconst F dL_law_809 ?_
  refine r_iadd F dL_law_810 ?_
  refine r_slda F X hS (by omega) dL_law_811 ?_
  refine r_aload_n F hl 1 rfl rfl dL_law_812 ?_
  refine r_iload F hl 5 rfl dL_law_813 ?_
  refine r_iconst F dL_law_815 ?_
  refine r_iadd F dL_law_816 ?_
  refine r_slda F X hS (by omega) dL_law_817 ?_
  refine r_cVJ F X 36 (by decide) (eK_36 G _) rfl (c_X5_shape l G τ1 N r n hs (sc xs (i + 1)) (sc xs (i + 2)) hM1 hW (sc_rg xs (i + 1)) (sc_rg xs (i + 2))) gv_RL_116 rfl nd_X5_shape rfl (rest := []) rfl (Nat.le_of_ble_eq_true rfl) ⟨Nat.le_of_ble_eq_true rfl, Nat.le_of_ble_eq_true rfl⟩ ⟨hc1, hc2⟩ hl.1 dL_law_818 (fun a2 τ2 H locs h2 X => ?_)
  obtain ⟨he1, he2, he3, hI2⟩ := thr_end h1 h2
  refine r_lstore F hl ((6, .long (J a2)) :: (5, .int (I a1)) :: LL G b i) (by decide) rfl dL_law_821 (fun ls hl => ?_)
  refine r_aload_n F hl 4 rfl rfl dL_law_823 ?_
  refine d_cVI F X 36 (by decide) (eK_36 G _) rfl (c_X5_thrown l G τ2) gv_RL_103 rfl nd_X5_thrown rfl (rest := []) rfl (Nat.le_of_ble_eq_true rfl) ⟨Nat.le_of_ble_eq_true rfl, Nat.le_of_ble_eq_true rfl⟩ ⟨hc1, hc2⟩ hl.1 dL_law_824 (fun H locs X => ?_)
  refine r_eqI (b := a1) he1 ?_
  refine r_iload F hl 1 rfl dL_law_827 ?_
  refine r_same F 834 rfl (by decide) dL_law_829 ?_
  refine r_iload F hl 1 rfl dL_law_834 ?_
  refine r_if_ne F 850 (by decide) (by omega) dL_law_836 (fun _ => ?_) (fun c0 => ?_)
  · skip
    refine r_goto F 1145 (by decide) dL_law_850 ?_
    exact kk ls _ _ _ hI2 X (lv_sub hl [2, 3, 4, 5, 6] rfl)
  · skip
    obtain ⟨hcC, he4⟩ := he3 (by omega)
    have hrg := mval_rg9 hW (lfI_LR hW hcC.1) (sc xs (i + 1)) (k := (4 + sc xs (i + 2)).toNat) (by omega)
    have ha2 := h2.2.2.2 hcC
    refine r_aload_n F hl 5 rfl rfl dL_law_839 ?_
    refine r_iconst F dL_law_840 ?_
    refine r_lald F X 42 (by decide) (eK_42 G) (by decide) (by decide) dL_law_841 ?_
    refine r_eqJ (b := a2) he4 ?_
    refine r_lload F hl 0 rfl dL_law_842 ?_
    refine r_lcmp_eq F 850 (by decide) (by omega) (by omega) dL_law_844 dL_law_845 (fun _ => ?_) (fun z => absurd rfl z)
    refine r_goto F 1145 (by decide) dL_law_850 ?_
    exact kk ls _ _ _ hI2 X (lv_sub hl [2, 3, 4, 5, 6] rfl)
theorem law_undercut (l : Launch) (hst9 : l.stackTraces = false) {p : Program} {e : Env} {s : State} {m : MethodId} {args : Array Value} {below : List Frame} {meth : Method} {c : Code} {H : Heap} {locs : List Loc} {cells slots : Nat} {Q : State → Prop} {ls : Array Slot} {G : GT} {σ : St} {b L : Nat} {xs : Nat → Int32} {i : Int} (F : FX G p m c code 8 s args RL) (hTX : TX G s s.heap) (hS : SX G b L xs s) (hI : IN2 σ) (X : HX G σ s H locs) (hl : lv_has ls 8 (LL G b i)) (hi : 0 ≤ i ∧ i + 4 ≤ L) (hc1 : cells + 1 ≤ 601024) (hc2 : slots + 6 ≤ 7293034) (kk : ∀ (ls : Array Slot) (σ : St) (H : Heap) (locs : List Loc), IN2 σ → HX G σ s H locs → lv_has ls 8 (LL G b i) → W p l e room_1 s m args below meth c H locs (cells + 1) (slots + 6) Q (F0 m 1145 ls [])) : W p l e room_1 s m args below meth c H locs cells slots Q (F0 m 853 ls []) := by
  obtain ⟨N, r, n, hs, hC, hM⟩ := hI
  have hW := hC.2.1
  have hL9 := hS.2.2.2
  refine r_aload_n F hl 1 rfl rfl dL_law_853 ?_
  refine r_aload_n F hl 0 rfl rfl dL_law_854 ?_
  refine r_iload F hl 4 rfl dL_law_855 ?_
  refine r_iconst F dL_law_857 ?_
  refine r_iadd F dL_law_858 ?_
  refine r_slda F X hS (by omega) dL_law_859 ?_
  refine r_cVI F X 0 (by decide) (eK_0 G _) rfl (c_X4_undercut l G σ N r n hs (sc xs (i + 1)) hC (sc_rg xs (i + 1))) gv_RL_117 rfl nd_X4_undercut rfl (rest := []) rfl (Nat.le_of_ble_eq_true rfl) ⟨Nat.le_of_ble_eq_true rfl, Nat.le_of_ble_eq_true rfl⟩ ⟨Nat.le_of_succ_le hc1, Nat.le_of_add_right_le hc2⟩ hl.1 dL_law_860 (fun a1 τ1 H locs h1 X => ?_)
  have hM1 : MX τ1 N r n hs := hM.keep (fun k a _ => h1.2.2 k a)
  refine r_aload_n F hl 2 rfl rfl dL_law_863 ?_
  refine r_aload_n F hl 0 rfl rfl dL_law_864 ?_
  refine r_iload F hl 4 rfl dL_law_865 ?_
  refine r_iconst F dL_law_867 ?_
  refine r_iadd F dL_law_868 ?_
  refine r_slda F X hS (by omega) dL_law_869 ?_
  refine r_cVI F X 36 (by decide) (eK_36 G _) rfl (c_X5_undercut l G τ1 N r n hs (sc xs (i + 1)) hM1 hW (sc_rg xs (i + 1))) gv_RL_120 rfl nd_X5_undercut rfl (rest := [.int (I a1)]) rfl (Nat.le_of_ble_eq_true rfl) ⟨Nat.le_of_ble_eq_true rfl, Nat.le_of_ble_eq_true rfl⟩ ⟨Nat.le_of_succ_le hc1, Nat.le_of_add_right_le hc2⟩ hl.1 dL_law_870 (fun a2 τ2 H locs h2 X => ?_)
  obtain ⟨he, hI2⟩ := ask_end h1 h2
  refine r_same F 1145 he (by decide) dL_law_873 ?_
  exact W.widen (Nat.le_succ _) (Nat.le_add_right _ 6) (kk ls _ _ _ hI2 X hl)
theorem law_press (l : Launch) (hst9 : l.stackTraces = false) {p : Program} {e : Env} {s : State} {m : MethodId} {args : Array Value} {below : List Frame} {meth : Method} {c : Code} {H : Heap} {locs : List Loc} {cells slots : Nat} {Q : State → Prop} {ls : Array Slot} {G : GT} {σ : St} {b L : Nat} {xs : Nat → Int32} {i : Int} (F : FX G p m c code 8 s args RL) (hTX : TX G s s.heap) (hS : SX G b L xs s) (hI : IN2 σ) (X : HX G σ s H locs) (hl : lv_has ls 8 (LL G b i)) (hi : 0 ≤ i ∧ i + 4 ≤ L) (hc1 : cells + 1 ≤ 601024) (hc2 : slots + 6 ≤ 7293034) (kk : ∀ (ls : Array Slot) (σ : St) (H : Heap) (locs : List Loc), IN2 σ → HX G σ s H locs → lv_has ls 8 (LL G b i) → W p l e room_1 s m args below meth c H locs (cells + 1) (slots + 6) Q (F0 m 1145 ls [])) : W p l e room_1 s m args below meth c H locs cells slots Q (F0 m 878 ls []) := by
  obtain ⟨N, r, n, hs, hC, hM⟩ := hI
  have hW := hC.2.1
  have hL9 := hS.2.2.2
  refine r_aload_n F hl 1 rfl rfl dL_law_878 ?_
  refine r_aload_n F hl 0 rfl rfl dL_law_879 ?_
  refine r_iload F hl 4 rfl dL_law_880 ?_
  refine r_iconst F dL_law_882 ?_
  refine r_iadd F dL_law_883 ?_
  refine r_slda F X hS (by omega) dL_law_884 ?_
  refine r_cVI F X 0 (by decide) (eK_0 G _) rfl (c_X4_press l G σ N r n hs (sc xs (i + 1)) hC (sc_rg xs (i + 1))) gv_RL_121 rfl nd_X4_press rfl (rest := []) rfl (Nat.le_of_ble_eq_true rfl) ⟨Nat.le_of_ble_eq_true rfl, Nat.le_of_ble_eq_true rfl⟩ ⟨Nat.le_of_succ_le hc1, Nat.le_of_add_right_le hc2⟩ hl.1 dL_law_885 (fun a1 τ1 H locs h1 X => ?_)
  have hM1 : MX τ1 N r n hs := hM.keep (fun k a _ => h1.2.2 k a)
  refine r_aload_n F hl 2 rfl rfl dL_law_888 ?_
  refine r_aload_n F hl 0 rfl rfl dL_law_889 ?_
  refine r_iload F hl 4 rfl dL_law_890 ?_
  refine r_iconst F dL_law_892 ?_
  refine r_iadd F dL_law_893 ?_
  refine r_slda F X hS (by omega) dL_law_894 ?_
  refine r_cVI F X 36 (by decide) (eK_36 G _) rfl (c_X5_press l G τ1 N r n hs (sc xs (i + 1)) hM1 hW (sc_rg xs (i + 1))) gv_RL_124 rfl nd_X5_press rfl (rest := [.int (I a1)]) rfl (Nat.le_of_ble_eq_true rfl) ⟨Nat.le_of_ble_eq_true rfl, Nat.le_of_ble_eq_true rfl⟩ ⟨Nat.le_of_succ_le hc1, Nat.le_of_add_right_le hc2⟩ hl.1 dL_law_895 (fun a2 τ2 H locs h2 X => ?_)
  obtain ⟨he, hI2⟩ := ask_end h1 h2
  refine r_same F 1145 he (by decide) dL_law_898 ?_
  exact W.widen (Nat.le_succ _) (Nat.le_add_right _ 6) (kk ls _ _ _ hI2 X hl)
theorem law_force (l : Launch) (hst9 : l.stackTraces = false) {p : Program} {e : Env} {s : State} {m : MethodId} {args : Array Value} {below : List Frame} {meth : Method} {c : Code} {H : Heap} {locs : List Loc} {cells slots : Nat} {Q : State → Prop} {ls : Array Slot} {G : GT} {σ : St} {b L : Nat} {xs : Nat → Int32} {i : Int} (F : FX G p m c code 8 s args RL) (hTX : TX G s s.heap) (hS : SX G b L xs s) (hI : IN2 σ) (X : HX G σ s H locs) (hl : lv_has ls 8 (LL G b i)) (hi : 0 ≤ i ∧ i + 4 ≤ L) (hc1 : cells + 1 ≤ 601024) (hc2 : slots + 6 ≤ 7293034) (kk : ∀ (ls : Array Slot) (σ : St) (H : Heap) (locs : List Loc), IN2 σ → HX G σ s H locs → lv_has ls 8 (LL G b i) → W p l e room_1 s m args below meth c H locs (cells + 1) (slots + 6) Q (F0 m 1145 ls [])) : W p l e room_1 s m args below meth c H locs cells slots Q (F0 m 903 ls []) := by
  obtain ⟨N, r, n, hs, hC, hM⟩ := hI
  have hW := hC.2.1
  have hL9 := hS.2.2.2
  refine r_aload_n F hl 1 rfl rfl dL_law_903 ?_
  refine r_aload_n F hl 0 rfl rfl dL_law_904 ?_
  refine r_iload F hl 4 rfl dL_law_905 ?_
  refine r_iconst F dL_law_907 ?_
  refine r_iadd F dL_law_908 ?_
  refine r_slda F X hS (by omega) dL_law_909 ?_
  refine r_aload_n F hl 3 rfl rfl dL_law_910 ?_
  refine w_cSI F X hTX (c_L_force l hst9 G σ N r n hs (sc xs (i + 1)) hC (sc_rg xs (i + 1))) gv_RL_125 nd_L_force rfl (rest := []) rfl (Nat.le_of_ble_eq_true rfl) ⟨Nat.le_of_ble_eq_true rfl, Nat.le_of_ble_eq_true rfl⟩ ⟨hc1, hc2⟩ hl.1 dL_law_911 (fun a1 τ1 H locs h1 X => ?_)
  have hM1 : MX τ1 N r n hs := hM.keep h1.2.1
  refine r_istore F hl ((5, .int (I a1)) :: LL G b i) (by decide) rfl dL_law_914 (fun ls hl => ?_)
  refine r_aload_n F hl 3 rfl rfl dL_law_916 ?_
  refine r_aload_n F hl 1 rfl rfl dL_law_917 ?_
  refine r_iload F hl 5 rfl dL_law_918 ?_
  refine r_iconst F dL_law_920 ?_
  refine r_iadd F dL_law_921 ?_
  refine r_slda F X hS (by omega) dL_law_922 ?_
  refine r_cVJ F X 36 (by decide) (eK_36 G _) rfl (c_X5_force l G τ1 N r n hs (sc xs (i + 1)) hM1 hW (sc_rg xs (i + 1))) gv_RL_128 rfl nd_X5_force rfl (rest := []) rfl (Nat.le_of_ble_eq_true rfl) ⟨Nat.le_of_ble_eq_true rfl, Nat.le_of_ble_eq_true rfl⟩ ⟨hc1, hc2⟩ hl.1 dL_law_923 (fun a2 τ2 H locs h2 X => ?_)
  obtain ⟨he1, he2, he3, hI2⟩ := thr_end h1 h2
  refine r_lstore F hl ((6, .long (J a2)) :: (5, .int (I a1)) :: LL G b i) (by decide) rfl dL_law_926 (fun ls hl => ?_)
  refine r_aload_n F hl 4 rfl rfl dL_law_928 ?_
  refine d_cVI F X 36 (by decide) (eK_36 G _) rfl (c_X5_thrown l G τ2) gv_RL_103 rfl nd_X5_thrown rfl (rest := []) rfl (Nat.le_of_ble_eq_true rfl) ⟨Nat.le_of_ble_eq_true rfl, Nat.le_of_ble_eq_true rfl⟩ ⟨hc1, hc2⟩ hl.1 dL_law_929 (fun H locs X => ?_)
  refine r_eqI (b := a1) he1 ?_
  refine r_iload F hl 1 rfl dL_law_932 ?_
  refine r_same F 939 rfl (by decide) dL_law_934 ?_
  refine r_iload F hl 1 rfl dL_law_939 ?_
  refine r_if_ne F 955 (by decide) (by omega) dL_law_941 (fun _ => ?_) (fun c0 => ?_)
  · skip
    refine r_goto F 1145 (by decide) dL_law_955 ?_
    exact kk ls _ _ _ hI2 X (lv_sub hl [2, 3, 4, 5, 6] rfl)
  · skip
    obtain ⟨hcC, he4⟩ := he3 (by omega)
    have hrg := (fo_rg hW (lfI_LR hW hcC.1) (sc xs (i + 1))).2.2
    have ha2 := h2.2.2.2 hcC
    refine r_aload_n F hl 5 rfl rfl dL_law_944 ?_
    refine r_iconst F dL_law_945 ?_
    refine r_lald F X 42 (by decide) (eK_42 G) (by decide) (by decide) dL_law_946 ?_
    refine r_eqJ (b := a2) he4 ?_
    refine r_lload F hl 0 rfl dL_law_947 ?_
    refine r_lcmp_eq F 955 (by decide) (by omega) (by omega) dL_law_949 dL_law_950 (fun _ => ?_) (fun z => absurd rfl z)
    refine r_goto F 1145 (by decide) dL_law_955 ?_
    exact kk ls _ _ _ hI2 X (lv_sub hl [2, 3, 4, 5, 6] rfl)
theorem law_bad (l : Launch) (hst9 : l.stackTraces = false) {p : Program} {e : Env} {s : State} {m : MethodId} {args : Array Value} {below : List Frame} {meth : Method} {c : Code} {H : Heap} {locs : List Loc} {cells slots : Nat} {Q : State → Prop} {ls : Array Slot} {G : GT} {σ : St} {b L : Nat} {xs : Nat → Int32} {i : Int} (F : FX G p m c code 8 s args RL) (hTX : TX G s s.heap) (hS : SX G b L xs s) (hI : IN2 σ) (X : HX G σ s H locs) (hl : lv_has ls 8 (LL G b i)) (hi : 0 ≤ i ∧ i + 4 ≤ L) (hc1 : cells + 1 ≤ 601024) (hc2 : slots + 6 ≤ 7293034) (kk : ∀ (ls : Array Slot) (σ : St) (H : Heap) (locs : List Loc), IN2 σ → HX G σ s H locs → lv_has ls 8 (LL G b i) → W p l e room_1 s m args below meth c H locs (cells + 1) (slots + 6) Q (F0 m 1145 ls [])) : W p l e room_1 s m args below meth c H locs cells slots Q (F0 m 958 ls []) := by
  obtain ⟨N, r, n, hs, hC, hM⟩ := hI
  have hW := hC.2.1
  have hL9 := hS.2.2.2
  refine r_aload_n F hl 1 rfl rfl dL_law_958 ?_
  refine r_aload_n F hl 0 rfl rfl dL_law_959 ?_
  refine r_iload F hl 4 rfl dL_law_960 ?_
  refine r_iconst F dL_law_962 ?_
  refine r_iadd F dL_law_963 ?_
  refine r_slda F X hS (by omega) dL_law_964 ?_
  refine r_aload_n F hl 0 rfl rfl dL_law_965 ?_
  refine r_iload F hl 4 rfl dL_law_966 ?_
  refine r_iconst F dL_law_968 ?_
  refine r_iadd F dL_law_969 ?_
  refine r_slda F X hS (by omega) dL_law_970 ?_
  refine r_cVI F X 0 (by decide) (eK_0 G _) rfl (c_X4_bad l G σ N r n hs (sc xs (i + 1)) (sc xs (i + 2)) hC (sc_rg xs (i + 1)) (sc_rg xs (i + 2))) gv_RL_129 rfl nd_X4_bad rfl (rest := []) rfl (Nat.le_of_ble_eq_true rfl) ⟨Nat.le_of_ble_eq_true rfl, Nat.le_of_ble_eq_true rfl⟩ ⟨Nat.le_of_succ_le hc1, Nat.le_of_add_right_le hc2⟩ hl.1 dL_law_971 (fun a1 τ1 H locs h1 X => ?_)
  have hM1 : MX τ1 N r n hs := hM.keep (fun k a _ => h1.2.2 k a)
  refine r_aload_n F hl 2 rfl rfl dL_law_974 ?_
  refine r_aload_n F hl 0 rfl rfl dL_law_975 ?_
  refine r_iload F hl 4 rfl dL_law_976 ?_
  refine r_iconst F dL_law_978 ?_
  refine r_iadd F dL_law_979 ?_
  refine r_slda F X hS (by omega) dL_law_980 ?_
  refine r_aload_n F hl 0 rfl rfl dL_law_981 ?_
  refine r_iload F hl 4 rfl dL_law_982 ?_
  refine r_iconst F dL_law_984 ?_
  refine r_iadd F dL_law_985 ?_
  refine r_slda F X hS (by omega) dL_law_986 ?_
  refine r_cVI F X 36 (by decide) (eK_36 G _) rfl (c_X5_bad l G τ1 N r n hs (sc xs (i + 1)) (sc xs (i + 2)) hM1 hW (sc_rg xs (i + 1)) (sc_rg xs (i + 2))) gv_RL_132 rfl nd_X5_bad rfl (rest := [.int (I a1)]) rfl (Nat.le_of_ble_eq_true rfl) ⟨Nat.le_of_ble_eq_true rfl, Nat.le_of_ble_eq_true rfl⟩ ⟨Nat.le_of_succ_le hc1, Nat.le_of_add_right_le hc2⟩ hl.1 dL_law_987 (fun a2 τ2 H locs h2 X => ?_)
  obtain ⟨he, hI2⟩ := ask_end h1 h2
  refine r_same F 1145 he (by decide) dL_law_990 ?_
  exact W.widen (Nat.le_succ _) (Nat.le_add_right _ 6) (kk ls _ _ _ hI2 X hl)
theorem law_top (l : Launch) (hst9 : l.stackTraces = false) {p : Program} {e : Env} {s : State} {m : MethodId} {args : Array Value} {below : List Frame} {meth : Method} {c : Code} {H : Heap} {locs : List Loc} {cells slots : Nat} {Q : State → Prop} {ls : Array Slot} {G : GT} {σ : St} {b L : Nat} {xs : Nat → Int32} {i : Int} (F : FX G p m c code 8 s args RL) (hTX : TX G s s.heap) (hS : SX G b L xs s) (hI : IN2 σ) (X : HX G σ s H locs) (hl : lv_has ls 8 (LL G b i)) (hi : 0 ≤ i ∧ i + 4 ≤ L) (hc1 : cells + 1 ≤ 601024) (hc2 : slots + 6 ≤ 7293034) (kk : ∀ (ls : Array Slot) (σ : St) (H : Heap) (locs : List Loc), IN2 σ → HX G σ s H locs → lv_has ls 8 (LL G b i) → W p l e room_1 s m args below meth c H locs (cells + 1) (slots + 6) Q (F0 m 1145 ls [])) : W p l e room_1 s m args below meth c H locs cells slots Q (F0 m 995 ls []) := by
  obtain ⟨N, r, n, hs, hC, hM⟩ := hI
  have hW := hC.2.1
  have hL9 := hS.2.2.2
  refine r_aload_n F hl 1 rfl rfl dL_law_995 ?_
  refine r_aload_n F hl 0 rfl rfl dL_law_996 ?_
  refine r_iload F hl 4 rfl dL_law_997 ?_
  refine r_iconst F dL_law_999 ?_
  refine r_iadd F dL_law_1000 ?_
  refine r_slda F X hS (by omega) dL_law_1001 ?_
  refine r_cVI F X 0 (by decide) (eK_0 G _) rfl (c_X4_top l G σ N r n hs (sc xs (i + 1)) hC (sc_rg xs (i + 1))) gv_RL_133 rfl nd_X4_top rfl (rest := []) rfl (Nat.le_of_ble_eq_true rfl) ⟨Nat.le_of_ble_eq_true rfl, Nat.le_of_ble_eq_true rfl⟩ ⟨Nat.le_of_succ_le hc1, Nat.le_of_add_right_le hc2⟩ hl.1 dL_law_1002 (fun a1 τ1 H locs h1 X => ?_)
  have hM1 : MX τ1 N r n hs := hM.keep (fun k a _ => h1.2.2 k a)
  refine r_aload_n F hl 2 rfl rfl dL_law_1005 ?_
  refine r_aload_n F hl 0 rfl rfl dL_law_1006 ?_
  refine r_iload F hl 4 rfl dL_law_1007 ?_
  refine r_iconst F dL_law_1009 ?_
  refine r_iadd F dL_law_1010 ?_
  refine r_slda F X hS (by omega) dL_law_1011 ?_
  refine r_cVI F X 36 (by decide) (eK_36 G _) rfl (c_X5_top l G τ1 N r n hs (sc xs (i + 1)) hM1 hW (sc_rg xs (i + 1))) gv_RL_136 rfl nd_X5_top rfl (rest := [.int (I a1)]) rfl (Nat.le_of_ble_eq_true rfl) ⟨Nat.le_of_ble_eq_true rfl, Nat.le_of_ble_eq_true rfl⟩ ⟨Nat.le_of_succ_le hc1, Nat.le_of_add_right_le hc2⟩ hl.1 dL_law_1012 (fun a2 τ2 H locs h2 X => ?_)
  obtain ⟨he, hI2⟩ := ask_end h1 h2
  refine r_same F 1145 he (by decide) dL_law_1015 ?_
  exact W.widen (Nat.le_succ _) (Nat.le_add_right _ 6) (kk ls _ _ _ hI2 X hl)
theorem law_met (l : Launch) (hst9 : l.stackTraces = false) {p : Program} {e : Env} {s : State} {m : MethodId} {args : Array Value} {below : List Frame} {meth : Method} {c : Code} {H : Heap} {locs : List Loc} {cells slots : Nat} {Q : State → Prop} {ls : Array Slot} {G : GT} {σ : St} {b L : Nat} {xs : Nat → Int32} {i : Int} (F : FX G p m c code 8 s args RL) (hTX : TX G s s.heap) (hS : SX G b L xs s) (hI : IN2 σ) (X : HX G σ s H locs) (hl : lv_has ls 8 (LL G b i)) (hi : 0 ≤ i ∧ i + 4 ≤ L) (hc1 : cells + 1 ≤ 601024) (hc2 : slots + 6 ≤ 7293034) (kk : ∀ (ls : Array Slot) (σ : St) (H : Heap) (locs : List Loc), IN2 σ → HX G σ s H locs → lv_has ls 8 (LL G b i) → W p l e room_1 s m args below meth c H locs (cells + 1) (slots + 6) Q (F0 m 1145 ls [])) : W p l e room_1 s m args below meth c H locs cells slots Q (F0 m 1020 ls []) := by
  obtain ⟨N, r, n, hs, hC, hM⟩ := hI
  have hW := hC.2.1
  have hL9 := hS.2.2.2
  refine r_aload_n F hl 1 rfl rfl dL_law_1020 ?_
  refine r_cVI F X 0 (by decide) (eK_0 G _) rfl (c_X4_met l G σ N r n hs hC) gv_RL_137 rfl nd_X4_met rfl (rest := []) rfl (Nat.le_of_ble_eq_true rfl) ⟨Nat.le_of_ble_eq_true rfl, Nat.le_of_ble_eq_true rfl⟩ ⟨Nat.le_of_succ_le hc1, Nat.le_of_add_right_le hc2⟩ hl.1 dL_law_1021 (fun a1 τ1 H locs h1 X => ?_)
  have hM1 : MX τ1 N r n hs := hM.keep (fun k a _ => h1.2.2 k a)
  refine r_aload_n F hl 2 rfl rfl dL_law_1024 ?_
  refine r_cVI F X 36 (by decide) (eK_36 G _) rfl (c_X5_met l G τ1 N r n hs hM1 hW) gv_RL_140 rfl nd_X5_met rfl (rest := [.int (I a1)]) rfl (Nat.le_of_ble_eq_true rfl) ⟨Nat.le_of_ble_eq_true rfl, Nat.le_of_ble_eq_true rfl⟩ ⟨Nat.le_of_succ_le hc1, Nat.le_of_add_right_le hc2⟩ hl.1 dL_law_1025 (fun a2 τ2 H locs h2 X => ?_)
  obtain ⟨he, hI2⟩ := ask_end h1 h2
  refine r_same F 1145 he (by decide) dL_law_1028 ?_
  exact W.widen (Nat.le_succ _) (Nat.le_add_right _ 6) (kk ls _ _ _ hI2 X hl)
theorem law_marked (l : Launch) (hst9 : l.stackTraces = false) {p : Program} {e : Env} {s : State} {m : MethodId} {args : Array Value} {below : List Frame} {meth : Method} {c : Code} {H : Heap} {locs : List Loc} {cells slots : Nat} {Q : State → Prop} {ls : Array Slot} {G : GT} {σ : St} {b L : Nat} {xs : Nat → Int32} {i : Int} (F : FX G p m c code 8 s args RL) (hTX : TX G s s.heap) (hS : SX G b L xs s) (hI : IN2 σ) (X : HX G σ s H locs) (hl : lv_has ls 8 (LL G b i)) (hi : 0 ≤ i ∧ i + 4 ≤ L) (hc1 : cells + 1 ≤ 601024) (hc2 : slots + 6 ≤ 7293034) (kk : ∀ (ls : Array Slot) (σ : St) (H : Heap) (locs : List Loc), IN2 σ → HX G σ s H locs → lv_has ls 8 (LL G b i) → W p l e room_1 s m args below meth c H locs (cells + 1) (slots + 6) Q (F0 m 1145 ls [])) : W p l e room_1 s m args below meth c H locs cells slots Q (F0 m 1033 ls []) := by
  obtain ⟨N, r, n, hs, hC, hM⟩ := hI
  have hW := hC.2.1
  have hL9 := hS.2.2.2
  refine r_aload_n F hl 1 rfl rfl dL_law_1033 ?_
  refine r_aload_n F hl 0 rfl rfl dL_law_1034 ?_
  refine r_iload F hl 4 rfl dL_law_1035 ?_
  refine r_iconst F dL_law_1037 ?_
  refine r_iadd F dL_law_1038 ?_
  refine r_slda F X hS (by omega) dL_law_1039 ?_
  refine r_aload_n F hl 0 rfl rfl dL_law_1040 ?_
  refine r_iload F hl 4 rfl dL_law_1041 ?_
  refine r_iconst F dL_law_1043 ?_
  refine r_iadd F dL_law_1044 ?_
  refine r_slda F X hS (by omega) dL_law_1045 ?_
  refine r_cVI F X 0 (by decide) (eK_0 G _) rfl (c_X4_marked l G σ N r n hs (sc xs (i + 1)) (sc xs (i + 2)) hC (sc_rg xs (i + 1)) (sc_rg xs (i + 2))) gv_RL_141 rfl nd_X4_marked rfl (rest := []) rfl (Nat.le_of_ble_eq_true rfl) ⟨Nat.le_of_ble_eq_true rfl, Nat.le_of_ble_eq_true rfl⟩ ⟨Nat.le_of_succ_le hc1, Nat.le_of_add_right_le hc2⟩ hl.1 dL_law_1046 (fun a1 τ1 H locs h1 X => ?_)
  have hM1 : MX τ1 N r n hs := hM.keep (fun k a _ => h1.2.2 k a)
  refine r_aload_n F hl 2 rfl rfl dL_law_1049 ?_
  refine r_aload_n F hl 0 rfl rfl dL_law_1050 ?_
  refine r_iload F hl 4 rfl dL_law_1051 ?_
  refine r_iconst F dL_law_1053 ?_
  refine r_iadd F dL_law_1054 ?_
  refine r_slda F X hS (by omega) dL_law_1055 ?_
  refine r_aload_n F hl 0 rfl rfl dL_law_1056 ?_
  refine r_iload F hl 4 rfl dL_law_1057 ?_
  refine r_iconst F dL_law_1059 ?_
  refine r_iadd F dL_law_1060 ?_
  refine r_slda F X hS (by omega) dL_law_1061 ?_
  refine r_cVI F X 36 (by decide) (eK_36 G _) rfl (c_X5_marked l G τ1 N r n hs (sc xs (i + 1)) (sc xs (i + 2)) hM1 hW (sc_rg xs (i + 1)) (sc_rg xs (i + 2))) gv_RL_144 rfl nd_X5_marked rfl (rest := [.int (I a1)]) rfl (Nat.le_of_ble_eq_true rfl) ⟨Nat.le_of_ble_eq_true rfl, Nat.le_of_ble_eq_true rfl⟩ ⟨Nat.le_of_succ_le hc1, Nat.le_of_add_right_le hc2⟩ hl.1 dL_law_1062 (fun a2 τ2 H locs h2 X => ?_)
  obtain ⟨he, hI2⟩ := ask_end h1 h2
  refine r_same F 1145 he (by decide) dL_law_1065 ?_
  exact W.widen (Nat.le_succ _) (Nat.le_add_right _ 6) (kk ls _ _ _ hI2 X hl)
theorem law_best (l : Launch) (hst9 : l.stackTraces = false) {p : Program} {e : Env} {s : State} {m : MethodId} {args : Array Value} {below : List Frame} {meth : Method} {c : Code} {H : Heap} {locs : List Loc} {cells slots : Nat} {Q : State → Prop} {ls : Array Slot} {G : GT} {σ : St} {b L : Nat} {xs : Nat → Int32} {i : Int} (F : FX G p m c code 8 s args RL) (hTX : TX G s s.heap) (hS : SX G b L xs s) (hI : IN2 σ) (X : HX G σ s H locs) (hl : lv_has ls 8 (LL G b i)) (hi : 0 ≤ i ∧ i + 4 ≤ L) (hc1 : cells + 1 ≤ 601024) (hc2 : slots + 6 ≤ 7293034) (kk : ∀ (ls : Array Slot) (σ : St) (H : Heap) (locs : List Loc), IN2 σ → HX G σ s H locs → lv_has ls 8 (LL G b i) → W p l e room_1 s m args below meth c H locs (cells + 1) (slots + 6) Q (F0 m 1145 ls [])) : W p l e room_1 s m args below meth c H locs cells slots Q (F0 m 1070 ls []) := by
  obtain ⟨N, r, n, hs, hC, hM⟩ := hI
  have hW := hC.2.1
  have hL9 := hS.2.2.2
  refine r_aload_n F hl 1 rfl rfl dL_law_1070 ?_
  refine r_aload_n F hl 0 rfl rfl dL_law_1071 ?_
  refine r_iload F hl 4 rfl dL_law_1072 ?_
  refine r_iconst F dL_law_1074 ?_
  refine r_iadd F dL_law_1075 ?_
  refine r_slda F X hS (by omega) dL_law_1076 ?_
  refine r_cVI F X 0 (by decide) (eK_0 G _) rfl (c_X4_best l G σ N r n hs (sc xs (i + 1)) hC (sc_rg xs (i + 1))) gv_RL_145 rfl nd_X4_best rfl (rest := []) rfl (Nat.le_of_ble_eq_true rfl) ⟨Nat.le_of_ble_eq_true rfl, Nat.le_of_ble_eq_true rfl⟩ ⟨Nat.le_of_succ_le hc1, Nat.le_of_add_right_le hc2⟩ hl.1 dL_law_1077 (fun a1 τ1 H locs h1 X => ?_)
  have hM1 : MX τ1 N r n hs := hM.keep (fun k a _ => h1.2.2 k a)
  refine r_aload_n F hl 2 rfl rfl dL_law_1080 ?_
  refine r_aload_n F hl 0 rfl rfl dL_law_1081 ?_
  refine r_iload F hl 4 rfl dL_law_1082 ?_
  refine r_iconst F dL_law_1084 ?_
  refine r_iadd F dL_law_1085 ?_
  refine r_slda F X hS (by omega) dL_law_1086 ?_
  refine r_cVI F X 36 (by decide) (eK_36 G _) rfl (c_X5_best l G τ1 N r n hs (sc xs (i + 1)) hM1 hW (sc_rg xs (i + 1))) gv_RL_148 rfl nd_X5_best rfl (rest := [.int (I a1)]) rfl (Nat.le_of_ble_eq_true rfl) ⟨Nat.le_of_ble_eq_true rfl, Nat.le_of_ble_eq_true rfl⟩ ⟨Nat.le_of_succ_le hc1, Nat.le_of_add_right_le hc2⟩ hl.1 dL_law_1087 (fun a2 τ2 H locs h2 X => ?_)
  obtain ⟨he, hI2⟩ := ask_end h1 h2
  refine r_same F 1145 he (by decide) dL_law_1090 ?_
  exact W.widen (Nat.le_succ _) (Nat.le_add_right _ 6) (kk ls _ _ _ hI2 X hl)
theorem law_limit (l : Launch) (hst9 : l.stackTraces = false) {p : Program} {e : Env} {s : State} {m : MethodId} {args : Array Value} {below : List Frame} {meth : Method} {c : Code} {H : Heap} {locs : List Loc} {cells slots : Nat} {Q : State → Prop} {ls : Array Slot} {G : GT} {σ : St} {b L : Nat} {xs : Nat → Int32} {i : Int} (F : FX G p m c code 8 s args RL) (hTX : TX G s s.heap) (hS : SX G b L xs s) (hI : IN2 σ) (X : HX G σ s H locs) (hl : lv_has ls 8 (LL G b i)) (hi : 0 ≤ i ∧ i + 4 ≤ L) (hc1 : cells + 1 ≤ 601024) (hc2 : slots + 6 ≤ 7293034) (kk : ∀ (ls : Array Slot) (σ : St) (H : Heap) (locs : List Loc), IN2 σ → HX G σ s H locs → lv_has ls 8 (LL G b i) → W p l e room_1 s m args below meth c H locs (cells + 1) (slots + 6) Q (F0 m 1145 ls [])) : W p l e room_1 s m args below meth c H locs cells slots Q (F0 m 1095 ls []) := by
  obtain ⟨N, r, n, hs, hC, hM⟩ := hI
  have hW := hC.2.1
  have hL9 := hS.2.2.2
  refine r_aload_n F hl 1 rfl rfl dL_law_1095 ?_
  refine r_aload_n F hl 0 rfl rfl dL_law_1096 ?_
  refine r_iload F hl 4 rfl dL_law_1097 ?_
  refine r_iconst F dL_law_1099 ?_
  refine r_iadd F dL_law_1100 ?_
  refine r_slda F X hS (by omega) dL_law_1101 ?_
  refine r_cVI F X 0 (by decide) (eK_0 G _) rfl (c_X4_limit l G σ N r n hs (sc xs (i + 1)) hC (sc_rg xs (i + 1))) gv_RL_149 rfl nd_X4_limit rfl (rest := []) rfl (Nat.le_of_ble_eq_true rfl) ⟨Nat.le_of_ble_eq_true rfl, Nat.le_of_ble_eq_true rfl⟩ ⟨Nat.le_of_succ_le hc1, Nat.le_of_add_right_le hc2⟩ hl.1 dL_law_1102 (fun a1 τ1 H locs h1 X => ?_)
  have hM1 : MX τ1 N r n hs := hM.keep (fun k a _ => h1.2.2 k a)
  refine r_aload_n F hl 2 rfl rfl dL_law_1105 ?_
  refine r_aload_n F hl 0 rfl rfl dL_law_1106 ?_
  refine r_iload F hl 4 rfl dL_law_1107 ?_
  refine r_iconst F dL_law_1109 ?_
  refine r_iadd F dL_law_1110 ?_
  refine r_slda F X hS (by omega) dL_law_1111 ?_
  refine r_cVI F X 36 (by decide) (eK_36 G _) rfl (c_X5_limit l G τ1 N r n hs (sc xs (i + 1)) hM1 hW (sc_rg xs (i + 1))) gv_RL_152 rfl nd_X5_limit rfl (rest := [.int (I a1)]) rfl (Nat.le_of_ble_eq_true rfl) ⟨Nat.le_of_ble_eq_true rfl, Nat.le_of_ble_eq_true rfl⟩ ⟨Nat.le_of_succ_le hc1, Nat.le_of_add_right_le hc2⟩ hl.1 dL_law_1112 (fun a2 τ2 H locs h2 X => ?_)
  obtain ⟨he, hI2⟩ := ask_end h1 h2
  refine r_same F 1145 he (by decide) dL_law_1115 ?_
  exact W.widen (Nat.le_succ _) (Nat.le_add_right _ 6) (kk ls _ _ _ hI2 X hl)
theorem law_count (l : Launch) (hst9 : l.stackTraces = false) {p : Program} {e : Env} {s : State} {m : MethodId} {args : Array Value} {below : List Frame} {meth : Method} {c : Code} {H : Heap} {locs : List Loc} {cells slots : Nat} {Q : State → Prop} {ls : Array Slot} {G : GT} {σ : St} {b L : Nat} {xs : Nat → Int32} {i : Int} (F : FX G p m c code 8 s args RL) (hTX : TX G s s.heap) (hS : SX G b L xs s) (hI : IN2 σ) (X : HX G σ s H locs) (hl : lv_has ls 8 (LL G b i)) (hi : 0 ≤ i ∧ i + 4 ≤ L) (hc1 : cells + 1 ≤ 601024) (hc2 : slots + 6 ≤ 7293034) (kk : ∀ (ls : Array Slot) (σ : St) (H : Heap) (locs : List Loc), IN2 σ → HX G σ s H locs → lv_has ls 8 (LL G b i) → W p l e room_1 s m args below meth c H locs (cells + 1) (slots + 6) Q (F0 m 1145 ls [])) : W p l e room_1 s m args below meth c H locs cells slots Q (F0 m 1120 ls []) := by
  obtain ⟨N, r, n, hs, hC, hM⟩ := hI
  have hW := hC.2.1
  have hL9 := hS.2.2.2
  refine r_aload_n F hl 1 rfl rfl dL_law_1120 ?_
  refine r_aload_n F hl 0 rfl rfl dL_law_1121 ?_
  refine r_iload F hl 4 rfl dL_law_1122 ?_
  refine r_iconst F dL_law_1124 ?_
  refine r_iadd F dL_law_1125 ?_
  refine r_slda F X hS (by omega) dL_law_1126 ?_
  refine r_cVI F X 0 (by decide) (eK_0 G _) rfl (c_X4_count l G σ N r n hs (sc xs (i + 1)) hC (sc_rg xs (i + 1))) gv_RL_153 rfl nd_X4_count rfl (rest := []) rfl (Nat.le_of_ble_eq_true rfl) ⟨Nat.le_of_ble_eq_true rfl, Nat.le_of_ble_eq_true rfl⟩ ⟨Nat.le_of_succ_le hc1, Nat.le_of_add_right_le hc2⟩ hl.1 dL_law_1127 (fun a1 τ1 H locs h1 X => ?_)
  have hM1 : MX τ1 N r n hs := hM.keep (fun k a _ => h1.2.2 k a)
  refine r_aload_n F hl 2 rfl rfl dL_law_1130 ?_
  refine r_aload_n F hl 0 rfl rfl dL_law_1131 ?_
  refine r_iload F hl 4 rfl dL_law_1132 ?_
  refine r_iconst F dL_law_1134 ?_
  refine r_iadd F dL_law_1135 ?_
  refine r_slda F X hS (by omega) dL_law_1136 ?_
  refine r_cVI F X 36 (by decide) (eK_36 G _) rfl (c_X5_count l G τ1 N r n hs (sc xs (i + 1)) hM1 hW (sc_rg xs (i + 1))) gv_RL_156 rfl nd_X5_count rfl (rest := [.int (I a1)]) rfl (Nat.le_of_ble_eq_true rfl) ⟨Nat.le_of_ble_eq_true rfl, Nat.le_of_ble_eq_true rfl⟩ ⟨Nat.le_of_succ_le hc1, Nat.le_of_add_right_le hc2⟩ hl.1 dL_law_1137 (fun a2 τ2 H locs h2 X => ?_)
  obtain ⟨he, hI2⟩ := ask_end h1 h2
  refine r_same F 1145 he (by decide) dL_law_1140 ?_
  exact W.widen (Nat.le_succ _) (Nat.le_add_right _ 6) (kk ls _ _ _ hI2 X hl)
