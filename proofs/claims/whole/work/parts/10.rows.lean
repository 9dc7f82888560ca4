theorem fI_upd (c : ClassId) (n : Nat) (f : Int → Int) {a v : Int} (h : 0 ≤ a) : (.inl (c, n, .inl (upd (fun j : Nat => I (f (j : Int))) a.toNat (I v))) : va_E) = fI c n (upI f a v) := by
  unfold fI
  congr 4
  funext j
  unfold upd upI
  by_cases e : j = a.toNat
  · rw [if_pos e, if_pos (by omega)]
  · rw [if_neg e, if_neg (by omega)]
theorem fJ_upd (c : ClassId) (n : Nat) (f : Int → Int) {a v : Int} (h : 0 ≤ a) : (.inl (c, n, .inr (.inl (vp_updL (fun j : Nat => J (f (j : Int))) a.toNat (J v)))) : va_E) = fJ c n (upI f a v) := by
  unfold fJ
  congr 5
  funext j
  unfold vp_updL upI
  by_cases e : j = a.toNat
  · rw [if_pos e, if_pos (by omega)]
  · rw [if_neg e, if_neg (by omega)]
theorem I_bool {v : Int} (h : v = 0 ∨ v = 1) : vp_nar .boolean (I v) = I v := by rcases h with rfl | rfl <;> rfl
theorem lg_z {a b : Int} (ha : -9223372036854775808 ≤ a ∧ a < 9223372036854775808) (hb : -9223372036854775808 ≤ b ∧ b < 9223372036854775808) : ∃ z : Int, lg_cmp (J a) (J b) = I z ∧ ((b < a ∧ z = 1) ∨ (a = b ∧ z = 0) ∨ (a < b ∧ z = -1)) := by
  unfold lg_cmp
  simp only [gt_iff_lt, J_lt hb ha, J_eq ha hb]
  by_cases h1 : b < a
  · exact ⟨1, by rw [if_pos h1]; decide +kernel, by omega⟩
  · by_cases h2 : a = b
    · exact ⟨0, by rw [if_neg h1, if_pos h2]; decide +kernel, by omega⟩
    · exact ⟨-1, by rw [if_neg h1, if_neg h2]; decide +kernel, by omega⟩
theorem mt' {a b : Prop} (h : a → b) (n : ¬ b) : ¬ a := fun x => n (h x)
section RW
variable {p : Program} {l : Launch} {e : Env} {R : Room} {s : State} {m : MethodId} {args : Array Value} {below : List Frame} {meth : Method} {c : Code} {H : Heap} {locs : List Loc} {cells slots : Nat} {Q : State → Prop}
variable {cc : ByteArray} {nL pc : Nat} {ls : Array Slot} {rest : List Value} {own : String} {G : GT} {σ : St}
theorem r_iconst (F : FX G p m c cc nL s args own) {n : Int} (hdg : decode cc pc = .ok (.iconst n, 1)) (k : W p l e R s m args below meth c H locs cells slots Q (F0 m (pc + 1) ls (.int (I n) :: rest))) : W p l e R s m args below meth c H locs cells slots Q (F0 m pc ls (rest)) := by
  exact lv_iconst F.1.1 F.1.2.1 hdg rfl k
theorem r_bipush (F : FX G p m c cc nL s args own) {n : Int} (h : -128 ≤ n ∧ n < 128) (hdg : decode cc pc = .ok (.bipush n, 2)) (k : W p l e R s m args below meth c H locs cells slots Q (F0 m (pc + 2) ls (.int (I n) :: rest))) : W p l e R s m args below meth c H locs cells slots Q (F0 m pc ls (rest)) := by
  exact lv_bipush F.1.1 F.1.2.1 hdg (I_8 h) k
theorem r_sipush (F : FX G p m c cc nL s args own) {n : Int} (h : -32768 ≤ n ∧ n < 32768) (hdg : decode cc pc = .ok (.sipush n, 3)) (k : W p l e R s m args below meth c H locs cells slots Q (F0 m (pc + 3) ls (.int (I n) :: rest))) : W p l e R s m args below meth c H locs cells slots Q (F0 m pc ls (rest)) := by
  exact lv_sipush F.1.1 F.1.2.1 hdg (I_16 h) k
theorem r_lconst (F : FX G p m c cc nL s args own) {n : Fin 2} (v : Int) (h : Int64.ofNat (n : Nat) = J v) (hdg : decode cc pc = .ok (.lconst n, 1)) (k : W p l e R s m args below meth c H locs cells slots Q (F0 m (pc + 1) ls (.long (J v) :: rest))) : W p l e R s m args below meth c H locs cells slots Q (F0 m pc ls (rest)) := by
  exact lv_lconst F.1.1 F.1.2.1 hdg h k
theorem r_ldc2 (F : FX G p m c cc nL s args own) {ix : Nat} {x : Int64} (v : Int) (hc : Cond.constantLong own ix x ∈ BIG) (h : x = J v) (hdg : decode cc pc = .ok (.ldc2_w ix, 3)) (k : W p l e R s m args below meth c H locs cells slots Q (F0 m (pc + 3) ls (.long (J v) :: rest))) : W p l e R s m args below meth c H locs cells slots Q (F0 m pc ls (rest)) := by
  rw [← h] at k
  exact lv_ldc2 F.1.1 F.1.2.1 F.1.2.2.2.1 (F.1.2.2.2.2 _ hc) hdg k
theorem r_iload_n (F : FX G p m c cc nL s args own) {L : List (Nat × Value)} (hl : lv_has ls nL L) {q : Fin 4} (j : Nat) {i : Nat} {x : Int32} (hj : L[j]? = some (i, .int x)) (hi : (q : Nat) = i) (hdg : decode cc pc = .ok (.iload_n q, 1)) (k : W p l e R s m args below meth c H locs cells slots Q (F0 m (pc + 1) ls (.int x :: rest))) : W p l e R s m args below meth c H locs cells slots Q (F0 m pc ls (rest)) := by
  exact lv_iload_n F.1.1 F.1.2.1 hdg hi (lv_at hl j hj) k
theorem r_iload (F : FX G p m c cc nL s args own) {L : List (Nat × Value)} (hl : lv_has ls nL L) (j : Nat) {i : Nat} {x : Int32} (hj : L[j]? = some (i, .int x)) (hdg : decode cc pc = .ok (.iload i, 2)) (k : W p l e R s m args below meth c H locs cells slots Q (F0 m (pc + 2) ls (.int x :: rest))) : W p l e R s m args below meth c H locs cells slots Q (F0 m pc ls (rest)) := by
  exact lv_iload F.1.1 F.1.2.1 hdg (lv_at hl j hj) k
theorem r_lload_n (F : FX G p m c cc nL s args own) {L : List (Nat × Value)} (hl : lv_has ls nL L) {q : Fin 4} (j : Nat) {i : Nat} {x : Int64} (hj : L[j]? = some (i, .long x)) (hi : (q : Nat) = i) (hdg : decode cc pc = .ok (.lload_n q, 1)) (k : W p l e R s m args below meth c H locs cells slots Q (F0 m (pc + 1) ls (.long x :: rest))) : W p l e R s m args below meth c H locs cells slots Q (F0 m pc ls (rest)) := by
  exact lv_lload_n F.1.1 F.1.2.1 hdg hi (lv_at hl j hj) k
theorem r_lload (F : FX G p m c cc nL s args own) {L : List (Nat × Value)} (hl : lv_has ls nL L) (j : Nat) {i : Nat} {x : Int64} (hj : L[j]? = some (i, .long x)) (hdg : decode cc pc = .ok (.lload i, 2)) (k : W p l e R s m args below meth c H locs cells slots Q (F0 m (pc + 2) ls (.long x :: rest))) : W p l e R s m args below meth c H locs cells slots Q (F0 m pc ls (rest)) := by
  exact lv_lload F.1.1 F.1.2.1 hdg (lv_at hl j hj) k
theorem r_aload_n (F : FX G p m c cc nL s args own) {L : List (Nat × Value)} (hl : lv_has ls nL L) {q : Fin 4} (j : Nat) {i : Nat} {x : Nat} (hj : L[j]? = some (i, .ref x)) (hi : (q : Nat) = i) (hdg : decode cc pc = .ok (.aload_n q, 1)) (k : W p l e R s m args below meth c H locs cells slots Q (F0 m (pc + 1) ls (.ref x :: rest))) : W p l e R s m args below meth c H locs cells slots Q (F0 m pc ls (rest)) := by
  exact lv_aload_n F.1.1 F.1.2.1 hdg hi (lv_at hl j hj) k
theorem r_aload (F : FX G p m c cc nL s args own) {L : List (Nat × Value)} (hl : lv_has ls nL L) (j : Nat) {i : Nat} {x : Nat} (hj : L[j]? = some (i, .ref x)) (hdg : decode cc pc = .ok (.aload i, 2)) (k : W p l e R s m args below meth c H locs cells slots Q (F0 m (pc + 2) ls (.ref x :: rest))) : W p l e R s m args below meth c H locs cells slots Q (F0 m pc ls (rest)) := by
  exact lv_aload F.1.1 F.1.2.1 hdg (lv_at hl j hj) k
theorem r_istore_n (F : FX G p m c cc nL s args own) {L : List (Nat × Value)} (hl : lv_has ls nL L) {q : Fin 4} {i : Nat} {x : Int32} (L' : List (Nat × Value)) (hi : (q : Nat) = i) (hn : i < nL) (hL : (i, Value.int x) :: L.filter (fun q => !(q.1 == i) && !(q.1 + 1 == i && q.2.category == 2)) = L') (hdg : decode cc pc = .ok (.istore_n q, 1)) (k : ∀ ls : Array Slot, lv_has ls nL L' → W p l e R s m args below meth c H locs cells slots Q (F0 m (pc + 1) ls rest)) : W p l e R s m args below meth c H locs cells slots Q (F0 m pc ls (.int x :: rest)) := by
  exact lv_istore_n F.1.1 F.1.2.1 hdg hi hl hn hL k
theorem r_istore (F : FX G p m c cc nL s args own) {L : List (Nat × Value)} (hl : lv_has ls nL L) {i : Nat} {x : Int32} (L' : List (Nat × Value)) (hn : i < nL) (hL : (i, Value.int x) :: L.filter (fun q => !(q.1 == i) && !(q.1 + 1 == i && q.2.category == 2)) = L') (hdg : decode cc pc = .ok (.istore i, 2)) (k : ∀ ls : Array Slot, lv_has ls nL L' → W p l e R s m args below meth c H locs cells slots Q (F0 m (pc + 2) ls rest)) : W p l e R s m args below meth c H locs cells slots Q (F0 m pc ls (.int x :: rest)) := by
  exact lv_istore F.1.1 F.1.2.1 hdg hl hn hL k
theorem r_lstore_n (F : FX G p m c cc nL s args own) {L : List (Nat × Value)} (hl : lv_has ls nL L) {q : Fin 4} {i : Nat} {x : Int64} (L' : List (Nat × Value)) (hi : (q : Nat) = i) (hn : i + 1 < nL) (hL : (i, Value.long x) :: L.filter (fun q => !(q.1 == i) && (!(q.1 == i + 1) && !(q.1 + 1 == i && q.2.category == 2))) = L') (hdg : decode cc pc = .ok (.lstore_n q, 1)) (k : ∀ ls : Array Slot, lv_has ls nL L' → W p l e R s m args below meth c H locs cells slots Q (F0 m (pc + 1) ls rest)) : W p l e R s m args below meth c H locs cells slots Q (F0 m pc ls (.long x :: rest)) := by
  exact lv_lstore_n F.1.1 F.1.2.1 hdg hi hl hn hL k
theorem r_lstore (F : FX G p m c cc nL s args own) {L : List (Nat × Value)} (hl : lv_has ls nL L) {i : Nat} {x : Int64} (L' : List (Nat × Value)) (hn : i + 1 < nL) (hL : (i, Value.long x) :: L.filter (fun q => !(q.1 == i) && (!(q.1 == i + 1) && !(q.1 + 1 == i && q.2.category == 2))) = L') (hdg : decode cc pc = .ok (.lstore i, 2)) (k : ∀ ls : Array Slot, lv_has ls nL L' → W p l e R s m args below meth c H locs cells slots Q (F0 m (pc + 2) ls rest)) : W p l e R s m args below meth c H locs cells slots Q (F0 m pc ls (.long x :: rest)) := by
  exact lv_lstore F.1.1 F.1.2.1 hdg hl hn hL k
theorem r_astore_n (F : FX G p m c cc nL s args own) {L : List (Nat × Value)} (hl : lv_has ls nL L) {q : Fin 4} {i : Nat} {x : Nat} (L' : List (Nat × Value)) (hi : (q : Nat) = i) (hn : i < nL) (hL : (i, Value.ref x) :: L.filter (fun q => !(q.1 == i) && !(q.1 + 1 == i && q.2.category == 2)) = L') (hdg : decode cc pc = .ok (.astore_n q, 1)) (k : ∀ ls : Array Slot, lv_has ls nL L' → W p l e R s m args below meth c H locs cells slots Q (F0 m (pc + 1) ls rest)) : W p l e R s m args below meth c H locs cells slots Q (F0 m pc ls (.ref x :: rest)) := by
  exact lv_astore_n F.1.1 F.1.2.1 hdg hi hl hn hL k
theorem r_astore (F : FX G p m c cc nL s args own) {L : List (Nat × Value)} (hl : lv_has ls nL L) {i : Nat} {x : Nat} (L' : List (Nat × Value)) (hn : i < nL) (hL : (i, Value.ref x) :: L.filter (fun q => !(q.1 == i) && !(q.1 + 1 == i && q.2.category == 2)) = L') (hdg : decode cc pc = .ok (.astore i, 2)) (k : ∀ ls : Array Slot, lv_has ls nL L' → W p l e R s m args below meth c H locs cells slots Q (F0 m (pc + 2) ls rest)) : W p l e R s m args below meth c H locs cells slots Q (F0 m pc ls (.ref x :: rest)) := by
  exact lv_astore F.1.1 F.1.2.1 hdg hl hn hL k
theorem r_iinc (F : FX G p m c cc nL s args own) {L : List (Nat × Value)} (hl : lv_has ls nL L) {i : Nat} {n a : Int} (L' : List (Nat × Value)) (j : Nat) (hj : L[j]? = some (i, .int (I a))) (hn : i < nL) (hL : (i, Value.int (I (a + n))) :: L.filter (fun q => !(q.1 == i) && !(q.1 + 1 == i && q.2.category == 2)) = L') (hdg : decode cc pc = .ok (.iinc i n, 3)) (k : ∀ ls : Array Slot, lv_has ls nL L' → W p l e R s m args below meth c H locs cells slots Q (F0 m (pc + 3) ls rest)) : W p l e R s m args below meth c H locs cells slots Q (F0 m pc ls rest) := by
  exact lv_iinc F.1.1 F.1.2.1 hdg hl hj (I_add a n) hn hL k
theorem r_iadd (F : FX G p m c cc nL s args own) {a b : Int} (hdg : decode cc pc = .ok (.iadd, 1)) (k : W p l e R s m args below meth c H locs cells slots Q (F0 m (pc + 1) ls (.int (I (a + b)) :: rest))) : W p l e R s m args below meth c H locs cells slots Q (F0 m pc ls (.int (I b) :: .int (I a) :: rest)) := by
  refine lv_iadd F.1.1 F.1.2.1 hdg ?_
  rw [I_add]
  exact k
theorem r_isub (F : FX G p m c cc nL s args own) {a b : Int} (hdg : decode cc pc = .ok (.isub, 1)) (k : W p l e R s m args below meth c H locs cells slots Q (F0 m (pc + 1) ls (.int (I (a - b)) :: rest))) : W p l e R s m args below meth c H locs cells slots Q (F0 m pc ls (.int (I b) :: .int (I a) :: rest)) := by
  refine lv_isub F.1.1 F.1.2.1 hdg ?_
  rw [I_sub]
  exact k
theorem r_imul (F : FX G p m c cc nL s args own) {a b : Int} (hdg : decode cc pc = .ok (.imul, 1)) (k : W p l e R s m args below meth c H locs cells slots Q (F0 m (pc + 1) ls (.int (I (a * b)) :: rest))) : W p l e R s m args below meth c H locs cells slots Q (F0 m pc ls (.int (I b) :: .int (I a) :: rest)) := by
  refine lv_imul F.1.1 F.1.2.1 hdg ?_
  rw [I_mul]
  exact k
theorem r_ladd (F : FX G p m c cc nL s args own) {a b : Int} (hdg : decode cc pc = .ok (.ladd, 1)) (k : W p l e R s m args below meth c H locs cells slots Q (F0 m (pc + 1) ls (.long (J (a + b)) :: rest))) : W p l e R s m args below meth c H locs cells slots Q (F0 m pc ls (.long (J b) :: .long (J a) :: rest)) := by
  refine lv_ladd F.1.1 F.1.2.1 hdg ?_
  rw [J_add]
  exact k
theorem r_lsub (F : FX G p m c cc nL s args own) {a b : Int} (hdg : decode cc pc = .ok (.lsub, 1)) (k : W p l e R s m args below meth c H locs cells slots Q (F0 m (pc + 1) ls (.long (J (a - b)) :: rest))) : W p l e R s m args below meth c H locs cells slots Q (F0 m pc ls (.long (J b) :: .long (J a) :: rest)) := by
  refine lv_lsub F.1.1 F.1.2.1 hdg ?_
  rw [J_sub]
  exact k
theorem r_lmul (F : FX G p m c cc nL s args own) {a b : Int} (hdg : decode cc pc = .ok (.lmul, 1)) (k : W p l e R s m args below meth c H locs cells slots Q (F0 m (pc + 1) ls (.long (J (a * b)) :: rest))) : W p l e R s m args below meth c H locs cells slots Q (F0 m pc ls (.long (J b) :: .long (J a) :: rest)) := by
  refine lv_lmul F.1.1 F.1.2.1 hdg ?_
  rw [J_mul]
  exact k
theorem r_ineg (F : FX G p m c cc nL s args own) {a : Int} (hdg : decode cc pc = .ok (.ineg, 1)) (k : W p l e R s m args below meth c H locs cells slots Q (F0 m (pc + 1) ls (.int (I (-a)) :: rest))) : W p l e R s m args below meth c H locs cells slots Q (F0 m pc ls (.int (I a) :: rest)) := by
  refine lv_ineg F.1.1 F.1.2.1 hdg ?_
  rw [I_neg]
  exact k
theorem r_lneg (F : FX G p m c cc nL s args own) {a : Int} (hdg : decode cc pc = .ok (.lneg, 1)) (k : W p l e R s m args below meth c H locs cells slots Q (F0 m (pc + 1) ls (.long (J (-a)) :: rest))) : W p l e R s m args below meth c H locs cells slots Q (F0 m pc ls (.long (J a) :: rest)) := by
  refine lv_lneg F.1.1 F.1.2.1 hdg ?_
  rw [J_neg]
  exact k
theorem r_ldiv (F : FX G p m c cc nL s args own) {a b : Int} (ha : -9223372036854775808 < a ∧ a < 9223372036854775808) (hb : 0 < b ∧ b < 9223372036854775808) (hdg : decode cc pc = .ok (.ldiv, 1)) (k : W p l e R s m args below meth c H locs cells slots Q (F0 m (pc + 1) ls (.long (J (a.tdiv b)) :: rest))) : W p l e R s m args below meth c H locs cells slots Q (F0 m pc ls (.long (J b) :: .long (J a) :: rest)) := by
  refine lv_ldiv F.1.1 F.1.2.1 hdg (J_ne0 (by omega) (by omega)) ?_
  rw [J_div ha hb]
  exact k
theorem r_lrem (F : FX G p m c cc nL s args own) {a b : Int} (ha : -9223372036854775808 < a ∧ a < 9223372036854775808) (hb : 0 < b ∧ b < 9223372036854775808) (hdg : decode cc pc = .ok (.lrem, 1)) (k : W p l e R s m args below meth c H locs cells slots Q (F0 m (pc + 1) ls (.long (J (a.tmod b)) :: rest))) : W p l e R s m args below meth c H locs cells slots Q (F0 m pc ls (.long (J b) :: .long (J a) :: rest)) := by
  refine lv_lrem F.1.1 F.1.2.1 hdg (J_ne0 (by omega) (by omega)) ?_
  rw [J_div ha hb, J_mul, J_sub, show a - a.tdiv b * b = a.tmod b by have := Int.tmod_add_mul_tdiv a b; rw [Int.mul_comm] at this; omega]
  exact k
theorem r_irem (F : FX G p m c cc nL s args own) {a b : Int} (ha : -2147483648 < a ∧ a < 2147483648) (hb : 0 < b ∧ b < 2147483648) (hdg : decode cc pc = .ok (.irem, 1)) (k : W p l e R s m args below meth c H locs cells slots Q (F0 m (pc + 1) ls (.int (I (a.tmod b)) :: rest))) : W p l e R s m args below meth c H locs cells slots Q (F0 m pc ls (.int (I b) :: .int (I a) :: rest)) := by
  refine lv_irem F.1.1 F.1.2.1 hdg (I_ne0 (by omega) (by omega)) ?_
  rw [I_div ha hb, I_mul, I_sub, show a - a.tdiv b * b = a.tmod b by have := Int.tmod_add_mul_tdiv a b; rw [Int.mul_comm] at this; omega]
  exact k
theorem r_i2l (F : FX G p m c cc nL s args own) {a : Int} (h : -2147483648 ≤ a ∧ a < 2147483648) (hdg : decode cc pc = .ok (.i2l, 1)) (k : W p l e R s m args below meth c H locs cells slots Q (F0 m (pc + 1) ls (.long (J a) :: rest))) : W p l e R s m args below meth c H locs cells slots Q (F0 m pc ls (.int (I a) :: rest)) := by
  exact lv_i2l F.1.1 F.1.2.1 hdg (I_J h) k
theorem r_l2i (F : FX G p m c cc nL s args own) {a : Int} (hdg : decode cc pc = .ok (.l2i, 1)) (k : W p l e R s m args below meth c H locs cells slots Q (F0 m (pc + 1) ls (.int (I a) :: rest))) : W p l e R s m args below meth c H locs cells slots Q (F0 m pc ls (.long (J a) :: rest)) := by
  exact lv_l2i F.1.1 F.1.2.1 hdg (J_I a) k
theorem r_dup (F : FX G p m c cc nL s args own) {va : Value} (hva : va.category = 1) (hdg : decode cc pc = .ok (.dup, 1)) (k : W p l e R s m args below meth c H locs cells slots Q (F0 m (pc + 1) ls (va :: va :: rest))) : W p l e R s m args below meth c H locs cells slots Q (F0 m pc ls (va :: rest)) := by
  exact lv_dup F.1.1 F.1.2.1 hdg hva k
theorem r_dup2 (F : FX G p m c cc nL s args own) {va vb : Value} (hva : va.category = 1) (hvb : vb.category = 1) (hdg : decode cc pc = .ok (.dup2, 1)) (k : W p l e R s m args below meth c H locs cells slots Q (F0 m (pc + 1) ls (va :: vb :: va :: vb :: rest))) : W p l e R s m args below meth c H locs cells slots Q (F0 m pc ls (va :: vb :: rest)) := by
  exact lv_dup2_11 F.1.1 F.1.2.1 hdg hva hvb k
theorem r_goto (F : FX G p m c cc nL s args own) {off : Int} (tgt : Nat) (ht : (pc : Int) + off = (tgt : Int)) (hdg : decode cc pc = .ok (.goto off, 3)) (k : W p l e R s m args below meth c H locs cells slots Q (F0 m tgt ls rest)) : W p l e R s m args below meth c H locs cells slots Q (F0 m pc ls rest) := lv_goto F.1.1 F.1.2.1 hdg ht k
theorem r_icmp_eq (F : FX G p m c cc nL s args own) {off : Int} (tgt : Nat) {a b : Int} (ht : (pc : Int) + off = (tgt : Int)) (ha : -2147483648 ≤ a ∧ a < 2147483648) (hb : -2147483648 ≤ b ∧ b < 2147483648) (hdg : decode cc pc = .ok (.if_icmp .eq off, 3)) (kt : a = b → W p l e R s m args below meth c H locs cells slots Q (F0 m tgt ls rest)) (kf : a ≠ b → W p l e R s m args below meth c H locs cells slots Q (F0 m (pc + 3) ls rest)) : W p l e R s m args below meth c H locs cells slots Q (F0 m pc ls (.int (I b) :: .int (I a) :: rest)) := lv_icmp_eq F.1.1 F.1.2.1 hdg ht (fun h => kt ((I_eq ha hb).mp h)) (fun h => kf (fun e => h ((I_eq ha hb).mpr e)))
theorem r_icmp_ne (F : FX G p m c cc nL s args own) {off : Int} (tgt : Nat) {a b : Int} (ht : (pc : Int) + off = (tgt : Int)) (ha : -2147483648 ≤ a ∧ a < 2147483648) (hb : -2147483648 ≤ b ∧ b < 2147483648) (hdg : decode cc pc = .ok (.if_icmp .ne off, 3)) (kt : a ≠ b → W p l e R s m args below meth c H locs cells slots Q (F0 m tgt ls rest)) (kf : a = b → W p l e R s m args below meth c H locs cells slots Q (F0 m (pc + 3) ls rest)) : W p l e R s m args below meth c H locs cells slots Q (F0 m pc ls (.int (I b) :: .int (I a) :: rest)) := lv_icmp_ne F.1.1 F.1.2.1 hdg ht (fun h => kt (fun e => h ((I_eq ha hb).mpr e))) (fun h => kf ((I_eq ha hb).mp h))
theorem r_icmp_lt (F : FX G p m c cc nL s args own) {off : Int} (tgt : Nat) {a b : Int} (ht : (pc : Int) + off = (tgt : Int)) (ha : -2147483648 ≤ a ∧ a < 2147483648) (hb : -2147483648 ≤ b ∧ b < 2147483648) (hdg : decode cc pc = .ok (.if_icmp .lt off, 3)) (kt : a < b → W p l e R s m args below meth c H locs cells slots Q (F0 m tgt ls rest)) (kf : b ≤ a → W p l e R s m args below meth c H locs cells slots Q (F0 m (pc + 3) ls rest)) : W p l e R s m args below meth c H locs cells slots Q (F0 m pc ls (.int (I b) :: .int (I a) :: rest)) := lv_icmp_lt F.1.1 F.1.2.1 hdg ht (fun h => kt ((I_lt ha hb).mp h)) (fun h => kf (by have h2 := mt' ((I_lt ha hb).mpr) h; omega))
theorem r_icmp_ge (F : FX G p m c cc nL s args own) {off : Int} (tgt : Nat) {a b : Int} (ht : (pc : Int) + off = (tgt : Int)) (ha : -2147483648 ≤ a ∧ a < 2147483648) (hb : -2147483648 ≤ b ∧ b < 2147483648) (hdg : decode cc pc = .ok (.if_icmp .ge off, 3)) (kt : b ≤ a → W p l e R s m args below meth c H locs cells slots Q (F0 m tgt ls rest)) (kf : a < b → W p l e R s m args below meth c H locs cells slots Q (F0 m (pc + 3) ls rest)) : W p l e R s m args below meth c H locs cells slots Q (F0 m pc ls (.int (I b) :: .int (I a) :: rest)) := lv_icmp_ge F.1.1 F.1.2.1 hdg ht (fun h => kt ((I_le hb ha).mp h)) (fun h => kf (by have h2 := mt' ((I_le hb ha).mpr) h; omega))
theorem r_icmp_gt (F : FX G p m c cc nL s args own) {off : Int} (tgt : Nat) {a b : Int} (ht : (pc : Int) + off = (tgt : Int)) (ha : -2147483648 ≤ a ∧ a < 2147483648) (hb : -2147483648 ≤ b ∧ b < 2147483648) (hdg : decode cc pc = .ok (.if_icmp .gt off, 3)) (kt : b < a → W p l e R s m args below meth c H locs cells slots Q (F0 m tgt ls rest)) (kf : a ≤ b → W p l e R s m args below meth c H locs cells slots Q (F0 m (pc + 3) ls rest)) : W p l e R s m args below meth c H locs cells slots Q (F0 m pc ls (.int (I b) :: .int (I a) :: rest)) := lv_icmp_gt F.1.1 F.1.2.1 hdg ht (fun h => kt ((I_lt hb ha).mp h)) (fun h => kf (by have h2 := mt' ((I_lt hb ha).mpr) h; omega))
theorem r_icmp_le (F : FX G p m c cc nL s args own) {off : Int} (tgt : Nat) {a b : Int} (ht : (pc : Int) + off = (tgt : Int)) (ha : -2147483648 ≤ a ∧ a < 2147483648) (hb : -2147483648 ≤ b ∧ b < 2147483648) (hdg : decode cc pc = .ok (.if_icmp .le off, 3)) (kt : a ≤ b → W p l e R s m args below meth c H locs cells slots Q (F0 m tgt ls rest)) (kf : b < a → W p l e R s m args below meth c H locs cells slots Q (F0 m (pc + 3) ls rest)) : W p l e R s m args below meth c H locs cells slots Q (F0 m pc ls (.int (I b) :: .int (I a) :: rest)) := lv_icmp_le F.1.1 F.1.2.1 hdg ht (fun h => kt ((I_le ha hb).mp h)) (fun h => kf (by have h2 := mt' ((I_le ha hb).mpr) h; omega))
theorem r_if_eq (F : FX G p m c cc nL s args own) {off : Int} (tgt : Nat) {a : Int} (ht : (pc : Int) + off = (tgt : Int)) (ha : -2147483648 ≤ a ∧ a < 2147483648) (hdg : decode cc pc = .ok (.ifCond .eq off, 3)) (kt : a = 0 → W p l e R s m args below meth c H locs cells slots Q (F0 m tgt ls rest)) (kf : a ≠ 0 → W p l e R s m args below meth c H locs cells slots Q (F0 m (pc + 3) ls rest)) : W p l e R s m args below meth c H locs cells slots Q (F0 m pc ls (.int (I a) :: rest)) := lv_if_eq F.1.1 F.1.2.1 hdg ht (fun h => kt ((I_eq ha (show -2147483648 ≤ (0 : Int) ∧ (0 : Int) < 2147483648 by omega)).mp (h.trans I_0))) (fun h => kf (fun e => h (((I_eq ha (show -2147483648 ≤ (0 : Int) ∧ (0 : Int) < 2147483648 by omega)).mpr e).trans I_0.symm)))
theorem r_if_ne (F : FX G p m c cc nL s args own) {off : Int} (tgt : Nat) {a : Int} (ht : (pc : Int) + off = (tgt : Int)) (ha : -2147483648 ≤ a ∧ a < 2147483648) (hdg : decode cc pc = .ok (.ifCond .ne off, 3)) (kt : a ≠ 0 → W p l e R s m args below meth c H locs cells slots Q (F0 m tgt ls rest)) (kf : a = 0 → W p l e R s m args below meth c H locs cells slots Q (F0 m (pc + 3) ls rest)) : W p l e R s m args below meth c H locs cells slots Q (F0 m pc ls (.int (I a) :: rest)) := lv_if_ne F.1.1 F.1.2.1 hdg ht (fun h => kt (fun e => h (((I_eq ha (show -2147483648 ≤ (0 : Int) ∧ (0 : Int) < 2147483648 by omega)).mpr e).trans I_0.symm))) (fun h => kf ((I_eq ha (show -2147483648 ≤ (0 : Int) ∧ (0 : Int) < 2147483648 by omega)).mp (h.trans I_0)))
theorem r_if_lt (F : FX G p m c cc nL s args own) {off : Int} (tgt : Nat) {a : Int} (ht : (pc : Int) + off = (tgt : Int)) (ha : -2147483648 ≤ a ∧ a < 2147483648) (hdg : decode cc pc = .ok (.ifCond .lt off, 3)) (kt : a < 0 → W p l e R s m args below meth c H locs cells slots Q (F0 m tgt ls rest)) (kf : 0 ≤ a → W p l e R s m args below meth c H locs cells slots Q (F0 m (pc + 3) ls rest)) : W p l e R s m args below meth c H locs cells slots Q (F0 m pc ls (.int (I a) :: rest)) := lv_if_lt F.1.1 F.1.2.1 hdg ht (fun h => kt ((I_lt ha (show -2147483648 ≤ (0 : Int) ∧ (0 : Int) < 2147483648 by omega)).mp (by rw [← I_0]; exact h))) (fun h => kf (by have h2 := mt' ((I_lt ha (show -2147483648 ≤ (0 : Int) ∧ (0 : Int) < 2147483648 by omega)).mpr) (by rw [← I_0]; exact h); omega))
theorem r_if_ge (F : FX G p m c cc nL s args own) {off : Int} (tgt : Nat) {a : Int} (ht : (pc : Int) + off = (tgt : Int)) (ha : -2147483648 ≤ a ∧ a < 2147483648) (hdg : decode cc pc = .ok (.ifCond .ge off, 3)) (kt : 0 ≤ a → W p l e R s m args below meth c H locs cells slots Q (F0 m tgt ls rest)) (kf : a < 0 → W p l e R s m args below meth c H locs cells slots Q (F0 m (pc + 3) ls rest)) : W p l e R s m args below meth c H locs cells slots Q (F0 m pc ls (.int (I a) :: rest)) := lv_if_ge F.1.1 F.1.2.1 hdg ht (fun h => kt ((I_le (show -2147483648 ≤ (0 : Int) ∧ (0 : Int) < 2147483648 by omega) ha).mp (by rw [← I_0]; exact h))) (fun h => kf (by have h2 := mt' ((I_le (show -2147483648 ≤ (0 : Int) ∧ (0 : Int) < 2147483648 by omega) ha).mpr) (by rw [← I_0]; exact h); omega))
theorem r_if_gt (F : FX G p m c cc nL s args own) {off : Int} (tgt : Nat) {a : Int} (ht : (pc : Int) + off = (tgt : Int)) (ha : -2147483648 ≤ a ∧ a < 2147483648) (hdg : decode cc pc = .ok (.ifCond .gt off, 3)) (kt : 0 < a → W p l e R s m args below meth c H locs cells slots Q (F0 m tgt ls rest)) (kf : a ≤ 0 → W p l e R s m args below meth c H locs cells slots Q (F0 m (pc + 3) ls rest)) : W p l e R s m args below meth c H locs cells slots Q (F0 m pc ls (.int (I a) :: rest)) := lv_if_gt F.1.1 F.1.2.1 hdg ht (fun h => kt ((I_lt (show -2147483648 ≤ (0 : Int) ∧ (0 : Int) < 2147483648 by omega) ha).mp (by rw [← I_0]; exact h))) (fun h => kf (by have h2 := mt' ((I_lt (show -2147483648 ≤ (0 : Int) ∧ (0 : Int) < 2147483648 by omega) ha).mpr) (by rw [← I_0]; exact h); omega))
theorem r_if_le (F : FX G p m c cc nL s args own) {off : Int} (tgt : Nat) {a : Int} (ht : (pc : Int) + off = (tgt : Int)) (ha : -2147483648 ≤ a ∧ a < 2147483648) (hdg : decode cc pc = .ok (.ifCond .le off, 3)) (kt : a ≤ 0 → W p l e R s m args below meth c H locs cells slots Q (F0 m tgt ls rest)) (kf : 0 < a → W p l e R s m args below meth c H locs cells slots Q (F0 m (pc + 3) ls rest)) : W p l e R s m args below meth c H locs cells slots Q (F0 m pc ls (.int (I a) :: rest)) := lv_if_le F.1.1 F.1.2.1 hdg ht (fun h => kt ((I_le ha (show -2147483648 ≤ (0 : Int) ∧ (0 : Int) < 2147483648 by omega)).mp (by rw [← I_0]; exact h))) (fun h => kf (by have h2 := mt' ((I_le ha (show -2147483648 ≤ (0 : Int) ∧ (0 : Int) < 2147483648 by omega)).mpr) (by rw [← I_0]; exact h); omega))
theorem r_lcmp_eq (F : FX G p m c cc nL s args own) {off : Int} (tgt : Nat) {a b : Int} (ht : ((pc + 1 : Nat) : Int) + off = (tgt : Int)) (ha : -9223372036854775808 ≤ a ∧ a < 9223372036854775808) (hb : -9223372036854775808 ≤ b ∧ b < 9223372036854775808) (hdg : decode cc pc = .ok (.lcmp, 1)) (hdg2 : decode cc (pc + 1) = .ok (.ifCond .eq off, 3)) (kt : a = b → W p l e R s m args below meth c H locs cells slots Q (F0 m tgt ls rest)) (kf : a ≠ b → W p l e R s m args below meth c H locs cells slots Q (F0 m (pc + 4) ls rest)) : W p l e R s m args below meth c H locs cells slots Q (F0 m pc ls (.long (J b) :: .long (J a) :: rest)) := by
  refine W.lcmp F.1.1 F.1.2.1 hdg ?_
  obtain ⟨z, hz, hc⟩ := lg_z ha hb
  rw [hz]
  exact r_if_eq F tgt ht (by omega) hdg2 (fun h => kt (by omega)) (fun h => kf (by omega))
theorem r_lcmp_ne (F : FX G p m c cc nL s args own) {off : Int} (tgt : Nat) {a b : Int} (ht : ((pc + 1 : Nat) : Int) + off = (tgt : Int)) (ha : -9223372036854775808 ≤ a ∧ a < 9223372036854775808) (hb : -9223372036854775808 ≤ b ∧ b < 9223372036854775808) (hdg : decode cc pc = .ok (.lcmp, 1)) (hdg2 : decode cc (pc + 1) = .ok (.ifCond .ne off, 3)) (kt : a ≠ b → W p l e R s m args below meth c H locs cells slots Q (F0 m tgt ls rest)) (kf : a = b → W p l e R s m args below meth c H locs cells slots Q (F0 m (pc + 4) ls rest)) : W p l e R s m args below meth c H locs cells slots Q (F0 m pc ls (.long (J b) :: .long (J a) :: rest)) := by
  refine W.lcmp F.1.1 F.1.2.1 hdg ?_
  obtain ⟨z, hz, hc⟩ := lg_z ha hb
  rw [hz]
  exact r_if_ne F tgt ht (by omega) hdg2 (fun h => kt (by omega)) (fun h => kf (by omega))
theorem r_lcmp_lt (F : FX G p m c cc nL s args own) {off : Int} (tgt : Nat) {a b : Int} (ht : ((pc + 1 : Nat) : Int) + off = (tgt : Int)) (ha : -9223372036854775808 ≤ a ∧ a < 9223372036854775808) (hb : -9223372036854775808 ≤ b ∧ b < 9223372036854775808) (hdg : decode cc pc = .ok (.lcmp, 1)) (hdg2 : decode cc (pc + 1) = .ok (.ifCond .lt off, 3)) (kt : a < b → W p l e R s m args below meth c H locs cells slots Q (F0 m tgt ls rest)) (kf : b ≤ a → W p l e R s m args below meth c H locs cells slots Q (F0 m (pc + 4) ls rest)) : W p l e R s m args below meth c H locs cells slots Q (F0 m pc ls (.long (J b) :: .long (J a) :: rest)) := by
  refine W.lcmp F.1.1 F.1.2.1 hdg ?_
  obtain ⟨z, hz, hc⟩ := lg_z ha hb
  rw [hz]
  exact r_if_lt F tgt ht (by omega) hdg2 (fun h => kt (by omega)) (fun h => kf (by omega))
theorem r_lcmp_ge (F : FX G p m c cc nL s args own) {off : Int} (tgt : Nat) {a b : Int} (ht : ((pc + 1 : Nat) : Int) + off = (tgt : Int)) (ha : -9223372036854775808 ≤ a ∧ a < 9223372036854775808) (hb : -9223372036854775808 ≤ b ∧ b < 9223372036854775808) (hdg : decode cc pc = .ok (.lcmp, 1)) (hdg2 : decode cc (pc + 1) = .ok (.ifCond .ge off, 3)) (kt : b ≤ a → W p l e R s m args below meth c H locs cells slots Q (F0 m tgt ls rest)) (kf : a < b → W p l e R s m args below meth c H locs cells slots Q (F0 m (pc + 4) ls rest)) : W p l e R s m args below meth c H locs cells slots Q (F0 m pc ls (.long (J b) :: .long (J a) :: rest)) := by
  refine W.lcmp F.1.1 F.1.2.1 hdg ?_
  obtain ⟨z, hz, hc⟩ := lg_z ha hb
  rw [hz]
  exact r_if_ge F tgt ht (by omega) hdg2 (fun h => kt (by omega)) (fun h => kf (by omega))
theorem r_lcmp_gt (F : FX G p m c cc nL s args own) {off : Int} (tgt : Nat) {a b : Int} (ht : ((pc + 1 : Nat) : Int) + off = (tgt : Int)) (ha : -9223372036854775808 ≤ a ∧ a < 9223372036854775808) (hb : -9223372036854775808 ≤ b ∧ b < 9223372036854775808) (hdg : decode cc pc = .ok (.lcmp, 1)) (hdg2 : decode cc (pc + 1) = .ok (.ifCond .gt off, 3)) (kt : b < a → W p l e R s m args below meth c H locs cells slots Q (F0 m tgt ls rest)) (kf : a ≤ b → W p l e R s m args below meth c H locs cells slots Q (F0 m (pc + 4) ls rest)) : W p l e R s m args below meth c H locs cells slots Q (F0 m pc ls (.long (J b) :: .long (J a) :: rest)) := by
  refine W.lcmp F.1.1 F.1.2.1 hdg ?_
  obtain ⟨z, hz, hc⟩ := lg_z ha hb
  rw [hz]
  exact r_if_gt F tgt ht (by omega) hdg2 (fun h => kt (by omega)) (fun h => kf (by omega))
theorem r_lcmp_le (F : FX G p m c cc nL s args own) {off : Int} (tgt : Nat) {a b : Int} (ht : ((pc + 1 : Nat) : Int) + off = (tgt : Int)) (ha : -9223372036854775808 ≤ a ∧ a < 9223372036854775808) (hb : -9223372036854775808 ≤ b ∧ b < 9223372036854775808) (hdg : decode cc pc = .ok (.lcmp, 1)) (hdg2 : decode cc (pc + 1) = .ok (.ifCond .le off, 3)) (kt : a ≤ b → W p l e R s m args below meth c H locs cells slots Q (F0 m tgt ls rest)) (kf : b < a → W p l e R s m args below meth c H locs cells slots Q (F0 m (pc + 4) ls rest)) : W p l e R s m args below meth c H locs cells slots Q (F0 m pc ls (.long (J b) :: .long (J a) :: rest)) := by
  refine W.lcmp F.1.1 F.1.2.1 hdg ?_
  obtain ⟨z, hz, hc⟩ := lg_z ha hb
  rw [hz]
  exact r_if_le F tgt ht (by omega) hdg2 (fun h => kt (by omega)) (fun h => kf (by omega))
theorem r_tabOut (F : FX G p m c cc nL s args own) {dflt lo hi : Int} {offs : Array Int} {len : Nat} {a : Int} (tgt : Nat) (ha : -2147483648 ≤ a ∧ a < 2147483648) (h : a < lo ∨ hi < a) (ht : (pc : Int) + dflt = (tgt : Int)) (hdg : decode cc pc = .ok (.tableswitch dflt lo hi offs, len)) (k : W p l e R s m args below meth c H locs cells slots Q (F0 m tgt ls rest)) : W p l e R s m args below meth c H locs cells slots Q (F0 m pc ls (.int (I a) :: rest)) := lv_tableOut F.1.1 F.1.2.1 hdg (by rw [I_int ha]; exact h) ht k
theorem r_tabIn (F : FX G p m c cc nL s args own) {dflt lo hi : Int} {offs : Array Int} {len : Nat} {a : Int} (v : Int) {off : Int} (tgt : Nat) (hv : a = v) (hr : -2147483648 ≤ v ∧ v < 2147483648) (h1 : ¬ v < lo) (h2 : ¬ hi < v) (ho : offs[(v - lo).toNat]? = some off) (ht : (pc : Int) + off = (tgt : Int)) (hdg : decode cc pc = .ok (.tableswitch dflt lo hi offs, len)) (k : W p l e R s m args below meth c H locs cells slots Q (F0 m tgt ls rest)) : W p l e R s m args below meth c H locs cells slots Q (F0 m pc ls (.int (I a) :: rest)) := by
  subst hv
  exact lv_tableIn F.1.1 F.1.2.1 hdg (by rw [I_int hr]; exact h1) (by rw [I_int hr]; exact h2) (by rw [I_int hr]; exact ho) ht k
theorem r_eqI {a b : Int} (h : a = b) (k : W p l e R s m args below meth c H locs cells slots Q (F0 m pc ls (.int (I b) :: rest))) : W p l e R s m args below meth c H locs cells slots Q (F0 m pc ls (.int (I a) :: rest)) := h ▸ k
theorem r_eqJ {a b : Int} (h : a = b) (k : W p l e R s m args below meth c H locs cells slots Q (F0 m pc ls (.long (J b) :: rest))) : W p l e R s m args below meth c H locs cells slots Q (F0 m pc ls (.long (J a) :: rest)) := h ▸ k
theorem r_nmI {a : Int} (k : ∀ x : Int, x = a → W p l e R s m args below meth c H locs cells slots Q (F0 m pc ls (.int (I x) :: rest))) : W p l e R s m args below meth c H locs cells slots Q (F0 m pc ls (.int (I a) :: rest)) := k a rfl
theorem r_nmJ {a : Int} (k : ∀ x : Int, x = a → W p l e R s m args below meth c H locs cells slots Q (F0 m pc ls (.long (J x) :: rest))) : W p l e R s m args below meth c H locs cells slots Q (F0 m pc ls (.long (J a) :: rest)) := k a rfl
theorem r_get (F : FX G p m c cc nL s args own) (X : HX G σ s H locs) {C nm ds : String} {T : u_T} {N ci ix : Nat} {fs : List Value} {v : Value} (k : Nat) (hk : k < 43) (he : eK G k (σ k) = .inr (ci, fs)) (hc : vwCl[ci]? = some (C, T, N)) (hin : ∀ w ∈ u_ws C T N, w ∈ BIG) (j : Nat) (hj : j < N) (hnm : (C, nm, ds) = ((T j).1, (T j).2.1, (T j).2.2.1)) (hlk : Cond.fieldLink own ix C nm ds ∈ BIG) (hv : fs[j]? = some v) (hdg : decode cc pc = .ok (.getfield ix, 3)) (kk : W p l e R s m args below meth c H locs cells slots Q (F0 m (pc + 3) ls (v :: rest))) : W p l e R s m args below meth c H locs cells slots Q (F0 m pc ls (.ref (gY G k) :: rest)) := by
  have e1 : C = (T j).1 := congrArg (fun q => q.1) hnm
  have e2 : nm = (T j).2.1 := congrArg (fun q => q.2.1) hnm
  have e3 : ds = (T j).2.2.1 := congrArg (fun q => q.2.2) hnm
  refine va_get (D := gD G) (ref := C) F.1.1 F.1.2.1 F.1.2.2.2.2 hin F.1.2.2.2.1 F.2.1.1 X.1 k (by rw [wl_at G σ hk, he]) hc j hj (by rw [← e2, ← e3]; exact F.1.2.2.2.2 _ hlk) (fun x h => by rw [e1]; exact h) hv hdg kk
theorem r_put (F : FX G p m c cc nL s args own) (X : HX G σ s H locs) {C nm ds : String} {T : u_T} {N ci ix : Nat} {fs : List Value} {v : Value} {ty : FieldType} (k : Nat) (hk : k < 43) (g : Int → Int) (he : eK G k (σ k) = .inr (ci, fs)) (hc : vwCl[ci]? = some (C, T, N)) (hin : ∀ w ∈ u_ws C T N, w ∈ BIG) (ty0 : Nat → FieldType) (hty : ∀ k, k < N → parseFieldDescriptor (T k).2.2.1 = some (ty0 k)) (hnms : ∀ a, a < N → ∀ b, b < N → a ≠ b → (T a).2.1 ≠ (T b).2.1) (j : Nat) (hj : j < N) (hnm : (C, nm, ds) = ((T j).1, (T j).2.1, (T j).2.2.1)) (hlk : Cond.fieldLink own ix C nm ds ∈ BIG) (hfin : (T j).2.2.2 = false) (hd : parseFieldDescriptor (T j).2.2.1 = some ty) (hn : narrow ty v = v) (hfit : fits ty v = true) (hl : j < fs.length) (hg : eK G k g = .inr (ci, fs.set j v)) (hdg : decode cc pc = .ok (.putfield ix, 3)) (kk : ∀ (H : Heap) (locs : List Loc), HX G (up σ k g) s H locs → W p l e R s m args below meth c H locs cells slots Q (F0 m (pc + 3) ls rest)) : W p l e R s m args below meth c H locs cells slots Q (F0 m pc ls (v :: .ref (gY G k) :: rest)) := by
  have e1 : C = (T j).1 := congrArg (fun q => q.1) hnm
  have e2 : nm = (T j).2.1 := congrArg (fun q => q.2.1) hnm
  have e3 : ds = (T j).2.2.1 := congrArg (fun q => q.2.2) hnm
  refine va_put (D := gD G) (ref := C) F.1.1 F.1.2.1 F.1.2.2.2.2 hin ty0 hty hnms F.1.2.2.2.1 F.2.1.1 X.1 (F.2.2.2.D σ) X.2 k (by rw [wl_at G σ hk, he]) hc j hj (by rw [← e2, ← e3]; exact F.1.2.2.2.2 _ hlk) (fun x h => by rw [e1]; exact h) hfin hd hn hfit hl hdg (fun H1 locs1 hP _ hS => kk H1 locs1 ⟨?_, hS⟩)
  rw [← wl_set G σ hk g, hg]
  exact hP
theorem r_iald (F : FX G p m c cc nL s args own) (X : HX G σ s H locs) {n : Nat} {a : Int} (k : Nat) (hk : k < 43) (he : ∀ f, eK G k f = fI (gI G) n f) (h : 0 ≤ a ∧ a < n) (hn : n < 2147483648) (hdg : decode cc pc = .ok (.iaload, 1)) (kk : W p l e R s m args below meth c H locs cells slots Q (F0 m (pc + 1) ls (.int (I (σ k a)) :: rest))) : W p l e R s m args below meth c H locs cells slots Q (F0 m pc ls (.int (I a) :: .ref (gY G k) :: rest)) := by
  refine va_iald F.1.1 F.1.2.1 F.2.1.1 X.1 k 0 (by rw [wl_at G σ hk, he]; rfl) rfl (I_in h.1 h.2 hn) hdg ?_
  rw [I_nat (by omega), show ((a.toNat : Nat) : Int) = a by omega]
  exact kk
theorem r_zald (F : FX G p m c cc nL s args own) (X : HX G σ s H locs) {n : Nat} {a : Int} (k : Nat) (hk : k < 43) (he : ∀ f, eK G k f = fI (gZ G) n f) (h : 0 ≤ a ∧ a < n) (hn : n < 2147483648) (hdg : decode cc pc = .ok (.baload, 1)) (kk : W p l e R s m args below meth c H locs cells slots Q (F0 m (pc + 1) ls (.int (I (σ k a)) :: rest))) : W p l e R s m args below meth c H locs cells slots Q (F0 m pc ls (.int (I a) :: .ref (gY G k) :: rest)) := by
  refine va_zald F.1.1 F.1.2.1 F.2.1.1 X.1 k 2 (by rw [wl_at G σ hk, he]; rfl) rfl (I_in h.1 h.2 hn) hdg ?_
  rw [I_nat (by omega), show ((a.toNat : Nat) : Int) = a by omega]
  exact kk
theorem r_lald (F : FX G p m c cc nL s args own) (X : HX G σ s H locs) {n : Nat} {a : Int} (k : Nat) (hk : k < 43) (he : ∀ f, eK G k f = fJ (gJ G) n f) (h : 0 ≤ a ∧ a < n) (hn : n < 2147483648) (hdg : decode cc pc = .ok (.laload, 1)) (kk : W p l e R s m args below meth c H locs cells slots Q (F0 m (pc + 1) ls (.long (J (σ k a)) :: rest))) : W p l e R s m args below meth c H locs cells slots Q (F0 m pc ls (.int (I a) :: .ref (gY G k) :: rest)) := by
  refine va_lald F.1.1 F.1.2.1 F.2.1.1 X.1 k 1 (by rw [wl_at G σ hk, he]; rfl) rfl (I_in h.1 h.2 hn) hdg ?_
  rw [I_nat (by omega), show ((a.toNat : Nat) : Int) = a by omega]
  exact kk
theorem r_aald (F : FX G p m c cc nL s args own) (X : HX G σ s H locs) {n : Nat} {a : Int} {y : Nat → Nat} (k : Nat) (hk : k < 43) (j : Nat) (hj : a = (j : Int)) (he : ∀ f, eK G k f = fR (gR G) n y) (h : 0 ≤ a ∧ a < n) (hn : n < 2147483648) (hdg : decode cc pc = .ok (.aaload, 1)) (kk : W p l e R s m args below meth c H locs cells slots Q (F0 m (pc + 1) ls (.ref (y j) :: rest))) : W p l e R s m args below meth c H locs cells slots Q (F0 m pc ls (.int (I a) :: .ref (gY G k) :: rest)) := by
  have hin : vp_in (I a) n := I_in h.1 h.2 hn
  have hlt : (I a).toNatClampNeg < n := Nat.not_le.mp fun q => hin (Or.inr q)
  have ha : (wl G σ)[k]? = some (gY G k, .inl (gR G, n, .inr (.inr (.inr (.inr (fun j : Nat => if j < n then some (y j) else none)))))) := by rw [wl_at G σ hk, he]; rfl
  refine W.aald (v := va_rf ((fun j : Nat => if j < n then some (y j) else none) (I a).toNatClampNeg)) (ty := .array .long) F.1.1 F.1.2.1 (X.1 k _ ha) ((F.2.1.1.2 3 (gR G, .array .long) rfl).1 n (fun j => va_rf ((fun j : Nat => if j < n then some (y j) else none) j))) rfl (fun q => by cases q) (by show ¬ ((I a) < 0 ∨ (arrV _ _ _).slots.size ≤ _); rw [arrV_size]; exact hin) (by show (arrV _ _ _).slots[_]? = _; rw [arrV_read _ _ hlt]) rfl rfl hdg ?_
  show W p l e R s m args below meth c H locs cells slots Q (F0 m (pc + 1) ls (_ :: rest))
  rw [I_nat (by omega)]
  rw [show a.toNat = j by omega]
  simp only [if_pos (show j < n by omega)]
  exact kk
theorem r_iast (F : FX G p m c cc nL s args own) (X : HX G σ s H locs) {n : Nat} {a v : Int} (k : Nat) (hk : k < 43) (he : ∀ f, eK G k f = fI (gI G) n f) (h : 0 ≤ a ∧ a < n) (hn : n < 2147483648) (hdg : decode cc pc = .ok (.iastore, 1)) (kk : ∀ (H : Heap) (locs : List Loc), HX G (up σ k (upI (σ k) a v)) s H locs → W p l e R s m args below meth c H locs cells slots Q (F0 m (pc + 1) ls rest)) : W p l e R s m args below meth c H locs cells slots Q (F0 m pc ls (.int (I v) :: .int (I a) :: .ref (gY G k) :: rest)) := by
  refine va_iast F.1.1 F.1.2.1 F.2.1.1 X.1 (F.2.2.2.D σ) X.2 k 0 (by rw [wl_at G σ hk, he]; rfl) rfl (I_in h.1 h.2 hn) hdg (fun H1 locs1 hP _ hS => kk H1 locs1 ⟨?_, hS⟩)
  rw [← wl_set G σ hk, he, ← fI_upd _ _ _ h.1]
  rw [I_nat (by omega)] at hP
  skip
  exact hP
theorem r_zast (F : FX G p m c cc nL s args own) (X : HX G σ s H locs) {n : Nat} {a v : Int} (k : Nat) (hk : k < 43) (he : ∀ f, eK G k f = fI (gZ G) n f) (h : 0 ≤ a ∧ a < n) (hn : n < 2147483648) (hv : v = 0 ∨ v = 1) (hdg : decode cc pc = .ok (.bastore, 1)) (kk : ∀ (H : Heap) (locs : List Loc), HX G (up σ k (upI (σ k) a v)) s H locs → W p l e R s m args below meth c H locs cells slots Q (F0 m (pc + 1) ls rest)) : W p l e R s m args below meth c H locs cells slots Q (F0 m pc ls (.int (I v) :: .int (I a) :: .ref (gY G k) :: rest)) := by
  refine va_zast F.1.1 F.1.2.1 F.2.1.1 X.1 (F.2.2.2.D σ) X.2 k 2 (by rw [wl_at G σ hk, he]; rfl) rfl (I_in h.1 h.2 hn) hdg (fun H1 locs1 hP _ hS => kk H1 locs1 ⟨?_, hS⟩)
  rw [← wl_set G σ hk, he, ← fI_upd _ _ _ h.1]
  rw [I_nat (by omega)] at hP
  rw [I_bool hv] at hP
  exact hP
theorem r_last (F : FX G p m c cc nL s args own) (X : HX G σ s H locs) {n : Nat} {a v : Int} (k : Nat) (hk : k < 43) (he : ∀ f, eK G k f = fJ (gJ G) n f) (h : 0 ≤ a ∧ a < n) (hn : n < 2147483648) (hdg : decode cc pc = .ok (.lastore, 1)) (kk : ∀ (H : Heap) (locs : List Loc), HX G (up σ k (upI (σ k) a v)) s H locs → W p l e R s m args below meth c H locs cells slots Q (F0 m (pc + 1) ls rest)) : W p l e R s m args below meth c H locs cells slots Q (F0 m pc ls (.long (J v) :: .int (I a) :: .ref (gY G k) :: rest)) := by
  refine va_last F.1.1 F.1.2.1 F.2.1.1 X.1 (F.2.2.2.D σ) X.2 k 1 (by rw [wl_at G σ hk, he]; rfl) rfl (I_in h.1 h.2 hn) hdg (fun H1 locs1 hP _ hS => kk H1 locs1 ⟨?_, hS⟩)
  rw [← wl_set G σ hk, he, ← fJ_upd _ _ _ h.1]
  rw [I_nat (by omega)] at hP
  skip
  exact hP
end RW
