theorem CX.keep {σ τ : St} {N : Int} {r : Int → Int} {n : Int} {hs : Int → Int → Int} (h : CX σ N r n hs) (e : ∀ k : Nat, k < 36 → τ k = σ k) : CX τ N r n hs := by
  obtain ⟨a, b, c, d, f⟩ := h
  refine ⟨by unfold PL; rw [e 2 (by omega)]; exact a, b, c.of (e 3 (by omega)) (e 4 (by omega)), ?_, ?_⟩
  · rw [e 5 (by omega)]
    exact d.imp id (fun z => ⟨z.1, z.2.1, z.2.2.of5 (fun k q => e k (by omega))⟩)
  · rw [e 31 (by omega)]
    exact f.imp id (fun z => ⟨z.1, z.2.1, z.2.2.1, z.2.2.2.of (e 31 (by omega)) (e 32 (by omega))⟩)
theorem MX.keep {σ τ : St} {N : Int} {r : Int → Int} {n : Int} {hs : Int → Int → Int} (h : MX σ N r n hs) (e : ∀ k : Nat, 36 ≤ k → k ≠ 42 → τ k = σ k) : MX τ N r n hs :=
  h.row (fun i _ _ => by rw [e 36 (by omega) (by omega)]) (e 38 (by omega) (by omega)) (by rw [e 37 (by omega) (by omega)]; exact h.2.1) (fun _ _ => rfl)
section WC
variable {p : Program} {l : Launch} {e : Env} {R : Room} {s : State} {m : MethodId} {args : Array Value} {below : List Frame} {meth : Method} {c : Code} {H : Heap} {locs : List Loc} {cells slots : Nat} {Q : State → Prop}
variable {cc : ByteArray} {nL pc : Nat} {ls : Array Slot} {rest : List Value} {own : String} {G : GT} {σ : St}
theorem w_cSI (F : FX G p m c cc nL s args own) (X : HX G σ s H locs) (hT : TX G s s.heap) {y : MethodName} {cy : ByteArray} {n d np ix : Nat} {ret : Option FieldType} {hh : List (Nat × Nat × Nat × Nat)} {As st0 : List Value} {post : Int → St → Prop} (hM : Met l y (Cond.codeWith y cy n ret hh :: BIG) (rmx d) (PcX G As σ) (QI G post) 1 6 (gA G)) (gv : GoodIn BIG (va_wsS own ix y (Cond.codeWith y cy n ret hh :: BIG))) (nd : y.cls ≠ "java/lang/invoke/MethodHandle" ∧ y.cls ≠ "java/lang/invoke/VarHandle" ∧ (parseMethodDescriptor y.desc).map (fun d => d.parameters.length) = some np) (hlen : As.length = np) (hst : st0 = As.reverse ++ rest) (hrm : 2 * (F0 m pc ls st0).monitorRoom + (rest.map fun v => v.category).sum ≤ 8) (hR : (rmx d).frames + 1 ≤ R.frames ∧ 8 + (n + 11) + (rmx d).locals ≤ R.locals) (hcs : cells + 1 ≤ R.cells ∧ slots + 6 ≤ R.slots) (hsz : ls.size = nL) (hdg : decode cc pc = .ok (.invokestatic ix, 3)) (kk : ∀ (a : Int) (τ : St) (H : Heap) (locs : List Loc), post a τ → HX G τ s H locs → W p l e R s m args below meth c H locs (cells + 1) (slots + 6) Q (F0 m (pc + 3) ls (.int (I a) :: rest))) : W p l e R s m args below meth c H locs cells slots Q (F0 m pc ls st0) := by
  refine va_calli (vx_runSW (As := As) (rest := rest) F.1 hM (vx_cwSW np F.1.2.2.2.2 gv rfl rfl rfl nd hR) ⟨PcX.blind, fun U hU hW => ⟨rfl, F.out X hU hW, hT.out X.2 hU hW⟩⟩ rfl hlen hsz hst hrm hdg hcs) X.2 (fun q _ h => h) (fun q h => h) (fun r u t H1 locs1 ht hvm hp hB _ _ hS => ?_)
  obtain ⟨a, rfl, hp⟩ := hp
  exact kk a u H1 locs1 hp ⟨by rw [← ht]; exact hB.1, hS⟩
end WC
theorem nd_L_diff : yL_diff.cls ≠ "java/lang/invoke/MethodHandle" ∧ yL_diff.cls ≠ "java/lang/invoke/VarHandle" ∧ (parseMethodDescriptor yL_diff.desc).map (fun d => d.parameters.length) = some 4 := by decide +kernel
theorem gv_RL_97 : GoodIn BIG (va_wsS RL 97 yL_diff (Cond.codeWith yL_diff cL_diff 5 (some .int) [(0, 10, 13, 13)] :: BIG)) := gi_S (bg_of 650 (by decide +kernel) rfl) ⟨bg_of 651 (by decide +kernel) rfl, bg_of 50 (by decide +kernel) rfl, bg_of 652 (by decide +kernel) rfl⟩
theorem c_L_diff (l : Launch) (hst9 : l.stackTraces = false) (G : GT) (σ : St) (N : Int) (r : Int → Int) (n : Int) (hs : Int → Int → Int) (i : Int) (w : Int) (hC : CX σ N r n hs) (hi : -2147483648 ≤ i ∧ i < 2147483648) (hw : -2147483648 ≤ w ∧ w < 2147483648) : Met l yL_diff (Cond.codeWith yL_diff cL_diff 5 (some .int) [(0, 10, 13, 13)] :: BIG) (rmx 8) (PcX G [.ref (gY G 0), .int (I i), .int (I w), .ref (gY G 42)] σ) (QI G (fun x9 τ9 => CX τ9 N r n hs ∧ (∀ k : Nat, 36 ≤ k → k ≠ 42 → τ9 k = σ k) ∧ (((whl N r = true ∧ 0 ≤ i ∧ i < N ∧ 1 ≤ w ∧ w ≤ 3) ∧ x9 = 0 ∧ τ9 42 0 = mval (lfI r) N r i w.toNat) ∨ (¬ (whl N r = true ∧ 0 ≤ i ∧ i < N ∧ 1 ≤ w ∧ w ≤ 3) ∧ x9 = 1)))) 1 6 (gA G) := by
  refine mtw (own := RL) (by decide) rfl (Nat.le_of_ble_eq_true rfl) ?_
  intro p e s m args below meth c ls F hTX htb hr hk X hl
  have hl : lv_has ls 5 [(0, .ref (gY G 0)), (1, .int (I i)), (2, .int (I w)), (3, .ref (gY G 42))] := hl
  have hW := hC.2.1
  have hw9 := hW.num
  refine r_aload_n F hl 3 rfl rfl dL_diff_0 ?_
  refine r_iconst F dL_diff_1 ?_
  refine r_aload_n F hl 0 rfl rfl dL_diff_2 ?_
  refine r_iload_n F hl 1 rfl rfl dL_diff_3 ?_
  refine r_iload_n F hl 2 rfl rfl dL_diff_4 ?_
  refine x_cVI F X hTX 0 (by decide) (eK_0 G _) rfl (c_X4_diff l hst9 G σ N r n hs i w hC hi hw) gv_RL_7 rfl nd_X4_diff rfl (rest := [.int (I 0), .ref (gY G 42)]) rfl (Nat.le_of_ble_eq_true rfl) ⟨Nat.le_of_ble_eq_true rfl, Nat.le_of_ble_eq_true rfl⟩ ⟨Nat.le_refl _, Nat.le_refl _⟩ hl.1 dL_diff_5 (fun ce q9 τ1 H locs hpx X h1 h2 h3 => ?_) (fun a1 τ1 H locs hpost X => ?_)
  · obtain ⟨hn, hC1, hK1⟩ := hpx
    refine vx_catch (E := NSE) (name := NSE) (own := RL) F.1.2.2.2.1 [] ⟨0, 10, 13, 13⟩ [] htb (fun z hz => by cases hz) (by decide) (by decide) (F.1.2.2.2.2 _ gc_RL_13) (va_Nw.use rfl hTX.2.2.1) h1 h2 h3 ?_
    refine r_astore F hl [(4, .ref q9), (0, .ref (gY G 0)), (1, .int (I i)), (2, .int (I w)), (3, .ref (gY G 42))] (by decide) rfl dL_diff_13 (fun ls hl => ?_)
    refine r_iconst F dL_diff_15 ?_
    exact r_iret6 F X hr hk dL_diff_16 ⟨hC1, fun k a _ => hK1 k a, Or.inr ⟨hn, rfl⟩⟩
  · obtain ⟨⟨hv, hc⟩, hC1, hK1⟩ := hpost
    have hrg := mval_rg (r := r) (lfI_LR hW hc.1) (show 0 < N by omega) i (k := w.toNat) (by omega)
    refine r_i2l F (by omega) dL_diff_8 ?_
    refine r_last F X 42 (by decide) (eK_42 G) (by decide) (by decide) dL_diff_9 (fun H locs X => ?_)
    refine r_goto F 17 (by decide) dL_diff_10 ?_
    refine r_iconst F dL_diff_17 ?_
    exact r_iret6 F X hr hk dL_diff_18 ⟨hC1.keep (fun k a => up_ne (by omega)), fun k a b => (up_ne b).trans (hK1 k a), Or.inl ⟨hc, rfl, by rw [up_eq, upI_eq]; exact hv⟩⟩
theorem nd_L_shape : yL_shape.cls ≠ "java/lang/invoke/MethodHandle" ∧ yL_shape.cls ≠ "java/lang/invoke/VarHandle" ∧ (parseMethodDescriptor yL_shape.desc).map (fun d => d.parameters.length) = some 4 := by decide +kernel
theorem gv_RL_114 : GoodIn BIG (va_wsS RL 114 yL_shape (Cond.codeWith yL_shape cL_shape 5 (some .int) [(0, 9, 12, 13)] :: BIG)) := gi_S (bg_of 719 (by decide +kernel) rfl) ⟨bg_of 720 (by decide +kernel) rfl, bg_of 50 (by decide +kernel) rfl, bg_of 721 (by decide +kernel) rfl⟩
theorem c_L_shape (l : Launch) (hst9 : l.stackTraces = false) (G : GT) (σ : St) (N : Int) (r : Int → Int) (n : Int) (hs : Int → Int → Int) (i : Int) (w : Int) (hC : CX σ N r n hs) (hi : -2147483648 ≤ i ∧ i < 2147483648) (hw : -2147483648 ≤ w ∧ w < 2147483648) : Met l yL_shape (Cond.codeWith yL_shape cL_shape 5 (some .int) [(0, 9, 12, 13)] :: BIG) (rmx 8) (PcX G [.ref (gY G 0), .int (I i), .int (I w), .ref (gY G 42)] σ) (QI G (fun x9 τ9 => CX τ9 N r n hs ∧ (∀ k : Nat, 36 ≤ k → k ≠ 42 → τ9 k = σ k) ∧ (((whl N r = true ∧ 0 ≤ i ∧ i < N ∧ 0 ≤ w ∧ w ≤ 3) ∧ x9 = 0 ∧ τ9 42 0 = mval (lfI r) N r i (4 + w).toNat) ∨ (¬ (whl N r = true ∧ 0 ≤ i ∧ i < N ∧ 0 ≤ w ∧ w ≤ 3) ∧ x9 = 1)))) 1 6 (gA G) := by
  refine mtw (own := RL) (by decide) rfl (Nat.le_of_ble_eq_true rfl) ?_
  intro p e s m args below meth c ls F hTX htb hr hk X hl
  have hl : lv_has ls 5 [(0, .ref (gY G 0)), (1, .int (I i)), (2, .int (I w)), (3, .ref (gY G 42))] := hl
  have hW := hC.2.1
  have hw9 := hW.num
  refine r_aload_n F hl 3 rfl rfl dL_shape_0 ?_
  refine r_iconst F dL_shape_1 ?_
  refine r_aload_n F hl 0 rfl rfl dL_shape_2 ?_
  refine r_iload_n F hl 1 rfl rfl dL_shape_3 ?_
  refine r_iload_n F hl 2 rfl rfl dL_shape_4 ?_
  refine x_cVJ F X hTX 0 (by decide) (eK_0 G _) rfl (c_X4_shape l hst9 G σ N r n hs i w hC hi hw) gv_RL_15 rfl nd_X4_shape rfl (rest := [.int (I 0), .ref (gY G 42)]) rfl (Nat.le_of_ble_eq_true rfl) ⟨Nat.le_of_ble_eq_true rfl, Nat.le_of_ble_eq_true rfl⟩ ⟨Nat.le_refl _, Nat.le_refl _⟩ hl.1 dL_shape_5 (fun ce q9 τ1 H locs hpx X h1 h2 h3 => ?_) (fun a1 τ1 H locs hpost X => ?_)
  · obtain ⟨hn, hC1, hK1⟩ := hpx
    refine vx_catch (E := NSE) (name := NSE) (own := RL) F.1.2.2.2.1 [] ⟨0, 9, 12, 13⟩ [] htb (fun z hz => by cases hz) (by decide) (by decide) (F.1.2.2.2.2 _ gc_RL_13) (va_Nw.use rfl hTX.2.2.1) h1 h2 h3 ?_
    refine r_astore F hl [(4, .ref q9), (0, .ref (gY G 0)), (1, .int (I i)), (2, .int (I w)), (3, .ref (gY G 42))] (by decide) rfl dL_shape_12 (fun ls hl => ?_)
    refine r_iconst F dL_shape_14 ?_
    exact r_iret6 F X hr hk dL_shape_15 ⟨hC1, fun k a _ => hK1 k a, Or.inr ⟨hn, rfl⟩⟩
  · obtain ⟨⟨hv, hc⟩, hC1, hK1⟩ := hpost
    refine r_last F X 42 (by decide) (eK_42 G) (by decide) (by decide) dL_shape_8 (fun H locs X => ?_)
    refine r_goto F 16 (by decide) dL_shape_9 ?_
    refine r_iconst F dL_shape_16 ?_
    exact r_iret6 F X hr hk dL_shape_17 ⟨hC1.keep (fun k a => up_ne (by omega)), fun k a b => (up_ne b).trans (hK1 k a), Or.inl ⟨hc, rfl, by rw [up_eq, upI_eq]; exact hv⟩⟩
theorem nd_L_force : yL_force.cls ≠ "java/lang/invoke/MethodHandle" ∧ yL_force.cls ≠ "java/lang/invoke/VarHandle" ∧ (parseMethodDescriptor yL_force.desc).map (fun d => d.parameters.length) = some 3 := by decide +kernel
theorem gv_RL_125 : GoodIn BIG (va_wsS RL 125 yL_force (Cond.codeWith yL_force cL_force 4 (some .int) [(0, 8, 11, 13)] :: BIG)) := gi_S (bg_of 726 (by decide +kernel) rfl) ⟨bg_of 727 (by decide +kernel) rfl, bg_of 50 (by decide +kernel) rfl, bg_of 728 (by decide +kernel) rfl⟩
theorem c_L_force (l : Launch) (hst9 : l.stackTraces = false) (G : GT) (σ : St) (N : Int) (r : Int → Int) (n : Int) (hs : Int → Int → Int) (i : Int) (hC : CX σ N r n hs) (hi : -2147483648 ≤ i ∧ i < 2147483648) : Met l yL_force (Cond.codeWith yL_force cL_force 4 (some .int) [(0, 8, 11, 13)] :: BIG) (rmx 8) (PcX G [.ref (gY G 0), .int (I i), .ref (gY G 42)] σ) (QI G (fun x9 τ9 => CX τ9 N r n hs ∧ (∀ k : Nat, 36 ≤ k → k ≠ 42 → τ9 k = σ k) ∧ (((whl N r = true ∧ 0 ≤ i ∧ i < N) ∧ x9 = 0 ∧ τ9 42 0 = fo (lfI r) N r i) ∨ (¬ (whl N r = true ∧ 0 ≤ i ∧ i < N) ∧ x9 = 1)))) 1 6 (gA G) := by
  refine mtw (own := RL) (by decide) rfl (Nat.le_of_ble_eq_true rfl) ?_
  intro p e s m args below meth c ls F hTX htb hr hk X hl
  have hl : lv_has ls 4 [(0, .ref (gY G 0)), (1, .int (I i)), (2, .ref (gY G 42))] := hl
  have hW := hC.2.1
  have hw9 := hW.num
  refine r_aload_n F hl 2 rfl rfl dL_force_0 ?_
  refine r_iconst F dL_force_1 ?_
  refine r_aload_n F hl 0 rfl rfl dL_force_2 ?_
  refine r_iload_n F hl 1 rfl rfl dL_force_3 ?_
  refine x_cVJ F X hTX 0 (by decide) (eK_0 G _) rfl (c_X4_force l hst9 G σ N r n hs i hC hi) gv_RL_19 rfl nd_X4_force rfl (rest := [.int (I 0), .ref (gY G 42)]) rfl (Nat.le_of_ble_eq_true rfl) ⟨Nat.le_of_ble_eq_true rfl, Nat.le_of_ble_eq_true rfl⟩ ⟨Nat.le_refl _, Nat.le_refl _⟩ hl.1 dL_force_4 (fun ce q9 τ1 H locs hpx X h1 h2 h3 => ?_) (fun a1 τ1 H locs hpost X => ?_)
  · obtain ⟨hn, hC1, hK1⟩ := hpx
    refine vx_catch (E := NSE) (name := NSE) (own := RL) F.1.2.2.2.1 [] ⟨0, 8, 11, 13⟩ [] htb (fun z hz => by cases hz) (by decide) (by decide) (F.1.2.2.2.2 _ gc_RL_13) (va_Nw.use rfl hTX.2.2.1) h1 h2 h3 ?_
    refine r_astore_n F hl [(3, .ref q9), (0, .ref (gY G 0)), (1, .int (I i)), (2, .ref (gY G 42))] rfl (by decide) rfl dL_force_11 (fun ls hl => ?_)
    refine r_iconst F dL_force_12 ?_
    exact r_iret6 F X hr hk dL_force_13 ⟨hC1, fun k a _ => hK1 k a, Or.inr ⟨hn, rfl⟩⟩
  · obtain ⟨⟨hv, hc⟩, hC1, hK1⟩ := hpost
    refine r_last F X 42 (by decide) (eK_42 G) (by decide) (by decide) dL_force_7 (fun H locs X => ?_)
    refine r_goto F 14 (by decide) dL_force_8 ?_
    refine r_iconst F dL_force_14 ?_
    exact r_iret6 F X hr hk dL_force_15 ⟨hC1.keep (fun k a => up_ne (by omega)), fun k a b => (up_ne b).trans (hK1 k a), Or.inl ⟨hc, rfl, by rw [up_eq, upI_eq]; exact hv⟩⟩
