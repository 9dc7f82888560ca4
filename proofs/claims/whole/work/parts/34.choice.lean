theorem two4 {e : Int} (h : 0 ≤ e) : (2 : Int) ^ (2 * e).toNat = 4 ^ e.toNat := by
  rw [show (2 * e).toNat = 2 * e.toNat by omega, Int.pow_mul]; rfl
theorem two4' {e : Int} (h : 0 ≤ e) (x : Int) : x / 2 ^ (2 * e).toNat = x / 4 ^ e.toNat := by rw [two4 h]
theorem p4_rg {K : Int} (h : 0 ≤ K ∧ K ≤ 6) : 1 ≤ (4 : Int) ^ K.toNat ∧ (4 : Int) ^ K.toNat ≤ 4096 := by
  rcases (show K = 0 ∨ K = 1 ∨ K = 2 ∨ K = 3 ∨ K = 4 ∨ K = 5 ∨ K = 6 by omega) with q | q | q | q | q | q | q <;> subst q <;> decide
theorem lwn_eq {K x j e : Int} (h0 : j < K) (he : e = x / 2 ^ (2 * (K - 1 - j)).toNat % 4) : e = lwn K x j := by
  rw [he, two4' (by omega)]; unfold lwn; rw [if_pos h0]
def CQ (σ : St) (N : Int) (r bt : Int → Int) (K j p q : Int) : Prop := ∀ w : Int → Int, LWS w → (K ≠ 0 → w (bt j) = p ∧ w (bt (nx K j)) = q) → (K = 0 → p = 0 ∧ q = 0) → σ 33 (j * 16 + p * 4 + q) = l2 N r bt K w j ∧ σ 34 (j * 16 + p * 4 + q) = l3 N r bt K w j ∧ σ 35 (j * 16 + p * 4 + q) = (if lg N r bt K w j = true then 1 else 0)
theorem CQ.of {σ τ : St} {N : Int} {r bt : Int → Int} {K j p q : Int} (h : CQ σ N r bt K j p q) (e : ∀ k : Nat, k = 33 ∨ k = 34 ∨ k = 35 → τ k (j * 16 + p * 4 + q) = σ k (j * 16 + p * 4 + q)) : CQ τ N r bt K j p q := by
  unfold CQ
  rw [e 33 (by omega), e 34 (by omega), e 35 (by omega)]
  exact h
theorem CQ.mk' {σ : St} {N : Int} {r bt f w' : Int → Int} {K j p q fr sp : Int} (h : BT r bt K) (hW : WF N r) (hwh : whl N r = true) (hl : LWS w') (hf : EQN f (lfW r w') N) (h0 : 0 ≤ j) (h1 : j < max 1 K) (hfr : fr = lfr r bt K j) (hsp : sp = lsp N r bt K j) (hq : K ≠ 0 → w' (bt (nx K j)) = q ∧ (nx K j ≠ j → w' (bt j) = p))
  (h33 : σ 33 (j * 16 + p * 4 + q) = mxI (fun k => d2 f N (fr + 1 + k)) sp) (h34 : σ 34 (j * 16 + p * 4 + q) = mxI (fun k => d3 f N (fr + 1 + k)) sp) (h35 : σ 35 (j * 16 + p * 4 + q) = (if alI (fun k => ga f N r ((fr + 1 + k) % N)) sp = true then 1 else 0)) : CQ σ N r bt K j p q := by
  intro w hw hK _
  have hn := hW.num
  have v := hf.v (by omega)
  have e := l_loc h hW hwh hw hl h0 h1 (fun z => by
    by_cases y : nx K j = j
    · have a := (hK z).2; have b := (hq z).1; rw [y] at a b; rw [a, b]
    · rw [(hK z).1, (hq z).2 y]) (fun z => by rw [(hK z).2, (hq z).1])
  rw [h33, h34, h35, e.1, e.2.1, e.2.2, hfr, hsp, v.2.1, v.2.2.1]
  refine ⟨rfl, rfl, ?_⟩
  have g : alI (fun k => ga f N r ((lfr r bt K j + 1 + k) % N)) (lsp N r bt K j) = lg N r bt K w' j := by
    unfold lg
    refine alI_congr (fun k a b => ?_)
    have L : ∀ t : Int, lw f N t = lw (lfW r w') N t := fun t => by rw [hf.w (by omega)]
    exact ga_loc hW (Int.emod_nonneg _ (by omega)) (Int.emod_lt_of_pos _ (by omega)) (L _) (L _) (L _)
  rw [g]
theorem CE_of_CQ {σ : St} {N : Int} {r bt : Int → Int} {K j : Int} (h : ∀ p q : Int, 0 ≤ p → p < 4 → 0 ≤ q → q < 4 → CQ σ N r bt K j p q) : CE σ N r bt K j := fun p q a b c d => h p q a b c d
theorem l23_rg {N : Int} {r bt w : Int → Int} {K j : Int} (hW : WF N r) (hwh : whl N r = true) (hl : LWS w) : (0 ≤ l2 N r bt K w j ∧ l2 N r bt K w j ≤ 3996) ∧ (0 ≤ l3 N r bt K w j ∧ l3 N r bt K w j ≤ 3996) := by
  have hn := hW.num
  have hL := lfW_LR (w := w) hW hwh hl
  exact ⟨mxI_rg (by omega) (fun i => by have := (hL.d (by omega) (lfr r bt K j + 1 + i)).2.1; omega), mxI_rg (by omega) (fun i => (hL.d (by omega) (lfr r bt K j + 1 + i)).2.2)⟩
def BV (σ : St) (N : Int) (r : Int → Int) : Prop := σ 31 9 = wS N r (ph r (σ 31 8)) ∧ σ 31 10 = wT N r (ph r (σ 31 8)) ∧ σ 31 11 = (if wG N r (ph r (σ 31 8)) = true then 1 else 0)
theorem BT.K0 {r bt : Int → Int} {K : Int} (h : BT r bt K) : 0 ≤ K := by rw [h.1]; omega
theorem LWS.up {w : Int → Int} (h : LWS w) {t v : Int} (hv : 0 ≤ v ∧ v ≤ 3) : LWS (upI w t v) := by
  intro s a b
  unfold upI
  split
  · exact hv
  · exact h s a b
theorem c_X0_second (l : Launch) (G : GT) (σ : St) : Ct l yX0_second cX0_second 1 (some .int) 1 G [.ref (gY G 31)] σ (QI G (fun res9 τ => res9 = (σ 31 9) ∧ τ = σ)) := by
  refine mt (own := RX0) (plainFor_of_name rfl) rfl (Nat.le_of_ble_eq_true rfl) ?_
  intro p e s m args below meth c ls F hr hk X hl
  have hl : lv_has ls 1 [(0, .ref (gY G 31))] := hl
  refine r_aload_n F hl 0 rfl rfl dX0_second_0 ?_
  refine r_get F X 31 (by decide) (eK_31 G _) rfl gl_RX0 9 (by decide) rfl gf_RX0_56 rfl dX0_second_1 ?_
  exact r_iret F X hr hk dX0_second_4 (⟨rfl, rfl⟩)
theorem c_X0_third (l : Launch) (G : GT) (σ : St) : Ct l yX0_third cX0_third 1 (some .int) 1 G [.ref (gY G 31)] σ (QI G (fun res9 τ => res9 = (σ 31 10) ∧ τ = σ)) := by
  refine mt (own := RX0) (plainFor_of_name rfl) rfl (Nat.le_of_ble_eq_true rfl) ?_
  intro p e s m args below meth c ls F hr hk X hl
  have hl : lv_has ls 1 [(0, .ref (gY G 31))] := hl
  refine r_aload_n F hl 0 rfl rfl dX0_third_0 ?_
  refine r_get F X 31 (by decide) (eK_31 G _) rfl gl_RX0 10 (by decide) rfl gf_RX0_59 rfl dX0_third_1 ?_
  exact r_iret F X hr hk dX0_third_4 (⟨rfl, rfl⟩)
theorem c_X0_isGood (l : Launch) (G : GT) (σ : St) (hg : σ 31 11 = 0 ∨ σ 31 11 = 1) : Ct l yX0_isGood cX0_isGood 1 (some .boolean) 1 G [.ref (gY G 31)] σ (QI G (fun res9 τ => res9 = (σ 31 11) ∧ τ = σ)) := by
  refine mt (own := RX0) (plainFor_of_name rfl) rfl (Nat.le_of_ble_eq_true rfl) ?_
  intro p e s m args below meth c ls F hr hk X hl
  have hl : lv_has ls 1 [(0, .ref (gY G 31))] := hl
  refine r_aload_n F hl 0 rfl rfl dX0_isGood_0 ?_
  refine r_get F X 31 (by decide) (eK_31 G _) rfl gl_RX0 11 (by decide) rfl gf_RX0_62 rfl dX0_isGood_1 ?_
  exact r_zret F X hr hk (by omega) dX0_isGood_4 (⟨rfl, rfl⟩)
theorem c_X0_lawIn (l : Launch) (G : GT) (σ : St) (K : Int) (x : Int) (j : Int) (hK : σ 31 6 = K ∧ 0 ≤ K ∧ K ≤ 6) (hx : 0 ≤ x ∧ x < 4096) (hj : 0 ≤ j ∧ j ≤ 12) : Ct l yX0_lawIn cX0_lawIn 3 (some .int) 1 G [.ref (gY G 31), .int (I x), .int (I j)] σ (QI G (fun res9 τ => res9 = (lwn K x j) ∧ τ = σ)) := by
  refine mt (own := RX0) (plainFor_of_name rfl) rfl (Nat.le_of_ble_eq_true rfl) ?_
  intro p e s m args below meth c ls F hr hk X hl
  have hl : lv_has ls 3 [(0, .ref (gY G 31)), (1, .int (I x)), (2, .int (I j))] := hl
  refine r_iload_n F hl 2 rfl rfl dX0_lawIn_0 ?_
  refine r_aload_n F hl 0 rfl rfl dX0_lawIn_1 ?_
  refine r_get F X 31 (by decide) (eK_31 G _) rfl gl_RX0 6 (by decide) rfl gf_RX0_79 rfl dX0_lawIn_2 ?_
  refine r_eqI (b := K) (hK.1) ?_
  refine r_icmp_ge F 25 (by decide) (by omega) (by omega) dX0_lawIn_5 (fun c1 => ?_) (fun c1 => ?_)
  · skip
    have hl0 : (0 : Int) = lwn K x j := by unfold lwn; rw [if_neg (by omega)]
    refine r_iconst F dX0_lawIn_25 ?_
    exact r_iret F X hr hk dX0_lawIn_26 (⟨by first | exact hl0 | exact lwn_eq (by omega) rfl, rfl⟩)
  · skip
    refine r_iload_n F hl 1 rfl rfl dX0_lawIn_8 ?_
    refine r_iconst F dX0_lawIn_9 ?_
    refine r_aload_n F hl 0 rfl rfl dX0_lawIn_10 ?_
    refine r_get F X 31 (by decide) (eK_31 G _) rfl gl_RX0 6 (by decide) rfl gf_RX0_79 rfl dX0_lawIn_11 ?_
    refine r_eqI (b := K) (hK.1) ?_
    refine r_iconst F dX0_lawIn_14 ?_
    refine r_isub F dX0_lawIn_15 ?_
    refine r_iload_n F hl 2 rfl rfl dX0_lawIn_16 ?_
    refine r_isub F dX0_lawIn_17 ?_
    refine r_imul F dX0_lawIn_18 ?_
    refine r_ishr F (by omega) (by omega) dX0_lawIn_19 ?_
    refine r_iconst F dX0_lawIn_20 ?_
    refine r_and3 F (by exact Int.ediv_nonneg hx.1 (Int.le_of_lt (Int.pow_pos (by decide)))) dX0_lawIn_21 ?_
    refine r_goto F 26 (by decide) dX0_lawIn_22 ?_
    exact r_iret F X hr hk dX0_lawIn_26 (⟨by first | exact hl0 | exact lwn_eq (by omega) rfl, rfl⟩)
theorem c_X0_isBetter (l : Launch) (G : GT) (σ : St) (g : Int) (s2 : Int) (t2 : Int) (hg : g = 0 ∨ g = 1) (hg2 : σ 31 11 = 0 ∨ σ 31 11 = 1) (hs2 : 0 ≤ s2 ∧ s2 ≤ 3996) (ht2 : 0 ≤ t2 ∧ t2 ≤ 3996) (hs3 : 0 ≤ σ 31 9 ∧ σ 31 9 ≤ 3996) (ht3 : 0 ≤ σ 31 10 ∧ σ 31 10 ≤ 3996) : Ct l yX0_isBetter cX0_isBetter 4 (some .boolean) 1 G [.ref (gY G 31), .int (I g), .int (I s2), .int (I t2)] σ (QI G (fun res9 τ => res9 = (if g ≠ σ 31 11 then g else if s2 < σ 31 9 ∨ (s2 = σ 31 9 ∧ t2 < σ 31 10) then 1 else 0) ∧ τ = σ)) := by
  refine mt (own := RX0) (plainFor_of_name rfl) rfl (Nat.le_of_ble_eq_true rfl) ?_
  intro p e s m args below meth c ls F hr hk X hl
  have hl : lv_has ls 4 [(0, .ref (gY G 31)), (1, .int (I g)), (2, .int (I s2)), (3, .int (I t2))] := hl
  refine r_iload_n F hl 1 rfl rfl dX0_isBetter_0 ?_
  refine r_aload_n F hl 0 rfl rfl dX0_isBetter_1 ?_
  refine r_get F X 31 (by decide) (eK_31 G _) rfl gl_RX0 11 (by decide) rfl gf_RX0_62 rfl dX0_isBetter_2 ?_
  refine r_icmp_eq F 10 (by decide) (by omega) (by omega) dX0_isBetter_5 (fun c1 => ?_) (fun c1 => ?_)
  · skip
    refine r_iload_n F hl 2 rfl rfl dX0_isBetter_10 ?_
    refine r_aload_n F hl 0 rfl rfl dX0_isBetter_11 ?_
    refine r_get F X 31 (by decide) (eK_31 G _) rfl gl_RX0 9 (by decide) rfl gf_RX0_56 rfl dX0_isBetter_12 ?_
    refine r_icmp_lt F 34 (by decide) (by omega) (by omega) dX0_isBetter_15 (fun c2 => ?_) (fun c2 => ?_)
    · skip
      refine r_iconst F dX0_isBetter_34 ?_
      refine r_goto F 39 (by decide) dX0_isBetter_35 ?_
      exact r_zret F X hr hk (by omega) dX0_isBetter_39 (⟨by grind, rfl⟩)
    · skip
      refine r_iload_n F hl 2 rfl rfl dX0_isBetter_18 ?_
      refine r_aload_n F hl 0 rfl rfl dX0_isBetter_19 ?_
      refine r_get F X 31 (by decide) (eK_31 G _) rfl gl_RX0 9 (by decide) rfl gf_RX0_56 rfl dX0_isBetter_20 ?_
      refine r_icmp_ne F 38 (by decide) (by omega) (by omega) dX0_isBetter_23 (fun c3 => ?_) (fun c3 => ?_)
      · skip
        refine r_iconst F dX0_isBetter_38 ?_
        exact r_zret F X hr hk (by omega) dX0_isBetter_39 (⟨by grind, rfl⟩)
      · skip
        refine r_iload_n F hl 3 rfl rfl dX0_isBetter_26 ?_
        refine r_aload_n F hl 0 rfl rfl dX0_isBetter_27 ?_
        refine r_get F X 31 (by decide) (eK_31 G _) rfl gl_RX0 10 (by decide) rfl gf_RX0_59 rfl dX0_isBetter_28 ?_
        refine r_icmp_ge F 38 (by decide) (by omega) (by omega) dX0_isBetter_31 (fun c4 => ?_) (fun c4 => ?_)
        · skip
          refine r_iconst F dX0_isBetter_38 ?_
          exact r_zret F X hr hk (by omega) dX0_isBetter_39 (⟨by grind, rfl⟩)
        · skip
          refine r_iconst F dX0_isBetter_34 ?_
          refine r_goto F 39 (by decide) dX0_isBetter_35 ?_
          exact r_zret F X hr hk (by omega) dX0_isBetter_39 (⟨by grind, rfl⟩)
  · skip
    refine r_iload_n F hl 1 rfl rfl dX0_isBetter_8 ?_
    exact r_zret F X hr hk (by omega) dX0_isBetter_9 (⟨by grind, rfl⟩)
theorem c_X0_measurePair (l : Launch) (G : GT) (σ : St) (N : Int) (r : Int → Int) (u2 : Int) (fr : Int) (sp : Int) (hP : PL σ N r) (hW : WF N r) (hN : σ 18 2 = N) (hL : LR (σ (18 + 2 + 0)) N) (hu : 0 ≤ u2 ∧ u2 < 96) (hfr : 0 ≤ fr ∧ fr < N) (hsp : 1 ≤ sp ∧ sp ≤ N) : Ct l yX0_measurePair cX0_measurePair 12 none 5 G [.ref (gY G 31), .int (I u2), .int (I fr), .int (I sp)] σ (QV G (fun τ9 => (∀ c : Nat, (c < 21 ∨ 30 < c) → c ≠ 33 → c ≠ 34 → c ≠ 35 → τ9 c = σ c) ∧ τ9 33 = upI (σ 33) u2 (mxI (fun k9 => d2 (σ (18 + 2 + 0)) N (fr + 1 + k9)) sp) ∧ τ9 34 = upI (σ 34) u2 (mxI (fun k9 => d3 (σ (18 + 2 + 0)) N (fr + 1 + k9)) sp) ∧ τ9 35 = upI (σ 35) u2 (if alI (fun k9 => ga (σ (18 + 2 + 0)) N r ((fr + 1 + k9) % N)) sp = true then 1 else 0))) := by
  refine mt (own := RX0) (plainFor_of_name rfl) rfl (Nat.le_of_ble_eq_true rfl) ?_
  intro p e s m args below meth c ls F hr hk X hl
  have hl : lv_has ls 12 [(0, .ref (gY G 31)), (1, .int (I u2)), (2, .int (I fr)), (3, .int (I sp))] := hl
  have hw := hW.num
  refine r_aload_n F hl 0 rfl rfl dX0_measurePair_0 ?_
  refine r_get F X 31 (by decide) (eK_31 G _) rfl gl_RX0 0 (by decide) rfl gf_RX0_25 rfl dX0_measurePair_1 ?_
  refine r_iconst F dX0_measurePair_4 ?_
  refine d_cVI F X 1 (by decide) (eK_1 G _) rfl (c_X2_get l G σ N 0 (by omega) (hP.st)) gv_RX0_75 rfl nd_X2_get rfl (rest := []) rfl (Nat.le_of_ble_eq_true rfl) ⟨Nat.le_of_ble_eq_true rfl, Nat.le_of_ble_eq_true rfl⟩ ⟨Nat.zero_le _, Nat.zero_le _⟩ hl.1 dX0_measurePair_5 (fun H locs X => ?_)
  refine r_istore F hl [(4, .int (I N)), (0, .ref (gY G 31)), (1, .int (I u2)), (2, .int (I fr)), (3, .int (I sp))] (by decide) rfl dX0_measurePair_8 (fun ls hl => ?_)
  refine r_lconst F 0 (by decide +kernel) dX0_measurePair_10 ?_
  refine r_lstore F hl [(5, .long (J 0)), (4, .int (I N)), (0, .ref (gY G 31)), (1, .int (I u2)), (2, .int (I fr)), (3, .int (I sp))] (by decide) rfl dX0_measurePair_11 (fun ls hl => ?_)
  refine r_lconst F 0 (by decide +kernel) dX0_measurePair_13 ?_
  refine r_lstore F hl [(7, .long (J 0)), (5, .long (J 0)), (4, .int (I N)), (0, .ref (gY G 31)), (1, .int (I u2)), (2, .int (I fr)), (3, .int (I sp))] (by decide) rfl dX0_measurePair_14 (fun ls hl => ?_)
  refine r_iconst F dX0_measurePair_16 ?_
  refine r_istore F hl [(9, .int (I 1)), (7, .long (J 0)), (5, .long (J 0)), (4, .int (I N)), (0, .ref (gY G 31)), (1, .int (I u2)), (2, .int (I fr)), (3, .int (I sp))] (by decide) rfl dX0_measurePair_17 (fun ls hl => ?_)
  refine r_iconst F dX0_measurePair_19 ?_
  refine r_istore F hl [(10, .int (I 1)), (9, .int (I 1)), (7, .long (J 0)), (5, .long (J 0)), (4, .int (I N)), (0, .ref (gY G 31)), (1, .int (I u2)), (2, .int (I fr)), (3, .int (I sp))] (by decide) rfl dX0_measurePair_20 (fun ls hl => ?_)
  have loop22 : ∀ (n : Nat) (k : Int) (τ : St) (ls : Array Slot) (H : Heap) (locs : List Loc) (hn : sp - k < n) (hk2 : 0 ≤ k ∧ k ≤ sp) (hfm : ∀ c : Nat, (c < 21 ∨ 30 < c) → τ c = σ c) (X : HX G τ s H locs) (hl : lv_has ls 12 [(0, .ref (gY G 31)), (1, .int (I u2)), (2, .int (I fr)), (3, .int (I sp)), (4, .int (I N)), (5, .long (J (mxI (fun k9 => d2 (σ (18 + 2 + 0)) N (fr + 1 + k9)) k))), (7, .long (J (mxI (fun k9 => d3 (σ (18 + 2 + 0)) N (fr + 1 + k9)) k))), (9, .int (I (if alI (fun k9 => ga (σ (18 + 2 + 0)) N r ((fr + 1 + k9) % N)) k = true then 1 else 0))), (10, .int (I (k + 1)))]), W p l e (rmd 5) s m args below meth c H locs 0 0 (MQ below (QV G (fun τ9 => (∀ c : Nat, (c < 21 ∨ 30 < c) → c ≠ 33 → c ≠ 34 → c ≠ 35 → τ9 c = σ c) ∧ τ9 33 = upI (σ 33) u2 (mxI (fun k9 => d2 (σ (18 + 2 + 0)) N (fr + 1 + k9)) sp) ∧ τ9 34 = upI (σ 34) u2 (mxI (fun k9 => d3 (σ (18 + 2 + 0)) N (fr + 1 + k9)) sp) ∧ τ9 35 = upI (σ 35) u2 (if alI (fun k9 => ga (σ (18 + 2 + 0)) N r ((fr + 1 + k9) % N)) sp = true then 1 else 0))) args s 0 0 (gA G)) (F0 m 22 ls []) := by
    intro n
    induction n with
    | zero => intro k τ ls H locs hn hk2 hfm X hl; omega
    | succ n ih22 =>
      intro k τ ls H locs hn hk2 hfm X hl
      refine r_iload F hl 8 rfl dX0_measurePair_22 ?_
      refine r_iload_n F hl 3 rfl rfl dX0_measurePair_24 ?_
      refine r_icmp_gt F 132 (by decide) (by omega) (by omega) dX0_measurePair_25 (fun c1 => ?_) (fun c1 => ?_)
      · skip
        refine r_iload_n F hl 1 rfl rfl dX0_measurePair_132 ?_
        refine r_if_lt F 171 (by decide) (by omega) dX0_measurePair_133 (fun c2 => ?_) (fun c2 => ?_)
        · omega
        · skip
          refine r_iload_n F hl 1 rfl rfl dX0_measurePair_136 ?_
          refine r_aload_n F hl 0 rfl rfl dX0_measurePair_137 ?_
          refine r_get F X 31 (by decide) (eK_31 G _) rfl gl_RX0 5 (by decide) rfl gf_RX0_21 rfl dX0_measurePair_138 ?_
          refine r_alen F X 35 (by decide) 2 (eK_35 G _) rfl 96 rfl dX0_measurePair_141 ?_
          refine r_icmp_ge F 171 (by decide) (by omega) (by omega) dX0_measurePair_142 (fun c3 => ?_) (fun c3 => ?_)
          · omega
          · skip
            refine r_aload_n F hl 0 rfl rfl dX0_measurePair_145 ?_
            refine r_get F X 31 (by decide) (eK_31 G _) rfl gl_RX0 3 (by decide) rfl gf_RX0_15 rfl dX0_measurePair_146 ?_
            refine r_iload_n F hl 1 rfl rfl dX0_measurePair_149 ?_
            refine r_lload F hl 5 rfl dX0_measurePair_150 ?_
            refine r_l2i F dX0_measurePair_152 ?_
            refine r_iast F X 33 (by decide) (eK_33 G) (by omega) (by decide) dX0_measurePair_153 (fun H locs X => ?_)
            obtain ⟨σ1, eσ1⟩ : ∃ x : St, x = up τ 33 (upI (τ 33) u2 (mxI (fun k9 => d2 (σ (18 + 2 + 0)) N (fr + 1 + k9)) k)) := ⟨_, rfl⟩
            rw [← eσ1] at X
            refine r_aload_n F hl 0 rfl rfl dX0_measurePair_154 ?_
            refine r_get F X 31 (by decide) (eK_31 G _) rfl gl_RX0 4 (by decide) rfl gf_RX0_18 rfl dX0_measurePair_155 ?_
            refine r_iload_n F hl 1 rfl rfl dX0_measurePair_158 ?_
            refine r_lload F hl 6 rfl dX0_measurePair_159 ?_
            refine r_l2i F dX0_measurePair_161 ?_
            refine r_iast F X 34 (by decide) (eK_34 G) (by omega) (by decide) dX0_measurePair_162 (fun H locs X => ?_)
            obtain ⟨σ2, eσ2⟩ : ∃ x : St, x = up σ1 34 (upI (σ1 34) u2 (mxI (fun k9 => d3 (σ (18 + 2 + 0)) N (fr + 1 + k9)) k)) := ⟨_, rfl⟩
            rw [← eσ2] at X
            refine r_aload_n F hl 0 rfl rfl dX0_measurePair_163 ?_
            refine r_get F X 31 (by decide) (eK_31 G _) rfl gl_RX0 5 (by decide) rfl gf_RX0_21 rfl dX0_measurePair_164 ?_
            refine r_iload_n F hl 1 rfl rfl dX0_measurePair_167 ?_
            refine r_iload F hl 7 rfl dX0_measurePair_168 ?_
            refine r_zast F X 35 (by decide) (eK_35 G) (by omega) (by decide) (by split <;> simp) dX0_measurePair_170 (fun H locs X => ?_)
            obtain ⟨σ3, eσ3⟩ : ∃ x : St, x = up σ2 35 (upI (σ2 35) u2 (if alI (fun k9 => ga (σ (18 + 2 + 0)) N r ((fr + 1 + k9) % N)) k = true then 1 else 0)) := ⟨_, rfl⟩
            rw [← eσ3] at X
            exact r_vret F X hr hk dX0_measurePair_171 (⟨fun c a b d e => by rw [eσ3, up_ne e, eσ2, up_ne d, eσ1, up_ne b]; exact hfm c a, by rw [eσ3, up_ne (by omega), eσ2, up_ne (by omega), eσ1, up_eq, hfm 33 (by omega), show k = sp by omega], by rw [eσ3, up_ne (by omega), eσ2, up_eq, eσ1, up_ne (by omega), hfm 34 (by omega), show k = sp by omega], by rw [eσ3, up_eq, eσ2, up_ne (by omega), eσ1, up_ne (by omega), hfm 35 (by omega), show k = sp by omega]⟩)
      · skip
        refine r_iload_n F hl 2 rfl rfl dX0_measurePair_28 ?_
        refine r_iload F hl 8 rfl dX0_measurePair_29 ?_
        refine r_iadd F dX0_measurePair_31 ?_
        refine r_iload F hl 4 rfl dX0_measurePair_32 ?_
        refine r_icmp_ge F 44 (by decide) (by omega) (by omega) dX0_measurePair_34 (fun c4 => ?_) (fun c4 => ?_)
        · skip
          refine r_iload_n F hl 2 rfl rfl dX0_measurePair_44 ?_
          refine r_iload F hl 8 rfl dX0_measurePair_45 ?_
          refine r_iadd F dX0_measurePair_47 ?_
          refine r_iload F hl 4 rfl dX0_measurePair_48 ?_
          refine r_isub F dX0_measurePair_50 ?_
          refine r_eqI (b := (fr + (k + 1)) % N) (by first | exact (em_in (by omega)).symm | exact (em_hi (by omega)).symm) ?_
          refine r_nmI (fun i ei => ?_)
          refine r_istore F hl [(11, .int (I i)), (0, .ref (gY G 31)), (1, .int (I u2)), (2, .int (I fr)), (3, .int (I sp)), (4, .int (I N)), (5, .long (J (mxI (fun k9 => d2 (σ (18 + 2 + 0)) N (fr + 1 + k9)) k))), (7, .long (J (mxI (fun k9 => d3 (σ (18 + 2 + 0)) N (fr + 1 + k9)) k))), (9, .int (I (if alI (fun k9 => ga (σ (18 + 2 + 0)) N r ((fr + 1 + k9) % N)) k = true then 1 else 0))), (10, .int (I (k + 1)))] (by decide) rfl dX0_measurePair_51 (fun ls hl => ?_)
          have hi : 0 ≤ i ∧ i < N := by rw [ei]; exact ⟨Int.emod_nonneg _ (by omega), Int.emod_lt_of_pos _ (by omega)⟩
          refine r_aload_n F hl 1 rfl rfl dX0_measurePair_53 ?_
          refine r_get F X 31 (by decide) (eK_31 G _) rfl gl_RX0 1 (by decide) rfl gf_RX0_29 rfl dX0_measurePair_54 ?_
          refine r_iload F hl 0 rfl dX0_measurePair_57 ?_
          refine d_cVV F X 18 (by decide) (eK_P (Or.inr rfl : (18 : Nat) = 5 ∨ (18 : Nat) = 18) G _) rfl (c_X3_measure l G τ 18 N r (σ (18 + 2 + 0)) i (Or.inr rfl) (by unfold PL; rw [hfm 2 (by omega)]; exact hP) hW (by rw [hfm 18 (by omega)]; exact hN) ((hfm (18 + 2 + 0) (by omega)).symm) hL (by omega)) gv_RX0_104 rfl nd_X3_measure rfl (rest := []) rfl (Nat.le_of_ble_eq_true rfl) ⟨Nat.le_of_ble_eq_true rfl, Nat.le_of_ble_eq_true rfl⟩ ⟨Nat.zero_le _, Nat.zero_le _⟩ hl.1 dX0_measurePair_59 (fun H locs X => ?_)
          obtain ⟨σ4, eσ4⟩ : ∃ x : St, x = msr τ 18 N r (σ (18 + 2 + 0)) i := ⟨_, rfl⟩
          rw [← eσ4] at X
          have hda : DA σ4 18 N r (σ (18 + 2 + 0)) i := by rw [eσ4]; exact msr_at (hfm (18 + 2 + 0) (by omega)).symm (by omega)
          have hfm1 : ∀ c : Nat, (c < 21 ∨ 30 < c) → σ4 c = σ c := fun c q => by rw [eσ4]; unfold msr; rw [if_neg (by omega)]; exact hfm c q
          have h18 : σ4 18 2 = N := by rw [hfm1 18 (by omega)]; exact hN
          have hgi : ga (σ (18 + 2 + 0)) N r ((fr + 1 + k) % N) = ga (σ (18 + 2 + 0)) N r i := by rw [ei]; congr 2; omega
          refine r_lload F hl 6 rfl dX0_measurePair_62 ?_
          refine r_aload_n F hl 1 rfl rfl dX0_measurePair_64 ?_
          refine r_get F X 31 (by decide) (eK_31 G _) rfl gl_RX0 1 (by decide) rfl gf_RX0_29 rfl dX0_measurePair_65 ?_
          refine r_iconst F dX0_measurePair_68 ?_
          refine r_iload F hl 0 rfl dX0_measurePair_69 ?_
          refine d_cVJ F X 18 (by decide) (eK_P (Or.inr rfl : (18 : Nat) = 5 ∨ (18 : Nat) = 18) G _) rfl (c_X3_at l G σ4 18 2 i (Or.inr rfl) (by omega) (by rw [h18]; omega) (by rw [h18]; omega)) gv_RX0_107 rfl nd_X3_at rfl (rest := [.long (J (mxI (fun k9 => d2 (σ (18 + 2 + 0)) N (fr + 1 + k9)) k))]) rfl (Nat.le_of_ble_eq_true rfl) ⟨Nat.le_of_ble_eq_true rfl, Nat.le_of_ble_eq_true rfl⟩ ⟨Nat.zero_le _, Nat.zero_le _⟩ hl.1 dX0_measurePair_71 (fun H locs X => ?_)
          refine r_eqJ (b := d2 (σ (18 + 2 + 0)) N (fr + 1 + k)) (by rw [h18, em_in hi]; exact (hda 2 (by decide)).trans (by show d2 (σ (18 + 2 + 0)) N i = _; rw [ei]; rw [d2_mod]; congr 1; omega)) ?_
          refine d_cSJ F X (c_J9_abs l G σ4 (d2 (σ (18 + 2 + 0)) N (fr + 1 + k)) (by have := (hL.d (show 0 < N by omega) (fr + 1 + k)).2.1; omega)) gv_RX0_111 nd_J9_abs_067f4 rfl (rest := [.long (J (mxI (fun k9 => d2 (σ (18 + 2 + 0)) N (fr + 1 + k9)) k))]) rfl (Nat.le_of_ble_eq_true rfl) ⟨Nat.le_of_ble_eq_true rfl, Nat.le_of_ble_eq_true rfl⟩ ⟨Nat.zero_le _, Nat.zero_le _⟩ hl.1 dX0_measurePair_74 (fun H locs X => ?_)
          refine d_cSJ F X (c_J9_maxL l G σ4 (mxI (fun k9 => d2 (σ (18 + 2 + 0)) N (fr + 1 + k9)) k) (ab (d2 (σ (18 + 2 + 0)) N (fr + 1 + k))) (by have := mxI_rg (n := k) (show (0 : Int) ≤ 3996 by omega) (fun j => show -3996 ≤ d2 (σ (18 + 2 + 0)) N (fr + 1 + j) ∧ d2 (σ (18 + 2 + 0)) N (fr + 1 + j) ≤ 3996 by have := (hL.d (show 0 < N by omega) (fr + 1 + j)).2.1; omega); omega) (by have := (hL.d (show 0 < N by omega) (fr + 1 + k)).2.1; have := ab_nn (d2 (σ (18 + 2 + 0)) N (fr + 1 + k)); omega)) gv_RX0_115 nd_J9_max_f86c9 rfl (rest := []) rfl (Nat.le_of_ble_eq_true rfl) ⟨Nat.le_of_ble_eq_true rfl, Nat.le_of_ble_eq_true rfl⟩ ⟨Nat.zero_le _, Nat.zero_le _⟩ hl.1 dX0_measurePair_77 (fun H locs X => ?_)
          refine r_eqJ (b := mxI (fun k9 => d2 (σ (18 + 2 + 0)) N (fr + 1 + k9)) (k + 1)) ((mxI_succ _ (by omega)).symm) ?_
          refine r_lstore F hl [(5, .long (J (mxI (fun k9 => d2 (σ (18 + 2 + 0)) N (fr + 1 + k9)) (k + 1)))), (11, .int (I i)), (0, .ref (gY G 31)), (1, .int (I u2)), (2, .int (I fr)), (3, .int (I sp)), (4, .int (I N)), (7, .long (J (mxI (fun k9 => d3 (σ (18 + 2 + 0)) N (fr + 1 + k9)) k))), (9, .int (I (if alI (fun k9 => ga (σ (18 + 2 + 0)) N r ((fr + 1 + k9) % N)) k = true then 1 else 0))), (10, .int (I (k + 1)))] (by decide) rfl dX0_measurePair_80 (fun ls hl => ?_)
          refine r_lload F hl 7 rfl dX0_measurePair_82 ?_
          refine r_aload_n F hl 2 rfl rfl dX0_measurePair_84 ?_
          refine r_get F X 31 (by decide) (eK_31 G _) rfl gl_RX0 1 (by decide) rfl gf_RX0_29 rfl dX0_measurePair_85 ?_
          refine r_iconst F dX0_measurePair_88 ?_
          refine r_iload F hl 1 rfl dX0_measurePair_89 ?_
          refine d_cVJ F X 18 (by decide) (eK_P (Or.inr rfl : (18 : Nat) = 5 ∨ (18 : Nat) = 18) G _) rfl (c_X3_at l G σ4 18 3 i (Or.inr rfl) (by omega) (by rw [h18]; omega) (by rw [h18]; omega)) gv_RX0_107 rfl nd_X3_at rfl (rest := [.long (J (mxI (fun k9 => d3 (σ (18 + 2 + 0)) N (fr + 1 + k9)) k))]) rfl (Nat.le_of_ble_eq_true rfl) ⟨Nat.le_of_ble_eq_true rfl, Nat.le_of_ble_eq_true rfl⟩ ⟨Nat.zero_le _, Nat.zero_le _⟩ hl.1 dX0_measurePair_91 (fun H locs X => ?_)
          refine r_eqJ (b := d3 (σ (18 + 2 + 0)) N (fr + 1 + k)) (by rw [h18, em_in hi]; exact (hda 3 (by decide)).trans (by show d3 (σ (18 + 2 + 0)) N i = _; rw [ei]; rw [d3_mod]; congr 1; omega)) ?_
          refine d_cSJ F X (c_J9_abs l G σ4 (d3 (σ (18 + 2 + 0)) N (fr + 1 + k)) (by have := (hL.d (show 0 < N by omega) (fr + 1 + k)).2.2; omega)) gv_RX0_111 nd_J9_abs_067f4 rfl (rest := [.long (J (mxI (fun k9 => d3 (σ (18 + 2 + 0)) N (fr + 1 + k9)) k))]) rfl (Nat.le_of_ble_eq_true rfl) ⟨Nat.le_of_ble_eq_true rfl, Nat.le_of_ble_eq_true rfl⟩ ⟨Nat.zero_le _, Nat.zero_le _⟩ hl.1 dX0_measurePair_94 (fun H locs X => ?_)
          refine d_cSJ F X (c_J9_maxL l G σ4 (mxI (fun k9 => d3 (σ (18 + 2 + 0)) N (fr + 1 + k9)) k) (ab (d3 (σ (18 + 2 + 0)) N (fr + 1 + k))) (by have := mxI_rg (n := k) (show (0 : Int) ≤ 3996 by omega) (fun j => (hL.d (show 0 < N by omega) (fr + 1 + j)).2.2); omega) (by have := (hL.d (show 0 < N by omega) (fr + 1 + k)).2.2; have := ab_nn (d3 (σ (18 + 2 + 0)) N (fr + 1 + k)); omega)) gv_RX0_115 nd_J9_max_f86c9 rfl (rest := []) rfl (Nat.le_of_ble_eq_true rfl) ⟨Nat.le_of_ble_eq_true rfl, Nat.le_of_ble_eq_true rfl⟩ ⟨Nat.zero_le _, Nat.zero_le _⟩ hl.1 dX0_measurePair_97 (fun H locs X => ?_)
          refine r_eqJ (b := mxI (fun k9 => d3 (σ (18 + 2 + 0)) N (fr + 1 + k9)) (k + 1)) ((mxI_succ _ (by omega)).symm) ?_
          refine r_lstore F hl [(7, .long (J (mxI (fun k9 => d3 (σ (18 + 2 + 0)) N (fr + 1 + k9)) (k + 1)))), (5, .long (J (mxI (fun k9 => d2 (σ (18 + 2 + 0)) N (fr + 1 + k9)) (k + 1)))), (11, .int (I i)), (0, .ref (gY G 31)), (1, .int (I u2)), (2, .int (I fr)), (3, .int (I sp)), (4, .int (I N)), (9, .int (I (if alI (fun k9 => ga (σ (18 + 2 + 0)) N r ((fr + 1 + k9) % N)) k = true then 1 else 0))), (10, .int (I (k + 1)))] (by decide) rfl dX0_measurePair_100 (fun ls hl => ?_)
          refine r_iload F hl 8 rfl dX0_measurePair_102 ?_
          refine r_bz_eq F 123 (alI (fun k9 => ga (σ (18 + 2 + 0)) N r ((fr + 1 + k9) % N)) k = true) rfl (by decide) dX0_measurePair_104 (fun c5 => ?_) (fun c5 => ?_)
          · skip
            refine r_iconst F dX0_measurePair_123 ?_
            refine r_eqI (b := if alI (fun k9 => ga (σ (18 + 2 + 0)) N r ((fr + 1 + k9) % N)) (k + 1) = true then 1 else 0) (by rw [alI_succ _ (by omega)]; show _ = (if (_ && ga (σ (18 + 2 + 0)) N r ((fr + 1 + k) % N)) = true then 1 else 0); rw [hgi]; grind) ?_
            refine r_istore F hl [(9, .int (I (if alI (fun k9 => ga (σ (18 + 2 + 0)) N r ((fr + 1 + k9) % N)) (k + 1) = true then 1 else 0))), (7, .long (J (mxI (fun k9 => d3 (σ (18 + 2 + 0)) N (fr + 1 + k9)) (k + 1)))), (5, .long (J (mxI (fun k9 => d2 (σ (18 + 2 + 0)) N (fr + 1 + k9)) (k + 1)))), (11, .int (I i)), (0, .ref (gY G 31)), (1, .int (I u2)), (2, .int (I fr)), (3, .int (I sp)), (4, .int (I N)), (10, .int (I (k + 1)))] (by decide) rfl dX0_measurePair_124 (fun ls hl => ?_)
            refine r_iinc F hl [(10, .int (I ((k + 1) + 1))), (9, .int (I (if alI (fun k9 => ga (σ (18 + 2 + 0)) N r ((fr + 1 + k9) % N)) (k + 1) = true then 1 else 0))), (7, .long (J (mxI (fun k9 => d3 (σ (18 + 2 + 0)) N (fr + 1 + k9)) (k + 1)))), (5, .long (J (mxI (fun k9 => d2 (σ (18 + 2 + 0)) N (fr + 1 + k9)) (k + 1)))), (11, .int (I i)), (0, .ref (gY G 31)), (1, .int (I u2)), (2, .int (I fr)), (3, .int (I sp)), (4, .int (I N))] 9 rfl (by decide) rfl dX0_measurePair_126 (fun ls hl => ?_)
            refine r_goto F 22 (by decide) dX0_measurePair_129 ?_
            exact ih22 (k + 1) σ4 _ _ _ (by omega) (by omega) (by exact hfm1) X (lv_sub hl [5, 6, 7, 8, 9, 3, 2, 1, 0] rfl)
          · skip
            refine r_aload_n F hl 3 rfl rfl dX0_measurePair_107 ?_
            refine r_get F X 31 (by decide) (eK_31 G _) rfl gl_RX0 1 (by decide) rfl gf_RX0_29 rfl dX0_measurePair_108 ?_
            refine r_iload F hl 2 rfl dX0_measurePair_111 ?_
            refine d_cVI F X 18 (by decide) (eK_P (Or.inr rfl : (18 : Nat) = 5 ∨ (18 : Nat) = 18) G _) rfl (c_X3_isGoodAt l G σ4 18 N r (σ (18 + 2 + 0)) i (Or.inr rfl) (by unfold PL; rw [hfm1 2 (by omega)]; exact hP) hW (h18) (hda) hL ((hfm1 (18 + 2 + 0) (by omega)).symm) (by omega)) gv_RX0_118 rfl nd_X3_isGoodAt rfl (rest := []) rfl (Nat.le_of_ble_eq_true rfl) ⟨Nat.le_of_ble_eq_true rfl, Nat.le_of_ble_eq_true rfl⟩ ⟨Nat.zero_le _, Nat.zero_le _⟩ hl.1 dX0_measurePair_113 (fun H locs X => ?_)
            refine r_bz_eq F 123 (ga (σ (18 + 2 + 0)) N r i = true) rfl (by decide) dX0_measurePair_116 (fun c6 => ?_) (fun c6 => ?_)
            · skip
              refine r_iconst F dX0_measurePair_123 ?_
              refine r_eqI (b := if alI (fun k9 => ga (σ (18 + 2 + 0)) N r ((fr + 1 + k9) % N)) (k + 1) = true then 1 else 0) (by rw [alI_succ _ (by omega)]; show _ = (if (_ && ga (σ (18 + 2 + 0)) N r ((fr + 1 + k) % N)) = true then 1 else 0); rw [hgi]; grind) ?_
              refine r_istore F hl [(9, .int (I (if alI (fun k9 => ga (σ (18 + 2 + 0)) N r ((fr + 1 + k9) % N)) (k + 1) = true then 1 else 0))), (7, .long (J (mxI (fun k9 => d3 (σ (18 + 2 + 0)) N (fr + 1 + k9)) (k + 1)))), (5, .long (J (mxI (fun k9 => d2 (σ (18 + 2 + 0)) N (fr + 1 + k9)) (k + 1)))), (11, .int (I i)), (0, .ref (gY G 31)), (1, .int (I u2)), (2, .int (I fr)), (3, .int (I sp)), (4, .int (I N)), (10, .int (I (k + 1)))] (by decide) rfl dX0_measurePair_124 (fun ls hl => ?_)
              refine r_iinc F hl [(10, .int (I ((k + 1) + 1))), (9, .int (I (if alI (fun k9 => ga (σ (18 + 2 + 0)) N r ((fr + 1 + k9) % N)) (k + 1) = true then 1 else 0))), (7, .long (J (mxI (fun k9 => d3 (σ (18 + 2 + 0)) N (fr + 1 + k9)) (k + 1)))), (5, .long (J (mxI (fun k9 => d2 (σ (18 + 2 + 0)) N (fr + 1 + k9)) (k + 1)))), (11, .int (I i)), (0, .ref (gY G 31)), (1, .int (I u2)), (2, .int (I fr)), (3, .int (I sp)), (4, .int (I N))] 9 rfl (by decide) rfl dX0_measurePair_126 (fun ls hl => ?_)
              refine r_goto F 22 (by decide) dX0_measurePair_129 ?_
              exact ih22 (k + 1) σ4 _ _ _ (by omega) (by omega) (by exact hfm1) X (lv_sub hl [5, 6, 7, 8, 9, 3, 2, 1, 0] rfl)
            · skip
              refine r_iconst F dX0_measurePair_119 ?_
              refine r_goto F 124 (by decide) dX0_measurePair_120 ?_
              refine r_eqI (b := if alI (fun k9 => ga (σ (18 + 2 + 0)) N r ((fr + 1 + k9) % N)) (k + 1) = true then 1 else 0) (by rw [alI_succ _ (by omega)]; show _ = (if (_ && ga (σ (18 + 2 + 0)) N r ((fr + 1 + k) % N)) = true then 1 else 0); rw [hgi]; grind) ?_
              refine r_istore F hl [(9, .int (I (if alI (fun k9 => ga (σ (18 + 2 + 0)) N r ((fr + 1 + k9) % N)) (k + 1) = true then 1 else 0))), (7, .long (J (mxI (fun k9 => d3 (σ (18 + 2 + 0)) N (fr + 1 + k9)) (k + 1)))), (5, .long (J (mxI (fun k9 => d2 (σ (18 + 2 + 0)) N (fr + 1 + k9)) (k + 1)))), (11, .int (I i)), (0, .ref (gY G 31)), (1, .int (I u2)), (2, .int (I fr)), (3, .int (I sp)), (4, .int (I N)), (10, .int (I (k + 1)))] (by decide) rfl dX0_measurePair_124 (fun ls hl => ?_)
              refine r_iinc F hl [(10, .int (I ((k + 1) + 1))), (9, .int (I (if alI (fun k9 => ga (σ (18 + 2 + 0)) N r ((fr + 1 + k9) % N)) (k + 1) = true then 1 else 0))), (7, .long (J (mxI (fun k9 => d3 (σ (18 + 2 + 0)) N (fr + 1 + k9)) (k + 1)))), (5, .long (J (mxI (fun k9 => d2 (σ (18 + 2 + 0)) N (fr + 1 + k9)) (k + 1)))), (11, .int (I i)), (0, .ref (gY G 31)), (1, .int (I u2)), (2, .int (I fr)), (3, .int (I sp)), (4, .int (I N))] 9 rfl (by decide) rfl dX0_measurePair_126 (fun ls hl => ?_)
              refine r_goto F 22 (by decide) dX0_measurePair_129 ?_
              exact ih22 (k + 1) σ4 _ _ _ (by omega) (by omega) (by exact hfm1) X (lv_sub hl [5, 6, 7, 8, 9, 3, 2, 1, 0] rfl)
        · skip
          refine r_iload_n F hl 2 rfl rfl dX0_measurePair_37 ?_
          refine r_iload F hl 8 rfl dX0_measurePair_38 ?_
          refine r_iadd F dX0_measurePair_40 ?_
          refine r_goto F 51 (by decide) dX0_measurePair_41 ?_
          refine r_eqI (b := (fr + (k + 1)) % N) (by first | exact (em_in (by omega)).symm | exact (em_hi (by omega)).symm) ?_
          refine r_nmI (fun i ei => ?_)
          refine r_istore F hl [(11, .int (I i)), (0, .ref (gY G 31)), (1, .int (I u2)), (2, .int (I fr)), (3, .int (I sp)), (4, .int (I N)), (5, .long (J (mxI (fun k9 => d2 (σ (18 + 2 + 0)) N (fr + 1 + k9)) k))), (7, .long (J (mxI (fun k9 => d3 (σ (18 + 2 + 0)) N (fr + 1 + k9)) k))), (9, .int (I (if alI (fun k9 => ga (σ (18 + 2 + 0)) N r ((fr + 1 + k9) % N)) k = true then 1 else 0))), (10, .int (I (k + 1)))] (by decide) rfl dX0_measurePair_51 (fun ls hl => ?_)
          have hi : 0 ≤ i ∧ i < N := by rw [ei]; exact ⟨Int.emod_nonneg _ (by omega), Int.emod_lt_of_pos _ (by omega)⟩
          refine r_aload_n F hl 1 rfl rfl dX0_measurePair_53 ?_
          refine r_get F X 31 (by decide) (eK_31 G _) rfl gl_RX0 1 (by decide) rfl gf_RX0_29 rfl dX0_measurePair_54 ?_
          refine r_iload F hl 0 rfl dX0_measurePair_57 ?_
          refine d_cVV F X 18 (by decide) (eK_P (Or.inr rfl : (18 : Nat) = 5 ∨ (18 : Nat) = 18) G _) rfl (c_X3_measure l G τ 18 N r (σ (18 + 2 + 0)) i (Or.inr rfl) (by unfold PL; rw [hfm 2 (by omega)]; exact hP) hW (by rw [hfm 18 (by omega)]; exact hN) ((hfm (18 + 2 + 0) (by omega)).symm) hL (by omega)) gv_RX0_104 rfl nd_X3_measure rfl (rest := []) rfl (Nat.le_of_ble_eq_true rfl) ⟨Nat.le_of_ble_eq_true rfl, Nat.le_of_ble_eq_true rfl⟩ ⟨Nat.zero_le _, Nat.zero_le _⟩ hl.1 dX0_measurePair_59 (fun H locs X => ?_)
          obtain ⟨σ5, eσ5⟩ : ∃ x : St, x = msr τ 18 N r (σ (18 + 2 + 0)) i := ⟨_, rfl⟩
          rw [← eσ5] at X
          have hda : DA σ5 18 N r (σ (18 + 2 + 0)) i := by rw [eσ5]; exact msr_at (hfm (18 + 2 + 0) (by omega)).symm (by omega)
          have hfm1 : ∀ c : Nat, (c < 21 ∨ 30 < c) → σ5 c = σ c := fun c q => by rw [eσ5]; unfold msr; rw [if_neg (by omega)]; exact hfm c q
          have h18 : σ5 18 2 = N := by rw [hfm1 18 (by omega)]; exact hN
          have hgi : ga (σ (18 + 2 + 0)) N r ((fr + 1 + k) % N) = ga (σ (18 + 2 + 0)) N r i := by rw [ei]; congr 2; omega
          refine r_lload F hl 6 rfl dX0_measurePair_62 ?_
          refine r_aload_n F hl 1 rfl rfl dX0_measurePair_64 ?_
          refine r_get F X 31 (by decide) (eK_31 G _) rfl gl_RX0 1 (by decide) rfl gf_RX0_29 rfl dX0_measurePair_65 ?_
          refine r_iconst F dX0_measurePair_68 ?_
          refine r_iload F hl 0 rfl dX0_measurePair_69 ?_
          refine d_cVJ F X 18 (by decide) (eK_P (Or.inr rfl : (18 : Nat) = 5 ∨ (18 : Nat) = 18) G _) rfl (c_X3_at l G σ5 18 2 i (Or.inr rfl) (by omega) (by rw [h18]; omega) (by rw [h18]; omega)) gv_RX0_107 rfl nd_X3_at rfl (rest := [.long (J (mxI (fun k9 => d2 (σ (18 + 2 + 0)) N (fr + 1 + k9)) k))]) rfl (Nat.le_of_ble_eq_true rfl) ⟨Nat.le_of_ble_eq_true rfl, Nat.le_of_ble_eq_true rfl⟩ ⟨Nat.zero_le _, Nat.zero_le _⟩ hl.1 dX0_measurePair_71 (fun H locs X => ?_)
          refine r_eqJ (b := d2 (σ (18 + 2 + 0)) N (fr + 1 + k)) (by rw [h18, em_in hi]; exact (hda 2 (by decide)).trans (by show d2 (σ (18 + 2 + 0)) N i = _; rw [ei]; rw [d2_mod]; congr 1; omega)) ?_
          refine d_cSJ F X (c_J9_abs l G σ5 (d2 (σ (18 + 2 + 0)) N (fr + 1 + k)) (by have := (hL.d (show 0 < N by omega) (fr + 1 + k)).2.1; omega)) gv_RX0_111 nd_J9_abs_067f4 rfl (rest := [.long (J (mxI (fun k9 => d2 (σ (18 + 2 + 0)) N (fr + 1 + k9)) k))]) rfl (Nat.le_of_ble_eq_true rfl) ⟨Nat.le_of_ble_eq_true rfl, Nat.le_of_ble_eq_true rfl⟩ ⟨Nat.zero_le _, Nat.zero_le _⟩ hl.1 dX0_measurePair_74 (fun H locs X => ?_)
          refine d_cSJ F X (c_J9_maxL l G σ5 (mxI (fun k9 => d2 (σ (18 + 2 + 0)) N (fr + 1 + k9)) k) (ab (d2 (σ (18 + 2 + 0)) N (fr + 1 + k))) (by have := mxI_rg (n := k) (show (0 : Int) ≤ 3996 by omega) (fun j => show -3996 ≤ d2 (σ (18 + 2 + 0)) N (fr + 1 + j) ∧ d2 (σ (18 + 2 + 0)) N (fr + 1 + j) ≤ 3996 by have := (hL.d (show 0 < N by omega) (fr + 1 + j)).2.1; omega); omega) (by have := (hL.d (show 0 < N by omega) (fr + 1 + k)).2.1; have := ab_nn (d2 (σ (18 + 2 + 0)) N (fr + 1 + k)); omega)) gv_RX0_115 nd_J9_max_f86c9 rfl (rest := []) rfl (Nat.le_of_ble_eq_true rfl) ⟨Nat.le_of_ble_eq_true rfl, Nat.le_of_ble_eq_true rfl⟩ ⟨Nat.zero_le _, Nat.zero_le _⟩ hl.1 dX0_measurePair_77 (fun H locs X => ?_)
          refine r_eqJ (b := mxI (fun k9 => d2 (σ (18 + 2 + 0)) N (fr + 1 + k9)) (k + 1)) ((mxI_succ _ (by omega)).symm) ?_
          refine r_lstore F hl [(5, .long (J (mxI (fun k9 => d2 (σ (18 + 2 + 0)) N (fr + 1 + k9)) (k + 1)))), (11, .int (I i)), (0, .ref (gY G 31)), (1, .int (I u2)), (2, .int (I fr)), (3, .int (I sp)), (4, .int (I N)), (7, .long (J (mxI (fun k9 => d3 (σ (18 + 2 + 0)) N (fr + 1 + k9)) k))), (9, .int (I (if alI (fun k9 => ga (σ (18 + 2 + 0)) N r ((fr + 1 + k9) % N)) k = true then 1 else 0))), (10, .int (I (k + 1)))] (by decide) rfl dX0_measurePair_80 (fun ls hl => ?_)
          refine r_lload F hl 7 rfl dX0_measurePair_82 ?_
          refine r_aload_n F hl 2 rfl rfl dX0_measurePair_84 ?_
          refine r_get F X 31 (by decide) (eK_31 G _) rfl gl_RX0 1 (by decide) rfl gf_RX0_29 rfl dX0_measurePair_85 ?_
          refine r_iconst F dX0_measurePair_88 ?_
          refine r_iload F hl 1 rfl dX0_measurePair_89 ?_
          refine d_cVJ F X 18 (by decide) (eK_P (Or.inr rfl : (18 : Nat) = 5 ∨ (18 : Nat) = 18) G _) rfl (c_X3_at l G σ5 18 3 i (Or.inr rfl) (by omega) (by rw [h18]; omega) (by rw [h18]; omega)) gv_RX0_107 rfl nd_X3_at rfl (rest := [.long (J (mxI (fun k9 => d3 (σ (18 + 2 + 0)) N (fr + 1 + k9)) k))]) rfl (Nat.le_of_ble_eq_true rfl) ⟨Nat.le_of_ble_eq_true rfl, Nat.le_of_ble_eq_true rfl⟩ ⟨Nat.zero_le _, Nat.zero_le _⟩ hl.1 dX0_measurePair_91 (fun H locs X => ?_)
          refine r_eqJ (b := d3 (σ (18 + 2 + 0)) N (fr + 1 + k)) (by rw [h18, em_in hi]; exact (hda 3 (by decide)).trans (by show d3 (σ (18 + 2 + 0)) N i = _; rw [ei]; rw [d3_mod]; congr 1; omega)) ?_
          refine d_cSJ F X (c_J9_abs l G σ5 (d3 (σ (18 + 2 + 0)) N (fr + 1 + k)) (by have := (hL.d (show 0 < N by omega) (fr + 1 + k)).2.2; omega)) gv_RX0_111 nd_J9_abs_067f4 rfl (rest := [.long (J (mxI (fun k9 => d3 (σ (18 + 2 + 0)) N (fr + 1 + k9)) k))]) rfl (Nat.le_of_ble_eq_true rfl) ⟨Nat.le_of_ble_eq_true rfl, Nat.le_of_ble_eq_true rfl⟩ ⟨Nat.zero_le _, Nat.zero_le _⟩ hl.1 dX0_measurePair_94 (fun H locs X => ?_)
          refine d_cSJ F X (c_J9_maxL l G σ5 (mxI (fun k9 => d3 (σ (18 + 2 + 0)) N (fr + 1 + k9)) k) (ab (d3 (σ (18 + 2 + 0)) N (fr + 1 + k))) (by have := mxI_rg (n := k) (show (0 : Int) ≤ 3996 by omega) (fun j => (hL.d (show 0 < N by omega) (fr + 1 + j)).2.2); omega) (by have := (hL.d (show 0 < N by omega) (fr + 1 + k)).2.2; have := ab_nn (d3 (σ (18 + 2 + 0)) N (fr + 1 + k)); omega)) gv_RX0_115 nd_J9_max_f86c9 rfl (rest := []) rfl (Nat.le_of_ble_eq_true rfl) ⟨Nat.le_of_ble_eq_true rfl, Nat.le_of_ble_eq_true rfl⟩ ⟨Nat.zero_le _, Nat.zero_le _⟩ hl.1 dX0_measurePair_97 (fun H locs X => ?_)
          refine r_eqJ (b := mxI (fun k9 => d3 (σ (18 + 2 + 0)) N (fr + 1 + k9)) (k + 1)) ((mxI_succ _ (by omega)).symm) ?_
          refine r_lstore F hl [(7, .long (J (mxI (fun k9 => d3 (σ (18 + 2 + 0)) N (fr + 1 + k9)) (k + 1)))), (5, .long (J (mxI (fun k9 => d2 (σ (18 + 2 + 0)) N (fr + 1 + k9)) (k + 1)))), (11, .int (I i)), (0, .ref (gY G 31)), (1, .int (I u2)), (2, .int (I fr)), (3, .int (I sp)), (4, .int (I N)), (9, .int (I (if alI (fun k9 => ga (σ (18 + 2 + 0)) N r ((fr + 1 + k9) % N)) k = true then 1 else 0))), (10, .int (I (k + 1)))] (by decide) rfl dX0_measurePair_100 (fun ls hl => ?_)
          refine r_iload F hl 8 rfl dX0_measurePair_102 ?_
          refine r_bz_eq F 123 (alI (fun k9 => ga (σ (18 + 2 + 0)) N r ((fr + 1 + k9) % N)) k = true) rfl (by decide) dX0_measurePair_104 (fun c7 => ?_) (fun c7 => ?_)
          · skip
            refine r_iconst F dX0_measurePair_123 ?_
            refine r_eqI (b := if alI (fun k9 => ga (σ (18 + 2 + 0)) N r ((fr + 1 + k9) % N)) (k + 1) = true then 1 else 0) (by rw [alI_succ _ (by omega)]; show _ = (if (_ && ga (σ (18 + 2 + 0)) N r ((fr + 1 + k) % N)) = true then 1 else 0); rw [hgi]; grind) ?_
            refine r_istore F hl [(9, .int (I (if alI (fun k9 => ga (σ (18 + 2 + 0)) N r ((fr + 1 + k9) % N)) (k + 1) = true then 1 else 0))), (7, .long (J (mxI (fun k9 => d3 (σ (18 + 2 + 0)) N (fr + 1 + k9)) (k + 1)))), (5, .long (J (mxI (fun k9 => d2 (σ (18 + 2 + 0)) N (fr + 1 + k9)) (k + 1)))), (11, .int (I i)), (0, .ref (gY G 31)), (1, .int (I u2)), (2, .int (I fr)), (3, .int (I sp)), (4, .int (I N)), (10, .int (I (k + 1)))] (by decide) rfl dX0_measurePair_124 (fun ls hl => ?_)
            refine r_iinc F hl [(10, .int (I ((k + 1) + 1))), (9, .int (I (if alI (fun k9 => ga (σ (18 + 2 + 0)) N r ((fr + 1 + k9) % N)) (k + 1) = true then 1 else 0))), (7, .long (J (mxI (fun k9 => d3 (σ (18 + 2 + 0)) N (fr + 1 + k9)) (k + 1)))), (5, .long (J (mxI (fun k9 => d2 (σ (18 + 2 + 0)) N (fr + 1 + k9)) (k + 1)))), (11, .int (I i)), (0, .ref (gY G 31)), (1, .int (I u2)), (2, .int (I fr)), (3, .int (I sp)), (4, .int (I N))] 9 rfl (by decide) rfl dX0_measurePair_126 (fun ls hl => ?_)
            refine r_goto F 22 (by decide) dX0_measurePair_129 ?_
            exact ih22 (k + 1) σ5 _ _ _ (by omega) (by omega) (by exact hfm1) X (lv_sub hl [5, 6, 7, 8, 9, 3, 2, 1, 0] rfl)
          · skip
            refine r_aload_n F hl 3 rfl rfl dX0_measurePair_107 ?_
            refine r_get F X 31 (by decide) (eK_31 G _) rfl gl_RX0 1 (by decide) rfl gf_RX0_29 rfl dX0_measurePair_108 ?_
            refine r_iload F hl 2 rfl dX0_measurePair_111 ?_
            refine d_cVI F X 18 (by decide) (eK_P (Or.inr rfl : (18 : Nat) = 5 ∨ (18 : Nat) = 18) G _) rfl (c_X3_isGoodAt l G σ5 18 N r (σ (18 + 2 + 0)) i (Or.inr rfl) (by unfold PL; rw [hfm1 2 (by omega)]; exact hP) hW (h18) (hda) hL ((hfm1 (18 + 2 + 0) (by omega)).symm) (by omega)) gv_RX0_118 rfl nd_X3_isGoodAt rfl (rest := []) rfl (Nat.le_of_ble_eq_true rfl) ⟨Nat.le_of_ble_eq_true rfl, Nat.le_of_ble_eq_true rfl⟩ ⟨Nat.zero_le _, Nat.zero_le _⟩ hl.1 dX0_measurePair_113 (fun H locs X => ?_)
            refine r_bz_eq F 123 (ga (σ (18 + 2 + 0)) N r i = true) rfl (by decide) dX0_measurePair_116 (fun c8 => ?_) (fun c8 => ?_)
            · skip
              refine r_iconst F dX0_measurePair_123 ?_
              refine r_eqI (b := if alI (fun k9 => ga (σ (18 + 2 + 0)) N r ((fr + 1 + k9) % N)) (k + 1) = true then 1 else 0) (by rw [alI_succ _ (by omega)]; show _ = (if (_ && ga (σ (18 + 2 + 0)) N r ((fr + 1 + k) % N)) = true then 1 else 0); rw [hgi]; grind) ?_
              refine r_istore F hl [(9, .int (I (if alI (fun k9 => ga (σ (18 + 2 + 0)) N r ((fr + 1 + k9) % N)) (k + 1) = true then 1 else 0))), (7, .long (J (mxI (fun k9 => d3 (σ (18 + 2 + 0)) N (fr + 1 + k9)) (k + 1)))), (5, .long (J (mxI (fun k9 => d2 (σ (18 + 2 + 0)) N (fr + 1 + k9)) (k + 1)))), (11, .int (I i)), (0, .ref (gY G 31)), (1, .int (I u2)), (2, .int (I fr)), (3, .int (I sp)), (4, .int (I N)), (10, .int (I (k + 1)))] (by decide) rfl dX0_measurePair_124 (fun ls hl => ?_)
              refine r_iinc F hl [(10, .int (I ((k + 1) + 1))), (9, .int (I (if alI (fun k9 => ga (σ (18 + 2 + 0)) N r ((fr + 1 + k9) % N)) (k + 1) = true then 1 else 0))), (7, .long (J (mxI (fun k9 => d3 (σ (18 + 2 + 0)) N (fr + 1 + k9)) (k + 1)))), (5, .long (J (mxI (fun k9 => d2 (σ (18 + 2 + 0)) N (fr + 1 + k9)) (k + 1)))), (11, .int (I i)), (0, .ref (gY G 31)), (1, .int (I u2)), (2, .int (I fr)), (3, .int (I sp)), (4, .int (I N))] 9 rfl (by decide) rfl dX0_measurePair_126 (fun ls hl => ?_)
              refine r_goto F 22 (by decide) dX0_measurePair_129 ?_
              exact ih22 (k + 1) σ5 _ _ _ (by omega) (by omega) (by exact hfm1) X (lv_sub hl [5, 6, 7, 8, 9, 3, 2, 1, 0] rfl)
            · skip
              refine r_iconst F dX0_measurePair_119 ?_
              refine r_goto F 124 (by decide) dX0_measurePair_120 ?_
              refine r_eqI (b := if alI (fun k9 => ga (σ (18 + 2 + 0)) N r ((fr + 1 + k9) % N)) (k + 1) = true then 1 else 0) (by rw [alI_succ _ (by omega)]; show _ = (if (_ && ga (σ (18 + 2 + 0)) N r ((fr + 1 + k) % N)) = true then 1 else 0); rw [hgi]; grind) ?_
              refine r_istore F hl [(9, .int (I (if alI (fun k9 => ga (σ (18 + 2 + 0)) N r ((fr + 1 + k9) % N)) (k + 1) = true then 1 else 0))), (7, .long (J (mxI (fun k9 => d3 (σ (18 + 2 + 0)) N (fr + 1 + k9)) (k + 1)))), (5, .long (J (mxI (fun k9 => d2 (σ (18 + 2 + 0)) N (fr + 1 + k9)) (k + 1)))), (11, .int (I i)), (0, .ref (gY G 31)), (1, .int (I u2)), (2, .int (I fr)), (3, .int (I sp)), (4, .int (I N)), (10, .int (I (k + 1)))] (by decide) rfl dX0_measurePair_124 (fun ls hl => ?_)
              refine r_iinc F hl [(10, .int (I ((k + 1) + 1))), (9, .int (I (if alI (fun k9 => ga (σ (18 + 2 + 0)) N r ((fr + 1 + k9) % N)) (k + 1) = true then 1 else 0))), (7, .long (J (mxI (fun k9 => d3 (σ (18 + 2 + 0)) N (fr + 1 + k9)) (k + 1)))), (5, .long (J (mxI (fun k9 => d2 (σ (18 + 2 + 0)) N (fr + 1 + k9)) (k + 1)))), (11, .int (I i)), (0, .ref (gY G 31)), (1, .int (I u2)), (2, .int (I fr)), (3, .int (I sp)), (4, .int (I N))] 9 rfl (by decide) rfl dX0_measurePair_126 (fun ls hl => ?_)
              refine r_goto F 22 (by decide) dX0_measurePair_129 ?_
              exact ih22 (k + 1) σ5 _ _ _ (by omega) (by omega) (by exact hfm1) X (lv_sub hl [5, 6, 7, 8, 9, 3, 2, 1, 0] rfl)
  exact loop22 (((sp - 0 : Int) + 1).toNat) 0 σ _ _ _ (by omega) (by omega) (by exact fun _ _ => rfl) X (lv_sub hl [5, 6, 7, 8, 4, 3, 2, 1, 0] rfl)
