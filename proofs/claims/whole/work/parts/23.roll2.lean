theorem c_X3_undercutBy (l : Launch) (G : GT) (σ : St) (b : Nat) (N : Int) (r : Int → Int) (f : Int → Int) (q : Int) (i : Int) (hb : b = 5 ∨ b = 18) (hP : PL σ N r) (hW : WF N r) (hD : DR σ b N r f) (hL : LR f N) (hq : 1 ≤ q ∧ q ≤ 9999) (hi : 0 ≤ i ∧ i < N) : Ct l yX3_undercutBy cX3_undercutBy 7 (some .int) 3 G [.ref (gY G b), .int (I q), .int (I i)] σ (QI G (fun res9 τ => res9 = (ucq q f N r i) ∧ τ = σ)) := by
  refine mt (own := RX3) (plainFor_of_name rfl) rfl (Nat.le_of_ble_eq_true rfl) ?_
  intro p e s m args below meth c ls F hr hk X hl
  have hl : lv_has ls 7 [(0, .ref (gY G b)), (1, .int (I q)), (2, .int (I i))] := hl
  have hw := hW.num
  have hN := hD.1
  have hlw := LR.w hL (by omega) i
  have hv := LR.v hL (by omega) i
  have huc := uc_rg (x := r 63 + q + lw f N i) (v := vV f N i) (a := vA f N i) (by omega) (by omega) (by omega)
  refine r_aload_n F hl 0 rfl rfl dX3_undercutBy_0 ?_
  refine r_get F X b (hb43 hb) (eK_P hb G _) rfl gl_RX3 0 (by decide) rfl gf_RX3_16 rfl dX3_undercutBy_1 ?_
  refine r_iconst F dX3_undercutBy_4 ?_
  refine d_cVI F X 1 (by decide) (eK_1 G _) rfl (c_X2_get l G σ (r 63) 3 (by omega) (hP.set 3 (by omega) (by omega))) gv_RX3_35 rfl nd_X2_get rfl (rest := []) rfl (Nat.le_of_ble_eq_true rfl) ⟨Nat.le_of_ble_eq_true rfl, Nat.le_of_ble_eq_true rfl⟩ ⟨Nat.zero_le _, Nat.zero_le _⟩ hl.1 dX3_undercutBy_5 (fun H locs X => ?_)
  refine r_iload_n F hl 1 rfl rfl dX3_undercutBy_8 ?_
  refine r_iadd F dX3_undercutBy_9 ?_
  refine r_i2l F (by omega) dX3_undercutBy_10 ?_
  refine r_aload_n F hl 0 rfl rfl dX3_undercutBy_11 ?_
  refine r_iconst F dX3_undercutBy_12 ?_
  refine r_iload_n F hl 2 rfl rfl dX3_undercutBy_13 ?_
  refine d_cVJ F X b (hb43 hb) (eK_P hb G _) rfl (c_X3_at l G σ b 0 i hb (by omega) (by omega) (by omega)) gv_RX3_85 rfl nd_X3_at rfl (rest := [.long (J ((r 63) + q))]) rfl (Nat.le_of_ble_eq_true rfl) ⟨Nat.le_of_ble_eq_true rfl, Nat.le_of_ble_eq_true rfl⟩ ⟨Nat.zero_le _, Nat.zero_le _⟩ hl.1 dX3_undercutBy_14 (fun H locs X => ?_)
  refine r_eqJ (b := lw f N i) (by rw [hN, em_in (by omega)]; exact hD.2 i (by omega) (by omega) 0 (by omega)) ?_
  refine r_ladd F dX3_undercutBy_17 ?_
  refine r_lstore_n F hl [(3, .long (J (((r 63) + q) + (lw f N i)))), (0, .ref (gY G b)), (1, .int (I q)), (2, .int (I i))] rfl (by decide) rfl dX3_undercutBy_18 (fun ls hl => ?_)
  refine r_aload_n F hl 1 rfl rfl dX3_undercutBy_19 ?_
  refine r_iconst F dX3_undercutBy_20 ?_
  refine r_iload_n F hl 3 rfl rfl dX3_undercutBy_21 ?_
  refine d_cVJ F X b (hb43 hb) (eK_P hb G _) rfl (c_X3_at l G σ b 5 i hb (by omega) (by omega) (by omega)) gv_RX3_85 rfl nd_X3_at rfl (rest := []) rfl (Nat.le_of_ble_eq_true rfl) ⟨Nat.le_of_ble_eq_true rfl, Nat.le_of_ble_eq_true rfl⟩ ⟨Nat.zero_le _, Nat.zero_le _⟩ hl.1 dX3_undercutBy_22 (fun H locs X => ?_)
  refine r_eqJ (b := vV f N i) (by rw [hN, em_in (by omega)]; exact hD.2 i (by omega) (by omega) 5 (by omega)) ?_
  refine r_lstore F hl [(5, .long (J (vV f N i))), (3, .long (J (((r 63) + q) + (lw f N i)))), (0, .ref (gY G b)), (1, .int (I q)), (2, .int (I i))] (by decide) rfl dX3_undercutBy_25 (fun ls hl => ?_)
  refine r_iload_n F hl 3 rfl rfl dX3_undercutBy_27 ?_
  refine r_i2l F (by omega) dX3_undercutBy_28 ?_
  refine r_lload_n F hl 1 rfl rfl dX3_undercutBy_29 ?_
  refine r_lload_n F hl 1 rfl rfl dX3_undercutBy_30 ?_
  refine r_lmul F dX3_undercutBy_31 ?_
  refine r_lload F hl 0 rfl dX3_undercutBy_32 ?_
  refine r_lload F hl 0 rfl dX3_undercutBy_34 ?_
  refine r_lmul F dX3_undercutBy_36 ?_
  refine r_ladd F dX3_undercutBy_37 ?_
  refine r_lload_n F hl 1 rfl rfl dX3_undercutBy_38 ?_
  refine r_lload F hl 0 rfl dX3_undercutBy_39 ?_
  refine r_aload_n F hl 2 rfl rfl dX3_undercutBy_41 ?_
  refine r_bipush F (by decide) dX3_undercutBy_42 ?_
  refine r_iload_n F hl 4 rfl rfl dX3_undercutBy_44 ?_
  refine d_cVJ F X b (hb43 hb) (eK_P hb G _) rfl (c_X3_at l G σ b 6 i hb (by omega) (by omega) (by omega)) gv_RX3_85 rfl nd_X3_at rfl (rest := [.long (J (vV f N i)), .long (J (((r 63) + q) + (lw f N i))), .long (J (((((r 63) + q) + (lw f N i)) * (((r 63) + q) + (lw f N i))) + ((vV f N i) * (vV f N i)))), .long (J q)]) rfl (Nat.le_of_ble_eq_true rfl) ⟨Nat.le_of_ble_eq_true rfl, Nat.le_of_ble_eq_true rfl⟩ ⟨Nat.zero_le _, Nat.zero_le _⟩ hl.1 dX3_undercutBy_45 (fun H locs X => ?_)
  refine r_eqJ (b := vA f N i) (by rw [hN, em_in (by omega)]; exact hD.2 i (by omega) (by omega) 6 (by omega)) ?_
  refine d_cSJ F X (c_X3_bend l G σ (((r 63) + q) + (lw f N i)) (vV f N i) (vA f N i)) gv_RX3_107 nd_X3_bend rfl (rest := [.long (J (((((r 63) + q) + (lw f N i)) * (((r 63) + q) + (lw f N i))) + ((vV f N i) * (vV f N i)))), .long (J q)]) rfl (Nat.le_of_ble_eq_true rfl) ⟨Nat.le_of_ble_eq_true rfl, Nat.le_of_ble_eq_true rfl⟩ ⟨Nat.zero_le _, Nat.zero_le _⟩ hl.1 dX3_undercutBy_48 (fun H locs X => ?_)
  refine d_cSI F X (c_X3_undercutOf l G σ q (((((r 63) + q) + (lw f N i)) * (((r 63) + q) + (lw f N i))) + ((vV f N i) * (vV f N i))) (bn (((r 63) + q) + (lw f N i)) (vV f N i) (vA f N i)) (by omega) (by omega) (by omega)) gv_RX3_111 nd_X3_undercutOf rfl (rest := []) rfl (Nat.le_of_ble_eq_true rfl) ⟨Nat.le_of_ble_eq_true rfl, Nat.le_of_ble_eq_true rfl⟩ ⟨Nat.zero_le _, Nat.zero_le _⟩ hl.1 dX3_undercutBy_51 (fun H locs X => ?_)
  exact r_iret F X hr hk dX3_undercutBy_54 (⟨rfl, rfl⟩)
theorem c_X3_isCalm (l : Launch) (G : GT) (σ : St) (b : Nat) (N : Int) (r : Int → Int) (f : Int → Int) (i : Int) (hb : b = 5 ∨ b = 18) (hP : PL σ N r) (hW : WF N r) (hD : DR σ b N r f) (hL : LR f N) (hi : 0 ≤ i ∧ i < N) : Ct l yX3_isCalm cX3_isCalm 4 (some .boolean) 2 G [.ref (gY G b), .int (I i)] σ (QI G (fun res9 τ => res9 = (if calm f N r i = true then 1 else 0) ∧ τ = σ)) := by
  refine mt (own := RX3) (plainFor_of_name rfl) rfl (Nat.le_of_ble_eq_true rfl) ?_
  intro p e s m args below meth c ls F hr hk X hl
  have hl : lv_has ls 4 [(0, .ref (gY G b)), (1, .int (I i))] := hl
  have hw := hW.num
  have hN := hD.1
  have hlw := LR.w hL (by omega) i
  have hv := LR.v hL (by omega) i
  have h1 := ab_nn (vV f N i)
  have h2 := ab_nn (vA f N i)
  refine r_aload_n F hl 0 rfl rfl dX3_isCalm_0 ?_
  refine r_get F X b (hb43 hb) (eK_P hb G _) rfl gl_RX3 0 (by decide) rfl gf_RX3_16 rfl dX3_isCalm_1 ?_
  refine r_iconst F dX3_isCalm_4 ?_
  refine d_cVI F X 1 (by decide) (eK_1 G _) rfl (c_X2_get l G σ (r 63) 3 (by omega) (hP.set 3 (by omega) (by omega))) gv_RX3_35 rfl nd_X2_get rfl (rest := []) rfl (Nat.le_of_ble_eq_true rfl) ⟨Nat.le_of_ble_eq_true rfl, Nat.le_of_ble_eq_true rfl⟩ ⟨Nat.zero_le _, Nat.zero_le _⟩ hl.1 dX3_isCalm_5 (fun H locs X => ?_)
  refine r_i2l F (by omega) dX3_isCalm_8 ?_
  refine r_aload_n F hl 0 rfl rfl dX3_isCalm_9 ?_
  refine r_iconst F dX3_isCalm_10 ?_
  refine r_iload_n F hl 1 rfl rfl dX3_isCalm_11 ?_
  refine d_cVJ F X b (hb43 hb) (eK_P hb G _) rfl (c_X3_at l G σ b 0 i hb (by omega) (by omega) (by omega)) gv_RX3_85 rfl nd_X3_at rfl (rest := [.long (J (r 63))]) rfl (Nat.le_of_ble_eq_true rfl) ⟨Nat.le_of_ble_eq_true rfl, Nat.le_of_ble_eq_true rfl⟩ ⟨Nat.zero_le _, Nat.zero_le _⟩ hl.1 dX3_isCalm_12 (fun H locs X => ?_)
  refine r_eqJ (b := lw f N i) (by rw [hN, em_in (by omega)]; exact hD.2 i (by omega) (by omega) 0 (by omega)) ?_
  refine r_ladd F dX3_isCalm_15 ?_
  refine r_lstore_n F hl [(2, .long (J ((r 63) + (lw f N i)))), (0, .ref (gY G b)), (1, .int (I i))] rfl (by decide) rfl dX3_isCalm_16 (fun ls hl => ?_)
  refine r_aload_n F hl 1 rfl rfl dX3_isCalm_17 ?_
  refine r_iconst F dX3_isCalm_18 ?_
  refine r_iload_n F hl 2 rfl rfl dX3_isCalm_19 ?_
  refine d_cVJ F X b (hb43 hb) (eK_P hb G _) rfl (c_X3_at l G σ b 5 i hb (by omega) (by omega) (by omega)) gv_RX3_85 rfl nd_X3_at rfl (rest := []) rfl (Nat.le_of_ble_eq_true rfl) ⟨Nat.le_of_ble_eq_true rfl, Nat.le_of_ble_eq_true rfl⟩ ⟨Nat.zero_le _, Nat.zero_le _⟩ hl.1 dX3_isCalm_20 (fun H locs X => ?_)
  refine r_eqJ (b := vV f N i) (by rw [hN, em_in (by omega)]; exact hD.2 i (by omega) (by omega) 5 (by omega)) ?_
  refine d_cSJ F X (c_J9_abs l G σ (vV f N i) (by omega)) gv_RX3_115 nd_J9_abs_067f4 rfl (rest := []) rfl (Nat.le_of_ble_eq_true rfl) ⟨Nat.le_of_ble_eq_true rfl, Nat.le_of_ble_eq_true rfl⟩ ⟨Nat.zero_le _, Nat.zero_le _⟩ hl.1 dX3_isCalm_23 (fun H locs X => ?_)
  refine r_lload_n F hl 0 rfl rfl dX3_isCalm_26 ?_
  refine r_lcmp_gt F 50 (by decide) (by omega) (by omega) dX3_isCalm_27 dX3_isCalm_28 (fun c1 => ?_) (fun c1 => ?_)
  · skip
    refine r_iconst F dX3_isCalm_50 ?_
    exact r_zret F X hr hk (by omega) dX3_isCalm_51 (⟨by unfold calm; first | rw [if_pos (decide_eq_true (by omega))] | rw [if_neg (fun z => absurd (of_decide_eq_true z) (by omega))], rfl⟩)
  · skip
    refine r_aload_n F hl 1 rfl rfl dX3_isCalm_31 ?_
    refine r_bipush F (by decide) dX3_isCalm_32 ?_
    refine r_iload_n F hl 2 rfl rfl dX3_isCalm_34 ?_
    refine d_cVJ F X b (hb43 hb) (eK_P hb G _) rfl (c_X3_at l G σ b 6 i hb (by omega) (by omega) (by omega)) gv_RX3_85 rfl nd_X3_at rfl (rest := []) rfl (Nat.le_of_ble_eq_true rfl) ⟨Nat.le_of_ble_eq_true rfl, Nat.le_of_ble_eq_true rfl⟩ ⟨Nat.zero_le _, Nat.zero_le _⟩ hl.1 dX3_isCalm_35 (fun H locs X => ?_)
    refine r_eqJ (b := vA f N i) (by rw [hN, em_in (by omega)]; exact hD.2 i (by omega) (by omega) 6 (by omega)) ?_
    refine d_cSJ F X (c_J9_abs l G σ (vA f N i) (by omega)) gv_RX3_115 nd_J9_abs_067f4 rfl (rest := []) rfl (Nat.le_of_ble_eq_true rfl) ⟨Nat.le_of_ble_eq_true rfl, Nat.le_of_ble_eq_true rfl⟩ ⟨Nat.zero_le _, Nat.zero_le _⟩ hl.1 dX3_isCalm_38 (fun H locs X => ?_)
    refine r_lload_n F hl 0 rfl rfl dX3_isCalm_41 ?_
    refine r_lcmp_gt F 50 (by decide) (by omega) (by omega) dX3_isCalm_42 dX3_isCalm_43 (fun c2 => ?_) (fun c2 => ?_)
    · skip
      refine r_iconst F dX3_isCalm_50 ?_
      exact r_zret F X hr hk (by omega) dX3_isCalm_51 (⟨by unfold calm; first | rw [if_pos (decide_eq_true (by omega))] | rw [if_neg (fun z => absurd (of_decide_eq_true z) (by omega))], rfl⟩)
    · skip
      refine r_iconst F dX3_isCalm_46 ?_
      refine r_goto F 51 (by decide) dX3_isCalm_47 ?_
      exact r_zret F X hr hk (by omega) dX3_isCalm_51 (⟨by unfold calm; first | rw [if_pos (decide_eq_true (by omega))] | rw [if_neg (fun z => absurd (of_decide_eq_true z) (by omega))], rfl⟩)
theorem c_X3_lowerToClear (l : Launch) (G : GT) (σ : St) (b : Nat) (N : Int) (r : Int → Int) (f : Int → Int) (i : Int) (w : Int) (hb : b = 5 ∨ b = 18) (hP : PL σ N r) (hW : WF N r) (hD : DR σ b N r f) (hL : LR f N) (hi : 0 ≤ i ∧ i < N) (hc : calm f N r i = true) (hw9 : 0 ≤ w ∧ w ≤ 9999) : Ct l yX3_lowerToClear cX3_lowerToClear 4 (some .int) 4 G [.ref (gY G b), .int (I i), .int (I w)] σ (QI G (fun res9 τ => res9 = (pfI (cl f N r i) w) ∧ τ = σ)) := by
  refine mt (own := RX3) (plainFor_of_name rfl) rfl (Nat.le_of_ble_eq_true rfl) ?_
  intro p e s m args below meth c ls F hr hk X hl
  have hl : lv_has ls 4 [(0, .ref (gY G b)), (1, .int (I i)), (2, .int (I w))] := hl
  have hw := hW.num
  have hN := hD.1
  refine r_iload_n F hl 2 rfl rfl dX3_lowerToClear_0 ?_
  refine r_istore_n F hl [(3, .int (I w)), (0, .ref (gY G b)), (1, .int (I i)), (2, .int (I w))] rfl (by decide) rfl dX3_lowerToClear_1 (fun ls hl => ?_)
  have loop2 : ∀ (n : Nat) (v : Int) (ls : Array Slot) (H : Heap) (locs : List Loc) (hn : v < n) (hv : 0 ≤ v ∧ v ≤ w) (hno : v = w ∨ cl f N r i (v + 1) = false) (X : HX G σ s H locs) (hl : lv_has ls 4 [(0, .ref (gY G b)), (1, .int (I i)), (2, .int (I w)), (3, .int (I v))]), W p l e (rmd 4) s m args below meth c H locs 0 0 (MQ below (QI G (fun res9 τ => res9 = (pfI (cl f N r i) w) ∧ τ = σ)) args s 0 0 (gA G)) (F0 m 2 ls []) := by
    intro n
    induction n with
    | zero => intro v ls H locs hn hv hno X hl; omega
    | succ n ih2 =>
      intro v ls H locs hn hv hno X hl
      have huu := uc_012 v 0 0
      refine r_iload_n F hl 3 rfl rfl dX3_lowerToClear_2 ?_
      refine r_if_le F 21 (by decide) (by omega) dX3_lowerToClear_3 (fun c1 => ?_) (fun c1 => ?_)
      · skip
        refine r_iload_n F hl 3 rfl rfl dX3_lowerToClear_21 ?_
        exact r_iret F X hr hk dX3_lowerToClear_22 (⟨(pfI_eq (by omega) (by omega) (fun j j0 j1 => by first | omega | exact calm_mono hW hL hc j0 j1 (decide_eq_true (by assumption))) hno).symm, rfl⟩)
      · skip
        have hu3 : ucq v f N r i = 0 ∨ ucq v f N r i = 1 ∨ ucq v f N r i = 2 := uc_012 _ _ _
        refine r_aload_n F hl 0 rfl rfl dX3_lowerToClear_6 ?_
        refine r_iload_n F hl 3 rfl rfl dX3_lowerToClear_7 ?_
        refine r_iload_n F hl 1 rfl rfl dX3_lowerToClear_8 ?_
        refine d_cVI F X b (hb43 hb) (eK_P hb G _) rfl (c_X3_undercutBy l G σ b N r f v i hb hP hW (hD) hL (by omega) (by omega)) gv_RX3_158 rfl nd_X3_undercutBy rfl (rest := []) rfl (Nat.le_of_ble_eq_true rfl) ⟨Nat.le_of_ble_eq_true rfl, Nat.le_of_ble_eq_true rfl⟩ ⟨Nat.zero_le _, Nat.zero_le _⟩ hl.1 dX3_lowerToClear_9 (fun H locs X => ?_)
        refine r_if_eq F 21 (by decide) (by omega) dX3_lowerToClear_12 (fun c2 => ?_) (fun c2 => ?_)
        · skip
          refine r_iload_n F hl 3 rfl rfl dX3_lowerToClear_21 ?_
          exact r_iret F X hr hk dX3_lowerToClear_22 (⟨(pfI_eq (by omega) (by omega) (fun j j0 j1 => by first | omega | exact calm_mono hW hL hc j0 j1 (decide_eq_true (by assumption))) hno).symm, rfl⟩)
        · skip
          refine r_iinc F hl [(3, .int (I (v + (-1)))), (0, .ref (gY G b)), (1, .int (I i)), (2, .int (I w))] 3 rfl (by decide) rfl dX3_lowerToClear_15 (fun ls hl => ?_)
          refine r_goto F 2 (by decide) dX3_lowerToClear_18 ?_
          exact ih2 (v + (-1)) _ _ _ (by omega) (by omega) (by right; exact decide_eq_false (by rw [show v + (-1) + 1 = v by omega]; assumption)) X (lv_sub hl [1, 2, 3, 0] rfl)
  exact loop2 (((w : Int) + 1).toNat) w _ _ _ (by omega) (by omega) (by left; rfl) X (lv_sub hl [1, 2, 3, 0] rfl)
theorem c_X3_clearUpTo (l : Launch) (G : GT) (σ : St) (b : Nat) (N : Int) (r : Int → Int) (f : Int → Int) (i : Int) (w : Int) (hb : b = 5 ∨ b = 18) (hP : PL σ N r) (hW : WF N r) (hD : DR σ b N r f) (hL : LR f N) (hi : 0 ≤ i ∧ i < N) (hw9 : 0 ≤ w ∧ w ≤ 9999) : Ct l yX3_clearUpTo cX3_clearUpTo 4 (some .int) 4 G [.ref (gY G b), .int (I i), .int (I w)] σ (QI G (fun res9 τ => res9 = (pfI (cl f N r i) w) ∧ τ = σ)) := by
  refine mt (own := RX3) (plainFor_of_name rfl) rfl (Nat.le_of_ble_eq_true rfl) ?_
  intro p e s m args below meth c ls F hr hk X hl
  have hl : lv_has ls 4 [(0, .ref (gY G b)), (1, .int (I i)), (2, .int (I w))] := hl
  have hw := hW.num
  have hN := hD.1
  refine r_iconst F dX3_clearUpTo_0 ?_
  refine r_istore_n F hl [(3, .int (I 1)), (0, .ref (gY G b)), (1, .int (I i)), (2, .int (I w))] rfl (by decide) rfl dX3_clearUpTo_1 (fun ls hl => ?_)
  have loop2 : ∀ (n : Nat) (v : Int) (ls : Array Slot) (H : Heap) (locs : List Loc) (hn : w + 1 - v < n) (hv : 1 ≤ v ∧ v ≤ w + 1) (hno : ∀ j : Int, 1 ≤ j → j < v → cl f N r i j = true) (X : HX G σ s H locs) (hl : lv_has ls 4 [(0, .ref (gY G b)), (1, .int (I i)), (2, .int (I w)), (3, .int (I v))]), W p l e (rmd 4) s m args below meth c H locs 0 0 (MQ below (QI G (fun res9 τ => res9 = (pfI (cl f N r i) w) ∧ τ = σ)) args s 0 0 (gA G)) (F0 m 2 ls []) := by
    intro n
    induction n with
    | zero => intro v ls H locs hn hv hno X hl; omega
    | succ n ih2 =>
      intro v ls H locs hn hv hno X hl
      refine r_iload_n F hl 3 rfl rfl dX3_clearUpTo_2 ?_
      refine r_iload_n F hl 2 rfl rfl dX3_clearUpTo_3 ?_
      refine r_icmp_gt F 26 (by decide) (by omega) (by omega) dX3_clearUpTo_4 (fun c1 => ?_) (fun c1 => ?_)
      · skip
        refine r_iload_n F hl 2 rfl rfl dX3_clearUpTo_26 ?_
        exact r_iret F X hr hk dX3_clearUpTo_27 (⟨(pfI_eq (by omega) (by omega) (fun j j0 j1 => hno j j0 (by omega)) (Or.inl rfl)).symm, rfl⟩)
      · skip
        have hu3 : ucq v f N r i = 0 ∨ ucq v f N r i = 1 ∨ ucq v f N r i = 2 := uc_012 _ _ _
        refine r_aload_n F hl 0 rfl rfl dX3_clearUpTo_7 ?_
        refine r_iload_n F hl 3 rfl rfl dX3_clearUpTo_8 ?_
        refine r_iload_n F hl 1 rfl rfl dX3_clearUpTo_9 ?_
        refine d_cVI F X b (hb43 hb) (eK_P hb G _) rfl (c_X3_undercutBy l G σ b N r f v i hb hP hW hD hL (by omega) (by omega)) gv_RX3_158 rfl nd_X3_undercutBy rfl (rest := []) rfl (Nat.le_of_ble_eq_true rfl) ⟨Nat.le_of_ble_eq_true rfl, Nat.le_of_ble_eq_true rfl⟩ ⟨Nat.zero_le _, Nat.zero_le _⟩ hl.1 dX3_clearUpTo_10 (fun H locs X => ?_)
        refine r_if_eq F 20 (by decide) (by omega) dX3_clearUpTo_13 (fun c2 => ?_) (fun c2 => ?_)
        · skip
          refine r_iinc F hl [(3, .int (I (v + 1))), (0, .ref (gY G b)), (1, .int (I i)), (2, .int (I w))] 3 rfl (by decide) rfl dX3_clearUpTo_20 (fun ls hl => ?_)
          refine r_goto F 2 (by decide) dX3_clearUpTo_23 ?_
          exact ih2 (v + 1) _ _ _ (by omega) (by omega) (by intro j j0 j1; rcases (show j < v ∨ j = v by omega) with z | z <;> first | exact hno j j0 z | (rw [z]; exact decide_eq_true (by assumption))) X (lv_sub hl [1, 2, 3, 0] rfl)
        · skip
          refine r_iload_n F hl 3 rfl rfl dX3_clearUpTo_16 ?_
          refine r_iconst F dX3_clearUpTo_17 ?_
          refine r_isub F dX3_clearUpTo_18 ?_
          exact r_iret F X hr hk dX3_clearUpTo_19 (⟨(pfI_eq (by omega) (by omega) (fun j j0 j1 => hno j j0 (by omega)) (Or.inr (decide_eq_false (by rw [show v - 1 + 1 = v by omega]; assumption)))).symm, rfl⟩)
  exact loop2 (((w + 1 - 1 : Int) + 1).toNat) 1 _ _ _ (by omega) (by omega) (by intro j j0 j1; omega) X (lv_sub hl [1, 2, 3, 0] rfl)
theorem c_X3_greatestRoller (l : Launch) (G : GT) (σ : St) (b : Nat) (N : Int) (r : Int → Int) (f : Int → Int) (hb : b = 5 ∨ b = 18) (hP : PL σ N r) (hW : WF N r) (hD : DR σ b N r f) (hL : LR f N) : Ct l yX3_greatestRoller cX3_greatestRoller 3 (some .int) 5 G [.ref (gY G b)] σ (QI G (fun res9 τ => res9 = (pfI (acl f N r) 9999) ∧ τ = σ)) := by
  refine mt (own := RX3) (plainFor_of_name rfl) rfl (Nat.le_of_ble_eq_true rfl) ?_
  intro p e s m args below meth c ls F hr hk X hl
  have hl : lv_has ls 3 [(0, .ref (gY G b))] := hl
  have hw := hW.num
  have hN := hD.1
  have hM : 0 ≤ (min 9999 (max 0 (1448 - r 63))) ∧ (min 9999 (max 0 (1448 - r 63))) ≤ 9999 := by omega
  have h24 : stv 2 4 = 9999 := rfl
  refine r_getsN F X 2 (by decide) F.2.1.2.2.1 dX3_greatestRoller_0 ?_
  refine r_iconst F dX3_greatestRoller_3 ?_
  refine r_tald F X 2 (by decide) (by decide) dX3_greatestRoller_4 ?_
  refine r_iconst F dX3_greatestRoller_5 ?_
  refine r_sipush F (by decide) dX3_greatestRoller_6 ?_
  refine r_aload_n F hl 0 rfl rfl dX3_greatestRoller_9 ?_
  refine r_get F X b (hb43 hb) (eK_P hb G _) rfl gl_RX3 0 (by decide) rfl gf_RX3_16 rfl dX3_greatestRoller_10 ?_
  refine r_iconst F dX3_greatestRoller_13 ?_
  refine d_cVI F X 1 (by decide) (eK_1 G _) rfl (c_X2_get l G σ (r 63) 3 (by omega) (hP.set 3 (by omega) (by omega))) gv_RX3_35 rfl nd_X2_get rfl (rest := [.int (I 1448), .int (I 0), .int (I (stv 2 4))]) rfl (Nat.le_of_ble_eq_true rfl) ⟨Nat.le_of_ble_eq_true rfl, Nat.le_of_ble_eq_true rfl⟩ ⟨Nat.zero_le _, Nat.zero_le _⟩ hl.1 dX3_greatestRoller_14 (fun H locs X => ?_)
  refine r_isub F dX3_greatestRoller_17 ?_
  refine d_cSI F X (c_J9_maxI l G σ 0 (1448 - (r 63)) (by omega) (by omega)) gv_RX3_144 nd_J9_max_7cf53 rfl (rest := [.int (I (stv 2 4))]) rfl (Nat.le_of_ble_eq_true rfl) ⟨Nat.le_of_ble_eq_true rfl, Nat.le_of_ble_eq_true rfl⟩ ⟨Nat.zero_le _, Nat.zero_le _⟩ hl.1 dX3_greatestRoller_18 (fun H locs X => ?_)
  refine d_cSI F X (c_J9_minI l G σ (stv 2 4) (max 0 (1448 - (r 63))) (by omega) (by omega)) gv_RX3_146 nd_J9_min_7cf53 rfl (rest := []) rfl (Nat.le_of_ble_eq_true rfl) ⟨Nat.le_of_ble_eq_true rfl, Nat.le_of_ble_eq_true rfl⟩ ⟨Nat.zero_le _, Nat.zero_le _⟩ hl.1 dX3_greatestRoller_21 (fun H locs X => ?_)
  refine r_eqI (b := pfI (ac1 f N r 0) (min 9999 (max 0 (1448 - r 63)))) (by rw [pfI_true (p := ac1 f N r 0) hM.1 (fun j => alI_0 _), h24]) ?_
  refine r_istore_n F hl [(1, .int (I (pfI (ac1 f N r 0) (min 9999 (max 0 (1448 - r 63)))))), (0, .ref (gY G b))] rfl (by decide) rfl dX3_greatestRoller_24 (fun ls hl => ?_)
  refine r_iconst F dX3_greatestRoller_25 ?_
  refine r_istore_n F hl [(2, .int (I 0)), (1, .int (I (pfI (ac1 f N r 0) (min 9999 (max 0 (1448 - r 63)))))), (0, .ref (gY G b))] rfl (by decide) rfl dX3_greatestRoller_26 (fun ls hl => ?_)
  have loop27 : ∀ (n : Nat) (i : Int) (ls : Array Slot) (H : Heap) (locs : List Loc) (hn : N - i < n) (hi : 0 ≤ i ∧ i ≤ N) (X : HX G σ s H locs) (hl : lv_has ls 3 [(0, .ref (gY G b)), (1, .int (I (pfI (ac1 f N r i) (min 9999 (max 0 (1448 - r 63)))))), (2, .int (I i))]), W p l e (rmd 5) s m args below meth c H locs 0 0 (MQ below (QI G (fun res9 τ => res9 = (pfI (acl f N r) 9999) ∧ τ = σ)) args s 0 0 (gA G)) (F0 m 27 ls []) := by
    intro n
    induction n with
    | zero => intro i ls H locs hn hi X hl; omega
    | succ n ih27 =>
      intro i ls H locs hn hi X hl
      have hs := pfI_spec (ac1 f N r i) (n := (min 9999 (max 0 (1448 - r 63)))) (by omega)
      refine r_iload_n F hl 2 rfl rfl dX3_greatestRoller_27 ?_
      refine r_aload_n F hl 0 rfl rfl dX3_greatestRoller_28 ?_
      refine r_get F X b (hb43 hb) (eK_P hb G _) rfl gl_RX3 2 (by decide) rfl gf_RX3_27 rfl dX3_greatestRoller_29 ?_
      refine r_icmp_ge F 60 (by decide) (by omega) (by omega) dX3_greatestRoller_32 (fun c1 => ?_) (fun c1 => ?_)
      · skip
        have hl : lv_has ls 3 [(0, .ref (gY G b)), (1, .int (I (pfI (ac2 f N r 0) (min 9999 (max 0 (1448 - r 63)))))), (2, .int (I i))] := by rw [show pfI (ac2 f N r 0) (min 9999 (max 0 (1448 - r 63))) = pfI (ac1 f N r i) (min 9999 (max 0 (1448 - r 63))) by rw [← ac20, show i = N by omega]]; exact hl
        refine r_iconst F dX3_greatestRoller_60 ?_
        refine r_istore_n F hl [(2, .int (I 0)), (0, .ref (gY G b)), (1, .int (I (pfI (ac2 f N r 0) (min 9999 (max 0 (1448 - r 63))))))] rfl (by decide) rfl dX3_greatestRoller_61 (fun ls hl => ?_)
        have loop62 : ∀ (n : Nat) (i : Int) (ls : Array Slot) (H : Heap) (locs : List Loc) (hn : N - i < n) (hi : 0 ≤ i ∧ i ≤ N) (X : HX G σ s H locs) (hl : lv_has ls 3 [(0, .ref (gY G b)), (1, .int (I (pfI (ac2 f N r i) (min 9999 (max 0 (1448 - r 63)))))), (2, .int (I i))]), W p l e (rmd 5) s m args below meth c H locs 0 0 (MQ below (QI G (fun res9 τ => res9 = (pfI (acl f N r) 9999) ∧ τ = σ)) args s 0 0 (gA G)) (F0 m 62 ls []) := by
          intro n
          induction n with
          | zero => intro i ls H locs hn hi X hl; omega
          | succ n ih62 =>
            intro i ls H locs hn hi X hl
            have hs := pfI_spec (ac2 f N r i) (n := (min 9999 (max 0 (1448 - r 63)))) (by omega)
            refine r_iload_n F hl 2 rfl rfl dX3_greatestRoller_62 ?_
            refine r_aload_n F hl 0 rfl rfl dX3_greatestRoller_63 ?_
            refine r_get F X b (hb43 hb) (eK_P hb G _) rfl gl_RX3 2 (by decide) rfl gf_RX3_27 rfl dX3_greatestRoller_64 ?_
            refine r_icmp_ge F 95 (by decide) (by omega) (by omega) dX3_greatestRoller_67 (fun c2 => ?_) (fun c2 => ?_)
            · skip
              refine r_iload_n F hl 1 rfl rfl dX3_greatestRoller_95 ?_
              exact r_iret F X hr hk dX3_greatestRoller_96 (⟨by rw [show i = N by omega, show ac2 f N r N = acl f N r from funext (ac2_acl f N r)]; exact acl_most hW hL, rfl⟩)
            · skip
              refine r_aload_n F hl 0 rfl rfl dX3_greatestRoller_70 ?_
              refine r_iload_n F hl 2 rfl rfl dX3_greatestRoller_71 ?_
              refine d_cVI F X b (hb43 hb) (eK_P hb G _) rfl (c_X3_isCalm l G σ b N r f i hb hP hW hD hL (by omega)) gv_RX3_149 rfl nd_X3_isCalm rfl (rest := []) rfl (Nat.le_of_ble_eq_true rfl) ⟨Nat.le_of_ble_eq_true rfl, Nat.le_of_ble_eq_true rfl⟩ ⟨Nat.zero_le _, Nat.zero_le _⟩ hl.1 dX3_greatestRoller_72 (fun H locs X => ?_)
              refine r_bz_eq F 82 (calm f N r i = true) rfl (by decide) dX3_greatestRoller_75 (fun c3 => ?_) (fun c3 => ?_)
              · skip
                refine r_aload_n F hl 0 rfl rfl dX3_greatestRoller_82 ?_
                refine r_iload_n F hl 2 rfl rfl dX3_greatestRoller_83 ?_
                refine r_iload_n F hl 1 rfl rfl dX3_greatestRoller_84 ?_
                refine d_cVI F X b (hb43 hb) (eK_P hb G _) rfl (c_X3_clearUpTo l G σ b N r f i (pfI (ac2 f N r i) (min 9999 (max 0 (1448 - r 63)))) hb hP hW hD hL (by omega) (by omega)) gv_RX3_155 rfl nd_X3_clearUpTo rfl (rest := []) rfl (Nat.le_of_ble_eq_true rfl) ⟨Nat.le_of_ble_eq_true rfl, Nat.le_of_ble_eq_true rfl⟩ ⟨Nat.zero_le _, Nat.zero_le _⟩ hl.1 dX3_greatestRoller_85 (fun H locs X => ?_)
                refine r_eqI (b := pfI (ac2 f N r (i + 1)) (min 9999 (max 0 (1448 - r 63)))) (by first | exact acs2 (by omega) (by assumption) | exact acs2n (by omega) hM.1 (by assumption)) ?_
                refine r_istore_n F hl [(1, .int (I (pfI (ac2 f N r (i + 1)) (min 9999 (max 0 (1448 - r 63)))))), (0, .ref (gY G b)), (2, .int (I i))] rfl (by decide) rfl dX3_greatestRoller_88 (fun ls hl => ?_)
                refine r_iinc F hl [(2, .int (I (i + 1))), (1, .int (I (pfI (ac2 f N r (i + 1)) (min 9999 (max 0 (1448 - r 63)))))), (0, .ref (gY G b))] 2 rfl (by decide) rfl dX3_greatestRoller_89 (fun ls hl => ?_)
                refine r_goto F 62 (by decide) dX3_greatestRoller_92 ?_
                exact ih62 (i + 1) _ _ _ (by omega) (by omega) X (lv_sub hl [2, 1, 0] rfl)
              · skip
                refine r_iload_n F hl 1 rfl rfl dX3_greatestRoller_78 ?_
                refine r_goto F 88 (by decide) dX3_greatestRoller_79 ?_
                refine r_eqI (b := pfI (ac2 f N r (i + 1)) (min 9999 (max 0 (1448 - r 63)))) (by first | exact acs2 (by omega) (by assumption) | exact acs2n (by omega) hM.1 (by assumption)) ?_
                refine r_istore_n F hl [(1, .int (I (pfI (ac2 f N r (i + 1)) (min 9999 (max 0 (1448 - r 63)))))), (0, .ref (gY G b)), (2, .int (I i))] rfl (by decide) rfl dX3_greatestRoller_88 (fun ls hl => ?_)
                refine r_iinc F hl [(2, .int (I (i + 1))), (1, .int (I (pfI (ac2 f N r (i + 1)) (min 9999 (max 0 (1448 - r 63)))))), (0, .ref (gY G b))] 2 rfl (by decide) rfl dX3_greatestRoller_89 (fun ls hl => ?_)
                refine r_goto F 62 (by decide) dX3_greatestRoller_92 ?_
                exact ih62 (i + 1) _ _ _ (by omega) (by omega) X (lv_sub hl [2, 1, 0] rfl)
        exact loop62 (((N - 0 : Int) + 1).toNat) 0 _ _ _ (by omega) (by omega) X (lv_sub hl [1, 2, 0] rfl)
      · skip
        refine r_aload_n F hl 0 rfl rfl dX3_greatestRoller_35 ?_
        refine r_iload_n F hl 2 rfl rfl dX3_greatestRoller_36 ?_
        refine d_cVI F X b (hb43 hb) (eK_P hb G _) rfl (c_X3_isCalm l G σ b N r f i hb hP hW hD hL (by omega)) gv_RX3_149 rfl nd_X3_isCalm rfl (rest := []) rfl (Nat.le_of_ble_eq_true rfl) ⟨Nat.le_of_ble_eq_true rfl, Nat.le_of_ble_eq_true rfl⟩ ⟨Nat.zero_le _, Nat.zero_le _⟩ hl.1 dX3_greatestRoller_37 (fun H locs X => ?_)
        refine r_bz_eq F 52 (calm f N r i = true) rfl (by decide) dX3_greatestRoller_40 (fun c4 => ?_) (fun c4 => ?_)
        · skip
          refine r_iload_n F hl 1 rfl rfl dX3_greatestRoller_52 ?_
          refine r_eqI (b := pfI (ac1 f N r (i + 1)) (min 9999 (max 0 (1448 - r 63)))) (by first | exact acs1 (by omega) hM.1 (by assumption) | exact acs1n (by omega) (by assumption)) ?_
          refine r_istore_n F hl [(1, .int (I (pfI (ac1 f N r (i + 1)) (min 9999 (max 0 (1448 - r 63)))))), (0, .ref (gY G b)), (2, .int (I i))] rfl (by decide) rfl dX3_greatestRoller_53 (fun ls hl => ?_)
          refine r_iinc F hl [(2, .int (I (i + 1))), (1, .int (I (pfI (ac1 f N r (i + 1)) (min 9999 (max 0 (1448 - r 63)))))), (0, .ref (gY G b))] 2 rfl (by decide) rfl dX3_greatestRoller_54 (fun ls hl => ?_)
          refine r_goto F 27 (by decide) dX3_greatestRoller_57 ?_
          exact ih27 (i + 1) _ _ _ (by omega) (by omega) X (lv_sub hl [2, 1, 0] rfl)
        · skip
          refine r_aload_n F hl 0 rfl rfl dX3_greatestRoller_43 ?_
          refine r_iload_n F hl 2 rfl rfl dX3_greatestRoller_44 ?_
          refine r_iload_n F hl 1 rfl rfl dX3_greatestRoller_45 ?_
          refine d_cVI F X b (hb43 hb) (eK_P hb G _) rfl (c_X3_lowerToClear l G σ b N r f i (pfI (ac1 f N r i) (min 9999 (max 0 (1448 - r 63)))) hb hP hW hD hL (by omega) (by assumption) (by omega)) gv_RX3_152 rfl nd_X3_lowerToClear rfl (rest := []) rfl (Nat.le_of_ble_eq_true rfl) ⟨Nat.le_of_ble_eq_true rfl, Nat.le_of_ble_eq_true rfl⟩ ⟨Nat.zero_le _, Nat.zero_le _⟩ hl.1 dX3_greatestRoller_46 (fun H locs X => ?_)
          refine r_goto F 53 (by decide) dX3_greatestRoller_49 ?_
          refine r_eqI (b := pfI (ac1 f N r (i + 1)) (min 9999 (max 0 (1448 - r 63)))) (by first | exact acs1 (by omega) hM.1 (by assumption) | exact acs1n (by omega) (by assumption)) ?_
          refine r_istore_n F hl [(1, .int (I (pfI (ac1 f N r (i + 1)) (min 9999 (max 0 (1448 - r 63)))))), (0, .ref (gY G b)), (2, .int (I i))] rfl (by decide) rfl dX3_greatestRoller_53 (fun ls hl => ?_)
          refine r_iinc F hl [(2, .int (I (i + 1))), (1, .int (I (pfI (ac1 f N r (i + 1)) (min 9999 (max 0 (1448 - r 63)))))), (0, .ref (gY G b))] 2 rfl (by decide) rfl dX3_greatestRoller_54 (fun ls hl => ?_)
          refine r_goto F 27 (by decide) dX3_greatestRoller_57 ?_
          exact ih27 (i + 1) _ _ _ (by omega) (by omega) X (lv_sub hl [2, 1, 0] rfl)
  exact loop27 (((N - 0 : Int) + 1).toNat) 0 _ _ _ (by omega) (by omega) X (lv_sub hl [2, 1, 0] rfl)
theorem c_X3_leastBase (l : Launch) (G : GT) (σ : St) (b : Nat) (N : Int) (r : Int → Int) (f : Int → Int) (hb : b = 5 ∨ b = 18) (hP : PL σ N r) (hW : WF N r) (hD : DR σ b N r f) (hL : LR f N) : Ct l yX3_leastBase cX3_leastBase 8 (some .int) 2 G [.ref (gY G b)] σ (QI G (fun res9 τ => res9 = (if lbI f N r N ≤ 9999 then lbI f N r N else -1) ∧ τ = σ)) := by
  refine mt (own := RX3) (plainFor_of_name rfl) rfl (Nat.le_of_ble_eq_true rfl) ?_
  intro p e s m args below meth c ls F hr hk X hl
  have hl : lv_has ls 8 [(0, .ref (gY G b))] := hl
  have hw := hW.num
  have hN := hD.1
  have hb9 := lbI_rg hW hL
  have h13 : stv 1 3 = 10 := rfl
  have h23 : stv 2 3 = 9999 := rfl
  refine r_getsN F X 1 (by decide) F.2.1.2.2.2 dX3_leastBase_0 ?_
  refine r_iconst F dX3_leastBase_3 ?_
  refine r_tald F X 1 (by decide) (by decide) dX3_leastBase_4 ?_
  refine r_i2l F (by omega) dX3_leastBase_5 ?_
  refine r_eqJ (b := lbI f N r 0) (rfl) ?_
  refine r_lstore_n F hl [(1, .long (J (lbI f N r 0))), (0, .ref (gY G b))] rfl (by decide) rfl dX3_leastBase_6 (fun ls hl => ?_)
  refine r_aload_n F hl 1 rfl rfl dX3_leastBase_7 ?_
  refine r_get F X b (hb43 hb) (eK_P hb G _) rfl gl_RX3 0 (by decide) rfl gf_RX3_16 rfl dX3_leastBase_8 ?_
  refine r_bipush F (by decide) dX3_leastBase_11 ?_
  refine d_cVI F X 1 (by decide) (eK_1 G _) rfl (c_X2_get l G σ (r 69) 9 (by omega) (hP.set 9 (by omega) (by omega))) gv_RX3_35 rfl nd_X2_get rfl (rest := []) rfl (Nat.le_of_ble_eq_true rfl) ⟨Nat.le_of_ble_eq_true rfl, Nat.le_of_ble_eq_true rfl⟩ ⟨Nat.zero_le _, Nat.zero_le _⟩ hl.1 dX3_leastBase_13 (fun H locs X => ?_)
  refine r_i2l F (by omega) dX3_leastBase_16 ?_
  refine r_lconst F 1 (by decide +kernel) dX3_leastBase_17 ?_
  refine r_ladd F dX3_leastBase_18 ?_
  refine r_lstore_n F hl [(3, .long (J ((r 69) + 1))), (1, .long (J (lbI f N r 0))), (0, .ref (gY G b))] rfl (by decide) rfl dX3_leastBase_19 (fun ls hl => ?_)
  refine r_iconst F dX3_leastBase_20 ?_
  refine r_istore F hl [(5, .int (I 0)), (3, .long (J ((r 69) + 1))), (1, .long (J (lbI f N r 0))), (0, .ref (gY G b))] (by decide) rfl dX3_leastBase_21 (fun ls hl => ?_)
  have loop23 : ∀ (n : Nat) (i : Int) (ls : Array Slot) (H : Heap) (locs : List Loc) (hn : N - i < n) (hi : 0 ≤ i ∧ i ≤ N) (X : HX G σ s H locs) (hl : lv_has ls 8 [(0, .ref (gY G b)), (1, .long (J (lbI f N r i))), (3, .long (J (r 69 + 1))), (5, .int (I i))]), W p l e (rmd 2) s m args below meth c H locs 0 0 (MQ below (QI G (fun res9 τ => res9 = (if lbI f N r N ≤ 9999 then lbI f N r N else -1) ∧ τ = σ)) args s 0 0 (gA G)) (F0 m 23 ls []) := by
    intro n
    induction n with
    | zero => intro i ls H locs hn hi X hl; omega
    | succ n ih23 =>
      intro i ls H locs hn hi X hl
      have hbi := hb9 i
      have hlb := lbf_rg hW hL i
      have hlbe : lbf f N r i = 1000 * ab (vV f N i) / (r 69 + 1) + 1 - r 64 - lw f N i := rfl
      have hlw := LR.w hL (by omega) i
      have hv := LR.v hL (by omega) i
      have h1 := ab_nn (vV f N i)
      refine r_iload F hl 3 rfl dX3_leastBase_23 ?_
      refine r_aload_n F hl 0 rfl rfl dX3_leastBase_25 ?_
      refine r_get F X b (hb43 hb) (eK_P hb G _) rfl gl_RX3 2 (by decide) rfl gf_RX3_27 rfl dX3_leastBase_26 ?_
      refine r_icmp_ge F 89 (by decide) (by omega) (by omega) dX3_leastBase_29 (fun c1 => ?_) (fun c1 => ?_)
      · skip
        refine r_lload_n F hl 1 rfl rfl dX3_leastBase_89 ?_
        refine r_getsN F X 2 (by decide) F.2.1.2.2.1 dX3_leastBase_90 ?_
        refine r_iconst F dX3_leastBase_93 ?_
        refine r_tald F X 2 (by decide) (by decide) dX3_leastBase_94 ?_
        refine r_i2l F (by omega) dX3_leastBase_95 ?_
        refine r_lcmp_gt F 105 (by decide) (by omega) (by omega) dX3_leastBase_96 dX3_leastBase_97 (fun c2 => ?_) (fun c2 => ?_)
        · skip
          refine r_iconst F dX3_leastBase_105 ?_
          exact r_iret F X hr hk dX3_leastBase_106 (⟨by rw [show lbI f N r N = lbI f N r i by rw [show i = N by omega]]; first | rw [if_pos (by omega)] | rw [if_neg (by omega)], rfl⟩)
        · skip
          refine r_lload_n F hl 1 rfl rfl dX3_leastBase_100 ?_
          refine r_l2i F dX3_leastBase_101 ?_
          refine r_goto F 106 (by decide) dX3_leastBase_102 ?_
          exact r_iret F X hr hk dX3_leastBase_106 (⟨by rw [show lbI f N r N = lbI f N r i by rw [show i = N by omega]]; first | rw [if_pos (by omega)] | rw [if_neg (by omega)], rfl⟩)
      · skip
        refine r_lload_n F hl 2 rfl rfl dX3_leastBase_32 ?_
        refine r_lconst F 0 (by decide +kernel) dX3_leastBase_33 ?_
        refine r_lcmp_le F 89 (by decide) (by omega) (by omega) dX3_leastBase_34 dX3_leastBase_35 (fun c3 => ?_) (fun c3 => ?_)
        · omega
        · skip
          refine r_ldc2 F 1000 gk_RX3_105 (by decide +kernel) dX3_leastBase_38 ?_
          refine r_aload_n F hl 0 rfl rfl dX3_leastBase_41 ?_
          refine r_iconst F dX3_leastBase_42 ?_
          refine r_iload F hl 3 rfl dX3_leastBase_43 ?_
          refine d_cVJ F X b (hb43 hb) (eK_P hb G _) rfl (c_X3_at l G σ b 5 i hb (by omega) (by omega) (by omega)) gv_RX3_85 rfl nd_X3_at rfl (rest := [.long (J 1000)]) rfl (Nat.le_of_ble_eq_true rfl) ⟨Nat.le_of_ble_eq_true rfl, Nat.le_of_ble_eq_true rfl⟩ ⟨Nat.zero_le _, Nat.zero_le _⟩ hl.1 dX3_leastBase_45 (fun H locs X => ?_)
          refine r_eqJ (b := vV f N i) (by rw [hN, em_in (by omega)]; exact hD.2 i (by omega) (by omega) 5 (by omega)) ?_
          refine d_cSJ F X (c_J9_abs l G σ (vV f N i) (by omega)) gv_RX3_115 nd_J9_abs_067f4 rfl (rest := [.long (J 1000)]) rfl (Nat.le_of_ble_eq_true rfl) ⟨Nat.le_of_ble_eq_true rfl, Nat.le_of_ble_eq_true rfl⟩ ⟨Nat.zero_le _, Nat.zero_le _⟩ hl.1 dX3_leastBase_48 (fun H locs X => ?_)
          refine r_lmul F dX3_leastBase_51 ?_
          refine r_lload_n F hl 2 rfl rfl dX3_leastBase_52 ?_
          refine r_ldiv F (by omega) (by omega) dX3_leastBase_53 ?_
          refine r_eqJ (b := 1000 * ab (vV f N i) / (r 69 + 1)) (td_nn (by omega)) ?_
          refine r_lconst F 1 (by decide +kernel) dX3_leastBase_54 ?_
          refine r_ladd F dX3_leastBase_55 ?_
          refine r_lstore F hl [(6, .long (J ((1000 * ab (vV f N i) / (r 69 + 1)) + 1))), (0, .ref (gY G b)), (1, .long (J (lbI f N r i))), (3, .long (J (r 69 + 1))), (5, .int (I i))] (by decide) rfl dX3_leastBase_56 (fun ls hl => ?_)
          refine r_lload_n F hl 2 rfl rfl dX3_leastBase_58 ?_
          refine r_lload F hl 0 rfl dX3_leastBase_59 ?_
          refine r_aload_n F hl 1 rfl rfl dX3_leastBase_61 ?_
          refine r_get F X b (hb43 hb) (eK_P hb G _) rfl gl_RX3 0 (by decide) rfl gf_RX3_16 rfl dX3_leastBase_62 ?_
          refine r_iconst F dX3_leastBase_65 ?_
          refine d_cVI F X 1 (by decide) (eK_1 G _) rfl (c_X2_get l G σ (r 64) 4 (by omega) (hP.set 4 (by omega) (by omega))) gv_RX3_35 rfl nd_X2_get rfl (rest := [.long (J ((1000 * ab (vV f N i) / (r 69 + 1)) + 1)), .long (J (lbI f N r i))]) rfl (Nat.le_of_ble_eq_true rfl) ⟨Nat.le_of_ble_eq_true rfl, Nat.le_of_ble_eq_true rfl⟩ ⟨Nat.zero_le _, Nat.zero_le _⟩ hl.1 dX3_leastBase_66 (fun H locs X => ?_)
          refine r_i2l F (by omega) dX3_leastBase_69 ?_
          refine r_lsub F dX3_leastBase_70 ?_
          refine r_aload_n F hl 1 rfl rfl dX3_leastBase_71 ?_
          refine r_iconst F dX3_leastBase_72 ?_
          refine r_iload F hl 4 rfl dX3_leastBase_73 ?_
          refine d_cVJ F X b (hb43 hb) (eK_P hb G _) rfl (c_X3_at l G σ b 0 i hb (by omega) (by omega) (by omega)) gv_RX3_85 rfl nd_X3_at rfl (rest := [.long (J (((1000 * ab (vV f N i) / (r 69 + 1)) + 1) - (r 64))), .long (J (lbI f N r i))]) rfl (Nat.le_of_ble_eq_true rfl) ⟨Nat.le_of_ble_eq_true rfl, Nat.le_of_ble_eq_true rfl⟩ ⟨Nat.zero_le _, Nat.zero_le _⟩ hl.1 dX3_leastBase_75 (fun H locs X => ?_)
          refine r_eqJ (b := lw f N i) (by rw [hN, em_in (by omega)]; exact hD.2 i (by omega) (by omega) 0 (by omega)) ?_
          refine r_lsub F dX3_leastBase_78 ?_
          refine d_cSJ F X (c_J9_maxL l G σ (lbI f N r i) ((((1000 * ab (vV f N i) / (r 69 + 1)) + 1) - (r 64)) - (lw f N i)) (by omega) (by omega)) gv_RX3_123 nd_J9_max_f86c9 rfl (rest := []) rfl (Nat.le_of_ble_eq_true rfl) ⟨Nat.le_of_ble_eq_true rfl, Nat.le_of_ble_eq_true rfl⟩ ⟨Nat.zero_le _, Nat.zero_le _⟩ hl.1 dX3_leastBase_79 (fun H locs X => ?_)
          refine r_eqJ (b := lbI f N r (i + 1)) (by rw [lbI_succ _ _ _ (by omega)]; rfl) ?_
          refine r_lstore_n F hl [(1, .long (J (lbI f N r (i + 1)))), (6, .long (J ((1000 * ab (vV f N i) / (r 69 + 1)) + 1))), (0, .ref (gY G b)), (3, .long (J (r 69 + 1))), (5, .int (I i))] rfl (by decide) rfl dX3_leastBase_82 (fun ls hl => ?_)
          refine r_iinc F hl [(5, .int (I (i + 1))), (1, .long (J (lbI f N r (i + 1)))), (6, .long (J ((1000 * ab (vV f N i) / (r 69 + 1)) + 1))), (0, .ref (gY G b)), (3, .long (J (r 69 + 1)))] 4 rfl (by decide) rfl dX3_leastBase_83 (fun ls hl => ?_)
          refine r_goto F 23 (by decide) dX3_leastBase_86 ?_
          exact ih23 (i + 1) _ _ _ (by omega) (by omega) X (lv_sub hl [3, 1, 4, 0] rfl)
  exact loop23 (((N - 0 : Int) + 1).toNat) 0 _ _ _ (by omega) (by omega) X (lv_sub hl [3, 2, 1, 0] rfl)
theorem c_X3_greatestSpeed (l : Launch) (G : GT) (σ : St) (b : Nat) (N : Int) (r : Int → Int) (f : Int → Int) (hb : b = 5 ∨ b = 18) (hP : PL σ N r) (hW : WF N r) (hD : DR σ b N r f) (hL : LR f N) (hf : f = σ (b + 2 + 0)) : Ct l yX3_greatestSpeed cX3_greatestSpeed 7 (some .int) 3 G [.ref (gY G b)] σ (QI G (fun res9 τ => res9 = (pfI (fun v => decide (v * v ≤ gqI f N r N)) 9999) ∧ τ = σ)) := by
  refine mt (own := RX3) (plainFor_of_name rfl) rfl (Nat.le_of_ble_eq_true rfl) ?_
  intro p e s m args below meth c ls F hr hk X hl
  have hl : lv_has ls 7 [(0, .ref (gY G b))] := hl
  have hw := hW.num
  have hN := hD.1
  have hg9 := gqI_rg hW hL
  have h28 : stv 2 8 = 9999 := rfl
  refine r_getsN F X 2 (by decide) F.2.1.2.2.1 dX3_greatestSpeed_0 ?_
  refine r_bipush F (by decide) dX3_greatestSpeed_3 ?_
  refine r_tald F X 2 (by decide) (by decide) dX3_greatestSpeed_5 ?_
  refine r_i2l F (by omega) dX3_greatestSpeed_6 ?_
  refine r_getsN F X 2 (by decide) F.2.1.2.2.1 dX3_greatestSpeed_7 ?_
  refine r_bipush F (by decide) dX3_greatestSpeed_10 ?_
  refine r_tald F X 2 (by decide) (by decide) dX3_greatestSpeed_12 ?_
  refine r_i2l F (by omega) dX3_greatestSpeed_13 ?_
  refine r_lmul F dX3_greatestSpeed_14 ?_
  refine r_eqJ (b := gqI f N r 0) (rfl) ?_
  refine r_lstore_n F hl [(1, .long (J (gqI f N r 0))), (0, .ref (gY G b))] rfl (by decide) rfl dX3_greatestSpeed_15 (fun ls hl => ?_)
  refine r_iconst F dX3_greatestSpeed_16 ?_
  refine r_istore_n F hl [(3, .int (I 0)), (1, .long (J (gqI f N r 0))), (0, .ref (gY G b))] rfl (by decide) rfl dX3_greatestSpeed_17 (fun ls hl => ?_)
  have loop18 : ∀ (n : Nat) (i : Int) (ls : Array Slot) (H : Heap) (locs : List Loc) (hn : N - i < n) (hi : 0 ≤ i ∧ i ≤ N) (X : HX G σ s H locs) (hl : lv_has ls 7 [(0, .ref (gY G b)), (1, .long (J (gqI f N r i))), (3, .int (I i))]), W p l e (rmd 3) s m args below meth c H locs 0 0 (MQ below (QI G (fun res9 τ => res9 = (pfI (fun v => decide (v * v ≤ gqI f N r N)) 9999) ∧ τ = σ)) args s 0 0 (gA G)) (F0 m 18 ls []) := by
    intro n
    induction n with
    | zero => intro i ls H locs hn hi X hl; omega
    | succ n ih18 =>
      intro i ls H locs hn hi X hl
      have hgi := hg9 i
      have hfo := fo_rg hW hL i
      have hd := LR.d hL (by omega) i
      have hm := mrg (A := 999) (B := 1998) (a := r 67) (b := -(d2 f N i)) (by omega) (by omega)
      refine r_iload_n F hl 2 rfl rfl dX3_greatestSpeed_18 ?_
      refine r_aload_n F hl 0 rfl rfl dX3_greatestSpeed_19 ?_
      refine r_get F X b (hb43 hb) (eK_P hb G _) rfl gl_RX3 2 (by decide) rfl gf_RX3_27 rfl dX3_greatestSpeed_20 ?_
      refine r_icmp_ge F 76 (by decide) (by omega) (by omega) dX3_greatestSpeed_23 (fun c1 => ?_) (fun c1 => ?_)
      · skip
        have hl : lv_has ls 7 [(0, .ref (gY G b)), (1, .long (J (gqI f N r N))), (3, .int (I i))] := by rw [show gqI f N r N = gqI f N r i by rw [show i = N by omega]]; exact hl
        refine r_iconst F dX3_greatestSpeed_76 ?_
        refine r_istore_n F hl [(3, .int (I 0)), (0, .ref (gY G b)), (1, .long (J (gqI f N r N)))] rfl (by decide) rfl dX3_greatestSpeed_77 (fun ls hl => ?_)
        refine r_sipush F (by decide) dX3_greatestSpeed_78 ?_
        refine r_istore F hl [(4, .int (I 8192)), (3, .int (I 0)), (0, .ref (gY G b)), (1, .long (J (gqI f N r N)))] (by decide) rfl dX3_greatestSpeed_81 (fun ls hl => ?_)
        have hgN := hg9 N
        have loop83 : ∀ (n : Nat) (t : Int) (d : Int) (ls : Array Slot) (H : Heap) (locs : List Loc) (hn : d < n) (ht : 0 ≤ t ∧ t ≤ 9999) (hd : d = 8192 ∨ d = 4096 ∨ d = 2048 ∨ d = 1024 ∨ d = 512 ∨ d = 256 ∨ d = 128 ∨ d = 64 ∨ d = 32 ∨ d = 16 ∨ d = 8 ∨ d = 4 ∨ d = 2 ∨ d = 1 ∨ d = 0) (hsq : t * t ≤ gqI f N r N) (hlt : (d = 0 → gqI f N r N < (t + 1) * (t + 1)) ∧ (0 < d → gqI f N r N < (t + 2 * d) * (t + 2 * d))) (X : HX G σ s H locs) (hl : lv_has ls 7 [(0, .ref (gY G b)), (1, .long (J (gqI f N r N))), (3, .int (I t)), (4, .int (I d))]), W p l e (rmd 3) s m args below meth c H locs 0 0 (MQ below (QI G (fun res9 τ => res9 = (pfI (fun v => decide (v * v ≤ gqI f N r N)) 9999) ∧ τ = σ)) args s 0 0 (gA G)) (F0 m 83 ls []) := by
          intro n
          induction n with
          | zero => intro t d ls H locs hn ht hd hsq hlt X hl; omega
          | succ n ih83 =>
            intro t d ls H locs hn ht hd hsq hlt X hl
            have hm := mrg (A := 18191) (B := 18191) (a := t + d) (b := t + d) (by omega) (by omega)
            refine r_iload F hl 3 rfl dX3_greatestSpeed_83 ?_
            refine r_if_le F 123 (by decide) (by omega) dX3_greatestSpeed_85 (fun c2 => ?_) (fun c2 => ?_)
            · skip
              refine r_iload_n F hl 2 rfl rfl dX3_greatestSpeed_123 ?_
              exact r_iret F X hr hk dX3_greatestSpeed_124 (⟨(pfI_eq (by omega) (by omega) (fun j j0 j1 => decide_eq_true (Int.le_trans (sq_le (by omega) j1) hsq)) (Or.inr (decide_eq_false (by have := hlt.1 (by omega); omega)))).symm, rfl⟩)
            · skip
              refine r_iload_n F hl 2 rfl rfl dX3_greatestSpeed_88 ?_
              refine r_iload F hl 3 rfl dX3_greatestSpeed_89 ?_
              refine r_iadd F dX3_greatestSpeed_91 ?_
              refine r_i2l F (by omega) dX3_greatestSpeed_92 ?_
              refine r_lstore F hl [(5, .long (J (t + d))), (0, .ref (gY G b)), (1, .long (J (gqI f N r N))), (3, .int (I t)), (4, .int (I d))] (by decide) rfl dX3_greatestSpeed_93 (fun ls hl => ?_)
              refine r_iload_n F hl 3 rfl rfl dX3_greatestSpeed_95 ?_
              refine r_lload F hl 0 rfl dX3_greatestSpeed_96 ?_
              refine r_lload F hl 0 rfl dX3_greatestSpeed_98 ?_
              refine r_lmul F dX3_greatestSpeed_100 ?_
              refine r_lload_n F hl 2 rfl rfl dX3_greatestSpeed_101 ?_
              refine r_lcmp_gt F 111 (by decide) (by omega) (by omega) dX3_greatestSpeed_102 dX3_greatestSpeed_103 (fun c3 => ?_) (fun c3 => ?_)
              · skip
                refine r_iconst F dX3_greatestSpeed_111 ?_
                refine r_iadd F dX3_greatestSpeed_112 ?_
                refine r_istore_n F hl [(3, .int (I (t + 0))), (5, .long (J (t + d))), (0, .ref (gY G b)), (1, .long (J (gqI f N r N))), (4, .int (I d))] rfl (by decide) rfl dX3_greatestSpeed_113 (fun ls hl => ?_)
                refine r_iload F hl 4 rfl dX3_greatestSpeed_114 ?_
                refine r_iconst F dX3_greatestSpeed_116 ?_
                refine r_ishr F (by omega) (by omega) dX3_greatestSpeed_117 ?_
                refine r_eqI (b := d / 2) (rfl) ?_
                refine r_istore F hl [(4, .int (I (d / 2))), (3, .int (I (t + 0))), (5, .long (J (t + d))), (0, .ref (gY G b)), (1, .long (J (gqI f N r N)))] (by decide) rfl dX3_greatestSpeed_118 (fun ls hl => ?_)
                refine r_goto F 83 (by decide) dX3_greatestSpeed_120 ?_
                exact ih83 (t + 0) (d / 2) _ _ _ (by omega) (by first | omega | exact ⟨by omega, by have q9 := sq_lt (a := t + d) (b := 10000) (by omega) (by omega); omega⟩) (by omega) (by first | assumption | (rw [Int.add_zero]; assumption)) (by refine ⟨fun q => ?_, fun q => ?_⟩ <;> first | (rw [show t + d + 1 = t + 2 * d by omega]; exact hlt.2 (by omega)) | (rw [show t + 0 + 1 = t + d by omega]; assumption) | (rw [show t + d + 2 * (d / 2) = t + 2 * d by omega]; exact hlt.2 (by omega)) | (rw [show t + 0 + 2 * (d / 2) = t + d by omega]; assumption)) X (lv_sub hl [3, 4, 1, 0] rfl)
              · skip
                refine r_iload F hl 4 rfl dX3_greatestSpeed_106 ?_
                refine r_goto F 112 (by decide) dX3_greatestSpeed_108 ?_
                refine r_iadd F dX3_greatestSpeed_112 ?_
                refine r_istore_n F hl [(3, .int (I (t + d))), (5, .long (J (t + d))), (0, .ref (gY G b)), (1, .long (J (gqI f N r N))), (4, .int (I d))] rfl (by decide) rfl dX3_greatestSpeed_113 (fun ls hl => ?_)
                refine r_iload F hl 4 rfl dX3_greatestSpeed_114 ?_
                refine r_iconst F dX3_greatestSpeed_116 ?_
                refine r_ishr F (by omega) (by omega) dX3_greatestSpeed_117 ?_
                refine r_eqI (b := d / 2) (rfl) ?_
                refine r_istore F hl [(4, .int (I (d / 2))), (3, .int (I (t + d))), (5, .long (J (t + d))), (0, .ref (gY G b)), (1, .long (J (gqI f N r N)))] (by decide) rfl dX3_greatestSpeed_118 (fun ls hl => ?_)
                refine r_goto F 83 (by decide) dX3_greatestSpeed_120 ?_
                exact ih83 (t + d) (d / 2) _ _ _ (by omega) (by first | omega | exact ⟨by omega, by have q9 := sq_lt (a := t + d) (b := 10000) (by omega) (by omega); omega⟩) (by omega) (by first | assumption | (rw [Int.add_zero]; assumption)) (by refine ⟨fun q => ?_, fun q => ?_⟩ <;> first | (rw [show t + d + 1 = t + 2 * d by omega]; exact hlt.2 (by omega)) | (rw [show t + 0 + 1 = t + d by omega]; assumption) | (rw [show t + d + 2 * (d / 2) = t + 2 * d by omega]; exact hlt.2 (by omega)) | (rw [show t + 0 + 2 * (d / 2) = t + d by omega]; assumption)) X (lv_sub hl [3, 4, 1, 0] rfl)
        exact loop83 (((8192 : Int) + 1).toNat) 0 8192 _ _ _ (by omega) (by omega) (by omega) (by omega) (by exact ⟨fun q => absurd q (by decide), fun _ => by omega⟩) X (lv_sub hl [2, 3, 1, 0] rfl)
      · skip
        refine r_aload_n F hl 0 rfl rfl dX3_greatestSpeed_26 ?_
        refine r_get F X b (hb43 hb) (eK_P hb G _) rfl gl_RX3 0 (by decide) rfl gf_RX3_16 rfl dX3_greatestSpeed_27 ?_
        refine r_bipush F (by decide) dX3_greatestSpeed_30 ?_
        refine d_cVI F X 1 (by decide) (eK_1 G _) rfl (c_X2_get l G σ (r 67) 7 (by omega) (hP.set 7 (by omega) (by omega))) gv_RX3_35 rfl nd_X2_get rfl (rest := []) rfl (Nat.le_of_ble_eq_true rfl) ⟨Nat.le_of_ble_eq_true rfl, Nat.le_of_ble_eq_true rfl⟩ ⟨Nat.zero_le _, Nat.zero_le _⟩ hl.1 dX3_greatestSpeed_32 (fun H locs X => ?_)
        refine r_i2l F (by omega) dX3_greatestSpeed_35 ?_
        refine r_aload_n F hl 0 rfl rfl dX3_greatestSpeed_36 ?_
        refine r_iconst F dX3_greatestSpeed_37 ?_
        refine r_iload_n F hl 2 rfl rfl dX3_greatestSpeed_38 ?_
        refine d_cVJ F X b (hb43 hb) (eK_P hb G _) rfl (c_X3_at l G σ b 2 i hb (by omega) (by omega) (by omega)) gv_RX3_85 rfl nd_X3_at rfl (rest := [.long (J (r 67))]) rfl (Nat.le_of_ble_eq_true rfl) ⟨Nat.le_of_ble_eq_true rfl, Nat.le_of_ble_eq_true rfl⟩ ⟨Nat.zero_le _, Nat.zero_le _⟩ hl.1 dX3_greatestSpeed_39 (fun H locs X => ?_)
        refine r_eqJ (b := d2 f N i) (by rw [hN, em_in (by omega)]; exact hD.2 i (by omega) (by omega) 2 (by omega)) ?_
        refine r_lneg F dX3_greatestSpeed_42 ?_
        refine r_lmul F dX3_greatestSpeed_43 ?_
        refine r_lstore F hl [(4, .long (J ((r 67) * (-(d2 f N i))))), (0, .ref (gY G b)), (1, .long (J (gqI f N r i))), (3, .int (I i))] (by decide) rfl dX3_greatestSpeed_44 (fun ls hl => ?_)
        refine r_lload F hl 0 rfl dX3_greatestSpeed_46 ?_
        refine r_lconst F 0 (by decide +kernel) dX3_greatestSpeed_48 ?_
        refine r_lcmp_le F 70 (by decide) (by omega) (by omega) dX3_greatestSpeed_49 dX3_greatestSpeed_50 (fun c4 => ?_) (fun c4 => ?_)
        · skip
          have hl : lv_has ls 7 [(4, .long (J ((r 67) * (-(d2 f N i))))), (0, .ref (gY G b)), (1, .long (J (gqI f N r (i + 1)))), (3, .int (I i))] := by first | exact hl | (rw [gqI_succ _ _ _ (by omega), if_neg (by omega)]; exact hl)
          refine r_iinc F hl [(3, .int (I (i + 1))), (4, .long (J ((r 67) * (-(d2 f N i))))), (0, .ref (gY G b)), (1, .long (J (gqI f N r (i + 1))))] 3 rfl (by decide) rfl dX3_greatestSpeed_70 (fun ls hl => ?_)
          refine r_goto F 18 (by decide) dX3_greatestSpeed_73 ?_
          exact ih18 (i + 1) _ _ _ (by omega) (by omega) X (lv_sub hl [2, 3, 0] rfl)
        · skip
          have hq1 : 0 ≤ 1000 * rs f N r i / (r 67 * -(d2 f N i)) := Int.ediv_nonneg (by omega) (by omega)
          have hq2 : 1000 * rs f N r i / (r 67 * -(d2 f N i)) ≤ 1000 * rs f N r i := Int.ediv_le_self _ (by omega)
          refine r_lload_n F hl 2 rfl rfl dX3_greatestSpeed_53 ?_
          refine r_ldc2 F 1000 gk_RX3_105 (by decide +kernel) dX3_greatestSpeed_54 ?_
          refine r_aload_n F hl 1 rfl rfl dX3_greatestSpeed_57 ?_
          refine r_iload_n F hl 3 rfl rfl dX3_greatestSpeed_58 ?_
          refine d_cVJ F X b (hb43 hb) (eK_P hb G _) rfl (c_X3_rest l G σ b N r f i hb hP hW hN hf hL (by omega)) gv_RX3_101 rfl nd_X3_rest rfl (rest := [.long (J 1000), .long (J (gqI f N r i))]) rfl (Nat.le_of_ble_eq_true rfl) ⟨Nat.le_of_ble_eq_true rfl, Nat.le_of_ble_eq_true rfl⟩ ⟨Nat.zero_le _, Nat.zero_le _⟩ hl.1 dX3_greatestSpeed_59 (fun H locs X => ?_)
          refine r_lmul F dX3_greatestSpeed_62 ?_
          refine r_lload F hl 0 rfl dX3_greatestSpeed_63 ?_
          refine r_ldiv F (by omega) (by omega) dX3_greatestSpeed_65 ?_
          refine r_eqJ (b := 1000 * rs f N r i / (r 67 * -(d2 f N i))) (td_nn (by omega)) ?_
          refine d_cSJ F X (c_J9_minL l G σ (gqI f N r i) (1000 * rs f N r i / (r 67 * -(d2 f N i))) (by omega) (by omega)) gv_RX3_164 nd_J9_min_f86c9 rfl (rest := []) rfl (Nat.le_of_ble_eq_true rfl) ⟨Nat.le_of_ble_eq_true rfl, Nat.le_of_ble_eq_true rfl⟩ ⟨Nat.zero_le _, Nat.zero_le _⟩ hl.1 dX3_greatestSpeed_66 (fun H locs X => ?_)
          refine r_eqJ (b := gqI f N r (i + 1)) (by rw [gqI_succ _ _ _ (by omega), if_pos (by omega)]) ?_
          refine r_lstore_n F hl [(1, .long (J (gqI f N r (i + 1)))), (4, .long (J ((r 67) * (-(d2 f N i))))), (0, .ref (gY G b)), (3, .int (I i))] rfl (by decide) rfl dX3_greatestSpeed_69 (fun ls hl => ?_)
          have hl : lv_has ls 7 [(1, .long (J (gqI f N r (i + 1)))), (4, .long (J ((r 67) * (-(d2 f N i))))), (0, .ref (gY G b)), (3, .int (I i))] := by first | exact hl | (rw [gqI_succ _ _ _ (by omega), if_neg (by omega)]; exact hl)
          refine r_iinc F hl [(3, .int (I (i + 1))), (1, .long (J (gqI f N r (i + 1)))), (4, .long (J ((r 67) * (-(d2 f N i))))), (0, .ref (gY G b))] 3 rfl (by decide) rfl dX3_greatestSpeed_70 (fun ls hl => ?_)
          refine r_goto F 18 (by decide) dX3_greatestSpeed_73 ?_
          exact ih18 (i + 1) _ _ _ (by omega) (by omega) X (lv_sub hl [3, 1, 0] rfl)
  exact loop18 (((N - 0 : Int) + 1).toNat) 0 _ _ _ (by omega) (by omega) X (lv_sub hl [2, 1, 0] rfl)
