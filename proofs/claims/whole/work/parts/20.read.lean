theorem c_X3_greatestSize (l : Launch) (G : GT) (σ : St) (b : Nat) (N : Int) (r : Int → Int) (f : Int → Int) (k : Nat) (hb : b = 5 ∨ b = 18) (hP : PL σ N r) (hW : WF N r) (hD : DR σ b N r f) (hL : LR f N) (hk3 : 1 ≤ k ∧ k ≤ 3) : Ct l yX3_greatestSize cX3_greatestSize 5 (some .int) 2 G [.ref (gY G b), .int (I (k : Int))] σ (QI G (fun res9 τ => res9 = (mxI (fun j => mval f N r j k) N) ∧ τ = σ)) := by
  refine mt (own := RX3) (plainFor_of_name rfl) rfl (Nat.le_of_ble_eq_true rfl) ?_
  intro p e s m args below meth c ls F hr hk X hl
  have hl : lv_has ls 5 [(0, .ref (gY G b)), (1, .int (I (k : Int)))] := hl
  have hw := hW.num
  have hN := hD.1
  have hr3 := fun i => mval_rg (r := r) hL (show 0 < N by omega) i hk3
  have hB := fun n => mxI_rg (g := (fun j => mval f N r j k)) (n := n) (B := 3996) (by omega) hr3
  refine r_lconst F 0 (by decide +kernel) dX3_greatestSize_0 ?_
  refine r_lstore_n F hl [(2, .long (J 0)), (0, .ref (gY G b)), (1, .int (I (k : Int)))] rfl (by decide) rfl dX3_greatestSize_1 (fun ls hl => ?_)
  refine r_iconst F dX3_greatestSize_2 ?_
  refine r_istore F hl [(4, .int (I 0)), (2, .long (J 0)), (0, .ref (gY G b)), (1, .int (I (k : Int)))] (by decide) rfl dX3_greatestSize_3 (fun ls hl => ?_)
  have loop5 : ∀ (n : Nat) (i : Int) (ls : Array Slot) (H : Heap) (locs : List Loc) (hn : N - i < n) (hi : 0 ≤ i ∧ i ≤ N) (X : HX G σ s H locs) (hl : lv_has ls 5 [(0, .ref (gY G b)), (1, .int (I (k : Int))), (2, .long (J (mxI (fun j => mval f N r j k) i))), (4, .int (I i))]), W p l e (rmd 2) s m args below meth c H locs 0 0 (MQ below (QI G (fun res9 τ => res9 = (mxI (fun j => mval f N r j k) N) ∧ τ = σ)) args s 0 0 (gA G)) (F0 m 5 ls []) := by
    intro n
    induction n with
    | zero => intro i ls H locs hn hi X hl; omega
    | succ n ih5 =>
      intro i ls H locs hn hi X hl
      have hBi := hB i
      have hri := hr3 i
      have habi := ab_nn (mval f N r i k)
      refine r_iload F hl 3 rfl dX3_greatestSize_5 ?_
      refine r_aload_n F hl 0 rfl rfl dX3_greatestSize_7 ?_
      refine r_get F X b (hb43 hb) (eK_P hb G _) rfl gl_RX3 2 (by decide) rfl gf_RX3_27 rfl dX3_greatestSize_8 ?_
      refine r_icmp_ge F 35 (by decide) (by omega) (by omega) dX3_greatestSize_11 (fun c1 => ?_) (fun c1 => ?_)
      · skip
        refine r_lload_n F hl 2 rfl rfl dX3_greatestSize_35 ?_
        refine r_l2i F dX3_greatestSize_36 ?_
        exact r_iret F X hr hk dX3_greatestSize_37 (⟨by rw [show i = N by omega], rfl⟩)
      · skip
        refine r_lload_n F hl 2 rfl rfl dX3_greatestSize_14 ?_
        refine r_aload_n F hl 0 rfl rfl dX3_greatestSize_15 ?_
        refine r_iload_n F hl 1 rfl rfl dX3_greatestSize_16 ?_
        refine r_iload F hl 3 rfl dX3_greatestSize_17 ?_
        refine d_cVJ F X b (hb43 hb) (eK_P hb G _) rfl (c_X3_at l G σ b k i hb (by omega) (by omega) (by omega)) gv_RX3_85 rfl nd_X3_at rfl (rest := [.long (J (mxI (fun j => mval f N r j k) i))]) rfl (Nat.le_of_ble_eq_true rfl) ⟨Nat.le_of_ble_eq_true rfl, Nat.le_of_ble_eq_true rfl⟩ ⟨Nat.zero_le _, Nat.zero_le _⟩ hl.1 dX3_greatestSize_19 (fun H locs X => ?_)
        refine r_eqJ (b := mval f N r i k) (by rw [hN, em_in (by omega)]; exact hD.2 i (by omega) (by omega) k (by omega)) ?_
        refine d_cSJ F X (c_J9_abs l G σ (mval f N r i k) (by omega)) gv_RX3_115 nd_J9_abs_067f4 rfl (rest := [.long (J (mxI (fun j => mval f N r j k) i))]) rfl (Nat.le_of_ble_eq_true rfl) ⟨Nat.le_of_ble_eq_true rfl, Nat.le_of_ble_eq_true rfl⟩ ⟨Nat.zero_le _, Nat.zero_le _⟩ hl.1 dX3_greatestSize_22 (fun H locs X => ?_)
        refine d_cSJ F X (c_J9_maxL l G σ (mxI (fun j => mval f N r j k) i) (ab (mval f N r i k)) (by omega) (by omega)) gv_RX3_123 nd_J9_max_f86c9 rfl (rest := []) rfl (Nat.le_of_ble_eq_true rfl) ⟨Nat.le_of_ble_eq_true rfl, Nat.le_of_ble_eq_true rfl⟩ ⟨Nat.zero_le _, Nat.zero_le _⟩ hl.1 dX3_greatestSize_25 (fun H locs X => ?_)
        refine r_eqJ (b := mxI (fun j => mval f N r j k) (i + 1)) ((mxI_succ _ (by omega)).symm) ?_
        refine r_lstore_n F hl [(2, .long (J (mxI (fun j => mval f N r j k) (i + 1)))), (0, .ref (gY G b)), (1, .int (I (k : Int))), (4, .int (I i))] rfl (by decide) rfl dX3_greatestSize_28 (fun ls hl => ?_)
        refine r_iinc F hl [(4, .int (I (i + 1))), (2, .long (J (mxI (fun j => mval f N r j k) (i + 1)))), (0, .ref (gY G b)), (1, .int (I (k : Int)))] 3 rfl (by decide) rfl dX3_greatestSize_29 (fun ls hl => ?_)
        refine r_goto F 5 (by decide) dX3_greatestSize_32 ?_
        exact ih5 (i + 1) _ _ _ (by omega) (by omega) X (lv_sub hl [2, 3, 1, 0] rfl)
  exact loop5 ((N - 0 + 1).toNat) 0 _ _ _ (by omega) (by omega) X (lv_sub hl [2, 3, 1, 0] rfl)
theorem c_X3_firstOfSize (l : Launch) (G : GT) (σ : St) (b : Nat) (N : Int) (r : Int → Int) (f : Int → Int) (k : Nat) (z : Int) (hb : b = 5 ∨ b = 18) (hP : PL σ N r) (hW : WF N r) (hD : DR σ b N r f) (hL : LR f N) (hk3 : 1 ≤ k ∧ k ≤ 3) (hz : 0 ≤ z ∧ z ≤ 3996) : Ct l yX3_firstOfSize cX3_firstOfSize 4 (some .int) 2 G [.ref (gY G b), .int (I (k : Int)), .int (I z)] σ (QI G (fun res9 τ => res9 = (ffI (fun j => decide (ab (mval f N r j k) = z)) N) ∧ τ = σ)) := by
  refine mt (own := RX3) (plainFor_of_name rfl) rfl (Nat.le_of_ble_eq_true rfl) ?_
  intro p e s m args below meth c ls F hr hk X hl
  have hl : lv_has ls 4 [(0, .ref (gY G b)), (1, .int (I (k : Int))), (2, .int (I z))] := hl
  have hw := hW.num
  have hN := hD.1
  have hr3 := fun i => mval_rg (r := r) hL (show 0 < N by omega) i hk3
  refine r_iconst F dX3_firstOfSize_0 ?_
  refine r_istore_n F hl [(3, .int (I 0)), (0, .ref (gY G b)), (1, .int (I (k : Int))), (2, .int (I z))] rfl (by decide) rfl dX3_firstOfSize_1 (fun ls hl => ?_)
  have loop2 : ∀ (n : Nat) (i : Int) (ls : Array Slot) (H : Heap) (locs : List Loc) (hn : N - i < n) (hi : 0 ≤ i ∧ i ≤ N) (hno : ∀ j : Int, 0 ≤ j → j < i → (fun j => decide (ab (mval f N r j k) = z)) j = false) (X : HX G σ s H locs) (hl : lv_has ls 4 [(0, .ref (gY G b)), (1, .int (I (k : Int))), (2, .int (I z)), (3, .int (I i))]), W p l e (rmd 2) s m args below meth c H locs 0 0 (MQ below (QI G (fun res9 τ => res9 = (ffI (fun j => decide (ab (mval f N r j k) = z)) N) ∧ τ = σ)) args s 0 0 (gA G)) (F0 m 2 ls []) := by
    intro n
    induction n with
    | zero => intro i ls H locs hn hi hno X hl; omega
    | succ n ih2 =>
      intro i ls H locs hn hi hno X hl
      have hri := hr3 i
      have habi := ab_nn (mval f N r i k)
      refine r_iload_n F hl 3 rfl rfl dX3_firstOfSize_2 ?_
      refine r_aload_n F hl 0 rfl rfl dX3_firstOfSize_3 ?_
      refine r_get F X b (hb43 hb) (eK_P hb G _) rfl gl_RX3 2 (by decide) rfl gf_RX3_27 rfl dX3_firstOfSize_4 ?_
      refine r_icmp_ge F 33 (by decide) (by omega) (by omega) dX3_firstOfSize_7 (fun c1 => ?_) (fun c1 => ?_)
      · skip
        refine r_iconst F dX3_firstOfSize_33 ?_
        exact r_iret F X hr hk dX3_firstOfSize_34 (⟨(ffI_none (fun j j0 j1 => hno j j0 (by omega))).symm, rfl⟩)
      · skip
        refine r_aload_n F hl 0 rfl rfl dX3_firstOfSize_10 ?_
        refine r_iload_n F hl 1 rfl rfl dX3_firstOfSize_11 ?_
        refine r_iload_n F hl 3 rfl rfl dX3_firstOfSize_12 ?_
        refine d_cVJ F X b (hb43 hb) (eK_P hb G _) rfl (c_X3_at l G σ b k i hb (by omega) (by omega) (by omega)) gv_RX3_85 rfl nd_X3_at rfl (rest := []) rfl (Nat.le_of_ble_eq_true rfl) ⟨Nat.le_of_ble_eq_true rfl, Nat.le_of_ble_eq_true rfl⟩ ⟨Nat.zero_le _, Nat.zero_le _⟩ hl.1 dX3_firstOfSize_13 (fun H locs X => ?_)
        refine r_eqJ (b := mval f N r i k) (by rw [hN, em_in (by omega)]; exact hD.2 i (by omega) (by omega) k (by omega)) ?_
        refine d_cSJ F X (c_J9_abs l G σ (mval f N r i k) (by omega)) gv_RX3_115 nd_J9_abs_067f4 rfl (rest := []) rfl (Nat.le_of_ble_eq_true rfl) ⟨Nat.le_of_ble_eq_true rfl, Nat.le_of_ble_eq_true rfl⟩ ⟨Nat.zero_le _, Nat.zero_le _⟩ hl.1 dX3_firstOfSize_16 (fun H locs X => ?_)
        refine r_iload_n F hl 2 rfl rfl dX3_firstOfSize_19 ?_
        refine r_i2l F (by omega) dX3_firstOfSize_20 ?_
        refine r_lcmp_ne F 27 (by decide) (by omega) (by omega) dX3_firstOfSize_21 dX3_firstOfSize_22 (fun c2 => ?_) (fun c2 => ?_)
        · skip
          refine r_iinc F hl [(3, .int (I (i + 1))), (0, .ref (gY G b)), (1, .int (I (k : Int))), (2, .int (I z))] 3 rfl (by decide) rfl dX3_firstOfSize_27 (fun ls hl => ?_)
          refine r_goto F 2 (by decide) dX3_firstOfSize_30 ?_
          exact ih2 (i + 1) _ _ _ (by omega) (by omega) (by intro j j0 j1; rcases (show j < i ∨ j = i by omega) with q | q <;> first | exact hno j j0 q | (rw [q]; exact decide_eq_false (by omega))) X (lv_sub hl [1, 2, 3, 0] rfl)
        · skip
          refine r_iload_n F hl 3 rfl rfl dX3_firstOfSize_25 ?_
          exact r_iret F X hr hk dX3_firstOfSize_26 (⟨(ffI_some (by omega) (by omega) (decide_eq_true (by omega)) hno).symm, rfl⟩)
  exact loop2 ((N - 0 + 1).toNat) 0 _ _ _ (by omega) (by omega) (by intro j j0 j1; omega) X (lv_sub hl [1, 2, 3, 0] rfl)
theorem c_X3_timesOfSize (l : Launch) (G : GT) (σ : St) (b : Nat) (N : Int) (r : Int → Int) (f : Int → Int) (k : Nat) (z : Int) (hb : b = 5 ∨ b = 18) (hP : PL σ N r) (hW : WF N r) (hD : DR σ b N r f) (hL : LR f N) (hk3 : 1 ≤ k ∧ k ≤ 3) (hz : 0 ≤ z ∧ z ≤ 3996) : Ct l yX3_timesOfSize cX3_timesOfSize 5 (some .int) 2 G [.ref (gY G b), .int (I (k : Int)), .int (I z)] σ (QI G (fun res9 τ => res9 = (ctI (fun j => decide (ab (mval f N r j k) = z)) N) ∧ τ = σ)) := by
  refine mt (own := RX3) (plainFor_of_name rfl) rfl (Nat.le_of_ble_eq_true rfl) ?_
  intro p e s m args below meth c ls F hr hk X hl
  have hl : lv_has ls 5 [(0, .ref (gY G b)), (1, .int (I (k : Int))), (2, .int (I z))] := hl
  have hw := hW.num
  have hN := hD.1
  have hr3 := fun i => mval_rg (r := r) hL (show 0 < N by omega) i hk3
  refine r_iconst F dX3_timesOfSize_0 ?_
  refine r_istore_n F hl [(3, .int (I 0)), (0, .ref (gY G b)), (1, .int (I (k : Int))), (2, .int (I z))] rfl (by decide) rfl dX3_timesOfSize_1 (fun ls hl => ?_)
  refine r_iconst F dX3_timesOfSize_2 ?_
  refine r_istore F hl [(4, .int (I 0)), (3, .int (I 0)), (0, .ref (gY G b)), (1, .int (I (k : Int))), (2, .int (I z))] (by decide) rfl dX3_timesOfSize_3 (fun ls hl => ?_)
  have loop5 : ∀ (n : Nat) (i : Int) (ls : Array Slot) (H : Heap) (locs : List Loc) (hn : N - i < n) (hi : 0 ≤ i ∧ i ≤ N) (X : HX G σ s H locs) (hl : lv_has ls 5 [(0, .ref (gY G b)), (1, .int (I (k : Int))), (2, .int (I z)), (3, .int (I (ctI (fun j => decide (ab (mval f N r j k) = z)) i))), (4, .int (I i))]), W p l e (rmd 2) s m args below meth c H locs 0 0 (MQ below (QI G (fun res9 τ => res9 = (ctI (fun j => decide (ab (mval f N r j k) = z)) N) ∧ τ = σ)) args s 0 0 (gA G)) (F0 m 5 ls []) := by
    intro n
    induction n with
    | zero => intro i ls H locs hn hi X hl; omega
    | succ n ih5 =>
      intro i ls H locs hn hi X hl
      have hri := hr3 i
      have habi := ab_nn (mval f N r i k)
      refine r_iload F hl 4 rfl dX3_timesOfSize_5 ?_
      refine r_aload_n F hl 0 rfl rfl dX3_timesOfSize_7 ?_
      refine r_get F X b (hb43 hb) (eK_P hb G _) rfl gl_RX3 2 (by decide) rfl gf_RX3_27 rfl dX3_timesOfSize_8 ?_
      refine r_icmp_ge F 44 (by decide) (by omega) (by omega) dX3_timesOfSize_11 (fun c1 => ?_) (fun c1 => ?_)
      · skip
        refine r_iload_n F hl 3 rfl rfl dX3_timesOfSize_44 ?_
        exact r_iret F X hr hk dX3_timesOfSize_45 (⟨by rw [show i = N by omega], rfl⟩)
      · skip
        refine r_iload_n F hl 3 rfl rfl dX3_timesOfSize_14 ?_
        refine r_aload_n F hl 0 rfl rfl dX3_timesOfSize_15 ?_
        refine r_iload_n F hl 1 rfl rfl dX3_timesOfSize_16 ?_
        refine r_iload F hl 4 rfl dX3_timesOfSize_17 ?_
        refine d_cVJ F X b (hb43 hb) (eK_P hb G _) rfl (c_X3_at l G σ b k i hb (by omega) (by omega) (by omega)) gv_RX3_85 rfl nd_X3_at rfl (rest := [.int (I (ctI (fun j => decide (ab (mval f N r j k) = z)) i))]) rfl (Nat.le_of_ble_eq_true rfl) ⟨Nat.le_of_ble_eq_true rfl, Nat.le_of_ble_eq_true rfl⟩ ⟨Nat.zero_le _, Nat.zero_le _⟩ hl.1 dX3_timesOfSize_19 (fun H locs X => ?_)
        refine r_eqJ (b := mval f N r i k) (by rw [hN, em_in (by omega)]; exact hD.2 i (by omega) (by omega) k (by omega)) ?_
        refine d_cSJ F X (c_J9_abs l G σ (mval f N r i k) (by omega)) gv_RX3_115 nd_J9_abs_067f4 rfl (rest := [.int (I (ctI (fun j => decide (ab (mval f N r j k) = z)) i))]) rfl (Nat.le_of_ble_eq_true rfl) ⟨Nat.le_of_ble_eq_true rfl, Nat.le_of_ble_eq_true rfl⟩ ⟨Nat.zero_le _, Nat.zero_le _⟩ hl.1 dX3_timesOfSize_22 (fun H locs X => ?_)
        refine r_iload_n F hl 2 rfl rfl dX3_timesOfSize_25 ?_
        refine r_i2l F (by omega) dX3_timesOfSize_26 ?_
        refine r_lcmp_ne F 35 (by decide) (by omega) (by omega) dX3_timesOfSize_27 dX3_timesOfSize_28 (fun c2 => ?_) (fun c2 => ?_)
        · skip
          refine r_iconst F dX3_timesOfSize_35 ?_
          refine r_iadd F dX3_timesOfSize_36 ?_
          refine r_eqI (b := ctI (fun j => decide (ab (mval f N r j k) = z)) (i + 1)) (by rw [ctI_succ _ (by omega)]; first | rw [if_pos (decide_eq_true (by omega))] | rw [if_neg (fun q => absurd (of_decide_eq_true q) (by omega))]) ?_
          refine r_istore_n F hl [(3, .int (I (ctI (fun j => decide (ab (mval f N r j k) = z)) (i + 1)))), (0, .ref (gY G b)), (1, .int (I (k : Int))), (2, .int (I z)), (4, .int (I i))] rfl (by decide) rfl dX3_timesOfSize_37 (fun ls hl => ?_)
          refine r_iinc F hl [(4, .int (I (i + 1))), (3, .int (I (ctI (fun j => decide (ab (mval f N r j k) = z)) (i + 1)))), (0, .ref (gY G b)), (1, .int (I (k : Int))), (2, .int (I z))] 4 rfl (by decide) rfl dX3_timesOfSize_38 (fun ls hl => ?_)
          refine r_goto F 5 (by decide) dX3_timesOfSize_41 ?_
          exact ih5 (i + 1) _ _ _ (by omega) (by omega) X (lv_sub hl [2, 3, 4, 1, 0] rfl)
        · skip
          refine r_iconst F dX3_timesOfSize_31 ?_
          refine r_goto F 36 (by decide) dX3_timesOfSize_32 ?_
          refine r_iadd F dX3_timesOfSize_36 ?_
          refine r_eqI (b := ctI (fun j => decide (ab (mval f N r j k) = z)) (i + 1)) (by rw [ctI_succ _ (by omega)]; first | rw [if_pos (decide_eq_true (by omega))] | rw [if_neg (fun q => absurd (of_decide_eq_true q) (by omega))]) ?_
          refine r_istore_n F hl [(3, .int (I (ctI (fun j => decide (ab (mval f N r j k) = z)) (i + 1)))), (0, .ref (gY G b)), (1, .int (I (k : Int))), (2, .int (I z)), (4, .int (I i))] rfl (by decide) rfl dX3_timesOfSize_37 (fun ls hl => ?_)
          refine r_iinc F hl [(4, .int (I (i + 1))), (3, .int (I (ctI (fun j => decide (ab (mval f N r j k) = z)) (i + 1)))), (0, .ref (gY G b)), (1, .int (I (k : Int))), (2, .int (I z))] 4 rfl (by decide) rfl dX3_timesOfSize_38 (fun ls hl => ?_)
          refine r_goto F 5 (by decide) dX3_timesOfSize_41 ?_
          exact ih5 (i + 1) _ _ _ (by omega) (by omega) X (lv_sub hl [2, 3, 4, 1, 0] rfl)
  exact loop5 ((N - 0 + 1).toNat) 0 _ _ _ (by omega) (by omega) X (lv_sub hl [2, 3, 4, 1, 0] rfl)
theorem c_X3_evenness (l : Launch) (G : GT) (σ : St) (b : Nat) (N : Int) (r : Int → Int) (f : Int → Int) (i : Int) (hb : b = 5 ∨ b = 18) (hP : PL σ N r) (hW : WF N r) (hD : DR σ b N r f) (hL : LR f N) (hi : 0 ≤ i ∧ i < N) : Ct l yX3_evenness cX3_evenness 4 (some .int) 2 G [.ref (gY G b), .int (I i)] σ (QI G (fun res9 τ => res9 = (evq f N r i) ∧ τ = σ)) := by
  refine mt (own := RX3) (plainFor_of_name rfl) rfl (Nat.le_of_ble_eq_true rfl) ?_
  intro p e s m args below meth c ls F hr hk X hl
  have hl : lv_has ls 4 [(0, .ref (gY G b)), (1, .int (I i))] := hl
  have hw := hW.num
  have hN := hD.1
  have hr3 := fun i k (hk3 : 1 ≤ k ∧ k ≤ 3) => mval_rg (r := r) hL (show 0 < N by omega) i hk3
  refine r_aload_n F hl 0 rfl rfl dX3_evenness_0 ?_
  refine r_get F X b (hb43 hb) (eK_P hb G _) rfl gl_RX3 0 (by decide) rfl gf_RX3_16 rfl dX3_evenness_1 ?_
  refine r_bipush F (by decide) dX3_evenness_4 ?_
  refine d_cVI F X 1 (by decide) (eK_1 G _) rfl (c_X2_get l G σ (r 70) 10 (by omega) (hP.set 10 (by omega) (by omega))) gv_RX3_35 rfl nd_X2_get rfl (rest := []) rfl (Nat.le_of_ble_eq_true rfl) ⟨Nat.le_of_ble_eq_true rfl, Nat.le_of_ble_eq_true rfl⟩ ⟨Nat.zero_le _, Nat.zero_le _⟩ hl.1 dX3_evenness_6 (fun H locs X => ?_)
  refine r_istore_n F hl [(2, .int (I (r 70))), (0, .ref (gY G b)), (1, .int (I i))] rfl (by decide) rfl dX3_evenness_9 (fun ls hl => ?_)
  refine r_iconst F dX3_evenness_10 ?_
  refine r_istore_n F hl [(3, .int (I 0)), (2, .int (I (r 70))), (0, .ref (gY G b)), (1, .int (I i))] rfl (by decide) rfl dX3_evenness_11 (fun ls hl => ?_)
  refine r_iload_n F hl 0 rfl rfl dX3_evenness_12 ?_
  refine r_iconst F dX3_evenness_13 ?_
  refine r_icmp_ge F 51 (by decide) (by omega) (by omega) dX3_evenness_14 (fun c1 => ?_) (fun c1 => ?_)
  · omega
  · skip
    refine r_aload_n F hl 2 rfl rfl dX3_evenness_17 ?_
    refine r_iload_n F hl 0 rfl rfl dX3_evenness_18 ?_
    refine r_iconst F dX3_evenness_19 ?_
    refine r_iadd F dX3_evenness_20 ?_
    refine r_iload_n F hl 3 rfl rfl dX3_evenness_21 ?_
    refine d_cVJ F X b (hb43 hb) (eK_P hb G _) rfl (c_X3_at l G σ b 1 i hb (by omega) (by omega) (by omega)) gv_RX3_85 rfl nd_X3_at rfl (rest := []) rfl (Nat.le_of_ble_eq_true rfl) ⟨Nat.le_of_ble_eq_true rfl, Nat.le_of_ble_eq_true rfl⟩ ⟨Nat.zero_le _, Nat.zero_le _⟩ hl.1 dX3_evenness_22 (fun H locs X => ?_)
    refine r_eqJ (b := mval f N r i 1) (by rw [hN, em_in (by omega)]; exact hD.2 i (by omega) (by omega) 1 (by omega)) ?_
    have hq1 := hr3 i (k := 1) (by omega)
    refine r_aload_n F hl 2 rfl rfl dX3_evenness_25 ?_
    refine r_iload_n F hl 0 rfl rfl dX3_evenness_26 ?_
    refine r_iconst F dX3_evenness_27 ?_
    refine r_iadd F dX3_evenness_28 ?_
    refine r_iload_n F hl 3 rfl rfl dX3_evenness_29 ?_
    refine r_iconst F dX3_evenness_30 ?_
    refine r_isub F dX3_evenness_31 ?_
    refine d_cVJ F X b (hb43 hb) (eK_P hb G _) rfl (c_X3_at l G σ b 1 (i - 1) hb (by omega) (by omega) (by omega)) gv_RX3_85 rfl nd_X3_at rfl (rest := [.long (J (mval f N r i 1))]) rfl (Nat.le_of_ble_eq_true rfl) ⟨Nat.le_of_ble_eq_true rfl, Nat.le_of_ble_eq_true rfl⟩ ⟨Nat.zero_le _, Nat.zero_le _⟩ hl.1 dX3_evenness_32 (fun H locs X => ?_)
    refine r_eqJ (b := mval f N r (i - 1) 1) (by rw [hN, hD.2 ((i - 1) % N) (Int.emod_nonneg _ (by omega)) (Int.emod_lt_of_pos _ (by omega)) 1 (by omega)]; exact mval_mod f N r _ (by omega)) ?_
    have hp1 := hr3 (i - 1) (k := 1) (by omega)
    have ha1 := ab_nn (mval f N r i 1 - mval f N r (i - 1) 1)
    refine r_lsub F dX3_evenness_35 ?_
    refine d_cSJ F X (c_J9_abs l G σ ((mval f N r i 1) - (mval f N r (i - 1) 1)) (by omega)) gv_RX3_115 nd_J9_abs_067f4 rfl (rest := []) rfl (Nat.le_of_ble_eq_true rfl) ⟨Nat.le_of_ble_eq_true rfl, Nat.le_of_ble_eq_true rfl⟩ ⟨Nat.zero_le _, Nat.zero_le _⟩ hl.1 dX3_evenness_36 (fun H locs X => ?_)
    refine r_iload_n F hl 1 rfl rfl dX3_evenness_39 ?_
    refine r_i2l F (by omega) dX3_evenness_40 ?_
    refine r_lcmp_gt F 51 (by decide) (by omega) (by omega) dX3_evenness_41 dX3_evenness_42 (fun c2 => ?_) (fun c2 => ?_)
    · skip
      refine r_iload_n F hl 0 rfl rfl dX3_evenness_51 ?_
      exact r_iret F X hr hk dX3_evenness_52 (⟨by unfold evq evn ev1; (repeat first | rw [if_pos (decide_eq_true (by omega))] | rw [if_neg (fun q => absurd (of_decide_eq_true q) (by omega))]); try omega, rfl⟩)
    · skip
      refine r_iinc F hl [(3, .int (I (0 + 1))), (2, .int (I (r 70))), (0, .ref (gY G b)), (1, .int (I i))] 0 rfl (by decide) rfl dX3_evenness_45 (fun ls hl => ?_)
      refine r_goto F 12 (by decide) dX3_evenness_48 ?_
      refine r_iload_n F hl 0 rfl rfl dX3_evenness_12 ?_
      refine r_iconst F dX3_evenness_13 ?_
      refine r_icmp_ge F 51 (by decide) (by omega) (by omega) dX3_evenness_14 (fun c3 => ?_) (fun c3 => ?_)
      · omega
      · skip
        refine r_aload_n F hl 2 rfl rfl dX3_evenness_17 ?_
        refine r_iload_n F hl 0 rfl rfl dX3_evenness_18 ?_
        refine r_iconst F dX3_evenness_19 ?_
        refine r_iadd F dX3_evenness_20 ?_
        refine r_iload_n F hl 3 rfl rfl dX3_evenness_21 ?_
        refine d_cVJ F X b (hb43 hb) (eK_P hb G _) rfl (c_X3_at l G σ b 2 i hb (by omega) (by omega) (by omega)) gv_RX3_85 rfl nd_X3_at rfl (rest := []) rfl (Nat.le_of_ble_eq_true rfl) ⟨Nat.le_of_ble_eq_true rfl, Nat.le_of_ble_eq_true rfl⟩ ⟨Nat.zero_le _, Nat.zero_le _⟩ hl.1 dX3_evenness_22 (fun H locs X => ?_)
        refine r_eqJ (b := mval f N r i 2) (by rw [hN, em_in (by omega)]; exact hD.2 i (by omega) (by omega) 2 (by omega)) ?_
        have hq2 := hr3 i (k := 2) (by omega)
        refine r_aload_n F hl 2 rfl rfl dX3_evenness_25 ?_
        refine r_iload_n F hl 0 rfl rfl dX3_evenness_26 ?_
        refine r_iconst F dX3_evenness_27 ?_
        refine r_iadd F dX3_evenness_28 ?_
        refine r_iload_n F hl 3 rfl rfl dX3_evenness_29 ?_
        refine r_iconst F dX3_evenness_30 ?_
        refine r_isub F dX3_evenness_31 ?_
        refine d_cVJ F X b (hb43 hb) (eK_P hb G _) rfl (c_X3_at l G σ b 2 (i - 1) hb (by omega) (by omega) (by omega)) gv_RX3_85 rfl nd_X3_at rfl (rest := [.long (J (mval f N r i 2))]) rfl (Nat.le_of_ble_eq_true rfl) ⟨Nat.le_of_ble_eq_true rfl, Nat.le_of_ble_eq_true rfl⟩ ⟨Nat.zero_le _, Nat.zero_le _⟩ hl.1 dX3_evenness_32 (fun H locs X => ?_)
        refine r_eqJ (b := mval f N r (i - 1) 2) (by rw [hN, hD.2 ((i - 1) % N) (Int.emod_nonneg _ (by omega)) (Int.emod_lt_of_pos _ (by omega)) 2 (by omega)]; exact mval_mod f N r _ (by omega)) ?_
        have hp2 := hr3 (i - 1) (k := 2) (by omega)
        have ha2 := ab_nn (mval f N r i 2 - mval f N r (i - 1) 2)
        refine r_lsub F dX3_evenness_35 ?_
        refine d_cSJ F X (c_J9_abs l G σ ((mval f N r i 2) - (mval f N r (i - 1) 2)) (by omega)) gv_RX3_115 nd_J9_abs_067f4 rfl (rest := []) rfl (Nat.le_of_ble_eq_true rfl) ⟨Nat.le_of_ble_eq_true rfl, Nat.le_of_ble_eq_true rfl⟩ ⟨Nat.zero_le _, Nat.zero_le _⟩ hl.1 dX3_evenness_36 (fun H locs X => ?_)
        refine r_iload_n F hl 1 rfl rfl dX3_evenness_39 ?_
        refine r_i2l F (by omega) dX3_evenness_40 ?_
        refine r_lcmp_gt F 51 (by decide) (by omega) (by omega) dX3_evenness_41 dX3_evenness_42 (fun c4 => ?_) (fun c4 => ?_)
        · skip
          refine r_iload_n F hl 0 rfl rfl dX3_evenness_51 ?_
          exact r_iret F X hr hk dX3_evenness_52 (⟨by unfold evq evn ev1; (repeat first | rw [if_pos (decide_eq_true (by omega))] | rw [if_neg (fun q => absurd (of_decide_eq_true q) (by omega))]); try omega, rfl⟩)
        · skip
          refine r_iinc F hl [(3, .int (I ((0 + 1) + 1))), (2, .int (I (r 70))), (0, .ref (gY G b)), (1, .int (I i))] 0 rfl (by decide) rfl dX3_evenness_45 (fun ls hl => ?_)
          refine r_goto F 12 (by decide) dX3_evenness_48 ?_
          refine r_iload_n F hl 0 rfl rfl dX3_evenness_12 ?_
          refine r_iconst F dX3_evenness_13 ?_
          refine r_icmp_ge F 51 (by decide) (by omega) (by omega) dX3_evenness_14 (fun c5 => ?_) (fun c5 => ?_)
          · omega
          · skip
            refine r_aload_n F hl 2 rfl rfl dX3_evenness_17 ?_
            refine r_iload_n F hl 0 rfl rfl dX3_evenness_18 ?_
            refine r_iconst F dX3_evenness_19 ?_
            refine r_iadd F dX3_evenness_20 ?_
            refine r_iload_n F hl 3 rfl rfl dX3_evenness_21 ?_
            refine d_cVJ F X b (hb43 hb) (eK_P hb G _) rfl (c_X3_at l G σ b 3 i hb (by omega) (by omega) (by omega)) gv_RX3_85 rfl nd_X3_at rfl (rest := []) rfl (Nat.le_of_ble_eq_true rfl) ⟨Nat.le_of_ble_eq_true rfl, Nat.le_of_ble_eq_true rfl⟩ ⟨Nat.zero_le _, Nat.zero_le _⟩ hl.1 dX3_evenness_22 (fun H locs X => ?_)
            refine r_eqJ (b := mval f N r i 3) (by rw [hN, em_in (by omega)]; exact hD.2 i (by omega) (by omega) 3 (by omega)) ?_
            have hq3 := hr3 i (k := 3) (by omega)
            refine r_aload_n F hl 2 rfl rfl dX3_evenness_25 ?_
            refine r_iload_n F hl 0 rfl rfl dX3_evenness_26 ?_
            refine r_iconst F dX3_evenness_27 ?_
            refine r_iadd F dX3_evenness_28 ?_
            refine r_iload_n F hl 3 rfl rfl dX3_evenness_29 ?_
            refine r_iconst F dX3_evenness_30 ?_
            refine r_isub F dX3_evenness_31 ?_
            refine d_cVJ F X b (hb43 hb) (eK_P hb G _) rfl (c_X3_at l G σ b 3 (i - 1) hb (by omega) (by omega) (by omega)) gv_RX3_85 rfl nd_X3_at rfl (rest := [.long (J (mval f N r i 3))]) rfl (Nat.le_of_ble_eq_true rfl) ⟨Nat.le_of_ble_eq_true rfl, Nat.le_of_ble_eq_true rfl⟩ ⟨Nat.zero_le _, Nat.zero_le _⟩ hl.1 dX3_evenness_32 (fun H locs X => ?_)
            refine r_eqJ (b := mval f N r (i - 1) 3) (by rw [hN, hD.2 ((i - 1) % N) (Int.emod_nonneg _ (by omega)) (Int.emod_lt_of_pos _ (by omega)) 3 (by omega)]; exact mval_mod f N r _ (by omega)) ?_
            have hp3 := hr3 (i - 1) (k := 3) (by omega)
            have ha3 := ab_nn (mval f N r i 3 - mval f N r (i - 1) 3)
            refine r_lsub F dX3_evenness_35 ?_
            refine d_cSJ F X (c_J9_abs l G σ ((mval f N r i 3) - (mval f N r (i - 1) 3)) (by omega)) gv_RX3_115 nd_J9_abs_067f4 rfl (rest := []) rfl (Nat.le_of_ble_eq_true rfl) ⟨Nat.le_of_ble_eq_true rfl, Nat.le_of_ble_eq_true rfl⟩ ⟨Nat.zero_le _, Nat.zero_le _⟩ hl.1 dX3_evenness_36 (fun H locs X => ?_)
            refine r_iload_n F hl 1 rfl rfl dX3_evenness_39 ?_
            refine r_i2l F (by omega) dX3_evenness_40 ?_
            refine r_lcmp_gt F 51 (by decide) (by omega) (by omega) dX3_evenness_41 dX3_evenness_42 (fun c6 => ?_) (fun c6 => ?_)
            · skip
              refine r_iload_n F hl 0 rfl rfl dX3_evenness_51 ?_
              exact r_iret F X hr hk dX3_evenness_52 (⟨by unfold evq evn ev1; (repeat first | rw [if_pos (decide_eq_true (by omega))] | rw [if_neg (fun q => absurd (of_decide_eq_true q) (by omega))]); try omega, rfl⟩)
            · skip
              refine r_iinc F hl [(3, .int (I (((0 + 1) + 1) + 1))), (2, .int (I (r 70))), (0, .ref (gY G b)), (1, .int (I i))] 0 rfl (by decide) rfl dX3_evenness_45 (fun ls hl => ?_)
              refine r_goto F 12 (by decide) dX3_evenness_48 ?_
              refine r_iload_n F hl 0 rfl rfl dX3_evenness_12 ?_
              refine r_iconst F dX3_evenness_13 ?_
              refine r_icmp_ge F 51 (by decide) (by omega) (by omega) dX3_evenness_14 (fun c7 => ?_) (fun c7 => ?_)
              · skip
                refine r_iload_n F hl 0 rfl rfl dX3_evenness_51 ?_
                exact r_iret F X hr hk dX3_evenness_52 (⟨by unfold evq evn ev1; (repeat first | rw [if_pos (decide_eq_true (by omega))] | rw [if_neg (fun q => absurd (of_decide_eq_true q) (by omega))]); try omega, rfl⟩)
              · omega
theorem c_X3_isBad (l : Launch) (G : GT) (σ : St) (b : Nat) (N : Int) (r : Int → Int) (f : Int → Int) (w : Int) (i : Int) (hb : b = 5 ∨ b = 18) (hP : PL σ N r) (hW : WF N r) (hN : σ b 2 = N) (hD : DA σ b N r f i) (hL : LR f N) (hw : 0 ≤ w ∧ w ≤ 3) (hi : 0 ≤ i ∧ i < N) : Ct l yX3_isBad cX3_isBad 3 (some .boolean) 2 G [.ref (gY G b), .int (I w), .int (I i)] σ (QI G (fun res9 τ => res9 = (if bd f N r w i = true then 1 else 0) ∧ τ = σ)) := by
  refine mt (own := RX3) (plainFor_of_name rfl) rfl (Nat.le_of_ble_eq_true rfl) ?_
  intro p e s m args below meth c ls F hr hk X hl
  have hl : lv_has ls 3 [(0, .ref (gY G b)), (1, .int (I w)), (2, .int (I i))] := hl
  have hwn := hW.num
  have hr9 := fun k (hk : k < 11) => mval_rg9 hW hL i hk
  refine r_iload_n F hl 1 rfl rfl dX3_isBad_0 ?_
  rcases (show w = 0 ∨ w = 1 ∨ w = 2 ∨ (w < 0 ∨ 2 < w) by omega) with q1 | q1 | q1 | q1
  · skip
    refine r_tabIn F 0 28 q1 (by decide) (by decide) (by decide) rfl (by decide) dX3_isBad_1 ?_
    have h9 : -10000000000000000 ≤ ucq (r 64) f N r i ∧ ucq (r 64) f N r i ≤ 10000000000000000 := hr9 8 (by omega)
    refine r_aload_n F hl 0 rfl rfl dX3_isBad_28 ?_
    refine r_bipush F (by decide) dX3_isBad_29 ?_
    refine r_iload_n F hl 2 rfl rfl dX3_isBad_31 ?_
    refine d_cVJ F X b (hb43 hb) (eK_P hb G _) rfl (c_X3_at l G σ b 8 i hb (by omega) (by omega) (by omega)) gv_RX3_85 rfl nd_X3_at rfl (rest := []) rfl (Nat.le_of_ble_eq_true rfl) ⟨Nat.le_of_ble_eq_true rfl, Nat.le_of_ble_eq_true rfl⟩ ⟨Nat.zero_le _, Nat.zero_le _⟩ hl.1 dX3_isBad_32 (fun H locs X => ?_)
    refine r_eqJ (b := ucq (r 64) f N r i) (by rw [hN, em_in (by omega)]; exact hD 8 (by omega)) ?_
    refine r_lconst F 1 (by decide +kernel) dX3_isBad_35 ?_
    refine r_lcmp_ne F 44 (by decide) (by omega) (by omega) dX3_isBad_36 dX3_isBad_37 (fun c1 => ?_) (fun c1 => ?_)
    · skip
      refine r_iconst F dX3_isBad_44 ?_
      exact r_zret F X hr hk (by omega) dX3_isBad_45 (⟨by first | rw [if_pos (by unfold bd; rw [if_pos (by omega)]; exact decide_eq_true (by assumption))] | rw [if_neg (by unfold bd; rw [if_pos (by omega)]; exact fun z => absurd (of_decide_eq_true z) (by omega))], rfl⟩)
    · skip
      refine r_iconst F dX3_isBad_40 ?_
      refine r_goto F 45 (by decide) dX3_isBad_41 ?_
      exact r_zret F X hr hk (by omega) dX3_isBad_45 (⟨by first | rw [if_pos (by unfold bd; rw [if_pos (by omega)]; exact decide_eq_true (by assumption))] | rw [if_neg (by unfold bd; rw [if_pos (by omega)]; exact fun z => absurd (of_decide_eq_true z) (by omega))], rfl⟩)
  · skip
    refine r_tabIn F 1 46 q1 (by decide) (by decide) (by decide) rfl (by decide) dX3_isBad_1 ?_
    have h9 : -10000000000000000 ≤ ucq (r 64) f N r i ∧ ucq (r 64) f N r i ≤ 10000000000000000 := hr9 8 (by omega)
    refine r_aload_n F hl 0 rfl rfl dX3_isBad_46 ?_
    refine r_bipush F (by decide) dX3_isBad_47 ?_
    refine r_iload_n F hl 2 rfl rfl dX3_isBad_49 ?_
    refine d_cVJ F X b (hb43 hb) (eK_P hb G _) rfl (c_X3_at l G σ b 8 i hb (by omega) (by omega) (by omega)) gv_RX3_85 rfl nd_X3_at rfl (rest := []) rfl (Nat.le_of_ble_eq_true rfl) ⟨Nat.le_of_ble_eq_true rfl, Nat.le_of_ble_eq_true rfl⟩ ⟨Nat.zero_le _, Nat.zero_le _⟩ hl.1 dX3_isBad_50 (fun H locs X => ?_)
    refine r_eqJ (b := ucq (r 64) f N r i) (by rw [hN, em_in (by omega)]; exact hD 8 (by omega)) ?_
    refine r_ldc2 F 2 gk_RX3_63 (by decide +kernel) dX3_isBad_53 ?_
    refine r_lcmp_ne F 64 (by decide) (by omega) (by omega) dX3_isBad_56 dX3_isBad_57 (fun c2 => ?_) (fun c2 => ?_)
    · skip
      refine r_iconst F dX3_isBad_64 ?_
      exact r_zret F X hr hk (by omega) dX3_isBad_65 (⟨by first | rw [if_pos (by unfold bd; rw [if_neg (by omega), if_pos (by omega)]; exact decide_eq_true (by assumption))] | rw [if_neg (by unfold bd; rw [if_neg (by omega), if_pos (by omega)]; exact fun z => absurd (of_decide_eq_true z) (by omega))], rfl⟩)
    · skip
      refine r_iconst F dX3_isBad_60 ?_
      refine r_goto F 65 (by decide) dX3_isBad_61 ?_
      exact r_zret F X hr hk (by omega) dX3_isBad_65 (⟨by first | rw [if_pos (by unfold bd; rw [if_neg (by omega), if_pos (by omega)]; exact decide_eq_true (by assumption))] | rw [if_neg (by unfold bd; rw [if_neg (by omega), if_pos (by omega)]; exact fun z => absurd (of_decide_eq_true z) (by omega))], rfl⟩)
  · skip
    refine r_tabIn F 2 66 q1 (by decide) (by decide) (by decide) rfl (by decide) dX3_isBad_1 ?_
    have h9 : -10000000000000000 ≤ pr f N r i ∧ pr f N r i ≤ 10000000000000000 := hr9 9 (by omega)
    refine r_aload_n F hl 0 rfl rfl dX3_isBad_66 ?_
    refine r_bipush F (by decide) dX3_isBad_67 ?_
    refine r_iload_n F hl 2 rfl rfl dX3_isBad_69 ?_
    refine d_cVJ F X b (hb43 hb) (eK_P hb G _) rfl (c_X3_at l G σ b 9 i hb (by omega) (by omega) (by omega)) gv_RX3_85 rfl nd_X3_at rfl (rest := []) rfl (Nat.le_of_ble_eq_true rfl) ⟨Nat.le_of_ble_eq_true rfl, Nat.le_of_ble_eq_true rfl⟩ ⟨Nat.zero_le _, Nat.zero_le _⟩ hl.1 dX3_isBad_70 (fun H locs X => ?_)
    refine r_eqJ (b := pr f N r i) (by rw [hN, em_in (by omega)]; exact hD 9 (by omega)) ?_
    refine r_aload_n F hl 0 rfl rfl dX3_isBad_73 ?_
    refine r_get F X b (hb43 hb) (eK_P hb G _) rfl gl_RX3 0 (by decide) rfl gf_RX3_16 rfl dX3_isBad_74 ?_
    refine r_bipush F (by decide) dX3_isBad_77 ?_
    refine d_cVI F X 1 (by decide) (eK_1 G _) rfl (c_X2_get l G σ (r 69) 9 (by omega) (hP.set 9 (by omega) (by omega))) gv_RX3_35 rfl nd_X2_get rfl (rest := [.long (J (pr f N r i))]) rfl (Nat.le_of_ble_eq_true rfl) ⟨Nat.le_of_ble_eq_true rfl, Nat.le_of_ble_eq_true rfl⟩ ⟨Nat.zero_le _, Nat.zero_le _⟩ hl.1 dX3_isBad_79 (fun H locs X => ?_)
    refine r_i2l F (by omega) dX3_isBad_82 ?_
    refine r_lcmp_le F 91 (by decide) (by omega) (by omega) dX3_isBad_83 dX3_isBad_84 (fun c3 => ?_) (fun c3 => ?_)
    · skip
      refine r_iconst F dX3_isBad_91 ?_
      exact r_zret F X hr hk (by omega) dX3_isBad_92 (⟨by first | rw [if_pos (by unfold bd; rw [if_neg (by omega), if_neg (by omega), if_pos (by omega)]; exact decide_eq_true (by assumption))] | rw [if_neg (by unfold bd; rw [if_neg (by omega), if_neg (by omega), if_pos (by omega)]; exact fun z => absurd (of_decide_eq_true z) (by omega))], rfl⟩)
    · skip
      refine r_iconst F dX3_isBad_87 ?_
      refine r_goto F 92 (by decide) dX3_isBad_88 ?_
      exact r_zret F X hr hk (by omega) dX3_isBad_92 (⟨by first | rw [if_pos (by unfold bd; rw [if_neg (by omega), if_neg (by omega), if_pos (by omega)]; exact decide_eq_true (by assumption))] | rw [if_neg (by unfold bd; rw [if_neg (by omega), if_neg (by omega), if_pos (by omega)]; exact fun z => absurd (of_decide_eq_true z) (by omega))], rfl⟩)
  · skip
    refine r_tabOut F 93 (by omega) q1 (by decide) dX3_isBad_1 ?_
    have h9 : -10000000000000000 ≤ fo f N r i ∧ fo f N r i ≤ 10000000000000000 := hr9 10 (by omega)
    refine r_aload_n F hl 0 rfl rfl dX3_isBad_93 ?_
    refine r_bipush F (by decide) dX3_isBad_94 ?_
    refine r_iload_n F hl 2 rfl rfl dX3_isBad_96 ?_
    refine d_cVJ F X b (hb43 hb) (eK_P hb G _) rfl (c_X3_at l G σ b 10 i hb (by omega) (by omega) (by omega)) gv_RX3_85 rfl nd_X3_at rfl (rest := []) rfl (Nat.le_of_ble_eq_true rfl) ⟨Nat.le_of_ble_eq_true rfl, Nat.le_of_ble_eq_true rfl⟩ ⟨Nat.zero_le _, Nat.zero_le _⟩ hl.1 dX3_isBad_97 (fun H locs X => ?_)
    refine r_eqJ (b := fo f N r i) (by rw [hN, em_in (by omega)]; exact hD 10 (by omega)) ?_
    refine r_lconst F 0 (by decide +kernel) dX3_isBad_100 ?_
    refine r_lcmp_ge F 109 (by decide) (by omega) (by omega) dX3_isBad_101 dX3_isBad_102 (fun c4 => ?_) (fun c4 => ?_)
    · skip
      refine r_iconst F dX3_isBad_109 ?_
      exact r_zret F X hr hk (by omega) dX3_isBad_110 (⟨by first | rw [if_pos (by unfold bd; rw [if_neg (by omega), if_neg (by omega), if_neg (by omega)]; exact decide_eq_true (by assumption))] | rw [if_neg (by unfold bd; rw [if_neg (by omega), if_neg (by omega), if_neg (by omega)]; exact fun z => absurd (of_decide_eq_true z) (by omega))], rfl⟩)
    · skip
      refine r_iconst F dX3_isBad_105 ?_
      refine r_goto F 110 (by decide) dX3_isBad_106 ?_
      exact r_zret F X hr hk (by omega) dX3_isBad_110 (⟨by first | rw [if_pos (by unfold bd; rw [if_neg (by omega), if_neg (by omega), if_neg (by omega)]; exact decide_eq_true (by assumption))] | rw [if_neg (by unfold bd; rw [if_neg (by omega), if_neg (by omega), if_neg (by omega)]; exact fun z => absurd (of_decide_eq_true z) (by omega))], rfl⟩)
theorem c_X3_missOf (l : Launch) (G : GT) (σ : St) (b : Nat) (N : Int) (r : Int → Int) (f : Int → Int) (q : Int) (hb : b = 5 ∨ b = 18) (hP : PL σ N r) (hW : WF N r) (hN : σ b 2 = N) (hf : f = σ (b + 2 + 0)) (hL : LR f N) (hm : 0 ≤ q ∧ q < r 61) : Ct l yX3_missOf cX3_missOf 4 (some .int) 2 G [.ref (gY G b), .int (I q)] σ (QI G (fun res9 τ => res9 = (mo f r q) ∧ τ = σ)) := by
  refine mt (own := RX3) (plainFor_of_name rfl) rfl (Nat.le_of_ble_eq_true rfl) ?_
  intro p e s m args below meth c ls F hr hk X hl
  have hl : lv_has ls 4 [(0, .ref (gY G b)), (1, .int (I q))] := hl
  have hw := hW.num
  have h1 := hW.ms (i := q) (by omega) (by omega)
  have h2 := hW.mN (i := q) (by omega) (by omega)
  have h3 := hW.ml (i := q) (by omega) (by omega)
  have h4 := hL (r (36 + q)) (by omega) (by omega)
  refine r_aload_n F hl 0 rfl rfl dX3_missOf_0 ?_
  refine r_iconst F dX3_missOf_1 ?_
  refine r_aload_n F hl 0 rfl rfl dX3_missOf_2 ?_
  refine r_get F X b (hb43 hb) (eK_P hb G _) rfl gl_RX3 0 (by decide) rfl gf_RX3_16 rfl dX3_missOf_3 ?_
  refine r_iload_n F hl 1 rfl rfl dX3_missOf_6 ?_
  refine r_iconst F dX3_missOf_7 ?_
  refine d_cSI F X (c_X2_placeOfMark l G σ q 0) gv_RX3_130 nd_X2_placeOfMark rfl (rest := [.ref (gY G 1), .int (I 0), .ref (gY G b)]) rfl (Nat.le_of_ble_eq_true rfl) ⟨Nat.le_of_ble_eq_true rfl, Nat.le_of_ble_eq_true rfl⟩ ⟨Nat.zero_le _, Nat.zero_le _⟩ hl.1 dX3_missOf_8 (fun H locs X => ?_)
  refine d_cVI F X 1 (by decide) (eK_1 G _) rfl (c_X2_get l G σ (r (36 + q)) (48 + 3 * q + 0) (by omega) (hP.ms (by omega) (by omega))) gv_RX3_35 rfl nd_X2_get rfl (rest := [.int (I 0), .ref (gY G b)]) rfl (Nat.le_of_ble_eq_true rfl) ⟨Nat.le_of_ble_eq_true rfl, Nat.le_of_ble_eq_true rfl⟩ ⟨Nat.zero_le _, Nat.zero_le _⟩ hl.1 dX3_missOf_11 (fun H locs X => ?_)
  refine d_cVJ F X b (hb43 hb) (eK_P hb G _) rfl (c_X3_at l G σ b 0 (r (36 + q)) hb (by omega) (by omega) (by omega)) gv_RX3_85 rfl nd_X3_at rfl (rest := []) rfl (Nat.le_of_ble_eq_true rfl) ⟨Nat.le_of_ble_eq_true rfl, Nat.le_of_ble_eq_true rfl⟩ ⟨Nat.zero_le _, Nat.zero_le _⟩ hl.1 dX3_missOf_14 (fun H locs X => ?_)
  refine r_eqJ (b := f (r (36 + q))) (by rw [hN, em_in (by omega), hf]) ?_
  refine r_lstore_n F hl [(2, .long (J (f (r (36 + q))))), (0, .ref (gY G b)), (1, .int (I q))] rfl (by decide) rfl dX3_missOf_17 (fun ls hl => ?_)
  refine r_lload_n F hl 0 rfl rfl dX3_missOf_18 ?_
  refine r_aload_n F hl 1 rfl rfl dX3_missOf_19 ?_
  refine r_get F X b (hb43 hb) (eK_P hb G _) rfl gl_RX3 0 (by decide) rfl gf_RX3_16 rfl dX3_missOf_20 ?_
  refine r_iload_n F hl 2 rfl rfl dX3_missOf_23 ?_
  refine r_iconst F dX3_missOf_24 ?_
  refine d_cSI F X (c_X2_placeOfMark l G σ q 1) gv_RX3_130 nd_X2_placeOfMark rfl (rest := [.ref (gY G 1), .long (J (f (r (36 + q))))]) rfl (Nat.le_of_ble_eq_true rfl) ⟨Nat.le_of_ble_eq_true rfl, Nat.le_of_ble_eq_true rfl⟩ ⟨Nat.zero_le _, Nat.zero_le _⟩ hl.1 dX3_missOf_25 (fun H locs X => ?_)
  refine d_cVI F X 1 (by decide) (eK_1 G _) rfl (c_X2_get l G σ (r (44 + q)) (48 + 3 * q + 1) (by omega) (hP.ml (by omega) (by omega))) gv_RX3_35 rfl nd_X2_get rfl (rest := [.long (J (f (r (36 + q))))]) rfl (Nat.le_of_ble_eq_true rfl) ⟨Nat.le_of_ble_eq_true rfl, Nat.le_of_ble_eq_true rfl⟩ ⟨Nat.zero_le _, Nat.zero_le _⟩ hl.1 dX3_missOf_28 (fun H locs X => ?_)
  refine r_i2l F (by omega) dX3_missOf_31 ?_
  refine r_lsub F dX3_missOf_32 ?_
  refine d_cSJ F X (c_J9_abs l G σ ((f (r (36 + q))) - (r (44 + q))) (by omega)) gv_RX3_115 nd_J9_abs_067f4 rfl (rest := []) rfl (Nat.le_of_ble_eq_true rfl) ⟨Nat.le_of_ble_eq_true rfl, Nat.le_of_ble_eq_true rfl⟩ ⟨Nat.zero_le _, Nat.zero_le _⟩ hl.1 dX3_missOf_33 (fun H locs X => ?_)
  refine r_eqJ (b := mo f r q) (rfl) ?_
  refine r_l2i F dX3_missOf_36 ?_
  exact r_iret F X hr hk dX3_missOf_37 (⟨rfl, rfl⟩)
theorem c_X3_metBits (l : Launch) (G : GT) (σ : St) (b : Nat) (N : Int) (r : Int → Int) (f : Int → Int) (hb : b = 5 ∨ b = 18) (hP : PL σ N r) (hW : WF N r) (hN : σ b 2 = N) (hf : f = σ (b + 2 + 0)) (hL : LR f N) : Ct l yX3_metBits cX3_metBits 3 (some .int) 3 G [.ref (gY G b)] σ (QI G (fun res9 τ => res9 = (btI (mk f r) (r 61)) ∧ τ = σ)) := by
  refine mt (own := RX3) (plainFor_of_name rfl) rfl (Nat.le_of_ble_eq_true rfl) ?_
  intro p e s m args below meth c ls F hr hk X hl
  have hl : lv_has ls 3 [(0, .ref (gY G b))] := hl
  have hw := hW.num
  refine r_iconst F dX3_metBits_0 ?_
  refine r_istore_n F hl [(1, .int (I 0)), (0, .ref (gY G b))] rfl (by decide) rfl dX3_metBits_1 (fun ls hl => ?_)
  refine r_iconst F dX3_metBits_2 ?_
  refine r_istore_n F hl [(2, .int (I 0)), (1, .int (I 0)), (0, .ref (gY G b))] rfl (by decide) rfl dX3_metBits_3 (fun ls hl => ?_)
  have loop4 : ∀ (n : Nat) (i : Int) (ls : Array Slot) (H : Heap) (locs : List Loc) (hn : r 61 - i < n) (hi : 0 ≤ i ∧ i ≤ r 61) (X : HX G σ s H locs) (hl : lv_has ls 3 [(0, .ref (gY G b)), (1, .int (I (btI (mk f r) i))), (2, .int (I i))]), W p l e (rmd 3) s m args below meth c H locs 0 0 (MQ below (QI G (fun res9 τ => res9 = (btI (mk f r) (r 61)) ∧ τ = σ)) args s 0 0 (gA G)) (F0 m 4 ls []) := by
    intro n
    induction n with
    | zero => intro i ls H locs hn hi X hl; omega
    | succ n ih4 =>
      intro i ls H locs hn hi X hl
      refine r_iload_n F hl 2 rfl rfl dX3_metBits_4 ?_
      refine r_aload_n F hl 0 rfl rfl dX3_metBits_5 ?_
      refine r_get F X b (hb43 hb) (eK_P hb G _) rfl gl_RX3 0 (by decide) rfl gf_RX3_16 rfl dX3_metBits_6 ?_
      refine r_bipush F (by decide) dX3_metBits_9 ?_
      refine d_cVI F X 1 (by decide) (eK_1 G _) rfl (c_X2_get l G σ (r 61) 11 (by omega) (hP.ma)) gv_RX3_35 rfl nd_X2_get rfl (rest := [.int (I i)]) rfl (Nat.le_of_ble_eq_true rfl) ⟨Nat.le_of_ble_eq_true rfl, Nat.le_of_ble_eq_true rfl⟩ ⟨Nat.zero_le _, Nat.zero_le _⟩ hl.1 dX3_metBits_11 (fun H locs X => ?_)
      refine r_icmp_ge F 53 (by decide) (by omega) (by omega) dX3_metBits_14 (fun c1 => ?_) (fun c1 => ?_)
      · skip
        refine r_iload_n F hl 1 rfl rfl dX3_metBits_53 ?_
        exact r_iret F X hr hk dX3_metBits_54 (⟨by rw [show i = r 61 by omega], rfl⟩)
      · skip
        have hmo := mo_rg (m := i) hW hL (by omega) (by omega)
        have hmn := hW.mn (i := i) (by omega) (by omega)
        have hbr := bt2_rg (mk f r) i.toNat
        refine r_iload_n F hl 1 rfl rfl dX3_metBits_17 ?_
        refine r_aload_n F hl 0 rfl rfl dX3_metBits_18 ?_
        refine r_iload_n F hl 2 rfl rfl dX3_metBits_19 ?_
        refine d_cVI F X b (hb43 hb) (eK_P hb G _) rfl (c_X3_missOf l G σ b N r f i hb hP hW hN hf hL (by omega)) gv_RX3_133 rfl nd_X3_missOf rfl (rest := [.int (I (btI (mk f r) i))]) rfl (Nat.le_of_ble_eq_true rfl) ⟨Nat.le_of_ble_eq_true rfl, Nat.le_of_ble_eq_true rfl⟩ ⟨Nat.zero_le _, Nat.zero_le _⟩ hl.1 dX3_metBits_20 (fun H locs X => ?_)
        refine r_aload_n F hl 0 rfl rfl dX3_metBits_23 ?_
        refine r_get F X b (hb43 hb) (eK_P hb G _) rfl gl_RX3 0 (by decide) rfl gf_RX3_16 rfl dX3_metBits_24 ?_
        refine r_iload_n F hl 2 rfl rfl dX3_metBits_27 ?_
        refine r_iconst F dX3_metBits_28 ?_
        refine d_cSI F X (c_X2_placeOfMark l G σ i 2) gv_RX3_130 nd_X2_placeOfMark rfl (rest := [.ref (gY G 1), .int (I (mo f r i)), .int (I (btI (mk f r) i))]) rfl (Nat.le_of_ble_eq_true rfl) ⟨Nat.le_of_ble_eq_true rfl, Nat.le_of_ble_eq_true rfl⟩ ⟨Nat.zero_le _, Nat.zero_le _⟩ hl.1 dX3_metBits_29 (fun H locs X => ?_)
        refine d_cVI F X 1 (by decide) (eK_1 G _) rfl (c_X2_get l G σ (r (52 + i)) (48 + 3 * i + 2) (by omega) (hP.mn (by omega) (by omega))) gv_RX3_35 rfl nd_X2_get rfl (rest := [.int (I (mo f r i)), .int (I (btI (mk f r) i))]) rfl (Nat.le_of_ble_eq_true rfl) ⟨Nat.le_of_ble_eq_true rfl, Nat.le_of_ble_eq_true rfl⟩ ⟨Nat.zero_le _, Nat.zero_le _⟩ hl.1 dX3_metBits_32 (fun H locs X => ?_)
        refine r_icmp_gt F 44 (by decide) (by omega) (by omega) dX3_metBits_35 (fun c2 => ?_) (fun c2 => ?_)
        · skip
          refine r_iconst F dX3_metBits_44 ?_
          refine r_ior F (i.toNat) (by omega) (by unfold btI; omega) (by omega) dX3_metBits_45 ?_
          refine r_eqI (b := btI (mk f r) (i + 1)) (by rw [btI_succ _ (by omega)]; show _ = btI (mk f r) i + (if decide (mo f r i ≤ r (52 + i)) = true then _ else _); first | rw [if_pos (decide_eq_true (by omega))] | rw [if_neg (fun z => absurd (of_decide_eq_true z) (by omega))]) ?_
          refine r_istore_n F hl [(1, .int (I (btI (mk f r) (i + 1)))), (0, .ref (gY G b)), (2, .int (I i))] rfl (by decide) rfl dX3_metBits_46 (fun ls hl => ?_)
          refine r_iinc F hl [(2, .int (I (i + 1))), (1, .int (I (btI (mk f r) (i + 1)))), (0, .ref (gY G b))] 2 rfl (by decide) rfl dX3_metBits_47 (fun ls hl => ?_)
          refine r_goto F 4 (by decide) dX3_metBits_50 ?_
          exact ih4 (i + 1) _ _ _ (by omega) (by omega) X (lv_sub hl [2, 1, 0] rfl)
        · skip
          refine r_iconst F dX3_metBits_38 ?_
          refine r_iload_n F hl 2 rfl rfl dX3_metBits_39 ?_
          refine r_shl1 F (by omega) dX3_metBits_40 ?_
          refine r_goto F 45 (by decide) dX3_metBits_41 ?_
          refine r_ior F (i.toNat) (by omega) (by unfold btI; omega) (by omega) dX3_metBits_45 ?_
          refine r_eqI (b := btI (mk f r) (i + 1)) (by rw [btI_succ _ (by omega)]; show _ = btI (mk f r) i + (if decide (mo f r i ≤ r (52 + i)) = true then _ else _); first | rw [if_pos (decide_eq_true (by omega))] | rw [if_neg (fun z => absurd (of_decide_eq_true z) (by omega))]) ?_
          refine r_istore_n F hl [(1, .int (I (btI (mk f r) (i + 1)))), (0, .ref (gY G b)), (2, .int (I i))] rfl (by decide) rfl dX3_metBits_46 (fun ls hl => ?_)
          refine r_iinc F hl [(2, .int (I (i + 1))), (1, .int (I (btI (mk f r) (i + 1)))), (0, .ref (gY G b))] 2 rfl (by decide) rfl dX3_metBits_47 (fun ls hl => ?_)
          refine r_goto F 4 (by decide) dX3_metBits_50 ?_
          exact ih4 (i + 1) _ _ _ (by omega) (by omega) X (lv_sub hl [2, 1, 0] rfl)
  exact loop4 ((r 61 - 0 + 1).toNat) 0 _ _ _ (by omega) (by omega) X (lv_sub hl [2, 1, 0] rfl)
theorem c_X3_isGoodAt (l : Launch) (G : GT) (σ : St) (b : Nat) (N : Int) (r : Int → Int) (f : Int → Int) (i : Int) (hb : b = 5 ∨ b = 18) (hP : PL σ N r) (hW : WF N r) (hN : σ b 2 = N) (hD : DA σ b N r f i) (hL : LR f N) (hf : f = σ (b + 2 + 0)) (hi : 0 ≤ i ∧ i < N) : Ct l yX3_isGoodAt cX3_isGoodAt 3 (some .boolean) 3 G [.ref (gY G b), .int (I i)] σ (QI G (fun res9 τ => res9 = (if ga f N r i = true then 1 else 0) ∧ τ = σ)) := by
  refine mt (own := RX3) (plainFor_of_name rfl) rfl (Nat.le_of_ble_eq_true rfl) ?_
  intro p e s m args below meth c ls F hr hk X hl
  have hl : lv_has ls 3 [(0, .ref (gY G b)), (1, .int (I i))] := hl
  have hw := hW.num
  have hr9 := fun k (hk : k < 11) => mval_rg9 hW hL i hk
  have h8 : -10000000000000000 ≤ ucq (r 64) f N r i ∧ ucq (r 64) f N r i ≤ 10000000000000000 := hr9 8 (by omega)
  refine r_aload_n F hl 0 rfl rfl dX3_isGoodAt_0 ?_
  refine r_bipush F (by decide) dX3_isGoodAt_1 ?_
  refine r_iload_n F hl 1 rfl rfl dX3_isGoodAt_3 ?_
  refine d_cVJ F X b (hb43 hb) (eK_P hb G _) rfl (c_X3_at l G σ b 8 i hb (by omega) (by omega) (by omega)) gv_RX3_85 rfl nd_X3_at rfl (rest := []) rfl (Nat.le_of_ble_eq_true rfl) ⟨Nat.le_of_ble_eq_true rfl, Nat.le_of_ble_eq_true rfl⟩ ⟨Nat.zero_le _, Nat.zero_le _⟩ hl.1 dX3_isGoodAt_4 (fun H locs X => ?_)
  refine r_eqJ (b := ucq (r 64) f N r i) (by rw [hN, em_in (by omega)]; exact hD 8 (by omega)) ?_
  refine r_lconst F 0 (by decide +kernel) dX3_isGoodAt_7 ?_
  refine r_lcmp_ne F 30 (by decide) (by omega) (by omega) dX3_isGoodAt_8 dX3_isGoodAt_9 (fun c1 => ?_) (fun c1 => ?_)
  · skip
    refine r_iconst F dX3_isGoodAt_30 ?_
    exact r_zret F X hr hk (by omega) dX3_isGoodAt_31 (⟨by rw [if_neg (by rw [ga_ok (by first | exact ok_no1 (by assumption) | exact ok_no2 (by assumption) | exact ok_no3 (by assumption))]; decide)], rfl⟩)
  · skip
    refine r_aload_n F hl 0 rfl rfl dX3_isGoodAt_12 ?_
    refine r_iconst F dX3_isGoodAt_13 ?_
    refine r_iload_n F hl 1 rfl rfl dX3_isGoodAt_14 ?_
    refine d_cVI F X b (hb43 hb) (eK_P hb G _) rfl (c_X3_isBad l G σ b N r f 2 i hb hP hW hN hD hL (by omega) (by omega)) gv_RX3_126 rfl nd_X3_isBad rfl (rest := []) rfl (Nat.le_of_ble_eq_true rfl) ⟨Nat.le_of_ble_eq_true rfl, Nat.le_of_ble_eq_true rfl⟩ ⟨Nat.zero_le _, Nat.zero_le _⟩ hl.1 dX3_isGoodAt_15 (fun H locs X => ?_)
    refine r_bz_ne F 30 (bd f N r 2 i = true) rfl (by decide) dX3_isGoodAt_18 (fun c2 => ?_) (fun c2 => ?_)
    · skip
      refine r_iconst F dX3_isGoodAt_30 ?_
      exact r_zret F X hr hk (by omega) dX3_isGoodAt_31 (⟨by rw [if_neg (by rw [ga_ok (by first | exact ok_no1 (by assumption) | exact ok_no2 (by assumption) | exact ok_no3 (by assumption))]; decide)], rfl⟩)
    · skip
      refine r_aload_n F hl 0 rfl rfl dX3_isGoodAt_21 ?_
      refine r_iconst F dX3_isGoodAt_22 ?_
      refine r_iload_n F hl 1 rfl rfl dX3_isGoodAt_23 ?_
      refine d_cVI F X b (hb43 hb) (eK_P hb G _) rfl (c_X3_isBad l G σ b N r f 3 i hb hP hW hN hD hL (by omega) (by omega)) gv_RX3_126 rfl nd_X3_isBad rfl (rest := []) rfl (Nat.le_of_ble_eq_true rfl) ⟨Nat.le_of_ble_eq_true rfl, Nat.le_of_ble_eq_true rfl⟩ ⟨Nat.zero_le _, Nat.zero_le _⟩ hl.1 dX3_isGoodAt_24 (fun H locs X => ?_)
      refine r_bz_eq F 32 (bd f N r 3 i = true) rfl (by decide) dX3_isGoodAt_27 (fun c3 => ?_) (fun c3 => ?_)
      · skip
        refine r_iconst F dX3_isGoodAt_32 ?_
        refine r_istore_n F hl [(2, .int (I 0)), (0, .ref (gY G b)), (1, .int (I i))] rfl (by decide) rfl dX3_isGoodAt_33 (fun ls hl => ?_)
        have hok : ok1 f N r i = true := ok_yes (by assumption) (by assumption) (by assumption)
        have loop34 : ∀ (n : Nat) (m9 : Int) (ls : Array Slot) (H : Heap) (locs : List Loc) (hn : r 61 - m9 < n) (hm : 0 ≤ m9 ∧ m9 ≤ r 61) (hno : ∀ j : Int, 0 ≤ j → j < m9 → (!decide (r (36 + j) = i) || mk f r j) = true) (X : HX G σ s H locs) (hl : lv_has ls 3 [(0, .ref (gY G b)), (1, .int (I i)), (2, .int (I m9))]), W p l e (rmd 3) s m args below meth c H locs 0 0 (MQ below (QI G (fun res9 τ => res9 = (if ga f N r i = true then 1 else 0) ∧ τ = σ)) args s 0 0 (gA G)) (F0 m 34 ls []) := by
          intro n
          induction n with
          | zero => intro m9 ls H locs hn hm hno X hl; omega
          | succ n ih34 =>
            intro m9 ls H locs hn hm hno X hl
            refine r_iload_n F hl 2 rfl rfl dX3_isGoodAt_34 ?_
            refine r_aload_n F hl 0 rfl rfl dX3_isGoodAt_35 ?_
            refine r_get F X b (hb43 hb) (eK_P hb G _) rfl gl_RX3 0 (by decide) rfl gf_RX3_16 rfl dX3_isGoodAt_36 ?_
            refine r_bipush F (by decide) dX3_isGoodAt_39 ?_
            refine d_cVI F X 1 (by decide) (eK_1 G _) rfl (c_X2_get l G σ (r 61) 11 (by omega) (hP.ma)) gv_RX3_35 rfl nd_X2_get rfl (rest := [.int (I m9)]) rfl (Nat.le_of_ble_eq_true rfl) ⟨Nat.le_of_ble_eq_true rfl, Nat.le_of_ble_eq_true rfl⟩ ⟨Nat.zero_le _, Nat.zero_le _⟩ hl.1 dX3_isGoodAt_41 (fun H locs X => ?_)
            refine r_icmp_ge F 91 (by decide) (by omega) (by omega) dX3_isGoodAt_44 (fun c4 => ?_) (fun c4 => ?_)
            · skip
              refine r_iconst F dX3_isGoodAt_91 ?_
              exact r_zret F X hr hk (by omega) dX3_isGoodAt_92 (⟨by rw [if_pos (by rw [ga, hok, Bool.true_and, alI_iff]; exact fun j j0 j1 => hno j j0 (by omega))], rfl⟩)
            · skip
              have hmo := mo_rg (m := m9) hW hL (by omega) (by omega)
              have hmn := hW.mn (i := m9) (by omega) (by omega)
              have hms := hW.ms (i := m9) (by omega) (by omega)
              refine r_aload_n F hl 0 rfl rfl dX3_isGoodAt_47 ?_
              refine r_get F X b (hb43 hb) (eK_P hb G _) rfl gl_RX3 0 (by decide) rfl gf_RX3_16 rfl dX3_isGoodAt_48 ?_
              refine r_iload_n F hl 2 rfl rfl dX3_isGoodAt_51 ?_
              refine r_iconst F dX3_isGoodAt_52 ?_
              refine d_cSI F X (c_X2_placeOfMark l G σ m9 0) gv_RX3_130 nd_X2_placeOfMark rfl (rest := [.ref (gY G 1)]) rfl (Nat.le_of_ble_eq_true rfl) ⟨Nat.le_of_ble_eq_true rfl, Nat.le_of_ble_eq_true rfl⟩ ⟨Nat.zero_le _, Nat.zero_le _⟩ hl.1 dX3_isGoodAt_53 (fun H locs X => ?_)
              refine d_cVI F X 1 (by decide) (eK_1 G _) rfl (c_X2_get l G σ (r (36 + m9)) (48 + 3 * m9 + 0) (by omega) (hP.ms (by omega) (by omega))) gv_RX3_35 rfl nd_X2_get rfl (rest := []) rfl (Nat.le_of_ble_eq_true rfl) ⟨Nat.le_of_ble_eq_true rfl, Nat.le_of_ble_eq_true rfl⟩ ⟨Nat.zero_le _, Nat.zero_le _⟩ hl.1 dX3_isGoodAt_56 (fun H locs X => ?_)
              refine r_iload_n F hl 1 rfl rfl dX3_isGoodAt_59 ?_
              refine r_icmp_ne F 85 (by decide) (by omega) (by omega) dX3_isGoodAt_60 (fun c5 => ?_) (fun c5 => ?_)
              · skip
                refine r_iinc F hl [(2, .int (I (m9 + 1))), (0, .ref (gY G b)), (1, .int (I i))] 2 rfl (by decide) rfl dX3_isGoodAt_85 (fun ls hl => ?_)
                refine r_goto F 34 (by decide) dX3_isGoodAt_88 ?_
                exact ih34 (m9 + 1) _ _ _ (by omega) (by omega) (by intro j j0 j1; rcases (show j < m9 ∨ j = m9 by omega) with q | q <;> first | exact hno j j0 q | (rw [q, Bool.or_eq_true, Bool.not_eq_true', decide_eq_false_iff_not]; first | (left; omega) | (right; exact decide_eq_true (by omega)))) X (lv_sub hl [1, 2, 0] rfl)
              · skip
                refine r_aload_n F hl 0 rfl rfl dX3_isGoodAt_63 ?_
                refine r_iload_n F hl 2 rfl rfl dX3_isGoodAt_64 ?_
                refine d_cVI F X b (hb43 hb) (eK_P hb G _) rfl (c_X3_missOf l G σ b N r f m9 hb hP hW hN hf hL (by omega)) gv_RX3_133 rfl nd_X3_missOf rfl (rest := []) rfl (Nat.le_of_ble_eq_true rfl) ⟨Nat.le_of_ble_eq_true rfl, Nat.le_of_ble_eq_true rfl⟩ ⟨Nat.zero_le _, Nat.zero_le _⟩ hl.1 dX3_isGoodAt_65 (fun H locs X => ?_)
                refine r_aload_n F hl 0 rfl rfl dX3_isGoodAt_68 ?_
                refine r_get F X b (hb43 hb) (eK_P hb G _) rfl gl_RX3 0 (by decide) rfl gf_RX3_16 rfl dX3_isGoodAt_69 ?_
                refine r_iload_n F hl 2 rfl rfl dX3_isGoodAt_72 ?_
                refine r_iconst F dX3_isGoodAt_73 ?_
                refine d_cSI F X (c_X2_placeOfMark l G σ m9 2) gv_RX3_130 nd_X2_placeOfMark rfl (rest := [.ref (gY G 1), .int (I (mo f r m9))]) rfl (Nat.le_of_ble_eq_true rfl) ⟨Nat.le_of_ble_eq_true rfl, Nat.le_of_ble_eq_true rfl⟩ ⟨Nat.zero_le _, Nat.zero_le _⟩ hl.1 dX3_isGoodAt_74 (fun H locs X => ?_)
                refine d_cVI F X 1 (by decide) (eK_1 G _) rfl (c_X2_get l G σ (r (52 + m9)) (48 + 3 * m9 + 2) (by omega) (hP.mn (by omega) (by omega))) gv_RX3_35 rfl nd_X2_get rfl (rest := [.int (I (mo f r m9))]) rfl (Nat.le_of_ble_eq_true rfl) ⟨Nat.le_of_ble_eq_true rfl, Nat.le_of_ble_eq_true rfl⟩ ⟨Nat.zero_le _, Nat.zero_le _⟩ hl.1 dX3_isGoodAt_77 (fun H locs X => ?_)
                refine r_icmp_le F 85 (by decide) (by omega) (by omega) dX3_isGoodAt_80 (fun c6 => ?_) (fun c6 => ?_)
                · skip
                  refine r_iinc F hl [(2, .int (I (m9 + 1))), (0, .ref (gY G b)), (1, .int (I i))] 2 rfl (by decide) rfl dX3_isGoodAt_85 (fun ls hl => ?_)
                  refine r_goto F 34 (by decide) dX3_isGoodAt_88 ?_
                  exact ih34 (m9 + 1) _ _ _ (by omega) (by omega) (by intro j j0 j1; rcases (show j < m9 ∨ j = m9 by omega) with q | q <;> first | exact hno j j0 q | (rw [q, Bool.or_eq_true, Bool.not_eq_true', decide_eq_false_iff_not]; first | (left; omega) | (right; exact decide_eq_true (by omega)))) X (lv_sub hl [1, 2, 0] rfl)
                · skip
                  refine r_iconst F dX3_isGoodAt_83 ?_
                  exact r_zret F X hr hk (by omega) dX3_isGoodAt_84 (⟨by rw [if_neg (by rw [ga_no (m := m9) (by omega) (by omega) (by omega) (decide_eq_false (by omega))]; decide)], rfl⟩)
        exact loop34 ((r 61 - 0 + 1).toNat) 0 _ _ _ (by omega) (by omega) (by intro j j0 j1; omega) X (lv_sub hl [1, 2, 0] rfl)
      · skip
        refine r_iconst F dX3_isGoodAt_30 ?_
        exact r_zret F X hr hk (by omega) dX3_isGoodAt_31 (⟨by rw [if_neg (by rw [ga_ok (by first | exact ok_no1 (by assumption) | exact ok_no2 (by assumption) | exact ok_no3 (by assumption))]; decide)], rfl⟩)
