theorem c_X3_countBad (l : Launch) (G : GT) (σ : St) (b : Nat) (N : Int) (r : Int → Int) (f : Int → Int) (w : Int) (hb : b = 5 ∨ b = 18) (hP : PL σ N r) (hW : WF N r) (hD : DR σ b N r f) (hL : LR f N) (hw : 0 ≤ w ∧ w ≤ 3) : Ct l yX3_countBad cX3_countBad 4 (some .int) 3 G [.ref (gY G b), .int (I w)] σ (QI G (fun res9 τ => res9 = (ctI (bd f N r w) N) ∧ τ = σ)) := by
  refine mt (own := RX3) (plainFor_of_name rfl) rfl (Nat.le_of_ble_eq_true rfl) ?_
  intro p e s m args below meth c ls F hr hk X hl
  have hl : lv_has ls 4 [(0, .ref (gY G b)), (1, .int (I w))] := hl
  have hwn := hW.num
  have hN := hD.1
  refine r_iconst F dX3_countBad_0 ?_
  refine r_istore_n F hl [(2, .int (I 0)), (0, .ref (gY G b)), (1, .int (I w))] rfl (by decide) rfl dX3_countBad_1 (fun ls hl => ?_)
  refine r_iconst F dX3_countBad_2 ?_
  refine r_istore_n F hl [(3, .int (I 0)), (2, .int (I 0)), (0, .ref (gY G b)), (1, .int (I w))] rfl (by decide) rfl dX3_countBad_3 (fun ls hl => ?_)
  have loop4 : ∀ (n : Nat) (i : Int) (ls : Array Slot) (H : Heap) (locs : List Loc) (hn : N - i < n) (hi : 0 ≤ i ∧ i ≤ N) (X : HX G σ s H locs) (hl : lv_has ls 4 [(0, .ref (gY G b)), (1, .int (I w)), (2, .int (I (ctI (bd f N r w) i))), (3, .int (I i))]), W p l e (rmd 3) s m args below meth c H locs 0 0 (MQ below (QI G (fun res9 τ => res9 = (ctI (bd f N r w) N) ∧ τ = σ)) args s 0 0 (gA G)) (F0 m 4 ls []) := by
    intro n
    induction n with
    | zero => intro i ls H locs hn hi X hl; omega
    | succ n ih4 =>
      intro i ls H locs hn hi X hl
      refine r_iload_n F hl 3 rfl rfl dX3_countBad_4 ?_
      refine r_aload_n F hl 0 rfl rfl dX3_countBad_5 ?_
      refine r_get F X b (hb43 hb) (eK_P hb G _) rfl gl_RX3 2 (by decide) rfl gf_RX3_27 rfl dX3_countBad_6 ?_
      refine r_icmp_ge F 35 (by decide) (by omega) (by omega) dX3_countBad_9 (fun c1 => ?_) (fun c1 => ?_)
      · skip
        refine r_iload_n F hl 2 rfl rfl dX3_countBad_35 ?_
        exact r_iret F X hr hk dX3_countBad_36 (⟨by rw [show i = N by omega], rfl⟩)
      · skip
        refine r_iload_n F hl 2 rfl rfl dX3_countBad_12 ?_
        refine r_aload_n F hl 0 rfl rfl dX3_countBad_13 ?_
        refine r_iload_n F hl 1 rfl rfl dX3_countBad_14 ?_
        refine r_iload_n F hl 3 rfl rfl dX3_countBad_15 ?_
        refine d_cVI F X b (hb43 hb) (eK_P hb G _) rfl (c_X3_isBad l G σ b N r f w i hb hP hW hN (hD.2 i (by omega) (by omega)) hL (by omega) (by omega)) gv_RX3_126 rfl nd_X3_isBad rfl (rest := [.int (I (ctI (bd f N r w) i))]) rfl (Nat.le_of_ble_eq_true rfl) ⟨Nat.le_of_ble_eq_true rfl, Nat.le_of_ble_eq_true rfl⟩ ⟨Nat.zero_le _, Nat.zero_le _⟩ hl.1 dX3_countBad_16 (fun H locs X => ?_)
        refine r_bz_eq F 26 (bd f N r w i = true) rfl (by decide) dX3_countBad_19 (fun c2 => ?_) (fun c2 => ?_)
        · skip
          refine r_iconst F dX3_countBad_26 ?_
          refine r_iadd F dX3_countBad_27 ?_
          refine r_eqI (b := ctI (bd f N r w) (i + 1)) (by rw [ctI_succ _ (by omega)]; first | rw [if_pos (by assumption)] | rw [if_neg (by assumption)]) ?_
          refine r_istore_n F hl [(2, .int (I (ctI (bd f N r w) (i + 1)))), (0, .ref (gY G b)), (1, .int (I w)), (3, .int (I i))] rfl (by decide) rfl dX3_countBad_28 (fun ls hl => ?_)
          refine r_iinc F hl [(3, .int (I (i + 1))), (2, .int (I (ctI (bd f N r w) (i + 1)))), (0, .ref (gY G b)), (1, .int (I w))] 3 rfl (by decide) rfl dX3_countBad_29 (fun ls hl => ?_)
          refine r_goto F 4 (by decide) dX3_countBad_32 ?_
          exact ih4 (i + 1) _ _ _ (by omega) (by omega) X (lv_sub hl [2, 3, 1, 0] rfl)
        · skip
          refine r_iconst F dX3_countBad_22 ?_
          refine r_goto F 27 (by decide) dX3_countBad_23 ?_
          refine r_iadd F dX3_countBad_27 ?_
          refine r_eqI (b := ctI (bd f N r w) (i + 1)) (by rw [ctI_succ _ (by omega)]; first | rw [if_pos (by assumption)] | rw [if_neg (by assumption)]) ?_
          refine r_istore_n F hl [(2, .int (I (ctI (bd f N r w) (i + 1)))), (0, .ref (gY G b)), (1, .int (I w)), (3, .int (I i))] rfl (by decide) rfl dX3_countBad_28 (fun ls hl => ?_)
          refine r_iinc F hl [(3, .int (I (i + 1))), (2, .int (I (ctI (bd f N r w) (i + 1)))), (0, .ref (gY G b)), (1, .int (I w))] 3 rfl (by decide) rfl dX3_countBad_29 (fun ls hl => ?_)
          refine r_goto F 4 (by decide) dX3_countBad_32 ?_
          exact ih4 (i + 1) _ _ _ (by omega) (by omega) X (lv_sub hl [2, 3, 1, 0] rfl)
  exact loop4 ((N - 0 + 1).toNat) 0 _ _ _ (by omega) (by omega) X (lv_sub hl [2, 3, 1, 0] rfl)
theorem c_X3_findBad (l : Launch) (G : GT) (σ : St) (b : Nat) (N : Int) (r : Int → Int) (f : Int → Int) (w : Int) (q : Int) (hb : b = 5 ∨ b = 18) (hP : PL σ N r) (hW : WF N r) (hD : DR σ b N r f) (hL : LR f N) (hw : 0 ≤ w ∧ w ≤ 3) (hq : 0 ≤ q ∧ q < 2147483648) : Ct l yX3_findBad cX3_findBad 5 (some .int) 3 G [.ref (gY G b), .int (I w), .int (I q)] σ (QI G (fun res9 τ => res9 = (ffI (fun j => bd f N r w j && decide (ctI (bd f N r w) j = q)) N) ∧ τ = σ)) := by
  refine mt (own := RX3) (plainFor_of_name rfl) rfl (Nat.le_of_ble_eq_true rfl) ?_
  intro p e s m args below meth c ls F hr hk X hl
  have hl : lv_has ls 5 [(0, .ref (gY G b)), (1, .int (I w)), (2, .int (I q))] := hl
  have hwn := hW.num
  have hN := hD.1
  refine r_iconst F dX3_findBad_0 ?_
  refine r_istore_n F hl [(3, .int (I 0)), (0, .ref (gY G b)), (1, .int (I w)), (2, .int (I q))] rfl (by decide) rfl dX3_findBad_1 (fun ls hl => ?_)
  refine r_iconst F dX3_findBad_2 ?_
  refine r_istore F hl [(4, .int (I 0)), (3, .int (I 0)), (0, .ref (gY G b)), (1, .int (I w)), (2, .int (I q))] (by decide) rfl dX3_findBad_3 (fun ls hl => ?_)
  have loop5 : ∀ (n : Nat) (i : Int) (ls : Array Slot) (H : Heap) (locs : List Loc) (hn : N - i < n) (hi : 0 ≤ i ∧ i ≤ N) (hno : ∀ j : Int, 0 ≤ j → j < i → (fun j => bd f N r w j && decide (ctI (bd f N r w) j = q)) j = false) (X : HX G σ s H locs) (hl : lv_has ls 5 [(0, .ref (gY G b)), (1, .int (I w)), (2, .int (I q)), (3, .int (I (ctI (bd f N r w) i))), (4, .int (I i))]), W p l e (rmd 3) s m args below meth c H locs 0 0 (MQ below (QI G (fun res9 τ => res9 = (ffI (fun j => bd f N r w j && decide (ctI (bd f N r w) j = q)) N) ∧ τ = σ)) args s 0 0 (gA G)) (F0 m 5 ls []) := by
    intro n
    induction n with
    | zero => intro i ls H locs hn hi hno X hl; omega
    | succ n ih5 =>
      intro i ls H locs hn hi hno X hl
      have hct := ctI_rg (bd f N r w) (n := i) (by omega)
      refine r_iload F hl 4 rfl dX3_findBad_5 ?_
      refine r_aload_n F hl 0 rfl rfl dX3_findBad_7 ?_
      refine r_get F X b (hb43 hb) (eK_P hb G _) rfl gl_RX3 2 (by decide) rfl gf_RX3_27 rfl dX3_findBad_8 ?_
      refine r_icmp_ge F 41 (by decide) (by omega) (by omega) dX3_findBad_11 (fun c1 => ?_) (fun c1 => ?_)
      · skip
        refine r_iconst F dX3_findBad_41 ?_
        exact r_iret F X hr hk dX3_findBad_42 (⟨(ffI_none (fun j j0 j1 => hno j j0 (by omega))).symm, rfl⟩)
      · skip
        refine r_aload_n F hl 0 rfl rfl dX3_findBad_14 ?_
        refine r_iload_n F hl 1 rfl rfl dX3_findBad_15 ?_
        refine r_iload F hl 4 rfl dX3_findBad_16 ?_
        refine d_cVI F X b (hb43 hb) (eK_P hb G _) rfl (c_X3_isBad l G σ b N r f w i hb hP hW hN (hD.2 i (by omega) (by omega)) hL (by omega) (by omega)) gv_RX3_126 rfl nd_X3_isBad rfl (rest := []) rfl (Nat.le_of_ble_eq_true rfl) ⟨Nat.le_of_ble_eq_true rfl, Nat.le_of_ble_eq_true rfl⟩ ⟨Nat.zero_le _, Nat.zero_le _⟩ hl.1 dX3_findBad_18 (fun H locs X => ?_)
        refine r_bz_eq F 35 (bd f N r w i = true) rfl (by decide) dX3_findBad_21 (fun c2 => ?_) (fun c2 => ?_)
        · skip
          have hl : lv_has ls 5 [(0, .ref (gY G b)), (1, .int (I w)), (2, .int (I q)), (3, .int (I (ctI (bd f N r w) (i + 1)))), (4, .int (I i))] := by rw [ctI_succ _ (by omega)]; first | (rw [if_pos (by assumption)]; exact hl) | (rw [if_neg (by assumption), Int.add_zero]; exact hl)
          refine r_iinc F hl [(4, .int (I (i + 1))), (0, .ref (gY G b)), (1, .int (I w)), (2, .int (I q)), (3, .int (I (ctI (bd f N r w) (i + 1))))] 4 rfl (by decide) rfl dX3_findBad_35 (fun ls hl => ?_)
          refine r_goto F 5 (by decide) dX3_findBad_38 ?_
          exact ih5 (i + 1) _ _ _ (by omega) (by omega) (by intro j j0 j1; rcases (show j < i ∨ j = i by omega) with z | z <;> first | exact hno j j0 z | (rw [z]; show (_ && _) = false; rw [Bool.and_eq_false_iff]; first | (left; simpa using ‹¬ bd f N r w i = true›) | (right; exact decide_eq_false (by assumption)))) X (lv_sub hl [1, 2, 3, 4, 0] rfl)
        · skip
          refine r_iload_n F hl 3 rfl rfl dX3_findBad_24 ?_
          refine r_iload_n F hl 2 rfl rfl dX3_findBad_25 ?_
          refine r_icmp_ne F 32 (by decide) (by omega) (by omega) dX3_findBad_26 (fun c3 => ?_) (fun c3 => ?_)
          · skip
            refine r_iinc F hl [(3, .int (I ((ctI (bd f N r w) i) + 1))), (0, .ref (gY G b)), (1, .int (I w)), (2, .int (I q)), (4, .int (I i))] 3 rfl (by decide) rfl dX3_findBad_32 (fun ls hl => ?_)
            have hl : lv_has ls 5 [(3, .int (I (ctI (bd f N r w) (i + 1)))), (0, .ref (gY G b)), (1, .int (I w)), (2, .int (I q)), (4, .int (I i))] := by rw [ctI_succ _ (by omega)]; first | (rw [if_pos (by assumption)]; exact hl) | (rw [if_neg (by assumption), Int.add_zero]; exact hl)
            refine r_iinc F hl [(4, .int (I (i + 1))), (3, .int (I (ctI (bd f N r w) (i + 1)))), (0, .ref (gY G b)), (1, .int (I w)), (2, .int (I q))] 4 rfl (by decide) rfl dX3_findBad_35 (fun ls hl => ?_)
            refine r_goto F 5 (by decide) dX3_findBad_38 ?_
            exact ih5 (i + 1) _ _ _ (by omega) (by omega) (by intro j j0 j1; rcases (show j < i ∨ j = i by omega) with z | z <;> first | exact hno j j0 z | (rw [z]; show (_ && _) = false; rw [Bool.and_eq_false_iff]; first | (left; simpa using ‹¬ bd f N r w i = true›) | (right; exact decide_eq_false (by assumption)))) X (lv_sub hl [2, 3, 4, 1, 0] rfl)
          · skip
            refine r_iload F hl 4 rfl dX3_findBad_29 ?_
            exact r_iret F X hr hk dX3_findBad_31 (⟨(ffI_some (by omega) (by omega) (by show (_ && _) = true; rw [Bool.and_eq_true]; exact ⟨by assumption, decide_eq_true (by assumption)⟩) hno).symm, rfl⟩)
  exact loop5 ((N - 0 + 1).toNat) 0 _ _ _ (by omega) (by omega) (by intro j j0 j1; omega) X (lv_sub hl [2, 3, 4, 1, 0] rfl)
theorem c_X3_firstGreatest (l : Launch) (G : GT) (σ : St) (b : Nat) (N : Int) (r : Int → Int) (f : Int → Int) (k : Nat) (hb : b = 5 ∨ b = 18) (hP : PL σ N r) (hW : WF N r) (hD : DR σ b N r f) (hL : LR f N) (hk11 : k < 11) : Ct l yX3_firstGreatest cX3_firstGreatest 4 (some .int) 2 G [.ref (gY G b), .int (I (k : Int))] σ (QI G (fun res9 τ => res9 = (amI (fun x y => decide (mval f N r y k < mval f N r x k)) N) ∧ τ = σ)) := by
  refine mt (own := RX3) (plainFor_of_name rfl) rfl (Nat.le_of_ble_eq_true rfl) ?_
  intro p e s m args below meth c ls F hr hk X hl
  have hl : lv_has ls 4 [(0, .ref (gY G b)), (1, .int (I (k : Int)))] := hl
  have hw := hW.num
  have hN := hD.1
  have hr9 := fun i => mval_rg9 hW hL i hk11
  refine r_iconst F dX3_firstGreatest_0 ?_
  refine r_eqI (b := amI (fun x y => decide (mval f N r y k < mval f N r x k)) 1) ((amI_1 _).symm) ?_
  refine r_istore_n F hl [(2, .int (I (amI (fun x y => decide (mval f N r y k < mval f N r x k)) 1))), (0, .ref (gY G b)), (1, .int (I (k : Int)))] rfl (by decide) rfl dX3_firstGreatest_1 (fun ls hl => ?_)
  refine r_iconst F dX3_firstGreatest_2 ?_
  refine r_istore_n F hl [(3, .int (I 1)), (2, .int (I (amI (fun x y => decide (mval f N r y k < mval f N r x k)) 1))), (0, .ref (gY G b)), (1, .int (I (k : Int)))] rfl (by decide) rfl dX3_firstGreatest_3 (fun ls hl => ?_)
  have loop4 : ∀ (n : Nat) (i : Int) (ls : Array Slot) (H : Heap) (locs : List Loc) (hn : N - i < n) (hi : 1 ≤ i ∧ i ≤ N) (X : HX G σ s H locs) (hl : lv_has ls 4 [(0, .ref (gY G b)), (1, .int (I (k : Int))), (2, .int (I (amI (fun x y => decide (mval f N r y k < mval f N r x k)) i))), (3, .int (I i))]), W p l e (rmd 2) s m args below meth c H locs 0 0 (MQ below (QI G (fun res9 τ => res9 = (amI (fun x y => decide (mval f N r y k < mval f N r x k)) N) ∧ τ = σ)) args s 0 0 (gA G)) (F0 m 4 ls []) := by
    intro n
    induction n with
    | zero => intro i ls H locs hn hi X hl; omega
    | succ n ih4 =>
      intro i ls H locs hn hi X hl
      have ham := amI_rg (fun x y => decide (mval f N r y k < mval f N r x k)) (n := i) (by omega)
      have h91 := hr9 i
      have h92 := hr9 (amI (fun x y => decide (mval f N r y k < mval f N r x k)) i)
      refine r_iload_n F hl 3 rfl rfl dX3_firstGreatest_4 ?_
      refine r_aload_n F hl 0 rfl rfl dX3_firstGreatest_5 ?_
      refine r_get F X b (hb43 hb) (eK_P hb G _) rfl gl_RX3 2 (by decide) rfl gf_RX3_27 rfl dX3_firstGreatest_6 ?_
      refine r_icmp_ge F 40 (by decide) (by omega) (by omega) dX3_firstGreatest_9 (fun c1 => ?_) (fun c1 => ?_)
      · skip
        refine r_iload_n F hl 2 rfl rfl dX3_firstGreatest_40 ?_
        exact r_iret F X hr hk dX3_firstGreatest_41 (⟨by rw [show i = N by omega], rfl⟩)
      · skip
        refine r_aload_n F hl 0 rfl rfl dX3_firstGreatest_12 ?_
        refine r_iload_n F hl 1 rfl rfl dX3_firstGreatest_13 ?_
        refine r_iload_n F hl 3 rfl rfl dX3_firstGreatest_14 ?_
        refine d_cVJ F X b (hb43 hb) (eK_P hb G _) rfl (c_X3_at l G σ b k i hb (by omega) (by omega) (by omega)) gv_RX3_85 rfl nd_X3_at rfl (rest := []) rfl (Nat.le_of_ble_eq_true rfl) ⟨Nat.le_of_ble_eq_true rfl, Nat.le_of_ble_eq_true rfl⟩ ⟨Nat.zero_le _, Nat.zero_le _⟩ hl.1 dX3_firstGreatest_15 (fun H locs X => ?_)
        refine r_eqJ (b := mval f N r i k) (by rw [hN, em_in (by omega)]; exact hD.2 i (by omega) (by omega) k (by omega)) ?_
        refine r_aload_n F hl 0 rfl rfl dX3_firstGreatest_18 ?_
        refine r_iload_n F hl 1 rfl rfl dX3_firstGreatest_19 ?_
        refine r_iload_n F hl 2 rfl rfl dX3_firstGreatest_20 ?_
        refine d_cVJ F X b (hb43 hb) (eK_P hb G _) rfl (c_X3_at l G σ b k (amI (fun x y => decide (mval f N r y k < mval f N r x k)) i) hb (by omega) (by omega) (by omega)) gv_RX3_85 rfl nd_X3_at rfl (rest := [.long (J (mval f N r i k))]) rfl (Nat.le_of_ble_eq_true rfl) ⟨Nat.le_of_ble_eq_true rfl, Nat.le_of_ble_eq_true rfl⟩ ⟨Nat.zero_le _, Nat.zero_le _⟩ hl.1 dX3_firstGreatest_21 (fun H locs X => ?_)
        refine r_eqJ (b := mval f N r (amI (fun x y => decide (mval f N r y k < mval f N r x k)) i) k) (by rw [hN, em_in (by omega)]; exact hD.2 _ (by omega) (by omega) k (by omega)) ?_
        refine r_lcmp_le F 32 (by decide) (by omega) (by omega) dX3_firstGreatest_24 dX3_firstGreatest_25 (fun c2 => ?_) (fun c2 => ?_)
        · skip
          refine r_iload_n F hl 2 rfl rfl dX3_firstGreatest_32 ?_
          refine r_eqI (b := amI (fun x y => decide (mval f N r y k < mval f N r x k)) (i + 1)) (by rw [amI_succ _ (by omega)]; first | rw [if_pos (decide_eq_true (by omega))] | rw [if_neg (fun z => absurd (of_decide_eq_true z) (by omega))]) ?_
          refine r_istore_n F hl [(2, .int (I (amI (fun x y => decide (mval f N r y k < mval f N r x k)) (i + 1)))), (0, .ref (gY G b)), (1, .int (I (k : Int))), (3, .int (I i))] rfl (by decide) rfl dX3_firstGreatest_33 (fun ls hl => ?_)
          refine r_iinc F hl [(3, .int (I (i + 1))), (2, .int (I (amI (fun x y => decide (mval f N r y k < mval f N r x k)) (i + 1)))), (0, .ref (gY G b)), (1, .int (I (k : Int)))] 3 rfl (by decide) rfl dX3_firstGreatest_34 (fun ls hl => ?_)
          refine r_goto F 4 (by decide) dX3_firstGreatest_37 ?_
          exact ih4 (i + 1) _ _ _ (by omega) (by omega) X (lv_sub hl [2, 3, 1, 0] rfl)
        · skip
          refine r_iload_n F hl 3 rfl rfl dX3_firstGreatest_28 ?_
          refine r_goto F 33 (by decide) dX3_firstGreatest_29 ?_
          refine r_eqI (b := amI (fun x y => decide (mval f N r y k < mval f N r x k)) (i + 1)) (by rw [amI_succ _ (by omega)]; first | rw [if_pos (decide_eq_true (by omega))] | rw [if_neg (fun z => absurd (of_decide_eq_true z) (by omega))]) ?_
          refine r_istore_n F hl [(2, .int (I (amI (fun x y => decide (mval f N r y k < mval f N r x k)) (i + 1)))), (0, .ref (gY G b)), (1, .int (I (k : Int))), (3, .int (I i))] rfl (by decide) rfl dX3_firstGreatest_33 (fun ls hl => ?_)
          refine r_iinc F hl [(3, .int (I (i + 1))), (2, .int (I (amI (fun x y => decide (mval f N r y k < mval f N r x k)) (i + 1)))), (0, .ref (gY G b)), (1, .int (I (k : Int)))] 3 rfl (by decide) rfl dX3_firstGreatest_34 (fun ls hl => ?_)
          refine r_goto F 4 (by decide) dX3_firstGreatest_37 ?_
          exact ih4 (i + 1) _ _ _ (by omega) (by omega) X (lv_sub hl [2, 3, 1, 0] rfl)
  exact loop4 ((N - 1 + 1).toNat) 1 _ _ _ (by omega) (by omega) X (lv_sub hl [2, 3, 1, 0] rfl)
theorem c_X3_firstLeast (l : Launch) (G : GT) (σ : St) (b : Nat) (N : Int) (r : Int → Int) (f : Int → Int) (k : Nat) (hb : b = 5 ∨ b = 18) (hP : PL σ N r) (hW : WF N r) (hD : DR σ b N r f) (hL : LR f N) (hk11 : k < 11) : Ct l yX3_firstLeast cX3_firstLeast 4 (some .int) 2 G [.ref (gY G b), .int (I (k : Int))] σ (QI G (fun res9 τ => res9 = (amI (fun x y => decide (mval f N r x k < mval f N r y k)) N) ∧ τ = σ)) := by
  refine mt (own := RX3) (plainFor_of_name rfl) rfl (Nat.le_of_ble_eq_true rfl) ?_
  intro p e s m args below meth c ls F hr hk X hl
  have hl : lv_has ls 4 [(0, .ref (gY G b)), (1, .int (I (k : Int)))] := hl
  have hw := hW.num
  have hN := hD.1
  have hr9 := fun i => mval_rg9 hW hL i hk11
  refine r_iconst F dX3_firstLeast_0 ?_
  refine r_eqI (b := amI (fun x y => decide (mval f N r x k < mval f N r y k)) 1) ((amI_1 _).symm) ?_
  refine r_istore_n F hl [(2, .int (I (amI (fun x y => decide (mval f N r x k < mval f N r y k)) 1))), (0, .ref (gY G b)), (1, .int (I (k : Int)))] rfl (by decide) rfl dX3_firstLeast_1 (fun ls hl => ?_)
  refine r_iconst F dX3_firstLeast_2 ?_
  refine r_istore_n F hl [(3, .int (I 1)), (2, .int (I (amI (fun x y => decide (mval f N r x k < mval f N r y k)) 1))), (0, .ref (gY G b)), (1, .int (I (k : Int)))] rfl (by decide) rfl dX3_firstLeast_3 (fun ls hl => ?_)
  have loop4 : ∀ (n : Nat) (i : Int) (ls : Array Slot) (H : Heap) (locs : List Loc) (hn : N - i < n) (hi : 1 ≤ i ∧ i ≤ N) (X : HX G σ s H locs) (hl : lv_has ls 4 [(0, .ref (gY G b)), (1, .int (I (k : Int))), (2, .int (I (amI (fun x y => decide (mval f N r x k < mval f N r y k)) i))), (3, .int (I i))]), W p l e (rmd 2) s m args below meth c H locs 0 0 (MQ below (QI G (fun res9 τ => res9 = (amI (fun x y => decide (mval f N r x k < mval f N r y k)) N) ∧ τ = σ)) args s 0 0 (gA G)) (F0 m 4 ls []) := by
    intro n
    induction n with
    | zero => intro i ls H locs hn hi X hl; omega
    | succ n ih4 =>
      intro i ls H locs hn hi X hl
      have ham := amI_rg (fun x y => decide (mval f N r x k < mval f N r y k)) (n := i) (by omega)
      have h91 := hr9 i
      have h92 := hr9 (amI (fun x y => decide (mval f N r x k < mval f N r y k)) i)
      refine r_iload_n F hl 3 rfl rfl dX3_firstLeast_4 ?_
      refine r_aload_n F hl 0 rfl rfl dX3_firstLeast_5 ?_
      refine r_get F X b (hb43 hb) (eK_P hb G _) rfl gl_RX3 2 (by decide) rfl gf_RX3_27 rfl dX3_firstLeast_6 ?_
      refine r_icmp_ge F 40 (by decide) (by omega) (by omega) dX3_firstLeast_9 (fun c1 => ?_) (fun c1 => ?_)
      · skip
        refine r_iload_n F hl 2 rfl rfl dX3_firstLeast_40 ?_
        exact r_iret F X hr hk dX3_firstLeast_41 (⟨by rw [show i = N by omega], rfl⟩)
      · skip
        refine r_aload_n F hl 0 rfl rfl dX3_firstLeast_12 ?_
        refine r_iload_n F hl 1 rfl rfl dX3_firstLeast_13 ?_
        refine r_iload_n F hl 3 rfl rfl dX3_firstLeast_14 ?_
        refine d_cVJ F X b (hb43 hb) (eK_P hb G _) rfl (c_X3_at l G σ b k i hb (by omega) (by omega) (by omega)) gv_RX3_85 rfl nd_X3_at rfl (rest := []) rfl (Nat.le_of_ble_eq_true rfl) ⟨Nat.le_of_ble_eq_true rfl, Nat.le_of_ble_eq_true rfl⟩ ⟨Nat.zero_le _, Nat.zero_le _⟩ hl.1 dX3_firstLeast_15 (fun H locs X => ?_)
        refine r_eqJ (b := mval f N r i k) (by rw [hN, em_in (by omega)]; exact hD.2 i (by omega) (by omega) k (by omega)) ?_
        refine r_aload_n F hl 0 rfl rfl dX3_firstLeast_18 ?_
        refine r_iload_n F hl 1 rfl rfl dX3_firstLeast_19 ?_
        refine r_iload_n F hl 2 rfl rfl dX3_firstLeast_20 ?_
        refine d_cVJ F X b (hb43 hb) (eK_P hb G _) rfl (c_X3_at l G σ b k (amI (fun x y => decide (mval f N r x k < mval f N r y k)) i) hb (by omega) (by omega) (by omega)) gv_RX3_85 rfl nd_X3_at rfl (rest := [.long (J (mval f N r i k))]) rfl (Nat.le_of_ble_eq_true rfl) ⟨Nat.le_of_ble_eq_true rfl, Nat.le_of_ble_eq_true rfl⟩ ⟨Nat.zero_le _, Nat.zero_le _⟩ hl.1 dX3_firstLeast_21 (fun H locs X => ?_)
        refine r_eqJ (b := mval f N r (amI (fun x y => decide (mval f N r x k < mval f N r y k)) i) k) (by rw [hN, em_in (by omega)]; exact hD.2 _ (by omega) (by omega) k (by omega)) ?_
        refine r_lcmp_ge F 32 (by decide) (by omega) (by omega) dX3_firstLeast_24 dX3_firstLeast_25 (fun c2 => ?_) (fun c2 => ?_)
        · skip
          refine r_iload_n F hl 2 rfl rfl dX3_firstLeast_32 ?_
          refine r_eqI (b := amI (fun x y => decide (mval f N r x k < mval f N r y k)) (i + 1)) (by rw [amI_succ _ (by omega)]; first | rw [if_pos (decide_eq_true (by omega))] | rw [if_neg (fun z => absurd (of_decide_eq_true z) (by omega))]) ?_
          refine r_istore_n F hl [(2, .int (I (amI (fun x y => decide (mval f N r x k < mval f N r y k)) (i + 1)))), (0, .ref (gY G b)), (1, .int (I (k : Int))), (3, .int (I i))] rfl (by decide) rfl dX3_firstLeast_33 (fun ls hl => ?_)
          refine r_iinc F hl [(3, .int (I (i + 1))), (2, .int (I (amI (fun x y => decide (mval f N r x k < mval f N r y k)) (i + 1)))), (0, .ref (gY G b)), (1, .int (I (k : Int)))] 3 rfl (by decide) rfl dX3_firstLeast_34 (fun ls hl => ?_)
          refine r_goto F 4 (by decide) dX3_firstLeast_37 ?_
          exact ih4 (i + 1) _ _ _ (by omega) (by omega) X (lv_sub hl [2, 3, 1, 0] rfl)
        · skip
          refine r_iload_n F hl 3 rfl rfl dX3_firstLeast_28 ?_
          refine r_goto F 33 (by decide) dX3_firstLeast_29 ?_
          refine r_eqI (b := amI (fun x y => decide (mval f N r x k < mval f N r y k)) (i + 1)) (by rw [amI_succ _ (by omega)]; first | rw [if_pos (decide_eq_true (by omega))] | rw [if_neg (fun z => absurd (of_decide_eq_true z) (by omega))]) ?_
          refine r_istore_n F hl [(2, .int (I (amI (fun x y => decide (mval f N r x k < mval f N r y k)) (i + 1)))), (0, .ref (gY G b)), (1, .int (I (k : Int))), (3, .int (I i))] rfl (by decide) rfl dX3_firstLeast_33 (fun ls hl => ?_)
          refine r_iinc F hl [(3, .int (I (i + 1))), (2, .int (I (amI (fun x y => decide (mval f N r x k < mval f N r y k)) (i + 1)))), (0, .ref (gY G b)), (1, .int (I (k : Int)))] 3 rfl (by decide) rfl dX3_firstLeast_34 (fun ls hl => ?_)
          refine r_goto F 4 (by decide) dX3_firstLeast_37 ?_
          exact ih4 (i + 1) _ _ _ (by omega) (by omega) X (lv_sub hl [2, 3, 1, 0] rfl)
  exact loop4 ((N - 1 + 1).toNat) 1 _ _ _ (by omega) (by omega) X (lv_sub hl [2, 3, 1, 0] rfl)
theorem c_X3_liftTogether (l : Launch) (G : GT) (σ : St) (b : Nat) (N : Int) (r : Int → Int) (f : Int → Int) (hb : b = 5 ∨ b = 18) (hP : PL σ N r) (hW : WF N r) (hD : DR σ b N r f) (hL : LR f N) : Ct l yX3_liftTogether cX3_liftTogether 3 (some .int) 2 G [.ref (gY G b)] σ (QI G (fun res9 τ => res9 = (smI (fun j => lw f N j) N) ∧ τ = σ)) := by
  refine mt (own := RX3) (plainFor_of_name rfl) rfl (Nat.le_of_ble_eq_true rfl) ?_
  intro p e s m args below meth c ls F hr hk X hl
  have hl : lv_has ls 3 [(0, .ref (gY G b))] := hl
  have hw := hW.num
  have hN := hD.1
  refine r_iconst F dX3_liftTogether_0 ?_
  refine r_istore_n F hl [(1, .int (I 0)), (0, .ref (gY G b))] rfl (by decide) rfl dX3_liftTogether_1 (fun ls hl => ?_)
  refine r_iconst F dX3_liftTogether_2 ?_
  refine r_istore_n F hl [(2, .int (I 0)), (1, .int (I 0)), (0, .ref (gY G b))] rfl (by decide) rfl dX3_liftTogether_3 (fun ls hl => ?_)
  have loop4 : ∀ (n : Nat) (i : Int) (ls : Array Slot) (H : Heap) (locs : List Loc) (hn : N - i < n) (hi : 0 ≤ i ∧ i ≤ N) (X : HX G σ s H locs) (hl : lv_has ls 3 [(0, .ref (gY G b)), (1, .int (I (smI (fun j => lw f N j) i))), (2, .int (I i))]), W p l e (rmd 2) s m args below meth c H locs 0 0 (MQ below (QI G (fun res9 τ => res9 = (smI (fun j => lw f N j) N) ∧ τ = σ)) args s 0 0 (gA G)) (F0 m 4 ls []) := by
    intro n
    induction n with
    | zero => intro i ls H locs hn hi X hl; omega
    | succ n ih4 =>
      intro i ls H locs hn hi X hl
      refine r_iload_n F hl 2 rfl rfl dX3_liftTogether_4 ?_
      refine r_aload_n F hl 0 rfl rfl dX3_liftTogether_5 ?_
      refine r_get F X b (hb43 hb) (eK_P hb G _) rfl gl_RX3 2 (by decide) rfl gf_RX3_27 rfl dX3_liftTogether_6 ?_
      refine r_icmp_ge F 28 (by decide) (by omega) (by omega) dX3_liftTogether_9 (fun c1 => ?_) (fun c1 => ?_)
      · skip
        refine r_iload_n F hl 1 rfl rfl dX3_liftTogether_28 ?_
        exact r_iret F X hr hk dX3_liftTogether_29 (⟨by rw [show i = N by omega], rfl⟩)
      · skip
        refine r_iload_n F hl 1 rfl rfl dX3_liftTogether_12 ?_
        refine r_aload_n F hl 0 rfl rfl dX3_liftTogether_13 ?_
        refine r_iconst F dX3_liftTogether_14 ?_
        refine r_iload_n F hl 2 rfl rfl dX3_liftTogether_15 ?_
        refine d_cVJ F X b (hb43 hb) (eK_P hb G _) rfl (c_X3_at l G σ b 0 i hb (by omega) (by omega) (by omega)) gv_RX3_85 rfl nd_X3_at rfl (rest := [.int (I (smI (fun j => lw f N j) i))]) rfl (Nat.le_of_ble_eq_true rfl) ⟨Nat.le_of_ble_eq_true rfl, Nat.le_of_ble_eq_true rfl⟩ ⟨Nat.zero_le _, Nat.zero_le _⟩ hl.1 dX3_liftTogether_16 (fun H locs X => ?_)
        refine r_eqJ (b := lw f N i) (by rw [hN, em_in (by omega)]; exact hD.2 i (by omega) (by omega) 0 (by omega)) ?_
        refine r_l2i F dX3_liftTogether_19 ?_
        refine r_iadd F dX3_liftTogether_20 ?_
        refine r_eqI (b := smI (fun j => lw f N j) (i + 1)) ((smI_succ _ (by omega)).symm) ?_
        refine r_istore_n F hl [(1, .int (I (smI (fun j => lw f N j) (i + 1)))), (0, .ref (gY G b)), (2, .int (I i))] rfl (by decide) rfl dX3_liftTogether_21 (fun ls hl => ?_)
        refine r_iinc F hl [(2, .int (I (i + 1))), (1, .int (I (smI (fun j => lw f N j) (i + 1)))), (0, .ref (gY G b))] 2 rfl (by decide) rfl dX3_liftTogether_22 (fun ls hl => ?_)
        refine r_goto F 4 (by decide) dX3_liftTogether_25 ?_
        exact ih4 (i + 1) _ _ _ (by omega) (by omega) X (lv_sub hl [2, 1, 0] rfl)
  exact loop4 ((N - 0 + 1).toNat) 0 _ _ _ (by omega) (by omega) X (lv_sub hl [2, 1, 0] rfl)
theorem c_X3_isGood (l : Launch) (G : GT) (σ : St) (b : Nat) (N : Int) (r : Int → Int) (f : Int → Int) (hb : b = 5 ∨ b = 18) (hP : PL σ N r) (hW : WF N r) (hD : DR σ b N r f) (hL : LR f N) (hf : f = σ (b + 2 + 0)) : Ct l yX3_isGood cX3_isGood 2 (some .boolean) 4 G [.ref (gY G b)] σ (QI G (fun res9 τ => res9 = (if gd f N r = true then 1 else 0) ∧ τ = σ)) := by
  refine mt (own := RX3) (plainFor_of_name rfl) rfl (Nat.le_of_ble_eq_true rfl) ?_
  intro p e s m args below meth c ls F hr hk X hl
  have hl : lv_has ls 2 [(0, .ref (gY G b))] := hl
  have hw := hW.num
  have hN := hD.1
  refine r_iconst F dX3_isGood_0 ?_
  refine r_istore_n F hl [(1, .int (I 0)), (0, .ref (gY G b))] rfl (by decide) rfl dX3_isGood_1 (fun ls hl => ?_)
  have loop2 : ∀ (n : Nat) (i : Int) (ls : Array Slot) (H : Heap) (locs : List Loc) (hn : N - i < n) (hi : 0 ≤ i ∧ i ≤ N) (hno : ∀ j : Int, 0 ≤ j → j < i → ga f N r j = true) (X : HX G σ s H locs) (hl : lv_has ls 2 [(0, .ref (gY G b)), (1, .int (I i))]), W p l e (rmd 4) s m args below meth c H locs 0 0 (MQ below (QI G (fun res9 τ => res9 = (if gd f N r = true then 1 else 0) ∧ τ = σ)) args s 0 0 (gA G)) (F0 m 2 ls []) := by
    intro n
    induction n with
    | zero => intro i ls H locs hn hi hno X hl; omega
    | succ n ih2 =>
      intro i ls H locs hn hi hno X hl
      refine r_iload_n F hl 1 rfl rfl dX3_isGood_2 ?_
      refine r_aload_n F hl 0 rfl rfl dX3_isGood_3 ?_
      refine r_get F X b (hb43 hb) (eK_P hb G _) rfl gl_RX3 2 (by decide) rfl gf_RX3_27 rfl dX3_isGood_4 ?_
      refine r_icmp_ge F 26 (by decide) (by omega) (by omega) dX3_isGood_7 (fun c1 => ?_) (fun c1 => ?_)
      · skip
        refine r_iconst F dX3_isGood_26 ?_
        exact r_zret F X hr hk (by omega) dX3_isGood_27 (⟨by rw [gd_ga hW, if_pos ((alI_iff _ _).mpr (fun j j0 j1 => hno j j0 (by omega)))], rfl⟩)
      · skip
        refine r_aload_n F hl 0 rfl rfl dX3_isGood_10 ?_
        refine r_iload_n F hl 1 rfl rfl dX3_isGood_11 ?_
        refine d_cVI F X b (hb43 hb) (eK_P hb G _) rfl (c_X3_isGoodAt l G σ b N r f i hb hP hW hN (hD.2 i (by omega) (by omega)) hL hf (by omega)) gv_RX3_136 rfl nd_X3_isGoodAt rfl (rest := []) rfl (Nat.le_of_ble_eq_true rfl) ⟨Nat.le_of_ble_eq_true rfl, Nat.le_of_ble_eq_true rfl⟩ ⟨Nat.zero_le _, Nat.zero_le _⟩ hl.1 dX3_isGood_12 (fun H locs X => ?_)
        refine r_bz_ne F 20 (ga f N r i = true) rfl (by decide) dX3_isGood_15 (fun c2 => ?_) (fun c2 => ?_)
        · skip
          refine r_iinc F hl [(1, .int (I (i + 1))), (0, .ref (gY G b))] 1 rfl (by decide) rfl dX3_isGood_20 (fun ls hl => ?_)
          refine r_goto F 2 (by decide) dX3_isGood_23 ?_
          exact ih2 (i + 1) _ _ _ (by omega) (by omega) (by intro j j0 j1; rcases (show j < i ∨ j = i by omega) with z | z <;> first | exact hno j j0 z | (rw [z]; assumption)) X (lv_sub hl [1, 0] rfl)
        · skip
          refine r_iconst F dX3_isGood_18 ?_
          exact r_zret F X hr hk (by omega) dX3_isGood_19 (⟨by rw [gd_ga hW, if_neg (by rw [alI_no (i := i) (by omega) (by omega) (by simpa using ‹¬ ga f N r i = true›)]; decide)], rfl⟩)
  exact loop2 ((N - 0 + 1).toNat) 0 _ _ _ (by omega) (by omega) (by intro j j0 j1; omega) X (lv_sub hl [1, 0] rfl)
