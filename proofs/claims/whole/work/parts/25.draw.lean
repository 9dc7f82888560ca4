theorem c_X3_outdate (l : Launch) (G : GT) (σ : St) (b : Nat) (hb : b = 5 ∨ b = 18) : Ct l yX3_outdate cX3_outdate 1 none 1 G [.ref (gY G b)] σ (QV G (fun τ => τ = up σ b (upI (σ b) 3 0))) := by
  refine mt (own := RX3) (plainFor_of_name rfl) rfl (Nat.le_of_ble_eq_true rfl) ?_
  intro p e s m args below meth c ls F hr hk X hl
  have hl : lv_has ls 1 [(0, .ref (gY G b))] := hl
  refine r_aload_n F hl 0 rfl rfl dX3_outdate_0 ?_
  refine r_iconst F dX3_outdate_1 ?_
  refine r_put F X b (hb43 hb) (upI (σ b) 3 0) (eK_P hb G _) rfl gl_RX3 tyX3 tyX3_ok nmX3 3 (by decide) rfl gf_RX3_20 rfl (tyX3_ok 3 (by decide)) (nzb (by omega)) (nzf (by omega)) (Nat.le_of_ble_eq_true rfl) (eK_P hb G _) dX3_outdate_2 (fun H locs X => ?_)
  obtain ⟨σ1, eσ1⟩ : ∃ x : St, x = up σ b (upI (σ b) 3 0) := ⟨_, rfl⟩
  rw [← eσ1] at X
  exact r_vret F X hr hk dX3_outdate_5 (by rw [eσ1])
theorem c_X3_drawBy (l : Launch) (G : GT) (σ : St) (b : Nat) (N : Int) (r : Int → Int) (law : Int) (t : Int) (hb : b = 5 ∨ b = 18) (hP : PL σ N r) (hW : WF N r) (hwh : whl N r = true) (ht : 0 ≤ t ∧ t < r 60) (hlaw : 0 ≤ law ∧ law ≤ 3) : Ct l yX3_drawBy cX3_drawBy 8 none 3 G [.ref (gY G b), .int (I law), .int (I t)] σ (QV G (fun τ => τ = up σ (b + 2 + 0) (drk (σ (b + 2 + 0)) r law t (r t)))) := by
  refine mt (own := RX3) (plainFor_of_name rfl) rfl (Nat.le_of_ble_eq_true rfl) ?_
  intro p e s m args below meth c ls F hr hk X hl
  have hl : lv_has ls 8 [(0, .ref (gY G b)), (1, .int (I law)), (2, .int (I t))] := hl
  have hw := hW.num
  have hbg := whl_bg hW hwh ht.1 ht.2
  have hlo := hW.lo (i := t) (by omega) (by omega)
  have hen := hW.en (i := t) (by omega) (by omega)
  have hog := hW.ogr (s := t) (by omega) (by omega)
  refine r_aload_n F hl 0 rfl rfl dX3_drawBy_0 ?_
  refine r_get F X b (hb43 hb) (eK_P hb G _) rfl gl_RX3 0 (by decide) rfl gf_RX3_16 rfl dX3_drawBy_1 ?_
  refine r_iload_n F hl 2 rfl rfl dX3_drawBy_4 ?_
  refine d_cVI F X 1 (by decide) (eK_1 G _) rfl (c_X2_longAheadOf l G σ N r t hP hW (by omega)) gv_RX3_49 rfl nd_X2_longAheadOf rfl (rest := []) rfl (Nat.le_of_ble_eq_true rfl) ⟨Nat.le_of_ble_eq_true rfl, Nat.le_of_ble_eq_true rfl⟩ ⟨Nat.zero_le _, Nat.zero_le _⟩ hl.1 dX3_drawBy_5 (fun H locs X => ?_)
  refine r_istore_n F hl [(3, .int (I (bgI r t))), (0, .ref (gY G b)), (1, .int (I law)), (2, .int (I t))] rfl (by decide) rfl dX3_drawBy_8 (fun ls hl => ?_)
  refine r_aload_n F hl 1 rfl rfl dX3_drawBy_9 ?_
  refine r_get F X b (hb43 hb) (eK_P hb G _) rfl gl_RX3 0 (by decide) rfl gf_RX3_16 rfl dX3_drawBy_10 ?_
  refine r_iload_n F hl 3 rfl rfl dX3_drawBy_13 ?_
  refine r_iconst F dX3_drawBy_14 ?_
  refine d_cSI F X (c_X2_placeOf l G σ t 0) gv_RX3_41 nd_X2_placeOf rfl (rest := [.ref (gY G 1)]) rfl (Nat.le_of_ble_eq_true rfl) ⟨Nat.le_of_ble_eq_true rfl, Nat.le_of_ble_eq_true rfl⟩ ⟨Nat.zero_le _, Nat.zero_le _⟩ hl.1 dX3_drawBy_15 (fun H locs X => ?_)
  refine d_cVI F X 1 (by decide) (eK_1 G _) rfl (c_X2_get l G σ (r t) (12 + 3 * t + 0) (by omega) (hP.lo (by omega) (by omega))) gv_RX3_35 rfl nd_X2_get rfl (rest := []) rfl (Nat.le_of_ble_eq_true rfl) ⟨Nat.le_of_ble_eq_true rfl, Nat.le_of_ble_eq_true rfl⟩ ⟨Nat.zero_le _, Nat.zero_le _⟩ hl.1 dX3_drawBy_18 (fun H locs X => ?_)
  refine r_istore F hl [(4, .int (I (r t))), (3, .int (I (bgI r t))), (0, .ref (gY G b)), (1, .int (I law)), (2, .int (I t))] (by decide) rfl dX3_drawBy_21 (fun ls hl => ?_)
  refine r_aload_n F hl 2 rfl rfl dX3_drawBy_23 ?_
  refine r_get F X b (hb43 hb) (eK_P hb G _) rfl gl_RX3 0 (by decide) rfl gf_RX3_16 rfl dX3_drawBy_24 ?_
  refine r_iload_n F hl 4 rfl rfl dX3_drawBy_27 ?_
  refine d_cVI F X 1 (by decide) (eK_1 G _) rfl (c_X2_origin l G σ N r t hP hW (by omega)) gv_RX3_52 rfl nd_X2_origin rfl (rest := []) rfl (Nat.le_of_ble_eq_true rfl) ⟨Nat.le_of_ble_eq_true rfl, Nat.le_of_ble_eq_true rfl⟩ ⟨Nat.zero_le _, Nat.zero_le _⟩ hl.1 dX3_drawBy_28 (fun H locs X => ?_)
  refine r_istore F hl [(5, .int (I (og r t))), (4, .int (I (r t))), (3, .int (I (bgI r t))), (0, .ref (gY G b)), (1, .int (I law)), (2, .int (I t))] (by decide) rfl dX3_drawBy_31 (fun ls hl => ?_)
  refine r_aload_n F hl 3 rfl rfl dX3_drawBy_33 ?_
  refine r_get F X b (hb43 hb) (eK_P hb G _) rfl gl_RX3 0 (by decide) rfl gf_RX3_16 rfl dX3_drawBy_34 ?_
  refine r_iload_n F hl 5 rfl rfl dX3_drawBy_37 ?_
  refine r_iconst F dX3_drawBy_38 ?_
  refine d_cSI F X (c_X2_placeOf l G σ t 1) gv_RX3_41 nd_X2_placeOf rfl (rest := [.ref (gY G 1)]) rfl (Nat.le_of_ble_eq_true rfl) ⟨Nat.le_of_ble_eq_true rfl, Nat.le_of_ble_eq_true rfl⟩ ⟨Nat.zero_le _, Nat.zero_le _⟩ hl.1 dX3_drawBy_39 (fun H locs X => ?_)
  refine d_cVI F X 1 (by decide) (eK_1 G _) rfl (c_X2_get l G σ (r (12 + t)) (12 + 3 * t + 1) (by omega) (hP.en (by omega) (by omega))) gv_RX3_35 rfl nd_X2_get rfl (rest := []) rfl (Nat.le_of_ble_eq_true rfl) ⟨Nat.le_of_ble_eq_true rfl, Nat.le_of_ble_eq_true rfl⟩ ⟨Nat.zero_le _, Nat.zero_le _⟩ hl.1 dX3_drawBy_42 (fun H locs X => ?_)
  refine r_iload F hl 0 rfl dX3_drawBy_45 ?_
  refine r_isub F dX3_drawBy_47 ?_
  refine r_istore F hl [(6, .int (I ((r (12 + t)) - (og r t)))), (5, .int (I (og r t))), (4, .int (I (r t))), (3, .int (I (bgI r t))), (0, .ref (gY G b)), (1, .int (I law)), (2, .int (I t))] (by decide) rfl dX3_drawBy_48 (fun ls hl => ?_)
  refine r_iconst F dX3_drawBy_50 ?_
  refine r_istore F hl [(7, .int (I 0)), (6, .int (I ((r (12 + t)) - (og r t)))), (5, .int (I (og r t))), (4, .int (I (r t))), (3, .int (I (bgI r t))), (0, .ref (gY G b)), (1, .int (I law)), (2, .int (I t))] (by decide) rfl dX3_drawBy_51 (fun ls hl => ?_)
  have loop53 : ∀ (n : Nat) (k : Int) (τ : St) (ls : Array Slot) (H : Heap) (locs : List Loc) (hn : r t - k < n) (hk2 : 0 ≤ k ∧ k ≤ r t) (hτ : τ = up σ (b + 2 + 0) (drk (σ (b + 2 + 0)) r law t k)) (X : HX G τ s H locs) (hl : lv_has ls 8 [(0, .ref (gY G b)), (1, .int (I law)), (2, .int (I t)), (3, .int (I (bgI r t))), (4, .int (I (r t))), (5, .int (I (og r t))), (6, .int (I (r (12 + t) - og r t))), (7, .int (I k))]), W p l e (rmd 3) s m args below meth c H locs 0 0 (MQ below (QV G (fun τ => τ = up σ (b + 2 + 0) (drk (σ (b + 2 + 0)) r law t (r t)))) args s 0 0 (gA G)) (F0 m 53 ls []) := by
    intro n
    induction n with
    | zero => intro k τ ls H locs hn hk2 hτ X hl; omega
    | succ n ih53 =>
      intro k τ ls H locs hn hk2 hτ X hl
      refine r_iload F hl 7 rfl dX3_drawBy_53 ?_
      refine r_iload F hl 4 rfl dX3_drawBy_55 ?_
      refine r_icmp_ge F 92 (by decide) (by omega) (by omega) dX3_drawBy_57 (fun c1 => ?_) (fun c1 => ?_)
      · skip
        exact r_vret F X hr hk dX3_drawBy_92 (by rw [hτ, show k = r t by omega])
      · skip
        refine r_aload_n F hl 0 rfl rfl dX3_drawBy_60 ?_
        refine r_iconst F dX3_drawBy_61 ?_
        refine r_iload_n F hl 3 rfl rfl dX3_drawBy_62 ?_
        refine r_iload F hl 7 rfl dX3_drawBy_63 ?_
        refine r_iadd F dX3_drawBy_65 ?_
        refine r_iload F hl 5 rfl dX3_drawBy_66 ?_
        refine r_i2l F (by omega) dX3_drawBy_68 ?_
        refine r_iload_n F hl 1 rfl rfl dX3_drawBy_69 ?_
        refine r_iload F hl 6 rfl dX3_drawBy_70 ?_
        refine r_i2l F (by omega) dX3_drawBy_72 ?_
        refine r_iload F hl 7 rfl dX3_drawBy_73 ?_
        refine r_i2l F (by omega) dX3_drawBy_75 ?_
        refine r_iload F hl 4 rfl dX3_drawBy_76 ?_
        refine r_i2l F (by omega) dX3_drawBy_78 ?_
        refine d_cSJ F X (c_X3_riseBy l G τ law (r (12 + t) - og r t) k (r t) (by omega) (by omega) (by omega) (by omega)) gv_RX3_55 nd_X3_riseBy rfl (rest := [.long (J (og r t)), .int (I ((bgI r t) + k)), .int (I 0), .ref (gY G b)]) rfl (Nat.le_of_ble_eq_true rfl) ⟨Nat.le_of_ble_eq_true rfl, Nat.le_of_ble_eq_true rfl⟩ ⟨Nat.zero_le _, Nat.zero_le _⟩ hl.1 dX3_drawBy_79 (fun H locs X => ?_)
        refine r_ladd F dX3_drawBy_82 ?_
        refine d_cVV F X b (hb43 hb) (eK_P hb G _) rfl (c_X3_put l G τ b 0 ((bgI r t) + k) ((og r t) + (rise law (r (12 + t) - og r t) k (r t))) hb (by omega) (by omega)) gv_RX3_59 rfl nd_X3_put rfl (rest := []) rfl (Nat.le_of_ble_eq_true rfl) ⟨Nat.le_of_ble_eq_true rfl, Nat.le_of_ble_eq_true rfl⟩ ⟨Nat.zero_le _, Nat.zero_le _⟩ hl.1 dX3_drawBy_83 (fun H locs X => ?_)
        obtain ⟨σ1, eσ1⟩ : ∃ x : St, x = up τ (b + 2 + 0) (upI (τ (b + 2 + 0)) ((bgI r t) + k) ((og r t) + (rise law (r (12 + t) - og r t) k (r t)))) := ⟨_, rfl⟩
        rw [← eσ1] at X
        refine r_iinc F hl [(7, .int (I (k + 1))), (0, .ref (gY G b)), (1, .int (I law)), (2, .int (I t)), (3, .int (I (bgI r t))), (4, .int (I (r t))), (5, .int (I (og r t))), (6, .int (I (r (12 + t) - og r t)))] 7 rfl (by decide) rfl dX3_drawBy_86 (fun ls hl => ?_)
        refine r_goto F 53 (by decide) dX3_drawBy_89 ?_
        exact ih53 (k + 1) σ1 _ _ _ (by omega) (by omega) (by rw [eσ1, hτ, up_eq, drk_succ _ _ _ _ (by omega), up_up]) X (lv_sub hl [1, 2, 3, 4, 5, 6, 7, 0] rfl)
  exact loop53 (((r t - 0 : Int) + 1).toNat) 0 σ _ _ _ (by omega) (by omega) (by rw [drk_0, up_self]) X (lv_sub hl [5, 6, 7, 4, 3, 2, 1, 0] rfl)
theorem c_X3_draw (l : Launch) (G : GT) (σ : St) (b : Nat) (N : Int) (r : Int → Int) (hb : b = 5 ∨ b = 18) (hP : PL σ N r) (hW : WF N r) (hwh : whl N r = true) : Ct l yX3_draw cX3_draw 2 none 4 G [.ref (gY G b)] σ (QV G (fun τ => τ = up (up σ b (upI (σ b) 2 N)) (b + 2 + 0) (draI (σ (b + 2 + 0)) r (rlw r) (r 60)))) := by
  refine mt (own := RX3) (plainFor_of_name rfl) rfl (Nat.le_of_ble_eq_true rfl) ?_
  intro p e s m args below meth c ls F hr hk X hl
  have hl : lv_has ls 2 [(0, .ref (gY G b))] := hl
  have hw := hW.num
  refine r_aload_n F hl 0 rfl rfl dX3_draw_0 ?_
  refine r_aload_n F hl 0 rfl rfl dX3_draw_1 ?_
  refine r_get F X b (hb43 hb) (eK_P hb G _) rfl gl_RX3 0 (by decide) rfl gf_RX3_16 rfl dX3_draw_2 ?_
  refine r_iconst F dX3_draw_5 ?_
  refine d_cVI F X 1 (by decide) (eK_1 G _) rfl (c_X2_get l G σ N 0 (by omega) (hP.st)) gv_RX3_35 rfl nd_X2_get rfl (rest := [.ref (gY G b)]) rfl (Nat.le_of_ble_eq_true rfl) ⟨Nat.le_of_ble_eq_true rfl, Nat.le_of_ble_eq_true rfl⟩ ⟨Nat.zero_le _, Nat.zero_le _⟩ hl.1 dX3_draw_6 (fun H locs X => ?_)
  refine r_put F X b (hb43 hb) (upI (σ b) 2 N) (eK_P hb G _) rfl gl_RX3 tyX3 tyX3_ok nmX3 2 (by decide) rfl gf_RX3_27 rfl (tyX3_ok 2 (by decide)) rfl rfl (Nat.le_of_ble_eq_true rfl) (eK_P hb G _) dX3_draw_9 (fun H locs X => ?_)
  obtain ⟨σ1, eσ1⟩ : ∃ x : St, x = up σ b (upI (σ b) 2 N) := ⟨_, rfl⟩
  rw [← eσ1] at X
  refine r_iconst F dX3_draw_12 ?_
  refine r_istore_n F hl [(1, .int (I 0)), (0, .ref (gY G b))] rfl (by decide) rfl dX3_draw_13 (fun ls hl => ?_)
  have loop14 : ∀ (n : Nat) (i : Int) (τ : St) (ls : Array Slot) (H : Heap) (locs : List Loc) (hn : r 60 - i < n) (hi : 0 ≤ i ∧ i ≤ r 60) (hτ : τ = up (up σ b (upI (σ b) 2 N)) (b + 2 + 0) (draI (σ (b + 2 + 0)) r (rlw r) i)) (X : HX G τ s H locs) (hl : lv_has ls 2 [(0, .ref (gY G b)), (1, .int (I i))]), W p l e (rmd 4) s m args below meth c H locs 0 0 (MQ below (QV G (fun τ => τ = up (up σ b (upI (σ b) 2 N)) (b + 2 + 0) (draI (σ (b + 2 + 0)) r (rlw r) (r 60)))) args s 0 0 (gA G)) (F0 m 14 ls []) := by
    intro n
    induction n with
    | zero => intro i τ ls H locs hn hi hτ X hl; omega
    | succ n ih14 =>
      intro i τ ls H locs hn hi hτ X hl
      have hPt : PL τ N r := by rw [hτ]; unfold PL; rw [up_ne (by omega), up_ne (by omega)]; exact hP
      refine r_iload_n F hl 1 rfl rfl dX3_draw_14 ?_
      refine r_aload_n F hl 0 rfl rfl dX3_draw_15 ?_
      refine r_get F X b (hb43 hb) (eK_P hb G _) rfl gl_RX3 0 (by decide) rfl gf_RX3_16 rfl dX3_draw_16 ?_
      refine r_iconst F dX3_draw_19 ?_
      refine d_cVI F X 1 (by decide) (eK_1 G _) rfl (c_X2_get l G τ (r 60) 1 (by omega) ((show PL τ N r from hPt).se)) gv_RX3_35 rfl nd_X2_get rfl (rest := [.int (I i)]) rfl (Nat.le_of_ble_eq_true rfl) ⟨Nat.le_of_ble_eq_true rfl, Nat.le_of_ble_eq_true rfl⟩ ⟨Nat.zero_le _, Nat.zero_le _⟩ hl.1 dX3_draw_20 (fun H locs X => ?_)
      refine r_icmp_ge F 49 (by decide) (by omega) (by omega) dX3_draw_23 (fun c1 => ?_) (fun c1 => ?_)
      · skip
        exact r_vret F X hr hk dX3_draw_49 (by rw [hτ, show i = r 60 by omega])
      · skip
        refine r_aload_n F hl 0 rfl rfl dX3_draw_26 ?_
        refine r_aload_n F hl 0 rfl rfl dX3_draw_27 ?_
        refine r_get F X b (hb43 hb) (eK_P hb G _) rfl gl_RX3 0 (by decide) rfl gf_RX3_16 rfl dX3_draw_28 ?_
        refine r_iload_n F hl 1 rfl rfl dX3_draw_31 ?_
        refine r_iconst F dX3_draw_32 ?_
        refine d_cSI F X (c_X2_placeOf l G τ i 2) gv_RX3_41 nd_X2_placeOf rfl (rest := [.ref (gY G 1), .ref (gY G b)]) rfl (Nat.le_of_ble_eq_true rfl) ⟨Nat.le_of_ble_eq_true rfl, Nat.le_of_ble_eq_true rfl⟩ ⟨Nat.zero_le _, Nat.zero_le _⟩ hl.1 dX3_draw_33 (fun H locs X => ?_)
        refine d_cVI F X 1 (by decide) (eK_1 G _) rfl (c_X2_get l G τ (r (24 + i)) (12 + 3 * i + 2) (by omega) (hPt.la (by omega) (by omega))) gv_RX3_35 rfl nd_X2_get rfl (rest := [.ref (gY G b)]) rfl (Nat.le_of_ble_eq_true rfl) ⟨Nat.le_of_ble_eq_true rfl, Nat.le_of_ble_eq_true rfl⟩ ⟨Nat.zero_le _, Nat.zero_le _⟩ hl.1 dX3_draw_36 (fun H locs X => ?_)
        refine r_iload_n F hl 1 rfl rfl dX3_draw_39 ?_
        refine d_cVV F X b (hb43 hb) (eK_P hb G _) rfl (c_X3_drawBy l G τ b N r (r (24 + i)) i hb (hPt) hW hwh (by omega) (hW.la (by omega) (by omega))) gv_RX3_45 rfl nd_X3_drawBy rfl (rest := []) rfl (Nat.le_of_ble_eq_true rfl) ⟨Nat.le_of_ble_eq_true rfl, Nat.le_of_ble_eq_true rfl⟩ ⟨Nat.zero_le _, Nat.zero_le _⟩ hl.1 dX3_draw_40 (fun H locs X => ?_)
        obtain ⟨σ2, eσ2⟩ : ∃ x : St, x = up τ (b + 2 + 0) (drk (τ (b + 2 + 0)) r (r (24 + i)) i (r i)) := ⟨_, rfl⟩
        rw [← eσ2] at X
        refine r_iinc F hl [(1, .int (I (i + 1))), (0, .ref (gY G b))] 1 rfl (by decide) rfl dX3_draw_43 (fun ls hl => ?_)
        refine r_goto F 14 (by decide) dX3_draw_46 ?_
        exact ih14 (i + 1) σ2 _ _ _ (by omega) (by omega) (by rw [eσ2, hτ, up_eq, up_up, draI_succ _ _ _ (by omega)]; rfl) X (lv_sub hl [1, 0] rfl)
  exact loop14 (((r 60 - 0 : Int) + 1).toNat) 0 σ1 _ _ _ (by omega) (by omega) (by rw [eσ1]; exact (congrArg (up (up σ b (upI (σ b) 2 N)) (b + 2 + 0)) (show σ (b + 2 + 0) = (up σ b (upI (σ b) 2 N)) (b + 2 + 0) from (up_ne (by omega)).symm) |>.trans (up_self _ _)).symm) X (lv_sub hl [1, 0] rfl)
theorem c_X3_refresh (l : Launch) (G : GT) (σ : St) (b : Nat) (N : Int) (r : Int → Int) (hb : b = 5 ∨ b = 18) (hP : PL σ N r) (hW : WF N r) (hwh : whl N r = true) (hfr : σ b 3 = 0 ∨ (σ b 3 = 1 ∧ PD σ b N r)) : Ct l yX3_refresh cX3_refresh 2 none 5 G [.ref (gY G b)] σ (QV G (fun τ9 => (∀ k : Nat, (k < b ∨ b + 12 < k) → τ9 k = σ k) ∧ τ9 b 3 = 1 ∧ PD τ9 b N r)) := by
  refine mt (own := RX3) (plainFor_of_name rfl) rfl (Nat.le_of_ble_eq_true rfl) ?_
  intro p e s m args below meth c ls F hr hk X hl
  have hl : lv_has ls 2 [(0, .ref (gY G b))] := hl
  have hw := hW.num
  refine r_aload_n F hl 0 rfl rfl dX3_refresh_0 ?_
  refine r_get F X b (hb43 hb) (eK_P hb G _) rfl gl_RX3 3 (by decide) rfl gf_RX3_20 rfl dX3_refresh_1 ?_
  refine r_if_ne F 37 (by decide) (by omega) dX3_refresh_4 (fun c1 => ?_) (fun c1 => ?_)
  · skip
    exact r_vret F X hr hk dX3_refresh_37 (by first | exact ⟨fun _ _ => rfl, (hfr.resolve_left (by assumption)).1, (hfr.resolve_left (by assumption)).2⟩ | exact ⟨fun k9 q => by rw [hfm k9 (by omega)]; exact hs2 k9 q, by rw [hfm b (by omega)]; exact h23, by unfold PD; rw [hfm (b + 2 + 0) (by omega)]; exact ⟨⟨hτN, fun j j0 j1 => hda j j0 (by omega)⟩, hE2⟩⟩)
  · skip
    refine r_aload_n F hl 0 rfl rfl dX3_refresh_7 ?_
    refine r_iconst F dX3_refresh_8 ?_
    refine r_put F X b (hb43 hb) (upI (σ b) 3 1) (eK_P hb G _) rfl gl_RX3 tyX3 tyX3_ok nmX3 3 (by decide) rfl gf_RX3_20 rfl (tyX3_ok 3 (by decide)) (nzb (by omega)) (nzf (by omega)) (Nat.le_of_ble_eq_true rfl) (eK_P hb G _) dX3_refresh_9 (fun H locs X => ?_)
    obtain ⟨σ1, eσ1⟩ : ∃ x : St, x = up σ b (upI (σ b) 3 1) := ⟨_, rfl⟩
    rw [← eσ1] at X
    refine r_aload_n F hl 0 rfl rfl dX3_refresh_12 ?_
    refine d_cVV F X b (hb43 hb) (eK_P hb G _) rfl (c_X3_draw l G σ1 b N r hb (by rw [eσ1]; unfold PL; rw [up_ne (by omega)]; exact hP) hW hwh) gv_RX3_24 rfl nd_X3_draw rfl (rest := []) rfl (Nat.le_of_ble_eq_true rfl) ⟨Nat.le_of_ble_eq_true rfl, Nat.le_of_ble_eq_true rfl⟩ ⟨Nat.zero_le _, Nat.zero_le _⟩ hl.1 dX3_refresh_13 (fun H locs X => ?_)
    obtain ⟨σ2, eσ2⟩ : ∃ x : St, x = up (up σ1 b (upI (σ1 b) 2 N)) (b + 2 + 0) (draI (σ1 (b + 2 + 0)) r (rlw r) (r 60)) := ⟨_, rfl⟩
    rw [← eσ2] at X
    refine r_iconst F dX3_refresh_16 ?_
    refine r_istore_n F hl [(1, .int (I 0)), (0, .ref (gY G b))] rfl (by decide) rfl dX3_refresh_17 (fun ls hl => ?_)
    have hN2 : σ2 b 2 = N := by rw [eσ2, up_ne (by omega), up_eq, upI_eq]
    have h23 : σ2 b 3 = 1 := by rw [eσ2, up_ne (by omega), up_eq, upI_ne (by omega), eσ1, up_eq, upI_eq]
    have hs2 : ∀ k : Nat, (k < b ∨ b + 12 < k) → σ2 k = σ k := fun k q => by rw [eσ2, up_ne (by omega), up_ne (by omega), eσ1, up_ne (by omega)]
    have hE2 : EQN (σ2 (b + 2 + 0)) (lfI r) N := fun j j0 j1 => by rw [eσ2, up_eq]; exact draI_lf _ hW hwh j0 j1
    have hL2 : LR (σ2 (b + 2 + 0)) N := hE2.LR (lfI_LR hW hwh)
    have loop18 : ∀ (n : Nat) (i : Int) (τ : St) (ls : Array Slot) (H : Heap) (locs : List Loc) (hn : N - i < n) (hi : 0 ≤ i ∧ i ≤ N) (hfm : ∀ k : Nat, (k < b + 3 ∨ b + 12 < k) → τ k = σ2 k) (hda : ∀ j : Int, 0 ≤ j → j < i → DA τ b N r (σ2 (b + 2 + 0)) j) (X : HX G τ s H locs) (hl : lv_has ls 2 [(0, .ref (gY G b)), (1, .int (I i))]), W p l e (rmd 5) s m args below meth c H locs 0 0 (MQ below (QV G (fun τ9 => (∀ k : Nat, (k < b ∨ b + 12 < k) → τ9 k = σ k) ∧ τ9 b 3 = 1 ∧ PD τ9 b N r)) args s 0 0 (gA G)) (F0 m 18 ls []) := by
      intro n
      induction n with
      | zero => intro i τ ls H locs hn hi hfm hda X hl; omega
      | succ n ih18 =>
        intro i τ ls H locs hn hi hfm hda X hl
        have hτN : τ b 2 = N := by rw [hfm b (by omega)]; exact hN2
        refine r_iload_n F hl 1 rfl rfl dX3_refresh_18 ?_
        refine r_aload_n F hl 0 rfl rfl dX3_refresh_19 ?_
        refine r_get F X b (hb43 hb) (eK_P hb G _) rfl gl_RX3 2 (by decide) rfl gf_RX3_27 rfl dX3_refresh_20 ?_
        refine r_icmp_ge F 37 (by decide) (by omega) (by omega) dX3_refresh_23 (fun c2 => ?_) (fun c2 => ?_)
        · skip
          exact r_vret F X hr hk dX3_refresh_37 (by first | exact ⟨fun _ _ => rfl, (hfr.resolve_left (by assumption)).1, (hfr.resolve_left (by assumption)).2⟩ | exact ⟨fun k9 q => by rw [hfm k9 (by omega)]; exact hs2 k9 q, by rw [hfm b (by omega)]; exact h23, by unfold PD; rw [hfm (b + 2 + 0) (by omega)]; exact ⟨⟨hτN, fun j j0 j1 => hda j j0 (by omega)⟩, hE2⟩⟩)
        · skip
          refine r_aload_n F hl 0 rfl rfl dX3_refresh_26 ?_
          refine r_iload_n F hl 1 rfl rfl dX3_refresh_27 ?_
          refine d_cVV F X b (hb43 hb) (eK_P hb G _) rfl (c_X3_measure l G τ b N r (σ2 (b + 2 + 0)) i hb (by unfold PL; rw [hfm 2 (by omega), hs2 2 (by omega)]; exact hP) hW (by rw [hfm b (by omega)]; exact hN2) ((hfm (b + 2 + 0) (by omega)).symm) (hL2) (by rw [hfm b (by omega), hN2] at *; omega)) gv_RX3_31 rfl nd_X3_measure rfl (rest := []) rfl (Nat.le_of_ble_eq_true rfl) ⟨Nat.le_of_ble_eq_true rfl, Nat.le_of_ble_eq_true rfl⟩ ⟨Nat.zero_le _, Nat.zero_le _⟩ hl.1 dX3_refresh_28 (fun H locs X => ?_)
          obtain ⟨σ3, eσ3⟩ : ∃ x : St, x = msr τ b N r (σ2 (b + 2 + 0)) i := ⟨_, rfl⟩
          rw [← eσ3] at X
          refine r_iinc F hl [(1, .int (I (i + 1))), (0, .ref (gY G b))] 1 rfl (by decide) rfl dX3_refresh_31 (fun ls hl => ?_)
          refine r_goto F 18 (by decide) dX3_refresh_34 ?_
          exact ih18 (i + 1) σ3 _ _ _ (by omega) (by omega) (by intro k9 q; rw [eσ3]; unfold msr; rw [if_neg (by omega)]; exact hfm k9 q) (by intro j j0 j1; rw [eσ3]; rcases (show j < i ∨ j = i by omega) with z | z <;> first | exact msr_old (hda j j0 z) (by omega) | (rw [z]; exact msr_at (hfm (b + 2 + 0) (by omega)).symm (by omega))) X (lv_sub hl [1, 0] rfl)
    exact loop18 (((N - 0 : Int) + 1).toNat) 0 σ2 _ _ _ (by omega) (by omega) (by exact fun _ _ => rfl) (by intro j j0 j1; omega) X (lv_sub hl [1, 0] rfl)
