theorem c_X3_measureRoller (l : Launch) (G : GT) (σ : St) (b : Nat) (N : Int) (r : Int → Int) (f : Int → Int) (i : Int) (v : Int) (a : Int) (hb : b = 5 ∨ b = 18) (hP : PL σ N r) (hW : WF N r) (hN : σ b 2 = N) (hf : f = σ (b + 2 + 0)) (hL : LR f N) (hi : 0 ≤ i ∧ i < N) (hv : -9540 ≤ v ∧ v ≤ 9540) (ha : -728784 ≤ a ∧ a ≤ 728784) : Ct l yX3_measureRoller cX3_measureRoller 11 none 3 G [.ref (gY G b), .int (I i), .long (J v), .long (J a)] σ (QV G (fun τ => τ = up (up (up (up σ (b + 2 + 4) (upI (σ (b + 2 + 4)) i (fa f N r i))) (b + 2 + 7) (upI (σ (b + 2 + 7)) i (bn (fa f N r i) v a))) (b + 2 + 8) (upI (σ (b + 2 + 8)) i (uc (r 64) (fa f N r i * fa f N r i + v * v) (bn (fa f N r i) v a)))) (b + 2 + 9) (upI (σ (b + 2 + 9)) i (1000 * ab v / fa f N r i)))) := by
  refine mt (own := RX3) (plainFor_of_name rfl) rfl (Nat.le_of_ble_eq_true rfl) ?_
  intro p e s m args below meth c ls F hr hk X hl
  have hl : lv_has ls 11 [(0, .ref (gY G b)), (1, .int (I i)), (2, .long (J v)), (4, .long (J a))] := hl
  have hw := hW.num
  have fr : ∀ j : Nat, (j < b + 3 ∨ b + 12 < j) → σ j = σ j := fun _ _ => rfl
  have hfa := fa_rg hW hL i
  have huc := uc_rg (x := fa f N r i) (v := v) (a := a) (by omega) hv ha
  have hlw := LR.w hL (by omega) i
  have hab := ab_nn v
  have hu := uc_012 (r 64) (fa f N r i * fa f N r i + v * v) (bn (fa f N r i) v a)
  refine r_aload_n F hl 0 rfl rfl dX3_measureRoller_0 ?_
  refine r_get F X b (hb43 hb) (eK_P hb G _) rfl gl_RX3 0 (by decide) rfl gf_RX3_16 rfl dX3_measureRoller_1 ?_
  refine r_iconst F dX3_measureRoller_4 ?_
  refine d_cVI F X 1 (by decide) (eK_1 G _) rfl (c_X2_get l G σ (r 64) 4 (by omega) (by rw [fr 2 (by omega)]; exact hP.set 4 (by omega) (by omega))) gv_RX3_35 rfl nd_X2_get rfl (rest := []) rfl (Nat.le_of_ble_eq_true rfl) ⟨Nat.le_of_ble_eq_true rfl, Nat.le_of_ble_eq_true rfl⟩ ⟨Nat.zero_le _, Nat.zero_le _⟩ hl.1 dX3_measureRoller_5 (fun H locs X => ?_)
  refine r_istore F hl [(6, .int (I (r 64))), (0, .ref (gY G b)), (1, .int (I i)), (2, .long (J v)), (4, .long (J a))] (by decide) rfl dX3_measureRoller_8 (fun ls hl => ?_)
  refine r_aload_n F hl 1 rfl rfl dX3_measureRoller_10 ?_
  refine r_get F X b (hb43 hb) (eK_P hb G _) rfl gl_RX3 0 (by decide) rfl gf_RX3_16 rfl dX3_measureRoller_11 ?_
  refine r_iconst F dX3_measureRoller_14 ?_
  refine d_cVI F X 1 (by decide) (eK_1 G _) rfl (c_X2_get l G σ (r 63) 3 (by omega) (by rw [fr 2 (by omega)]; exact hP.set 3 (by omega) (by omega))) gv_RX3_35 rfl nd_X2_get rfl (rest := []) rfl (Nat.le_of_ble_eq_true rfl) ⟨Nat.le_of_ble_eq_true rfl, Nat.le_of_ble_eq_true rfl⟩ ⟨Nat.zero_le _, Nat.zero_le _⟩ hl.1 dX3_measureRoller_15 (fun H locs X => ?_)
  refine r_iload F hl 0 rfl dX3_measureRoller_18 ?_
  refine r_iadd F dX3_measureRoller_20 ?_
  refine r_i2l F (by omega) dX3_measureRoller_21 ?_
  refine r_aload_n F hl 1 rfl rfl dX3_measureRoller_22 ?_
  refine r_iconst F dX3_measureRoller_23 ?_
  refine r_iload_n F hl 2 rfl rfl dX3_measureRoller_24 ?_
  refine d_cVJ F X b (hb43 hb) (eK_P hb G _) rfl (c_X3_at l G σ b 0 i hb (by omega) (by rw [fr b (by omega), hN]; omega) (by rw [fr b (by omega), hN]; omega)) gv_RX3_85 rfl nd_X3_at rfl (rest := [.long (J ((r 63) + (r 64)))]) rfl (Nat.le_of_ble_eq_true rfl) ⟨Nat.le_of_ble_eq_true rfl, Nat.le_of_ble_eq_true rfl⟩ ⟨Nat.zero_le _, Nat.zero_le _⟩ hl.1 dX3_measureRoller_25 (fun H locs X => ?_)
  refine r_eqJ (b := lw f N i) (by rw [fr b (by omega), fr (b + 2 + 0) (by omega), hN, ← hf]; rfl) ?_
  refine r_ladd F dX3_measureRoller_28 ?_
  refine r_eqJ (b := fa f N r i) (rfl) ?_
  refine r_lstore F hl [(7, .long (J (fa f N r i))), (6, .int (I (r 64))), (0, .ref (gY G b)), (1, .int (I i)), (2, .long (J v)), (4, .long (J a))] (by decide) rfl dX3_measureRoller_29 (fun ls hl => ?_)
  refine r_lload F hl 0 rfl dX3_measureRoller_31 ?_
  refine r_lload_n F hl 4 rfl rfl dX3_measureRoller_33 ?_
  refine r_lload F hl 5 rfl dX3_measureRoller_34 ?_
  refine d_cSJ F X (c_X3_bend l G σ (fa f N r i) v a) gv_RX3_107 nd_X3_bend rfl (rest := []) rfl (Nat.le_of_ble_eq_true rfl) ⟨Nat.le_of_ble_eq_true rfl, Nat.le_of_ble_eq_true rfl⟩ ⟨Nat.zero_le _, Nat.zero_le _⟩ hl.1 dX3_measureRoller_36 (fun H locs X => ?_)
  refine r_lstore F hl [(9, .long (J (bn (fa f N r i) v a))), (7, .long (J (fa f N r i))), (6, .int (I (r 64))), (0, .ref (gY G b)), (1, .int (I i)), (2, .long (J v)), (4, .long (J a))] (by decide) rfl dX3_measureRoller_39 (fun ls hl => ?_)
  refine r_aload_n F hl 3 rfl rfl dX3_measureRoller_41 ?_
  refine r_iconst F dX3_measureRoller_42 ?_
  refine r_iload_n F hl 4 rfl rfl dX3_measureRoller_43 ?_
  refine r_lload F hl 1 rfl dX3_measureRoller_44 ?_
  refine d_cVV F X b (hb43 hb) (eK_P hb G _) rfl (c_X3_put l G σ b 4 i (fa f N r i) hb (by omega) (by omega)) gv_RX3_59 rfl nd_X3_put rfl (rest := []) rfl (Nat.le_of_ble_eq_true rfl) ⟨Nat.le_of_ble_eq_true rfl, Nat.le_of_ble_eq_true rfl⟩ ⟨Nat.zero_le _, Nat.zero_le _⟩ hl.1 dX3_measureRoller_46 (fun H locs X => ?_)
  obtain ⟨σ1, eσ1⟩ : ∃ x : St, x = up σ (b + 2 + 4) (upI (σ (b + 2 + 4)) i (fa f N r i)) := ⟨_, rfl⟩
  rw [← eσ1] at X
  have fr : ∀ j : Nat, (j < b + 3 ∨ b + 12 < j) → σ1 j = σ j := fun j hj => by rw [eσ1]; simp only [up]; (repeat rw [if_neg (by omega)]); first | done | exact fr j hj
  refine r_aload_n F hl 3 rfl rfl dX3_measureRoller_49 ?_
  refine r_bipush F (by decide) dX3_measureRoller_50 ?_
  refine r_iload_n F hl 4 rfl rfl dX3_measureRoller_52 ?_
  refine r_lload F hl 0 rfl dX3_measureRoller_53 ?_
  refine d_cVV F X b (hb43 hb) (eK_P hb G _) rfl (c_X3_put l G σ1 b 7 i (bn (fa f N r i) v a) hb (by omega) (by omega)) gv_RX3_59 rfl nd_X3_put rfl (rest := []) rfl (Nat.le_of_ble_eq_true rfl) ⟨Nat.le_of_ble_eq_true rfl, Nat.le_of_ble_eq_true rfl⟩ ⟨Nat.zero_le _, Nat.zero_le _⟩ hl.1 dX3_measureRoller_55 (fun H locs X => ?_)
  obtain ⟨σ2, eσ2⟩ : ∃ x : St, x = up σ1 (b + 2 + 7) (upI (σ1 (b + 2 + 7)) i (bn (fa f N r i) v a)) := ⟨_, rfl⟩
  rw [← eσ2] at X
  have fr : ∀ j : Nat, (j < b + 3 ∨ b + 12 < j) → σ2 j = σ j := fun j hj => by rw [eσ2]; simp only [up]; (repeat rw [if_neg (by omega)]); first | done | exact fr j hj
  refine r_aload_n F hl 3 rfl rfl dX3_measureRoller_58 ?_
  refine r_bipush F (by decide) dX3_measureRoller_59 ?_
  refine r_iload_n F hl 4 rfl rfl dX3_measureRoller_61 ?_
  refine r_iload F hl 2 rfl dX3_measureRoller_62 ?_
  refine r_i2l F (by omega) dX3_measureRoller_64 ?_
  refine r_lload F hl 1 rfl dX3_measureRoller_65 ?_
  refine r_lload F hl 1 rfl dX3_measureRoller_67 ?_
  refine r_lmul F dX3_measureRoller_69 ?_
  refine r_lload_n F hl 5 rfl rfl dX3_measureRoller_70 ?_
  refine r_lload_n F hl 5 rfl rfl dX3_measureRoller_71 ?_
  refine r_lmul F dX3_measureRoller_72 ?_
  refine r_ladd F dX3_measureRoller_73 ?_
  refine r_lload F hl 0 rfl dX3_measureRoller_74 ?_
  refine d_cSI F X (c_X3_undercutOf l G σ2 (r 64) (((fa f N r i) * (fa f N r i)) + (v * v)) (bn (fa f N r i) v a) (by omega) (by omega) (by omega)) gv_RX3_111 nd_X3_undercutOf rfl (rest := [.int (I i), .int (I 8), .ref (gY G b)]) rfl (Nat.le_of_ble_eq_true rfl) ⟨Nat.le_of_ble_eq_true rfl, Nat.le_of_ble_eq_true rfl⟩ ⟨Nat.zero_le _, Nat.zero_le _⟩ hl.1 dX3_measureRoller_76 (fun H locs X => ?_)
  refine r_i2l F (by omega) dX3_measureRoller_79 ?_
  refine d_cVV F X b (hb43 hb) (eK_P hb G _) rfl (c_X3_put l G σ2 b 8 i (uc (r 64) (((fa f N r i) * (fa f N r i)) + (v * v)) (bn (fa f N r i) v a)) hb (by omega) (by omega)) gv_RX3_59 rfl nd_X3_put rfl (rest := []) rfl (Nat.le_of_ble_eq_true rfl) ⟨Nat.le_of_ble_eq_true rfl, Nat.le_of_ble_eq_true rfl⟩ ⟨Nat.zero_le _, Nat.zero_le _⟩ hl.1 dX3_measureRoller_80 (fun H locs X => ?_)
  obtain ⟨σ3, eσ3⟩ : ∃ x : St, x = up σ2 (b + 2 + 8) (upI (σ2 (b + 2 + 8)) i (uc (r 64) (((fa f N r i) * (fa f N r i)) + (v * v)) (bn (fa f N r i) v a))) := ⟨_, rfl⟩
  rw [← eσ3] at X
  have fr : ∀ j : Nat, (j < b + 3 ∨ b + 12 < j) → σ3 j = σ j := fun j hj => by rw [eσ3]; simp only [up]; (repeat rw [if_neg (by omega)]); first | done | exact fr j hj
  refine r_aload_n F hl 3 rfl rfl dX3_measureRoller_83 ?_
  refine r_bipush F (by decide) dX3_measureRoller_84 ?_
  refine r_iload_n F hl 4 rfl rfl dX3_measureRoller_86 ?_
  refine r_lload F hl 1 rfl dX3_measureRoller_87 ?_
  refine r_lconst F 0 (by decide +kernel) dX3_measureRoller_89 ?_
  refine r_lcmp_le F 108 (by decide) (by omega) (by omega) dX3_measureRoller_90 dX3_measureRoller_91 (fun c1 => ?_) (fun c1 => ?_)
  · omega
  · skip
    refine r_ldc2 F 1000 gk_RX3_105 (by decide +kernel) dX3_measureRoller_94 ?_
    refine r_lload_n F hl 5 rfl rfl dX3_measureRoller_97 ?_
    refine d_cSJ F X (c_J9_abs l G σ3 v (by omega)) gv_RX3_115 nd_J9_abs_067f4 rfl (rest := [.long (J 1000), .int (I i), .int (I 9), .ref (gY G b)]) rfl (Nat.le_of_ble_eq_true rfl) ⟨Nat.le_of_ble_eq_true rfl, Nat.le_of_ble_eq_true rfl⟩ ⟨Nat.zero_le _, Nat.zero_le _⟩ hl.1 dX3_measureRoller_98 (fun H locs X => ?_)
    refine r_lmul F dX3_measureRoller_101 ?_
    refine r_lload F hl 1 rfl dX3_measureRoller_102 ?_
    refine r_ldiv F (by omega) (by omega) dX3_measureRoller_104 ?_
    refine r_eqJ (b := 1000 * ab v / fa f N r i) (td_nn (by omega)) ?_
    refine r_goto F 109 (by decide) dX3_measureRoller_105 ?_
    refine d_cVV F X b (hb43 hb) (eK_P hb G _) rfl (c_X3_put l G σ3 b 9 i (1000 * ab v / fa f N r i) hb (by omega) (by omega)) gv_RX3_59 rfl nd_X3_put rfl (rest := []) rfl (Nat.le_of_ble_eq_true rfl) ⟨Nat.le_of_ble_eq_true rfl, Nat.le_of_ble_eq_true rfl⟩ ⟨Nat.zero_le _, Nat.zero_le _⟩ hl.1 dX3_measureRoller_109 (fun H locs X => ?_)
    obtain ⟨σ4, eσ4⟩ : ∃ x : St, x = up σ3 (b + 2 + 9) (upI (σ3 (b + 2 + 9)) i (1000 * ab v / fa f N r i)) := ⟨_, rfl⟩
    rw [← eσ4] at X
    have fr : ∀ j : Nat, (j < b + 3 ∨ b + 12 < j) → σ4 j = σ j := fun j hj => by rw [eσ4]; simp only [up]; (repeat rw [if_neg (by omega)]); first | done | exact fr j hj
    exact r_vret F X hr hk dX3_measureRoller_112 (by rw [eσ4, eσ3, eσ2, eσ1]; funext k9; simp only [up]; repeat (first | rfl | (split <;> first | rfl | omega | skip)))
set_option maxHeartbeats 4000000 in
theorem c_X3_measure (l : Launch) (G : GT) (σ : St) (b : Nat) (N : Int) (r : Int → Int) (f : Int → Int) (i : Int) (hb : b = 5 ∨ b = 18) (hP : PL σ N r) (hW : WF N r) (hN : σ b 2 = N) (hf : f = σ (b + 2 + 0)) (hL : LR f N) (hi : 0 ≤ i ∧ i < N) : Ct l yX3_measure cX3_measure 18 none 4 G [.ref (gY G b), .int (I i)] σ (QV G (fun τ => τ = msr σ b N r f i)) := by
  refine mt (own := RX3) (plainFor_of_name rfl) rfl (Nat.le_of_ble_eq_true rfl) ?_
  intro p e s m args below meth c ls F hr hk X hl
  have hl : lv_has ls 18 [(0, .ref (gY G b)), (1, .int (I i))] := hl
  have hw := hW.num
  have fr : ∀ j : Nat, (j < b + 3 ∨ b + 12 < j) → σ j = σ j := fun _ _ => rfl
  have hv := LR.v hL (by omega) i
  have hd := LR.d hL (by omega) i
  have hfo := fo_rg hW hL i
  refine r_aload_n F hl 0 rfl rfl dX3_measure_0 ?_
  refine r_iconst F dX3_measure_1 ?_
  refine r_iload_n F hl 1 rfl rfl dX3_measure_2 ?_
  refine d_cVJ F X b (hb43 hb) (eK_P hb G _) rfl (c_X3_at l G σ b 0 i hb (by omega) (by rw [fr b (by omega), hN]; omega) (by rw [fr b (by omega), hN]; omega)) gv_RX3_85 rfl nd_X3_at rfl (rest := []) rfl (Nat.le_of_ble_eq_true rfl) ⟨Nat.le_of_ble_eq_true rfl, Nat.le_of_ble_eq_true rfl⟩ ⟨Nat.zero_le _, Nat.zero_le _⟩ hl.1 dX3_measure_3 (fun H locs X => ?_)
  refine r_eqJ (b := lw f N i) (by rw [fr b (by omega), fr (b + 2 + 0) (by omega), hN, ← hf]; rfl) ?_
  refine r_lstore_n F hl [(2, .long (J (lw f N i))), (0, .ref (gY G b)), (1, .int (I i))] rfl (by decide) rfl dX3_measure_6 (fun ls hl => ?_)
  refine r_aload_n F hl 1 rfl rfl dX3_measure_7 ?_
  refine r_iconst F dX3_measure_8 ?_
  refine r_iload_n F hl 2 rfl rfl dX3_measure_9 ?_
  refine r_iconst F dX3_measure_10 ?_
  refine r_isub F dX3_measure_11 ?_
  refine d_cVJ F X b (hb43 hb) (eK_P hb G _) rfl (c_X3_at l G σ b 0 (i - 1) hb (by omega) (by rw [fr b (by omega), hN]; omega) (by rw [fr b (by omega), hN]; omega)) gv_RX3_85 rfl nd_X3_at rfl (rest := []) rfl (Nat.le_of_ble_eq_true rfl) ⟨Nat.le_of_ble_eq_true rfl, Nat.le_of_ble_eq_true rfl⟩ ⟨Nat.zero_le _, Nat.zero_le _⟩ hl.1 dX3_measure_12 (fun H locs X => ?_)
  refine r_eqJ (b := lw f N (i - 1)) (by rw [fr b (by omega), fr (b + 2 + 0) (by omega), hN, ← hf]; rfl) ?_
  refine r_lstore F hl [(4, .long (J (lw f N (i - 1)))), (2, .long (J (lw f N i))), (0, .ref (gY G b)), (1, .int (I i))] (by decide) rfl dX3_measure_15 (fun ls hl => ?_)
  refine r_aload_n F hl 2 rfl rfl dX3_measure_17 ?_
  refine r_iconst F dX3_measure_18 ?_
  refine r_iload_n F hl 3 rfl rfl dX3_measure_19 ?_
  refine r_iconst F dX3_measure_20 ?_
  refine r_iadd F dX3_measure_21 ?_
  refine d_cVJ F X b (hb43 hb) (eK_P hb G _) rfl (c_X3_at l G σ b 0 (i + 1) hb (by omega) (by rw [fr b (by omega), hN]; omega) (by rw [fr b (by omega), hN]; omega)) gv_RX3_85 rfl nd_X3_at rfl (rest := []) rfl (Nat.le_of_ble_eq_true rfl) ⟨Nat.le_of_ble_eq_true rfl, Nat.le_of_ble_eq_true rfl⟩ ⟨Nat.zero_le _, Nat.zero_le _⟩ hl.1 dX3_measure_22 (fun H locs X => ?_)
  refine r_eqJ (b := lw f N (i + 1)) (by rw [fr b (by omega), fr (b + 2 + 0) (by omega), hN, ← hf]; rfl) ?_
  refine r_lstore F hl [(6, .long (J (lw f N (i + 1)))), (4, .long (J (lw f N (i - 1)))), (2, .long (J (lw f N i))), (0, .ref (gY G b)), (1, .int (I i))] (by decide) rfl dX3_measure_25 (fun ls hl => ?_)
  refine r_lload F hl 0 rfl dX3_measure_27 ?_
  refine r_ldc2 F 2 gk_RX3_63 (by decide +kernel) dX3_measure_29 ?_
  refine r_lload_n F hl 2 rfl rfl dX3_measure_32 ?_
  refine r_lmul F dX3_measure_33 ?_
  refine r_lsub F dX3_measure_34 ?_
  refine r_lload F hl 1 rfl dX3_measure_35 ?_
  refine r_ladd F dX3_measure_37 ?_
  refine r_eqJ (b := d2 f N i) (by unfold d2; omega) ?_
  refine r_lstore F hl [(8, .long (J (d2 f N i))), (6, .long (J (lw f N (i + 1)))), (4, .long (J (lw f N (i - 1)))), (2, .long (J (lw f N i))), (0, .ref (gY G b)), (1, .int (I i))] (by decide) rfl dX3_measure_38 (fun ls hl => ?_)
  refine r_aload_n F hl 4 rfl rfl dX3_measure_40 ?_
  refine r_iconst F dX3_measure_41 ?_
  refine r_iload_n F hl 5 rfl rfl dX3_measure_42 ?_
  refine r_iconst F dX3_measure_43 ?_
  refine r_iadd F dX3_measure_44 ?_
  refine d_cVJ F X b (hb43 hb) (eK_P hb G _) rfl (c_X3_at l G σ b 0 (i + 2) hb (by omega) (by rw [fr b (by omega), hN]; omega) (by rw [fr b (by omega), hN]; omega)) gv_RX3_85 rfl nd_X3_at rfl (rest := []) rfl (Nat.le_of_ble_eq_true rfl) ⟨Nat.le_of_ble_eq_true rfl, Nat.le_of_ble_eq_true rfl⟩ ⟨Nat.zero_le _, Nat.zero_le _⟩ hl.1 dX3_measure_45 (fun H locs X => ?_)
  refine r_eqJ (b := lw f N (i + 2)) (by rw [fr b (by omega), fr (b + 2 + 0) (by omega), hN, ← hf]; rfl) ?_
  refine r_ldc2 F 2 gk_RX3_63 (by decide +kernel) dX3_measure_48 ?_
  refine r_lload F hl 1 rfl dX3_measure_51 ?_
  refine r_lmul F dX3_measure_53 ?_
  refine r_lsub F dX3_measure_54 ?_
  refine r_lload_n F hl 3 rfl rfl dX3_measure_55 ?_
  refine r_ladd F dX3_measure_56 ?_
  refine r_lstore F hl [(10, .long (J (((lw f N (i + 2)) - (2 * (lw f N (i + 1)))) + (lw f N i)))), (8, .long (J (d2 f N i))), (6, .long (J (lw f N (i + 1)))), (4, .long (J (lw f N (i - 1)))), (2, .long (J (lw f N i))), (0, .ref (gY G b)), (1, .int (I i))] (by decide) rfl dX3_measure_57 (fun ls hl => ?_)
  refine r_aload_n F hl 5 rfl rfl dX3_measure_59 ?_
  refine r_iconst F dX3_measure_60 ?_
  refine r_iload_n F hl 6 rfl rfl dX3_measure_61 ?_
  refine r_lload F hl 2 rfl dX3_measure_62 ?_
  refine r_lload_n F hl 4 rfl rfl dX3_measure_64 ?_
  refine r_lsub F dX3_measure_65 ?_
  refine r_eqJ (b := d1 f N i) (rfl) ?_
  refine d_cVV F X b (hb43 hb) (eK_P hb G _) rfl (c_X3_put l G σ b 1 i (d1 f N i) hb (by omega) (by omega)) gv_RX3_59 rfl nd_X3_put rfl (rest := []) rfl (Nat.le_of_ble_eq_true rfl) ⟨Nat.le_of_ble_eq_true rfl, Nat.le_of_ble_eq_true rfl⟩ ⟨Nat.zero_le _, Nat.zero_le _⟩ hl.1 dX3_measure_66 (fun H locs X => ?_)
  obtain ⟨σ1, eσ1⟩ : ∃ x : St, x = up σ (b + 2 + 1) (upI (σ (b + 2 + 1)) i (d1 f N i)) := ⟨_, rfl⟩
  rw [← eσ1] at X
  have fr : ∀ j : Nat, (j < b + 3 ∨ b + 12 < j) → σ1 j = σ j := fun j hj => by rw [eσ1]; simp only [up]; (repeat rw [if_neg (by omega)]); first | done | exact fr j hj
  refine r_aload_n F hl 5 rfl rfl dX3_measure_69 ?_
  refine r_iconst F dX3_measure_70 ?_
  refine r_iload_n F hl 6 rfl rfl dX3_measure_71 ?_
  refine r_lload F hl 1 rfl dX3_measure_72 ?_
  refine d_cVV F X b (hb43 hb) (eK_P hb G _) rfl (c_X3_put l G σ1 b 2 i (d2 f N i) hb (by omega) (by omega)) gv_RX3_59 rfl nd_X3_put rfl (rest := []) rfl (Nat.le_of_ble_eq_true rfl) ⟨Nat.le_of_ble_eq_true rfl, Nat.le_of_ble_eq_true rfl⟩ ⟨Nat.zero_le _, Nat.zero_le _⟩ hl.1 dX3_measure_74 (fun H locs X => ?_)
  obtain ⟨σ2, eσ2⟩ : ∃ x : St, x = up σ1 (b + 2 + 2) (upI (σ1 (b + 2 + 2)) i (d2 f N i)) := ⟨_, rfl⟩
  rw [← eσ2] at X
  have fr : ∀ j : Nat, (j < b + 3 ∨ b + 12 < j) → σ2 j = σ j := fun j hj => by rw [eσ2]; simp only [up]; (repeat rw [if_neg (by omega)]); first | done | exact fr j hj
  refine r_aload_n F hl 5 rfl rfl dX3_measure_77 ?_
  refine r_iconst F dX3_measure_78 ?_
  refine r_iload_n F hl 6 rfl rfl dX3_measure_79 ?_
  refine r_lload F hl 0 rfl dX3_measure_80 ?_
  refine r_lload F hl 1 rfl dX3_measure_82 ?_
  refine r_lsub F dX3_measure_84 ?_
  refine r_eqJ (b := d3 f N i) (by unfold d3; omega) ?_
  refine d_cVV F X b (hb43 hb) (eK_P hb G _) rfl (c_X3_put l G σ2 b 3 i (d3 f N i) hb (by omega) (by omega)) gv_RX3_59 rfl nd_X3_put rfl (rest := []) rfl (Nat.le_of_ble_eq_true rfl) ⟨Nat.le_of_ble_eq_true rfl, Nat.le_of_ble_eq_true rfl⟩ ⟨Nat.zero_le _, Nat.zero_le _⟩ hl.1 dX3_measure_85 (fun H locs X => ?_)
  obtain ⟨σ3, eσ3⟩ : ∃ x : St, x = up σ2 (b + 2 + 3) (upI (σ2 (b + 2 + 3)) i (d3 f N i)) := ⟨_, rfl⟩
  rw [← eσ3] at X
  have fr : ∀ j : Nat, (j < b + 3 ∨ b + 12 < j) → σ3 j = σ j := fun j hj => by rw [eσ3]; simp only [up]; (repeat rw [if_neg (by omega)]); first | done | exact fr j hj
  refine r_lload F hl 2 rfl dX3_measure_88 ?_
  refine r_lload F hl 3 rfl dX3_measure_90 ?_
  refine r_lsub F dX3_measure_92 ?_
  refine r_ldc2 F 113 gk_RX3_89 (by decide +kernel) dX3_measure_93 ?_
  refine r_lmul F dX3_measure_96 ?_
  refine r_aload_n F hl 5 rfl rfl dX3_measure_97 ?_
  refine r_get F X b (hb43 hb) (eK_P hb G _) rfl gl_RX3 2 (by decide) rfl gf_RX3_27 rfl dX3_measure_98 ?_
  refine r_eqI (b := N) (by rw [fr b (by omega)]; exact hN) ?_
  refine r_i2l F (by omega) dX3_measure_101 ?_
  refine r_lmul F dX3_measure_102 ?_
  refine r_ldc2 F 1420 gk_RX3_91 (by decide +kernel) dX3_measure_103 ?_
  refine d_cSJ F X (c_J9_floorDiv_f86c9 l G σ3 ((((lw f N (i + 1)) - (lw f N (i - 1))) * 113) * N) 1420 (by omega) (by omega)) gv_RX3_79 nd_J9_floorDiv_f86c9 rfl (rest := []) rfl (Nat.le_of_ble_eq_true rfl) ⟨Nat.le_of_ble_eq_true rfl, Nat.le_of_ble_eq_true rfl⟩ ⟨Nat.zero_le _, Nat.zero_le _⟩ hl.1 dX3_measure_106 (fun H locs X => ?_)
  refine r_eqJ (b := vV f N i) (rfl) ?_
  refine r_lstore F hl [(12, .long (J (vV f N i))), (10, .long (J (((lw f N (i + 2)) - (2 * (lw f N (i + 1)))) + (lw f N i)))), (8, .long (J (d2 f N i))), (6, .long (J (lw f N (i + 1)))), (4, .long (J (lw f N (i - 1)))), (2, .long (J (lw f N i))), (0, .ref (gY G b)), (1, .int (I i))] (by decide) rfl dX3_measure_109 (fun ls hl => ?_)
  refine r_lload F hl 2 rfl dX3_measure_111 ?_
  refine r_ldc2 F 12769 gk_RX3_93 (by decide +kernel) dX3_measure_113 ?_
  refine r_lmul F dX3_measure_116 ?_
  refine r_aload_n F hl 6 rfl rfl dX3_measure_117 ?_
  refine r_get F X b (hb43 hb) (eK_P hb G _) rfl gl_RX3 2 (by decide) rfl gf_RX3_27 rfl dX3_measure_118 ?_
  refine r_eqI (b := N) (by rw [fr b (by omega)]; exact hN) ?_
  refine r_i2l F (by omega) dX3_measure_121 ?_
  refine r_lmul F dX3_measure_122 ?_
  refine r_aload_n F hl 6 rfl rfl dX3_measure_123 ?_
  refine r_get F X b (hb43 hb) (eK_P hb G _) rfl gl_RX3 2 (by decide) rfl gf_RX3_27 rfl dX3_measure_124 ?_
  refine r_eqI (b := N) (by rw [fr b (by omega)]; exact hN) ?_
  refine r_i2l F (by omega) dX3_measure_127 ?_
  refine r_lmul F dX3_measure_128 ?_
  refine r_ldc2 F 504100 gk_RX3_95 (by decide +kernel) dX3_measure_129 ?_
  refine d_cSJ F X (c_J9_floorDiv_f86c9 l G σ3 ((((d2 f N i) * 12769) * N) * N) 504100 (by omega) (by omega)) gv_RX3_79 nd_J9_floorDiv_f86c9 rfl (rest := []) rfl (Nat.le_of_ble_eq_true rfl) ⟨Nat.le_of_ble_eq_true rfl, Nat.le_of_ble_eq_true rfl⟩ ⟨Nat.zero_le _, Nat.zero_le _⟩ hl.1 dX3_measure_132 (fun H locs X => ?_)
  refine r_eqJ (b := vA f N i) (rfl) ?_
  refine r_lstore F hl [(14, .long (J (vA f N i))), (12, .long (J (vV f N i))), (10, .long (J (((lw f N (i + 2)) - (2 * (lw f N (i + 1)))) + (lw f N i)))), (8, .long (J (d2 f N i))), (6, .long (J (lw f N (i + 1)))), (4, .long (J (lw f N (i - 1)))), (2, .long (J (lw f N i))), (0, .ref (gY G b)), (1, .int (I i))] (by decide) rfl dX3_measure_135 (fun ls hl => ?_)
  refine r_aload_n F hl 7 rfl rfl dX3_measure_137 ?_
  refine r_iconst F dX3_measure_138 ?_
  refine r_iload_n F hl 8 rfl rfl dX3_measure_139 ?_
  refine r_lload F hl 1 rfl dX3_measure_140 ?_
  refine d_cVV F X b (hb43 hb) (eK_P hb G _) rfl (c_X3_put l G σ3 b 5 i (vV f N i) hb (by omega) (by omega)) gv_RX3_59 rfl nd_X3_put rfl (rest := []) rfl (Nat.le_of_ble_eq_true rfl) ⟨Nat.le_of_ble_eq_true rfl, Nat.le_of_ble_eq_true rfl⟩ ⟨Nat.zero_le _, Nat.zero_le _⟩ hl.1 dX3_measure_142 (fun H locs X => ?_)
  obtain ⟨σ4, eσ4⟩ : ∃ x : St, x = up σ3 (b + 2 + 5) (upI (σ3 (b + 2 + 5)) i (vV f N i)) := ⟨_, rfl⟩
  rw [← eσ4] at X
  have fr : ∀ j : Nat, (j < b + 3 ∨ b + 12 < j) → σ4 j = σ j := fun j hj => by rw [eσ4]; simp only [up]; (repeat rw [if_neg (by omega)]); first | done | exact fr j hj
  refine r_aload_n F hl 7 rfl rfl dX3_measure_145 ?_
  refine r_bipush F (by decide) dX3_measure_146 ?_
  refine r_iload_n F hl 8 rfl rfl dX3_measure_148 ?_
  refine r_lload F hl 0 rfl dX3_measure_149 ?_
  refine d_cVV F X b (hb43 hb) (eK_P hb G _) rfl (c_X3_put l G σ4 b 6 i (vA f N i) hb (by omega) (by omega)) gv_RX3_59 rfl nd_X3_put rfl (rest := []) rfl (Nat.le_of_ble_eq_true rfl) ⟨Nat.le_of_ble_eq_true rfl, Nat.le_of_ble_eq_true rfl⟩ ⟨Nat.zero_le _, Nat.zero_le _⟩ hl.1 dX3_measure_151 (fun H locs X => ?_)
  obtain ⟨σ5, eσ5⟩ : ∃ x : St, x = up σ4 (b + 2 + 6) (upI (σ4 (b + 2 + 6)) i (vA f N i)) := ⟨_, rfl⟩
  rw [← eσ5] at X
  have fr : ∀ j : Nat, (j < b + 3 ∨ b + 12 < j) → σ5 j = σ j := fun j hj => by rw [eσ5]; simp only [up]; (repeat rw [if_neg (by omega)]); first | done | exact fr j hj
  refine r_aload_n F hl 7 rfl rfl dX3_measure_154 ?_
  refine r_iload_n F hl 8 rfl rfl dX3_measure_155 ?_
  refine r_lload F hl 1 rfl dX3_measure_156 ?_
  refine r_lload F hl 0 rfl dX3_measure_158 ?_
  refine d_cVV F X b (hb43 hb) (eK_P hb G _) rfl (c_X3_measureRoller l G σ5 b N r f i (vV f N i) (vA f N i) hb (by unfold PL; rw [fr 2 (by omega)]; exact hP) hW (by rw [fr b (by omega)]; exact hN) (by rw [fr (b + 2 + 0) (by omega)]; exact hf) hL (hi) (by omega) (by omega)) gv_RX3_97 rfl nd_X3_measureRoller rfl (rest := []) rfl (Nat.le_of_ble_eq_true rfl) ⟨Nat.le_of_ble_eq_true rfl, Nat.le_of_ble_eq_true rfl⟩ ⟨Nat.zero_le _, Nat.zero_le _⟩ hl.1 dX3_measure_160 (fun H locs X => ?_)
  obtain ⟨σ6, eσ6⟩ : ∃ x : St, x = up (up (up (up σ5 (b + 2 + 4) (upI (σ5 (b + 2 + 4)) i (fa f N r i))) (b + 2 + 7) (upI (σ5 (b + 2 + 7)) i (bn (fa f N r i) (vV f N i) (vA f N i)))) (b + 2 + 8) (upI (σ5 (b + 2 + 8)) i (uc (r 64) (fa f N r i * fa f N r i + (vV f N i) * (vV f N i)) (bn (fa f N r i) (vV f N i) (vA f N i))))) (b + 2 + 9) (upI (σ5 (b + 2 + 9)) i (1000 * ab (vV f N i) / fa f N r i)) := ⟨_, rfl⟩
  rw [← eσ6] at X
  have fr : ∀ j : Nat, (j < b + 3 ∨ b + 12 < j) → σ6 j = σ j := fun j hj => by rw [eσ6]; simp only [up]; (repeat rw [if_neg (by omega)]); first | done | exact fr j hj
  refine r_aload_n F hl 7 rfl rfl dX3_measure_163 ?_
  refine r_get F X b (hb43 hb) (eK_P hb G _) rfl gl_RX3 0 (by decide) rfl gf_RX3_16 rfl dX3_measure_164 ?_
  refine r_bipush F (by decide) dX3_measure_167 ?_
  refine d_cVI F X 1 (by decide) (eK_1 G _) rfl (c_X2_get l G σ6 (r 68) 8 (by omega) (by rw [fr 2 (by omega)]; exact hP.set 8 (by omega) (by omega))) gv_RX3_35 rfl nd_X2_get rfl (rest := []) rfl (Nat.le_of_ble_eq_true rfl) ⟨Nat.le_of_ble_eq_true rfl, Nat.le_of_ble_eq_true rfl⟩ ⟨Nat.zero_le _, Nat.zero_le _⟩ hl.1 dX3_measure_169 (fun H locs X => ?_)
  refine r_i2l F (by omega) dX3_measure_172 ?_
  refine r_lstore F hl [(16, .long (J (r 68))), (14, .long (J (vA f N i))), (12, .long (J (vV f N i))), (10, .long (J (((lw f N (i + 2)) - (2 * (lw f N (i + 1)))) + (lw f N i)))), (8, .long (J (d2 f N i))), (6, .long (J (lw f N (i + 1)))), (4, .long (J (lw f N (i - 1)))), (2, .long (J (lw f N i))), (0, .ref (gY G b)), (1, .int (I i))] (by decide) rfl dX3_measure_173 (fun ls hl => ?_)
  refine r_aload_n F hl 8 rfl rfl dX3_measure_175 ?_
  refine r_bipush F (by decide) dX3_measure_176 ?_
  refine r_iload_n F hl 9 rfl rfl dX3_measure_178 ?_
  refine r_aload_n F hl 8 rfl rfl dX3_measure_179 ?_
  refine r_iload_n F hl 9 rfl rfl dX3_measure_180 ?_
  refine d_cVJ F X b (hb43 hb) (eK_P hb G _) rfl (c_X3_rest l G σ6 b N r f i hb (by unfold PL; rw [fr 2 (by omega)]; exact hP) hW (by rw [fr b (by omega)]; exact hN) (by rw [fr (b + 2 + 0) (by omega)]; exact hf) hL (by omega)) gv_RX3_101 rfl nd_X3_rest rfl (rest := [.int (I i), .int (I 10), .ref (gY G b)]) rfl (Nat.le_of_ble_eq_true rfl) ⟨Nat.le_of_ble_eq_true rfl, Nat.le_of_ble_eq_true rfl⟩ ⟨Nat.zero_le _, Nat.zero_le _⟩ hl.1 dX3_measure_181 (fun H locs X => ?_)
  refine r_aload_n F hl 8 rfl rfl dX3_measure_184 ?_
  refine r_get F X b (hb43 hb) (eK_P hb G _) rfl gl_RX3 0 (by decide) rfl gf_RX3_16 rfl dX3_measure_185 ?_
  refine r_bipush F (by decide) dX3_measure_188 ?_
  refine d_cVI F X 1 (by decide) (eK_1 G _) rfl (c_X2_get l G σ6 (r 67) 7 (by omega) (by rw [fr 2 (by omega)]; exact hP.set 7 (by omega) (by omega))) gv_RX3_35 rfl nd_X2_get rfl (rest := [.long (J (rs f N r i)), .int (I i), .int (I 10), .ref (gY G b)]) rfl (Nat.le_of_ble_eq_true rfl) ⟨Nat.le_of_ble_eq_true rfl, Nat.le_of_ble_eq_true rfl⟩ ⟨Nat.zero_le _, Nat.zero_le _⟩ hl.1 dX3_measure_190 (fun H locs X => ?_)
  refine r_i2l F (by omega) dX3_measure_193 ?_
  refine r_lload F hl 0 rfl dX3_measure_194 ?_
  refine r_lmul F dX3_measure_196 ?_
  refine r_lload F hl 0 rfl dX3_measure_197 ?_
  refine r_lmul F dX3_measure_199 ?_
  refine r_lload F hl 4 rfl dX3_measure_200 ?_
  refine r_lmul F dX3_measure_202 ?_
  refine r_ldc2 F 1000 gk_RX3_105 (by decide +kernel) dX3_measure_203 ?_
  refine d_cSJ F X (c_J9_floorDiv_f86c9 l G σ6 ((((r 67) * (r 68)) * (r 68)) * (d2 f N i)) 1000 (by omega) (by omega)) gv_RX3_79 nd_J9_floorDiv_f86c9 rfl (rest := [.long (J (rs f N r i)), .int (I i), .int (I 10), .ref (gY G b)]) rfl (Nat.le_of_ble_eq_true rfl) ⟨Nat.le_of_ble_eq_true rfl, Nat.le_of_ble_eq_true rfl⟩ ⟨Nat.zero_le _, Nat.zero_le _⟩ hl.1 dX3_measure_206 (fun H locs X => ?_)
  refine r_ladd F dX3_measure_209 ?_
  refine r_eqJ (b := fo f N r i) (rfl) ?_
  refine d_cVV F X b (hb43 hb) (eK_P hb G _) rfl (c_X3_put l G σ6 b 10 i (fo f N r i) hb (by omega) (by omega)) gv_RX3_59 rfl nd_X3_put rfl (rest := []) rfl (Nat.le_of_ble_eq_true rfl) ⟨Nat.le_of_ble_eq_true rfl, Nat.le_of_ble_eq_true rfl⟩ ⟨Nat.zero_le _, Nat.zero_le _⟩ hl.1 dX3_measure_210 (fun H locs X => ?_)
  obtain ⟨σ7, eσ7⟩ : ∃ x : St, x = up σ6 (b + 2 + 10) (upI (σ6 (b + 2 + 10)) i (fo f N r i)) := ⟨_, rfl⟩
  rw [← eσ7] at X
  have fr : ∀ j : Nat, (j < b + 3 ∨ b + 12 < j) → σ7 j = σ j := fun j hj => by rw [eσ7]; simp only [up]; (repeat rw [if_neg (by omega)]); first | done | exact fr j hj
  exact r_vret F X hr hk dX3_measure_213 (by subst eσ7 eσ6 eσ5 eσ4 eσ3 eσ2 eσ1; funext k9; rcases (show (k9 < b + 3 ∨ b + 12 < k9) ∨ k9 = b + 2 + 1 ∨ k9 = b + 2 + 2 ∨ k9 = b + 2 + 3 ∨ k9 = b + 2 + 4 ∨ k9 = b + 2 + 5 ∨ k9 = b + 2 + 6 ∨ k9 = b + 2 + 7 ∨ k9 = b + 2 + 8 ∨ k9 = b + 2 + 9 ∨ k9 = b + 2 + 10 by omega) with q | q | q | q | q | q | q | q | q | q | q; (rw [msr, if_neg (by omega)]; exact fr k9 q); all_goals (subst q; rw [msr, if_pos (by omega), Nat.add_sub_cancel_left]; simp [up, mval]; try rfl))
