theorem c_X4_change (l : Launch) (G : GT) (σ : St) (N : Int) (r : Int → Int) (n : Int) (hs : Int → Int → Int) (A : Int) (B : Int) (k : Int) (v : Int) (hC : CX σ N r n hs) (hk2 : 2 ≤ k ∧ k ≤ 10) (hv : -2147483648 ≤ v ∧ v < 2147483648) (hA : stv 1 k = A) (hB : stv 2 k = B) (hWv : A ≤ v ∧ v ≤ B → WF N (upI r (60 + k) v)) : Ct l yX4_change cX4_change 3 (some .int) 4 G [.ref (gY G 0), .int (I k), .int (I v)] σ (QI G (fun x9 τ9 => KX σ τ9 ∧ if A ≤ v ∧ v ≤ B then x9 = r (60 + k) ∧ CX τ9 N (upI r (60 + k) v) (min (n + 1) 20) (hpush r hs) else x9 = -1 ∧ CX τ9 N r n hs)) := by
  refine mt (own := RX4) (plainFor_of_name rfl) rfl (Nat.le_of_ble_eq_true rfl) ?_
  intro p e s m args below meth c ls F hr hk X hl
  have hl : lv_has ls 3 [(0, .ref (gY G 0)), (1, .int (I k)), (2, .int (I v))] := hl
  have hP := hC.1
  have hW := hC.2.1
  have hH := hC.2.2.1
  have hw := hW.num
  refine r_iload_n F hl 1 rfl rfl dX4_change_0 ?_
  refine r_iload_n F hl 2 rfl rfl dX4_change_1 ?_
  refine d_cSI F X (c_X4_fits l G σ k v (by omega) (by omega)) gv_RX4_41 nd_X4_fits rfl (rest := []) rfl (Nat.le_of_ble_eq_true rfl) ⟨Nat.le_of_ble_eq_true rfl, Nat.le_of_ble_eq_true rfl⟩ ⟨Nat.zero_le _, Nat.zero_le _⟩ hl.1 dX4_change_2 (fun H locs X => ?_)
  refine r_bz_ne F 10 (0 ≤ k ∧ k < 12 ∧ stv 1 k ≤ v ∧ v ≤ stv 2 k) rfl (by decide) dX4_change_5 (fun c1 => ?_) (fun c1 => ?_)
  · skip
    refine r_aload_n F hl 0 rfl rfl dX4_change_10 ?_
    refine r_cVV F X 0 (by decide) (eK_0 G _) rfl (c_X4_remember l G σ N r n hs hP hW hH) gv_RX4_62 rfl nd_X4_remember rfl (rest := []) rfl (Nat.le_of_ble_eq_true rfl) ⟨Nat.le_of_ble_eq_true rfl, Nat.le_of_ble_eq_true rfl⟩ ⟨Nat.zero_le _, Nat.zero_le _⟩ hl.1 dX4_change_11 (fun ρ H locs hR X => ?_)
    have hP1 := hR.pl hP
    refine r_aload_n F hl 0 rfl rfl dX4_change_14 ?_
    refine r_get F X 0 (by decide) (eK_0 G _) rfl gl_RX4 0 (by decide) rfl gf_RX4_12 rfl dX4_change_15 ?_
    refine r_iload_n F hl 1 rfl rfl dX4_change_18 ?_
    refine r_iload_n F hl 2 rfl rfl dX4_change_19 ?_
    refine d_cVI F X 1 (by decide) (eK_1 G _) rfl (c_X2_exchange l G ρ (r (60 + k)) k v (by omega) (hP1.set k (by omega) (by omega))) gv_RX4_73 rfl nd_X2_exchange rfl (rest := []) rfl (Nat.le_of_ble_eq_true rfl) ⟨Nat.le_of_ble_eq_true rfl, Nat.le_of_ble_eq_true rfl⟩ ⟨Nat.zero_le _, Nat.zero_le _⟩ hl.1 dX4_change_20 (fun H locs X => ?_)
    obtain ⟨σ1, eσ1⟩ : ∃ x : St, x = up ρ 2 (upI (ρ 2) k v) := ⟨_, rfl⟩
    rw [← eσ1] at X
    exact r_iret F X hr hk dX4_change_23 (by have p0 : PLf (ρ 2) N r := hP1; have p1 : PLf (σ1 2) N _ := (by rw [eσ1, up_eq]; exact plf_set p0 (by omega)); have hz := told_fin hR (τ := σ1) (fun k9 q9 => by rw [eσ1, up_ne q9]) (p1) (hWv (by omega)); exact ⟨hz.1, by rw [if_pos (by omega)]; exact ⟨rfl, hz.2⟩⟩)
  · skip
    refine r_iconst F dX4_change_8 ?_
    exact r_iret F X hr hk dX4_change_9 (⟨KX.refl σ, by rw [if_neg (by omega)]; exact ⟨rfl, hC⟩⟩)
theorem c_X4_start (l : Launch) (G : GT) (σ : St) (N : Int) (r : Int → Int) (n : Int) (hs : Int → Int → Int) (v : Int) (hC : CX σ N r n hs) (hv : -2147483648 ≤ v ∧ v < 2147483648) : Ct l yX4_start cX4_start 2 (some .int) 5 G [.ref (gY G 0), .int (I v)] σ (QI G (fun x9 τ9 => KX σ τ9 ∧ if 0 ≤ v ∧ v ≤ 999 then x9 = r 62 ∧ CX τ9 N (upI r 62 v) (min (n + 1) 20) (hpush r hs) else x9 = -1 ∧ CX τ9 N r n hs)) := by
  refine mt (own := RX4) (plainFor_of_name rfl) rfl (Nat.le_of_ble_eq_true rfl) ?_
  intro p e s m args below meth c ls F hr hk X hl
  have hl : lv_has ls 2 [(0, .ref (gY G 0)), (1, .int (I v))] := hl
  refine r_aload_n F hl 0 rfl rfl dX4_start_0 ?_
  refine r_iconst F dX4_start_1 ?_
  refine r_iload_n F hl 1 rfl rfl dX4_start_2 ?_
  refine r_cVI F X 0 (by decide) (eK_0 G _) rfl (c_X4_change l G σ N r n hs 0 999 2 v hC (by omega) (by omega) rfl rfl (fun h9 => hC.2.1.setn (k := 62) (by omega))) gv_RX4_76 rfl nd_X4_change rfl (rest := []) rfl (Nat.le_of_ble_eq_true rfl) ⟨Nat.le_of_ble_eq_true rfl, Nat.le_of_ble_eq_true rfl⟩ ⟨Nat.zero_le _, Nat.zero_le _⟩ hl.1 dX4_start_3 (fun x1 σ1 H locs hc1 X => ?_)
  exact r_iret F X hr hk dX4_start_6 (hc1)
theorem c_X4_base (l : Launch) (G : GT) (σ : St) (N : Int) (r : Int → Int) (n : Int) (hs : Int → Int → Int) (v : Int) (hC : CX σ N r n hs) (hv : -2147483648 ≤ v ∧ v < 2147483648) : Ct l yX4_base cX4_base 2 (some .int) 5 G [.ref (gY G 0), .int (I v)] σ (QI G (fun x9 τ9 => KX σ τ9 ∧ if 10 ≤ v ∧ v ≤ 9999 then x9 = r 63 ∧ CX τ9 N (upI r 63 v) (min (n + 1) 20) (hpush r hs) else x9 = -1 ∧ CX τ9 N r n hs)) := by
  refine mt (own := RX4) (plainFor_of_name rfl) rfl (Nat.le_of_ble_eq_true rfl) ?_
  intro p e s m args below meth c ls F hr hk X hl
  have hl : lv_has ls 2 [(0, .ref (gY G 0)), (1, .int (I v))] := hl
  refine r_aload_n F hl 0 rfl rfl dX4_base_0 ?_
  refine r_iconst F dX4_base_1 ?_
  refine r_iload_n F hl 1 rfl rfl dX4_base_2 ?_
  refine r_cVI F X 0 (by decide) (eK_0 G _) rfl (c_X4_change l G σ N r n hs 10 9999 3 v hC (by omega) (by omega) rfl rfl (fun h9 => hC.2.1.setn (k := 63) (by omega))) gv_RX4_76 rfl nd_X4_change rfl (rest := []) rfl (Nat.le_of_ble_eq_true rfl) ⟨Nat.le_of_ble_eq_true rfl, Nat.le_of_ble_eq_true rfl⟩ ⟨Nat.zero_le _, Nat.zero_le _⟩ hl.1 dX4_base_3 (fun x1 σ1 H locs hc1 X => ?_)
  exact r_iret F X hr hk dX4_base_6 (hc1)
theorem c_X4_roller (l : Launch) (G : GT) (σ : St) (N : Int) (r : Int → Int) (n : Int) (hs : Int → Int → Int) (v : Int) (hC : CX σ N r n hs) (hv : -2147483648 ≤ v ∧ v < 2147483648) : Ct l yX4_roller cX4_roller 2 (some .int) 5 G [.ref (gY G 0), .int (I v)] σ (QI G (fun x9 τ9 => KX σ τ9 ∧ if 1 ≤ v ∧ v ≤ 9999 then x9 = r 64 ∧ CX τ9 N (upI r 64 v) (min (n + 1) 20) (hpush r hs) else x9 = -1 ∧ CX τ9 N r n hs)) := by
  refine mt (own := RX4) (plainFor_of_name rfl) rfl (Nat.le_of_ble_eq_true rfl) ?_
  intro p e s m args below meth c ls F hr hk X hl
  have hl : lv_has ls 2 [(0, .ref (gY G 0)), (1, .int (I v))] := hl
  refine r_aload_n F hl 0 rfl rfl dX4_roller_0 ?_
  refine r_iconst F dX4_roller_1 ?_
  refine r_iload_n F hl 1 rfl rfl dX4_roller_2 ?_
  refine r_cVI F X 0 (by decide) (eK_0 G _) rfl (c_X4_change l G σ N r n hs 1 9999 4 v hC (by omega) (by omega) rfl rfl (fun h9 => hC.2.1.setn (k := 64) (by omega))) gv_RX4_76 rfl nd_X4_change rfl (rest := []) rfl (Nat.le_of_ble_eq_true rfl) ⟨Nat.le_of_ble_eq_true rfl, Nat.le_of_ble_eq_true rfl⟩ ⟨Nat.zero_le _, Nat.zero_le _⟩ hl.1 dX4_roller_3 (fun x1 σ1 H locs hc1 X => ?_)
  exact r_iret F X hr hk dX4_roller_6 (hc1)
theorem c_X4_speed (l : Launch) (G : GT) (σ : St) (N : Int) (r : Int → Int) (n : Int) (hs : Int → Int → Int) (v : Int) (hC : CX σ N r n hs) (hv : -2147483648 ≤ v ∧ v < 2147483648) : Ct l yX4_speed cX4_speed 2 (some .int) 5 G [.ref (gY G 0), .int (I v)] σ (QI G (fun x9 τ9 => KX σ τ9 ∧ if 0 ≤ v ∧ v ≤ 9999 then x9 = r 68 ∧ CX τ9 N (upI r 68 v) (min (n + 1) 20) (hpush r hs) else x9 = -1 ∧ CX τ9 N r n hs)) := by
  refine mt (own := RX4) (plainFor_of_name rfl) rfl (Nat.le_of_ble_eq_true rfl) ?_
  intro p e s m args below meth c ls F hr hk X hl
  have hl : lv_has ls 2 [(0, .ref (gY G 0)), (1, .int (I v))] := hl
  refine r_aload_n F hl 0 rfl rfl dX4_speed_0 ?_
  refine r_bipush F (by decide) dX4_speed_1 ?_
  refine r_iload_n F hl 1 rfl rfl dX4_speed_3 ?_
  refine r_cVI F X 0 (by decide) (eK_0 G _) rfl (c_X4_change l G σ N r n hs 0 9999 8 v hC (by omega) (by omega) rfl rfl (fun h9 => hC.2.1.setn (k := 68) (by omega))) gv_RX4_76 rfl nd_X4_change rfl (rest := []) rfl (Nat.le_of_ble_eq_true rfl) ⟨Nat.le_of_ble_eq_true rfl, Nat.le_of_ble_eq_true rfl⟩ ⟨Nat.zero_le _, Nat.zero_le _⟩ hl.1 dX4_speed_4 (fun x1 σ1 H locs hc1 X => ?_)
  exact r_iret F X hr hk dX4_speed_7 (hc1)
theorem c_X4_steepest (l : Launch) (G : GT) (σ : St) (N : Int) (r : Int → Int) (n : Int) (hs : Int → Int → Int) (v : Int) (hC : CX σ N r n hs) (hv : -2147483648 ≤ v ∧ v < 2147483648) : Ct l yX4_steepest cX4_steepest 2 (some .int) 5 G [.ref (gY G 0), .int (I v)] σ (QI G (fun x9 τ9 => KX σ τ9 ∧ if 0 ≤ v ∧ v ≤ 9999 then x9 = r 69 ∧ CX τ9 N (upI r 69 v) (min (n + 1) 20) (hpush r hs) else x9 = -1 ∧ CX τ9 N r n hs)) := by
  refine mt (own := RX4) (plainFor_of_name rfl) rfl (Nat.le_of_ble_eq_true rfl) ?_
  intro p e s m args below meth c ls F hr hk X hl
  have hl : lv_has ls 2 [(0, .ref (gY G 0)), (1, .int (I v))] := hl
  refine r_aload_n F hl 0 rfl rfl dX4_steepest_0 ?_
  refine r_bipush F (by decide) dX4_steepest_1 ?_
  refine r_iload_n F hl 1 rfl rfl dX4_steepest_3 ?_
  refine r_cVI F X 0 (by decide) (eK_0 G _) rfl (c_X4_change l G σ N r n hs 0 9999 9 v hC (by omega) (by omega) rfl rfl (fun h9 => hC.2.1.setn (k := 69) (by omega))) gv_RX4_76 rfl nd_X4_change rfl (rest := []) rfl (Nat.le_of_ble_eq_true rfl) ⟨Nat.le_of_ble_eq_true rfl, Nat.le_of_ble_eq_true rfl⟩ ⟨Nat.zero_le _, Nat.zero_le _⟩ hl.1 dX4_steepest_4 (fun x1 σ1 H locs hc1 X => ?_)
  exact r_iret F X hr hk dX4_steepest_7 (hc1)
theorem c_X4_slack (l : Launch) (G : GT) (σ : St) (N : Int) (r : Int → Int) (n : Int) (hs : Int → Int → Int) (v : Int) (hC : CX σ N r n hs) (hv : -2147483648 ≤ v ∧ v < 2147483648) : Ct l yX4_slack cX4_slack 2 (some .int) 5 G [.ref (gY G 0), .int (I v)] σ (QI G (fun x9 τ9 => KX σ τ9 ∧ if 0 ≤ v ∧ v ≤ 99 then x9 = r 70 ∧ CX τ9 N (upI r 70 v) (min (n + 1) 20) (hpush r hs) else x9 = -1 ∧ CX τ9 N r n hs)) := by
  refine mt (own := RX4) (plainFor_of_name rfl) rfl (Nat.le_of_ble_eq_true rfl) ?_
  intro p e s m args below meth c ls F hr hk X hl
  have hl : lv_has ls 2 [(0, .ref (gY G 0)), (1, .int (I v))] := hl
  refine r_aload_n F hl 0 rfl rfl dX4_slack_0 ?_
  refine r_bipush F (by decide) dX4_slack_1 ?_
  refine r_iload_n F hl 1 rfl rfl dX4_slack_3 ?_
  refine r_cVI F X 0 (by decide) (eK_0 G _) rfl (c_X4_change l G σ N r n hs 0 99 10 v hC (by omega) (by omega) rfl rfl (fun h9 => hC.2.1.setn (k := 70) (by omega))) gv_RX4_76 rfl nd_X4_change rfl (rest := []) rfl (Nat.le_of_ble_eq_true rfl) ⟨Nat.le_of_ble_eq_true rfl, Nat.le_of_ble_eq_true rfl⟩ ⟨Nat.zero_le _, Nat.zero_le _⟩ hl.1 dX4_slack_4 (fun x1 σ1 H locs hc1 X => ?_)
  exact r_iret F X hr hk dX4_slack_7 (hc1)
theorem c_X4_spring (l : Launch) (G : GT) (σ : St) (N : Int) (r : Int → Int) (n : Int) (hs : Int → Int → Int) (a : Int) (w2 : Int) (w3 : Int) (hC : CX σ N r n hs) (ha : -2147483648 ≤ a ∧ a < 2147483648) (hw2 : -2147483648 ≤ w2 ∧ w2 < 2147483648) (hw3 : -2147483648 ≤ w3 ∧ w3 < 2147483648) : Ct l yX4_spring cX4_spring 4 (some .boolean) 4 G [.ref (gY G 0), .int (I a), .int (I w2), .int (I w3)] σ (QI G (fun x9 τ9 => KX σ τ9 ∧ if 0 ≤ a ∧ a ≤ 99999 ∧ 0 ≤ w2 ∧ w2 ≤ 999 ∧ 1 ≤ w3 ∧ w3 ≤ 999 then x9 = 1 ∧ CX τ9 N (upI (upI (upI r 65 a) 66 w2) 67 w3) (min (n + 1) 20) (hpush r hs) else x9 = 0 ∧ CX τ9 N r n hs)) := by
  refine mt (own := RX4) (plainFor_of_name rfl) rfl (Nat.le_of_ble_eq_true rfl) ?_
  intro p e s m args below meth c ls F hr hk X hl
  have hl : lv_has ls 4 [(0, .ref (gY G 0)), (1, .int (I a)), (2, .int (I w2)), (3, .int (I w3))] := hl
  have hP := hC.1
  have hW := hC.2.1
  have hH := hC.2.2.1
  have hw := hW.num
  have hs5 : stv 1 5 = 0 := rfl; have hg5 : stv 2 5 = 99999 := rfl
  have hs6 : stv 1 6 = 0 := rfl; have hg6 : stv 2 6 = 999 := rfl
  have hs7 : stv 1 7 = 1 := rfl; have hg7 : stv 2 7 = 999 := rfl
  refine r_iconst F dX4_spring_0 ?_
  refine r_iload_n F hl 1 rfl rfl dX4_spring_1 ?_
  refine d_cSI F X (c_X4_fits l G σ 5 a (by omega) (by omega)) gv_RX4_41 nd_X4_fits rfl (rest := []) rfl (Nat.le_of_ble_eq_true rfl) ⟨Nat.le_of_ble_eq_true rfl, Nat.le_of_ble_eq_true rfl⟩ ⟨Nat.zero_le _, Nat.zero_le _⟩ hl.1 dX4_spring_2 (fun H locs X => ?_)
  refine r_bz_eq F 26 (0 ≤ 5 ∧ 5 < 12 ∧ stv 1 5 ≤ a ∧ a ≤ stv 2 5) rfl (by decide) dX4_spring_5 (fun c1 => ?_) (fun c1 => ?_)
  · skip
    refine r_iconst F dX4_spring_26 ?_
    exact r_zret F X hr hk (by omega) dX4_spring_27 (⟨KX.refl σ, by rw [if_neg (by omega)]; exact ⟨rfl, hC⟩⟩)
  · skip
    refine r_bipush F (by decide) dX4_spring_8 ?_
    refine r_iload_n F hl 2 rfl rfl dX4_spring_10 ?_
    refine d_cSI F X (c_X4_fits l G σ 6 w2 (by omega) (by omega)) gv_RX4_41 nd_X4_fits rfl (rest := []) rfl (Nat.le_of_ble_eq_true rfl) ⟨Nat.le_of_ble_eq_true rfl, Nat.le_of_ble_eq_true rfl⟩ ⟨Nat.zero_le _, Nat.zero_le _⟩ hl.1 dX4_spring_11 (fun H locs X => ?_)
    refine r_bz_eq F 26 (0 ≤ 6 ∧ 6 < 12 ∧ stv 1 6 ≤ w2 ∧ w2 ≤ stv 2 6) rfl (by decide) dX4_spring_14 (fun c2 => ?_) (fun c2 => ?_)
    · skip
      refine r_iconst F dX4_spring_26 ?_
      exact r_zret F X hr hk (by omega) dX4_spring_27 (⟨KX.refl σ, by rw [if_neg (by omega)]; exact ⟨rfl, hC⟩⟩)
    · skip
      refine r_bipush F (by decide) dX4_spring_17 ?_
      refine r_iload_n F hl 3 rfl rfl dX4_spring_19 ?_
      refine d_cSI F X (c_X4_fits l G σ 7 w3 (by omega) (by omega)) gv_RX4_41 nd_X4_fits rfl (rest := []) rfl (Nat.le_of_ble_eq_true rfl) ⟨Nat.le_of_ble_eq_true rfl, Nat.le_of_ble_eq_true rfl⟩ ⟨Nat.zero_le _, Nat.zero_le _⟩ hl.1 dX4_spring_20 (fun H locs X => ?_)
      refine r_bz_ne F 28 (0 ≤ 7 ∧ 7 < 12 ∧ stv 1 7 ≤ w3 ∧ w3 ≤ stv 2 7) rfl (by decide) dX4_spring_23 (fun c3 => ?_) (fun c3 => ?_)
      · skip
        refine r_aload_n F hl 0 rfl rfl dX4_spring_28 ?_
        refine r_cVV F X 0 (by decide) (eK_0 G _) rfl (c_X4_remember l G σ N r n hs hP hW hH) gv_RX4_62 rfl nd_X4_remember rfl (rest := []) rfl (Nat.le_of_ble_eq_true rfl) ⟨Nat.le_of_ble_eq_true rfl, Nat.le_of_ble_eq_true rfl⟩ ⟨Nat.zero_le _, Nat.zero_le _⟩ hl.1 dX4_spring_29 (fun ρ H locs hR X => ?_)
        have hP1 := hR.pl hP
        refine r_aload_n F hl 0 rfl rfl dX4_spring_32 ?_
        refine r_get F X 0 (by decide) (eK_0 G _) rfl gl_RX4 0 (by decide) rfl gf_RX4_12 rfl dX4_spring_33 ?_
        refine r_iconst F dX4_spring_36 ?_
        refine r_iload_n F hl 1 rfl rfl dX4_spring_37 ?_
        refine d_cVV F X 1 (by decide) (eK_1 G _) rfl (c_X2_put l G ρ 5 a (by omega)) gv_RX4_55 rfl nd_X2_put rfl (rest := []) rfl (Nat.le_of_ble_eq_true rfl) ⟨Nat.le_of_ble_eq_true rfl, Nat.le_of_ble_eq_true rfl⟩ ⟨Nat.zero_le _, Nat.zero_le _⟩ hl.1 dX4_spring_38 (fun H locs X => ?_)
        obtain ⟨σ1, eσ1⟩ : ∃ x : St, x = up ρ 2 (upI (ρ 2) 5 a) := ⟨_, rfl⟩
        rw [← eσ1] at X
        refine r_aload_n F hl 0 rfl rfl dX4_spring_41 ?_
        refine r_get F X 0 (by decide) (eK_0 G _) rfl gl_RX4 0 (by decide) rfl gf_RX4_12 rfl dX4_spring_42 ?_
        refine r_bipush F (by decide) dX4_spring_45 ?_
        refine r_iload_n F hl 2 rfl rfl dX4_spring_47 ?_
        refine d_cVV F X 1 (by decide) (eK_1 G _) rfl (c_X2_put l G σ1 6 w2 (by omega)) gv_RX4_55 rfl nd_X2_put rfl (rest := []) rfl (Nat.le_of_ble_eq_true rfl) ⟨Nat.le_of_ble_eq_true rfl, Nat.le_of_ble_eq_true rfl⟩ ⟨Nat.zero_le _, Nat.zero_le _⟩ hl.1 dX4_spring_48 (fun H locs X => ?_)
        obtain ⟨σ2, eσ2⟩ : ∃ x : St, x = up σ1 2 (upI (σ1 2) 6 w2) := ⟨_, rfl⟩
        rw [← eσ2] at X
        refine r_aload_n F hl 0 rfl rfl dX4_spring_51 ?_
        refine r_get F X 0 (by decide) (eK_0 G _) rfl gl_RX4 0 (by decide) rfl gf_RX4_12 rfl dX4_spring_52 ?_
        refine r_bipush F (by decide) dX4_spring_55 ?_
        refine r_iload_n F hl 3 rfl rfl dX4_spring_57 ?_
        refine d_cVV F X 1 (by decide) (eK_1 G _) rfl (c_X2_put l G σ2 7 w3 (by omega)) gv_RX4_55 rfl nd_X2_put rfl (rest := []) rfl (Nat.le_of_ble_eq_true rfl) ⟨Nat.le_of_ble_eq_true rfl, Nat.le_of_ble_eq_true rfl⟩ ⟨Nat.zero_le _, Nat.zero_le _⟩ hl.1 dX4_spring_58 (fun H locs X => ?_)
        obtain ⟨σ3, eσ3⟩ : ∃ x : St, x = up σ2 2 (upI (σ2 2) 7 w3) := ⟨_, rfl⟩
        rw [← eσ3] at X
        refine r_iconst F dX4_spring_61 ?_
        exact r_zret F X hr hk (by omega) dX4_spring_62 (by have p0 : PLf (ρ 2) N r := hP1; have p1 : PLf (σ1 2) N _ := (by rw [eσ1, up_eq]; exact plf_set p0 (k := 5) (by omega)); have p2 : PLf (σ2 2) N _ := (by rw [eσ2, up_eq]; exact plf_set p1 (k := 6) (by omega)); have p3 : PLf (σ3 2) N _ := (by rw [eσ3, up_eq]; exact plf_set p2 (k := 7) (by omega)); have hz := told_fin hR (τ := σ3) (fun k9 q9 => by rw [eσ3, up_ne q9, eσ2, up_ne q9, eσ1, up_ne q9]) (p3) (((hW.setn (k := 65) (by omega)).setn (k := 66) (by omega)).setn (k := 67) (by omega)); exact ⟨hz.1, by rw [if_pos (by omega)]; exact ⟨rfl, hz.2⟩⟩)
      · skip
        refine r_iconst F dX4_spring_26 ?_
        exact r_zret F X hr hk (by omega) dX4_spring_27 (⟨KX.refl σ, by rw [if_neg (by omega)]; exact ⟨rfl, hC⟩⟩)
theorem c_X4_segment (l : Launch) (G : GT) (σ : St) (N : Int) (r : Int → Int) (n : Int) (hs : Int → Int → Int) (a : Int) (w2 : Int) (w3 : Int) (hC : CX σ N r n hs) (ha : -2147483648 ≤ a ∧ a < 2147483648) (hw2 : -2147483648 ≤ w2 ∧ w2 < 2147483648) (hw3 : -2147483648 ≤ w3 ∧ w3 < 2147483648) : Ct l yX4_segment cX4_segment 5 (some .int) 4 G [.ref (gY G 0), .int (I a), .int (I w2), .int (I w3)] σ (QI G (fun x9 τ9 => KX σ τ9 ∧ if r 60 < 12 ∧ 1 ≤ a ∧ a ≤ 60 ∧ 0 ≤ w2 ∧ w2 ≤ 999 ∧ 0 ≤ w3 ∧ w3 ≤ 3 then x9 = r 60 ∧ CX τ9 N (rseg r a w2 w3) (min (n + 1) 20) (hpush r hs) else x9 = -1 ∧ CX τ9 N r n hs)) := by
  refine mt (own := RX4) (plainFor_of_name rfl) rfl (Nat.le_of_ble_eq_true rfl) ?_
  intro p e s m args below meth c ls F hr hk X hl
  have hl : lv_has ls 5 [(0, .ref (gY G 0)), (1, .int (I a)), (2, .int (I w2)), (3, .int (I w3))] := hl
  have hP := hC.1
  have hW := hC.2.1
  have hH := hC.2.2.1
  have hw := hW.num
  have hs0 : stv 3 0 = 1 := rfl; have hg0 : stv 4 0 = 60 := rfl
  have hs1 : stv 3 1 = 0 := rfl; have hg1 : stv 4 1 = 999 := rfl
  have hs2 : stv 3 2 = 0 := rfl; have hg2 : stv 4 2 = 3 := rfl
  refine r_aload_n F hl 0 rfl rfl dX4_segment_0 ?_
  refine r_get F X 0 (by decide) (eK_0 G _) rfl gl_RX4 0 (by decide) rfl gf_RX4_12 rfl dX4_segment_1 ?_
  refine r_iconst F dX4_segment_4 ?_
  refine d_cVI F X 1 (by decide) (eK_1 G _) rfl (c_X2_get l G σ (r 60) 1 (by omega) (hP.se)) gv_RX4_45 rfl nd_X2_get rfl (rest := []) rfl (Nat.le_of_ble_eq_true rfl) ⟨Nat.le_of_ble_eq_true rfl, Nat.le_of_ble_eq_true rfl⟩ ⟨Nat.zero_le _, Nat.zero_le _⟩ hl.1 dX4_segment_5 (fun H locs X => ?_)
  refine r_istore F hl [(4, .int (I (r 60))), (0, .ref (gY G 0)), (1, .int (I a)), (2, .int (I w2)), (3, .int (I w3))] (by decide) rfl dX4_segment_8 (fun ls hl => ?_)
  refine r_iload F hl 0 rfl dX4_segment_10 ?_
  refine r_bipush F (by decide) dX4_segment_12 ?_
  refine r_icmp_ge F 41 (by decide) (by omega) (by omega) dX4_segment_14 (fun c1 => ?_) (fun c1 => ?_)
  · skip
    refine r_iconst F dX4_segment_41 ?_
    exact r_iret F X hr hk dX4_segment_42 (⟨KX.refl σ, by rw [if_neg (by omega)]; exact ⟨rfl, hC⟩⟩)
  · skip
    refine r_iconst F dX4_segment_17 ?_
    refine r_iload_n F hl 2 rfl rfl dX4_segment_18 ?_
    refine d_cSI F X (c_X4_fitsPart l G σ 0 a (by omega) (by omega)) gv_RX4_59 nd_X4_fitsPart rfl (rest := []) rfl (Nat.le_of_ble_eq_true rfl) ⟨Nat.le_of_ble_eq_true rfl, Nat.le_of_ble_eq_true rfl⟩ ⟨Nat.zero_le _, Nat.zero_le _⟩ hl.1 dX4_segment_19 (fun H locs X => ?_)
    refine r_bz_eq F 41 (0 ≤ 0 ∧ 0 < 3 ∧ stv 3 0 ≤ a ∧ a ≤ stv 4 0) rfl (by decide) dX4_segment_22 (fun c2 => ?_) (fun c2 => ?_)
    · skip
      refine r_iconst F dX4_segment_41 ?_
      exact r_iret F X hr hk dX4_segment_42 (⟨KX.refl σ, by rw [if_neg (by omega)]; exact ⟨rfl, hC⟩⟩)
    · skip
      refine r_iconst F dX4_segment_25 ?_
      refine r_iload_n F hl 3 rfl rfl dX4_segment_26 ?_
      refine d_cSI F X (c_X4_fitsPart l G σ 1 w2 (by omega) (by omega)) gv_RX4_59 nd_X4_fitsPart rfl (rest := []) rfl (Nat.le_of_ble_eq_true rfl) ⟨Nat.le_of_ble_eq_true rfl, Nat.le_of_ble_eq_true rfl⟩ ⟨Nat.zero_le _, Nat.zero_le _⟩ hl.1 dX4_segment_27 (fun H locs X => ?_)
      refine r_bz_eq F 41 (0 ≤ 1 ∧ 1 < 3 ∧ stv 3 1 ≤ w2 ∧ w2 ≤ stv 4 1) rfl (by decide) dX4_segment_30 (fun c3 => ?_) (fun c3 => ?_)
      · skip
        refine r_iconst F dX4_segment_41 ?_
        exact r_iret F X hr hk dX4_segment_42 (⟨KX.refl σ, by rw [if_neg (by omega)]; exact ⟨rfl, hC⟩⟩)
      · skip
        refine r_iconst F dX4_segment_33 ?_
        refine r_iload_n F hl 4 rfl rfl dX4_segment_34 ?_
        refine d_cSI F X (c_X4_fitsPart l G σ 2 w3 (by omega) (by omega)) gv_RX4_59 nd_X4_fitsPart rfl (rest := []) rfl (Nat.le_of_ble_eq_true rfl) ⟨Nat.le_of_ble_eq_true rfl, Nat.le_of_ble_eq_true rfl⟩ ⟨Nat.zero_le _, Nat.zero_le _⟩ hl.1 dX4_segment_35 (fun H locs X => ?_)
        refine r_bz_ne F 43 (0 ≤ 2 ∧ 2 < 3 ∧ stv 3 2 ≤ w3 ∧ w3 ≤ stv 4 2) rfl (by decide) dX4_segment_38 (fun c4 => ?_) (fun c4 => ?_)
        · skip
          refine r_aload_n F hl 1 rfl rfl dX4_segment_43 ?_
          refine r_cVV F X 0 (by decide) (eK_0 G _) rfl (c_X4_remember l G σ N r n hs hP hW hH) gv_RX4_62 rfl nd_X4_remember rfl (rest := []) rfl (Nat.le_of_ble_eq_true rfl) ⟨Nat.le_of_ble_eq_true rfl, Nat.le_of_ble_eq_true rfl⟩ ⟨Nat.zero_le _, Nat.zero_le _⟩ hl.1 dX4_segment_44 (fun ρ H locs hR X => ?_)
          have hP1 := hR.pl hP
          refine r_aload_n F hl 1 rfl rfl dX4_segment_47 ?_
          refine r_get F X 0 (by decide) (eK_0 G _) rfl gl_RX4 0 (by decide) rfl gf_RX4_12 rfl dX4_segment_48 ?_
          refine r_iconst F dX4_segment_51 ?_
          refine r_iload F hl 0 rfl dX4_segment_52 ?_
          refine r_iconst F dX4_segment_54 ?_
          refine r_iadd F dX4_segment_55 ?_
          refine d_cVV F X 1 (by decide) (eK_1 G _) rfl (c_X2_put l G ρ 1 ((r 60) + 1) (by omega)) gv_RX4_55 rfl nd_X2_put rfl (rest := []) rfl (Nat.le_of_ble_eq_true rfl) ⟨Nat.le_of_ble_eq_true rfl, Nat.le_of_ble_eq_true rfl⟩ ⟨Nat.zero_le _, Nat.zero_le _⟩ hl.1 dX4_segment_56 (fun H locs X => ?_)
          obtain ⟨σ1, eσ1⟩ : ∃ x : St, x = up ρ 2 (upI (ρ 2) 1 ((r 60) + 1)) := ⟨_, rfl⟩
          rw [← eσ1] at X
          refine r_aload_n F hl 1 rfl rfl dX4_segment_59 ?_
          refine r_get F X 0 (by decide) (eK_0 G _) rfl gl_RX4 0 (by decide) rfl gf_RX4_12 rfl dX4_segment_60 ?_
          refine r_iload F hl 0 rfl dX4_segment_63 ?_
          refine r_iconst F dX4_segment_65 ?_
          refine d_cSI F X (c_X2_placeOf l G σ1 (r 60) 0) gv_RX4_65 nd_X2_placeOf rfl (rest := [.ref (gY G 1)]) rfl (Nat.le_of_ble_eq_true rfl) ⟨Nat.le_of_ble_eq_true rfl, Nat.le_of_ble_eq_true rfl⟩ ⟨Nat.zero_le _, Nat.zero_le _⟩ hl.1 dX4_segment_66 (fun H locs X => ?_)
          refine r_iload_n F hl 2 rfl rfl dX4_segment_69 ?_
          refine d_cVV F X 1 (by decide) (eK_1 G _) rfl (c_X2_put l G σ1 (12 + 3 * (r 60) + 0) a (by omega)) gv_RX4_55 rfl nd_X2_put rfl (rest := []) rfl (Nat.le_of_ble_eq_true rfl) ⟨Nat.le_of_ble_eq_true rfl, Nat.le_of_ble_eq_true rfl⟩ ⟨Nat.zero_le _, Nat.zero_le _⟩ hl.1 dX4_segment_70 (fun H locs X => ?_)
          obtain ⟨σ2, eσ2⟩ : ∃ x : St, x = up σ1 2 (upI (σ1 2) (12 + 3 * (r 60) + 0) a) := ⟨_, rfl⟩
          rw [← eσ2] at X
          refine r_aload_n F hl 1 rfl rfl dX4_segment_73 ?_
          refine r_get F X 0 (by decide) (eK_0 G _) rfl gl_RX4 0 (by decide) rfl gf_RX4_12 rfl dX4_segment_74 ?_
          refine r_iload F hl 0 rfl dX4_segment_77 ?_
          refine r_iconst F dX4_segment_79 ?_
          refine d_cSI F X (c_X2_placeOf l G σ2 (r 60) 1) gv_RX4_65 nd_X2_placeOf rfl (rest := [.ref (gY G 1)]) rfl (Nat.le_of_ble_eq_true rfl) ⟨Nat.le_of_ble_eq_true rfl, Nat.le_of_ble_eq_true rfl⟩ ⟨Nat.zero_le _, Nat.zero_le _⟩ hl.1 dX4_segment_80 (fun H locs X => ?_)
          refine r_iload_n F hl 3 rfl rfl dX4_segment_83 ?_
          refine d_cVV F X 1 (by decide) (eK_1 G _) rfl (c_X2_put l G σ2 (12 + 3 * (r 60) + 1) w2 (by omega)) gv_RX4_55 rfl nd_X2_put rfl (rest := []) rfl (Nat.le_of_ble_eq_true rfl) ⟨Nat.le_of_ble_eq_true rfl, Nat.le_of_ble_eq_true rfl⟩ ⟨Nat.zero_le _, Nat.zero_le _⟩ hl.1 dX4_segment_84 (fun H locs X => ?_)
          obtain ⟨σ3, eσ3⟩ : ∃ x : St, x = up σ2 2 (upI (σ2 2) (12 + 3 * (r 60) + 1) w2) := ⟨_, rfl⟩
          rw [← eσ3] at X
          refine r_aload_n F hl 1 rfl rfl dX4_segment_87 ?_
          refine r_get F X 0 (by decide) (eK_0 G _) rfl gl_RX4 0 (by decide) rfl gf_RX4_12 rfl dX4_segment_88 ?_
          refine r_iload F hl 0 rfl dX4_segment_91 ?_
          refine r_iconst F dX4_segment_93 ?_
          refine d_cSI F X (c_X2_placeOf l G σ3 (r 60) 2) gv_RX4_65 nd_X2_placeOf rfl (rest := [.ref (gY G 1)]) rfl (Nat.le_of_ble_eq_true rfl) ⟨Nat.le_of_ble_eq_true rfl, Nat.le_of_ble_eq_true rfl⟩ ⟨Nat.zero_le _, Nat.zero_le _⟩ hl.1 dX4_segment_94 (fun H locs X => ?_)
          refine r_iload_n F hl 4 rfl rfl dX4_segment_97 ?_
          refine d_cVV F X 1 (by decide) (eK_1 G _) rfl (c_X2_put l G σ3 (12 + 3 * (r 60) + 2) w3 (by omega)) gv_RX4_55 rfl nd_X2_put rfl (rest := []) rfl (Nat.le_of_ble_eq_true rfl) ⟨Nat.le_of_ble_eq_true rfl, Nat.le_of_ble_eq_true rfl⟩ ⟨Nat.zero_le _, Nat.zero_le _⟩ hl.1 dX4_segment_98 (fun H locs X => ?_)
          obtain ⟨σ4, eσ4⟩ : ∃ x : St, x = up σ3 2 (upI (σ3 2) (12 + 3 * (r 60) + 2) w3) := ⟨_, rfl⟩
          rw [← eσ4] at X
          refine r_iload F hl 0 rfl dX4_segment_101 ?_
          exact r_iret F X hr hk dX4_segment_103 (by have p0 : PLf (ρ 2) N r := hP1; have p1 : PLf (σ1 2) N _ := (by rw [eσ1, up_eq]; exact plf_cnt p0 (r 60 + 1)); have p2 : PLf (σ2 2) N _ := (by rw [eσ2, up_eq]; exact plf_part p1 (s := r 60) (t := 0) (by omega) (by omega)); have p3 : PLf (σ3 2) N _ := (by rw [eσ3, up_eq]; exact plf_part p2 (s := r 60) (t := 1) (by omega) (by omega)); have p4 : PLf (σ4 2) N _ := (by rw [eσ4, up_eq]; exact plf_part p3 (s := r 60) (t := 2) (by omega) (by omega)); have hz := told_fin hR (τ := σ4) (fun k9 q9 => by rw [eσ4, up_ne q9, eσ3, up_ne q9, eσ2, up_ne q9, eσ1, up_ne q9]) (by have e9 : rseg r a w2 w3 = upI (upI (upI (upI r 60 (r 60 + 1)) (12 * 0 + r 60) a) (12 * 1 + r 60) w2) (12 * 2 + r 60) w3 := (by funext i9; unfold rseg upI; grind); rw [e9]; exact p4) (hW.seg (a := a) (b := w2) (c := w3) (by omega) (by omega) (by omega) (by omega)); exact ⟨hz.1, by rw [if_pos (by omega)]; exact ⟨rfl, hz.2⟩⟩)
        · skip
          refine r_iconst F dX4_segment_41 ?_
          exact r_iret F X hr hk dX4_segment_42 (⟨KX.refl σ, by rw [if_neg (by omega)]; exact ⟨rfl, hC⟩⟩)
theorem c_X4_mark (l : Launch) (G : GT) (σ : St) (N : Int) (r : Int → Int) (n : Int) (hs : Int → Int → Int) (a : Int) (w2 : Int) (w3 : Int) (hC : CX σ N r n hs) (ha : -2147483648 ≤ a ∧ a < 2147483648) (hw2 : -2147483648 ≤ w2 ∧ w2 < 2147483648) (hw3 : -2147483648 ≤ w3 ∧ w3 < 2147483648) : Ct l yX4_mark cX4_mark 5 (some .int) 4 G [.ref (gY G 0), .int (I a), .int (I w2), .int (I w3)] σ (QI G (fun x9 τ9 => KX σ τ9 ∧ if r 61 < 8 ∧ 0 ≤ a ∧ a < N ∧ 0 ≤ w2 ∧ w2 ≤ 999 ∧ 0 ≤ w3 ∧ w3 ≤ 99 then x9 = r 61 ∧ CX τ9 N (rmark r a w2 w3) (min (n + 1) 20) (hpush r hs) else x9 = -1 ∧ CX τ9 N r n hs)) := by
  refine mt (own := RX4) (plainFor_of_name rfl) rfl (Nat.le_of_ble_eq_true rfl) ?_
  intro p e s m args below meth c ls F hr hk X hl
  have hl : lv_has ls 5 [(0, .ref (gY G 0)), (1, .int (I a)), (2, .int (I w2)), (3, .int (I w3))] := hl
  have hP := hC.1
  have hW := hC.2.1
  have hH := hC.2.2.1
  have hw := hW.num
  have hs2 : stv 1 2 = 0 := rfl; have hg2 : stv 2 2 = 999 := rfl
  have hs10 : stv 1 10 = 0 := rfl; have hg10 : stv 2 10 = 99 := rfl
  refine r_aload_n F hl 0 rfl rfl dX4_mark_0 ?_
  refine r_get F X 0 (by decide) (eK_0 G _) rfl gl_RX4 0 (by decide) rfl gf_RX4_12 rfl dX4_mark_1 ?_
  refine r_bipush F (by decide) dX4_mark_4 ?_
  refine d_cVI F X 1 (by decide) (eK_1 G _) rfl (c_X2_get l G σ (r 61) 11 (by omega) (hP.ma)) gv_RX4_45 rfl nd_X2_get rfl (rest := []) rfl (Nat.le_of_ble_eq_true rfl) ⟨Nat.le_of_ble_eq_true rfl, Nat.le_of_ble_eq_true rfl⟩ ⟨Nat.zero_le _, Nat.zero_le _⟩ hl.1 dX4_mark_6 (fun H locs X => ?_)
  refine r_istore F hl [(4, .int (I (r 61))), (0, .ref (gY G 0)), (1, .int (I a)), (2, .int (I w2)), (3, .int (I w3))] (by decide) rfl dX4_mark_9 (fun ls hl => ?_)
  refine r_iload F hl 0 rfl dX4_mark_11 ?_
  refine r_bipush F (by decide) dX4_mark_13 ?_
  refine r_icmp_ge F 46 (by decide) (by omega) (by omega) dX4_mark_15 (fun c1 => ?_) (fun c1 => ?_)
  · skip
    refine r_iconst F dX4_mark_46 ?_
    exact r_iret F X hr hk dX4_mark_47 (⟨KX.refl σ, by rw [if_neg (by omega)]; exact ⟨rfl, hC⟩⟩)
  · skip
    refine r_aload_n F hl 1 rfl rfl dX4_mark_18 ?_
    refine r_get F X 0 (by decide) (eK_0 G _) rfl gl_RX4 0 (by decide) rfl gf_RX4_12 rfl dX4_mark_19 ?_
    refine r_iload_n F hl 2 rfl rfl dX4_mark_22 ?_
    refine d_cVI F X 1 (by decide) (eK_1 G _) rfl (c_X2_hasStep l G σ N r a hP hW (by omega)) gv_RX4_79 rfl nd_X2_hasStep rfl (rest := []) rfl (Nat.le_of_ble_eq_true rfl) ⟨Nat.le_of_ble_eq_true rfl, Nat.le_of_ble_eq_true rfl⟩ ⟨Nat.zero_le _, Nat.zero_le _⟩ hl.1 dX4_mark_23 (fun H locs X => ?_)
    refine r_bz_eq F 46 (0 ≤ a ∧ a < N) rfl (by decide) dX4_mark_26 (fun c2 => ?_) (fun c2 => ?_)
    · skip
      refine r_iconst F dX4_mark_46 ?_
      exact r_iret F X hr hk dX4_mark_47 (⟨KX.refl σ, by rw [if_neg (by omega)]; exact ⟨rfl, hC⟩⟩)
    · skip
      refine r_iconst F dX4_mark_29 ?_
      refine r_iload_n F hl 3 rfl rfl dX4_mark_30 ?_
      refine d_cSI F X (c_X4_fits l G σ 2 w2 (by omega) (by omega)) gv_RX4_41 nd_X4_fits rfl (rest := []) rfl (Nat.le_of_ble_eq_true rfl) ⟨Nat.le_of_ble_eq_true rfl, Nat.le_of_ble_eq_true rfl⟩ ⟨Nat.zero_le _, Nat.zero_le _⟩ hl.1 dX4_mark_31 (fun H locs X => ?_)
      refine r_bz_eq F 46 (0 ≤ 2 ∧ 2 < 12 ∧ stv 1 2 ≤ w2 ∧ w2 ≤ stv 2 2) rfl (by decide) dX4_mark_34 (fun c3 => ?_) (fun c3 => ?_)
      · skip
        refine r_iconst F dX4_mark_46 ?_
        exact r_iret F X hr hk dX4_mark_47 (⟨KX.refl σ, by rw [if_neg (by omega)]; exact ⟨rfl, hC⟩⟩)
      · skip
        refine r_bipush F (by decide) dX4_mark_37 ?_
        refine r_iload_n F hl 4 rfl rfl dX4_mark_39 ?_
        refine d_cSI F X (c_X4_fits l G σ 10 w3 (by omega) (by omega)) gv_RX4_41 nd_X4_fits rfl (rest := []) rfl (Nat.le_of_ble_eq_true rfl) ⟨Nat.le_of_ble_eq_true rfl, Nat.le_of_ble_eq_true rfl⟩ ⟨Nat.zero_le _, Nat.zero_le _⟩ hl.1 dX4_mark_40 (fun H locs X => ?_)
        refine r_bz_ne F 48 (0 ≤ 10 ∧ 10 < 12 ∧ stv 1 10 ≤ w3 ∧ w3 ≤ stv 2 10) rfl (by decide) dX4_mark_43 (fun c4 => ?_) (fun c4 => ?_)
        · skip
          refine r_aload_n F hl 1 rfl rfl dX4_mark_48 ?_
          refine r_cVV F X 0 (by decide) (eK_0 G _) rfl (c_X4_remember l G σ N r n hs hP hW hH) gv_RX4_62 rfl nd_X4_remember rfl (rest := []) rfl (Nat.le_of_ble_eq_true rfl) ⟨Nat.le_of_ble_eq_true rfl, Nat.le_of_ble_eq_true rfl⟩ ⟨Nat.zero_le _, Nat.zero_le _⟩ hl.1 dX4_mark_49 (fun ρ H locs hR X => ?_)
          have hP1 := hR.pl hP
          refine r_aload_n F hl 1 rfl rfl dX4_mark_52 ?_
          refine r_get F X 0 (by decide) (eK_0 G _) rfl gl_RX4 0 (by decide) rfl gf_RX4_12 rfl dX4_mark_53 ?_
          refine r_bipush F (by decide) dX4_mark_56 ?_
          refine r_iload F hl 0 rfl dX4_mark_58 ?_
          refine r_iconst F dX4_mark_60 ?_
          refine r_iadd F dX4_mark_61 ?_
          refine d_cVV F X 1 (by decide) (eK_1 G _) rfl (c_X2_put l G ρ 11 ((r 61) + 1) (by omega)) gv_RX4_55 rfl nd_X2_put rfl (rest := []) rfl (Nat.le_of_ble_eq_true rfl) ⟨Nat.le_of_ble_eq_true rfl, Nat.le_of_ble_eq_true rfl⟩ ⟨Nat.zero_le _, Nat.zero_le _⟩ hl.1 dX4_mark_62 (fun H locs X => ?_)
          obtain ⟨σ1, eσ1⟩ : ∃ x : St, x = up ρ 2 (upI (ρ 2) 11 ((r 61) + 1)) := ⟨_, rfl⟩
          rw [← eσ1] at X
          refine r_aload_n F hl 1 rfl rfl dX4_mark_65 ?_
          refine r_get F X 0 (by decide) (eK_0 G _) rfl gl_RX4 0 (by decide) rfl gf_RX4_12 rfl dX4_mark_66 ?_
          refine r_iload F hl 0 rfl dX4_mark_69 ?_
          refine r_iconst F dX4_mark_71 ?_
          refine d_cSI F X (c_X2_placeOfMark l G σ1 (r 61) 0) gv_RX4_82 nd_X2_placeOfMark rfl (rest := [.ref (gY G 1)]) rfl (Nat.le_of_ble_eq_true rfl) ⟨Nat.le_of_ble_eq_true rfl, Nat.le_of_ble_eq_true rfl⟩ ⟨Nat.zero_le _, Nat.zero_le _⟩ hl.1 dX4_mark_72 (fun H locs X => ?_)
          refine r_iload_n F hl 2 rfl rfl dX4_mark_75 ?_
          refine d_cVV F X 1 (by decide) (eK_1 G _) rfl (c_X2_put l G σ1 (48 + 3 * (r 61) + 0) a (by omega)) gv_RX4_55 rfl nd_X2_put rfl (rest := []) rfl (Nat.le_of_ble_eq_true rfl) ⟨Nat.le_of_ble_eq_true rfl, Nat.le_of_ble_eq_true rfl⟩ ⟨Nat.zero_le _, Nat.zero_le _⟩ hl.1 dX4_mark_76 (fun H locs X => ?_)
          obtain ⟨σ2, eσ2⟩ : ∃ x : St, x = up σ1 2 (upI (σ1 2) (48 + 3 * (r 61) + 0) a) := ⟨_, rfl⟩
          rw [← eσ2] at X
          refine r_aload_n F hl 1 rfl rfl dX4_mark_79 ?_
          refine r_get F X 0 (by decide) (eK_0 G _) rfl gl_RX4 0 (by decide) rfl gf_RX4_12 rfl dX4_mark_80 ?_
          refine r_iload F hl 0 rfl dX4_mark_83 ?_
          refine r_iconst F dX4_mark_85 ?_
          refine d_cSI F X (c_X2_placeOfMark l G σ2 (r 61) 1) gv_RX4_82 nd_X2_placeOfMark rfl (rest := [.ref (gY G 1)]) rfl (Nat.le_of_ble_eq_true rfl) ⟨Nat.le_of_ble_eq_true rfl, Nat.le_of_ble_eq_true rfl⟩ ⟨Nat.zero_le _, Nat.zero_le _⟩ hl.1 dX4_mark_86 (fun H locs X => ?_)
          refine r_iload_n F hl 3 rfl rfl dX4_mark_89 ?_
          refine d_cVV F X 1 (by decide) (eK_1 G _) rfl (c_X2_put l G σ2 (48 + 3 * (r 61) + 1) w2 (by omega)) gv_RX4_55 rfl nd_X2_put rfl (rest := []) rfl (Nat.le_of_ble_eq_true rfl) ⟨Nat.le_of_ble_eq_true rfl, Nat.le_of_ble_eq_true rfl⟩ ⟨Nat.zero_le _, Nat.zero_le _⟩ hl.1 dX4_mark_90 (fun H locs X => ?_)
          obtain ⟨σ3, eσ3⟩ : ∃ x : St, x = up σ2 2 (upI (σ2 2) (48 + 3 * (r 61) + 1) w2) := ⟨_, rfl⟩
          rw [← eσ3] at X
          refine r_aload_n F hl 1 rfl rfl dX4_mark_93 ?_
          refine r_get F X 0 (by decide) (eK_0 G _) rfl gl_RX4 0 (by decide) rfl gf_RX4_12 rfl dX4_mark_94 ?_
          refine r_iload F hl 0 rfl dX4_mark_97 ?_
          refine r_iconst F dX4_mark_99 ?_
          refine d_cSI F X (c_X2_placeOfMark l G σ3 (r 61) 2) gv_RX4_82 nd_X2_placeOfMark rfl (rest := [.ref (gY G 1)]) rfl (Nat.le_of_ble_eq_true rfl) ⟨Nat.le_of_ble_eq_true rfl, Nat.le_of_ble_eq_true rfl⟩ ⟨Nat.zero_le _, Nat.zero_le _⟩ hl.1 dX4_mark_100 (fun H locs X => ?_)
          refine r_iload_n F hl 4 rfl rfl dX4_mark_103 ?_
          refine d_cVV F X 1 (by decide) (eK_1 G _) rfl (c_X2_put l G σ3 (48 + 3 * (r 61) + 2) w3 (by omega)) gv_RX4_55 rfl nd_X2_put rfl (rest := []) rfl (Nat.le_of_ble_eq_true rfl) ⟨Nat.le_of_ble_eq_true rfl, Nat.le_of_ble_eq_true rfl⟩ ⟨Nat.zero_le _, Nat.zero_le _⟩ hl.1 dX4_mark_104 (fun H locs X => ?_)
          obtain ⟨σ4, eσ4⟩ : ∃ x : St, x = up σ3 2 (upI (σ3 2) (48 + 3 * (r 61) + 2) w3) := ⟨_, rfl⟩
          rw [← eσ4] at X
          refine r_iload F hl 0 rfl dX4_mark_107 ?_
          exact r_iret F X hr hk dX4_mark_109 (by have p0 : PLf (ρ 2) N r := hP1; have p1 : PLf (σ1 2) N _ := (by rw [eσ1, up_eq]; exact plf_cntm p0 (r 61 + 1)); have p2 : PLf (σ2 2) N _ := (by rw [eσ2, up_eq]; exact plf_mpart p1 (s := r 61) (t := 0) (by omega) (by omega)); have p3 : PLf (σ3 2) N _ := (by rw [eσ3, up_eq]; exact plf_mpart p2 (s := r 61) (t := 1) (by omega) (by omega)); have p4 : PLf (σ4 2) N _ := (by rw [eσ4, up_eq]; exact plf_mpart p3 (s := r 61) (t := 2) (by omega) (by omega)); have hz := told_fin hR (τ := σ4) (fun k9 q9 => by rw [eσ4, up_ne q9, eσ3, up_ne q9, eσ2, up_ne q9, eσ1, up_ne q9]) (by have e9 : rmark r a w2 w3 = upI (upI (upI (upI r 61 (r 61 + 1)) (36 + 8 * 0 + r 61) a) (36 + 8 * 1 + r 61) w2) (36 + 8 * 2 + r 61) w3 := (by funext i9; unfold rmark upI; grind); rw [e9]; exact p4) (hW.mark (a := a) (b := w2) (c := w3) (by omega) (by omega) (by omega) (by omega)); exact ⟨hz.1, by rw [if_pos (by omega)]; exact ⟨rfl, hz.2⟩⟩)
        · skip
          refine r_iconst F dX4_mark_46 ?_
          exact r_iret F X hr hk dX4_mark_47 (⟨KX.refl σ, by rw [if_neg (by omega)]; exact ⟨rfl, hC⟩⟩)
theorem c_X4_alter (l : Launch) (G : GT) (σ : St) (N : Int) (r : Int → Int) (n : Int) (hs : Int → Int → Int) (s2 : Int) (t2 : Int) (v : Int) (hC : CX σ N r n hs) (hs2 : -2147483648 ≤ s2 ∧ s2 < 2147483648) (ht2 : -2147483648 ≤ t2 ∧ t2 < 2147483648) (hv : -2147483648 ≤ v ∧ v < 2147483648) : Ct l yX4_alter cX4_alter 4 (some .int) 4 G [.ref (gY G 0), .int (I s2), .int (I t2), .int (I v)] σ (QI G (fun x9 τ9 => KX σ τ9 ∧ if 0 ≤ s2 ∧ s2 < r 60 ∧ (t2 = 0 ∧ 1 ≤ v ∧ v ≤ 60 ∨ t2 = 1 ∧ 0 ≤ v ∧ v ≤ 999 ∨ t2 = 2 ∧ 0 ≤ v ∧ v ≤ 3) then x9 = r (12 * t2 + s2) ∧ CX τ9 N (upI r (12 * t2 + s2) v) (min (n + 1) 20) (hpush r hs) else x9 = -1 ∧ CX τ9 N r n hs)) := by
  refine mt (own := RX4) (plainFor_of_name rfl) rfl (Nat.le_of_ble_eq_true rfl) ?_
  intro p e s m args below meth c ls F hr hk X hl
  have hl : lv_has ls 4 [(0, .ref (gY G 0)), (1, .int (I s2)), (2, .int (I t2)), (3, .int (I v))] := hl
  have hP := hC.1
  have hW := hC.2.1
  have hH := hC.2.2.1
  have hw := hW.num
  have hst : (0 ≤ t2 ∧ t2 < 3 ∧ stv 3 t2 ≤ v ∧ v ≤ stv 4 t2) ↔ (t2 = 0 ∧ 1 ≤ v ∧ v ≤ 60 ∨ t2 = 1 ∧ 0 ≤ v ∧ v ≤ 999 ∨ t2 = 2 ∧ 0 ≤ v ∧ v ≤ 3) := by
    constructor
    · intro h9; obtain ⟨h90, h91, h92, h93⟩ := h9; rcases (show t2 = 0 ∨ t2 = 1 ∨ t2 = 2 by omega) with h9 | h9 | h9 <;> subst h9
      · exact Or.inl ⟨rfl, h92, h93⟩
      · exact Or.inr (Or.inl ⟨rfl, h92, h93⟩)
      · exact Or.inr (Or.inr ⟨rfl, h92, h93⟩)
    · intro h9; rcases h9 with ⟨rfl, h91, h92⟩ | ⟨rfl, h91, h92⟩ | ⟨rfl, h91, h92⟩
      · exact ⟨by omega, by omega, h91, h92⟩
      · exact ⟨by omega, by omega, h91, h92⟩
      · exact ⟨by omega, by omega, h91, h92⟩
  refine r_aload_n F hl 0 rfl rfl dX4_alter_0 ?_
  refine r_get F X 0 (by decide) (eK_0 G _) rfl gl_RX4 0 (by decide) rfl gf_RX4_12 rfl dX4_alter_1 ?_
  refine r_iload_n F hl 1 rfl rfl dX4_alter_4 ?_
  refine d_cVI F X 1 (by decide) (eK_1 G _) rfl (c_X2_hasSegment l G σ N r s2 hP hW (by omega)) gv_RX4_69 rfl nd_X2_hasSegment rfl (rest := []) rfl (Nat.le_of_ble_eq_true rfl) ⟨Nat.le_of_ble_eq_true rfl, Nat.le_of_ble_eq_true rfl⟩ ⟨Nat.zero_le _, Nat.zero_le _⟩ hl.1 dX4_alter_5 (fun H locs X => ?_)
  refine r_bz_eq F 19 (0 ≤ s2 ∧ s2 < r 60) rfl (by decide) dX4_alter_8 (fun c1 => ?_) (fun c1 => ?_)
  · skip
    refine r_iconst F dX4_alter_19 ?_
    exact r_iret F X hr hk dX4_alter_20 (⟨KX.refl σ, by rw [if_neg (by omega)]; exact ⟨rfl, hC⟩⟩)
  · skip
    refine r_iload_n F hl 2 rfl rfl dX4_alter_11 ?_
    refine r_iload_n F hl 3 rfl rfl dX4_alter_12 ?_
    refine d_cSI F X (c_X4_fitsPart l G σ t2 v (by omega) (by omega)) gv_RX4_59 nd_X4_fitsPart rfl (rest := []) rfl (Nat.le_of_ble_eq_true rfl) ⟨Nat.le_of_ble_eq_true rfl, Nat.le_of_ble_eq_true rfl⟩ ⟨Nat.zero_le _, Nat.zero_le _⟩ hl.1 dX4_alter_13 (fun H locs X => ?_)
    refine r_bz_ne F 21 (0 ≤ t2 ∧ t2 < 3 ∧ stv 3 t2 ≤ v ∧ v ≤ stv 4 t2) rfl (by decide) dX4_alter_16 (fun c2 => ?_) (fun c2 => ?_)
    · skip
      refine r_aload_n F hl 0 rfl rfl dX4_alter_21 ?_
      refine r_cVV F X 0 (by decide) (eK_0 G _) rfl (c_X4_remember l G σ N r n hs hP hW hH) gv_RX4_62 rfl nd_X4_remember rfl (rest := []) rfl (Nat.le_of_ble_eq_true rfl) ⟨Nat.le_of_ble_eq_true rfl, Nat.le_of_ble_eq_true rfl⟩ ⟨Nat.zero_le _, Nat.zero_le _⟩ hl.1 dX4_alter_22 (fun ρ H locs hR X => ?_)
      have hP1 := hR.pl hP
      refine r_aload_n F hl 0 rfl rfl dX4_alter_25 ?_
      refine r_get F X 0 (by decide) (eK_0 G _) rfl gl_RX4 0 (by decide) rfl gf_RX4_12 rfl dX4_alter_26 ?_
      refine r_iload_n F hl 1 rfl rfl dX4_alter_29 ?_
      refine r_iload_n F hl 2 rfl rfl dX4_alter_30 ?_
      refine d_cSI F X (c_X2_placeOf l G ρ s2 t2) gv_RX4_65 nd_X2_placeOf rfl (rest := [.ref (gY G 1)]) rfl (Nat.le_of_ble_eq_true rfl) ⟨Nat.le_of_ble_eq_true rfl, Nat.le_of_ble_eq_true rfl⟩ ⟨Nat.zero_le _, Nat.zero_le _⟩ hl.1 dX4_alter_31 (fun H locs X => ?_)
      refine r_iload_n F hl 3 rfl rfl dX4_alter_34 ?_
      refine d_cVI F X 1 (by decide) (eK_1 G _) rfl (c_X2_exchange l G ρ (r (12 * t2 + s2)) (12 + 3 * s2 + t2) v (by omega) (by rcases (show t2 = 0 ∨ t2 = 1 ∨ t2 = 2 by omega) with h9 | h9 | h9 <;> rw [h9]; (rw [hP1.lo (by omega) (by omega)]; congr 1; omega); (rw [hP1.en (by omega) (by omega)]; congr 1); (rw [hP1.la (by omega) (by omega)]; congr 1))) gv_RX4_73 rfl nd_X2_exchange rfl (rest := []) rfl (Nat.le_of_ble_eq_true rfl) ⟨Nat.le_of_ble_eq_true rfl, Nat.le_of_ble_eq_true rfl⟩ ⟨Nat.zero_le _, Nat.zero_le _⟩ hl.1 dX4_alter_35 (fun H locs X => ?_)
      obtain ⟨σ1, eσ1⟩ : ∃ x : St, x = up ρ 2 (upI (ρ 2) (12 + 3 * s2 + t2) v) := ⟨_, rfl⟩
      rw [← eσ1] at X
      exact r_iret F X hr hk dX4_alter_38 (by have p0 : PLf (ρ 2) N r := hP1; have p1 : PLf (σ1 2) N _ := (by rw [eσ1, up_eq]; exact plf_part p0 (s := s2) (t := t2) (by omega) (by omega)); have hz := told_fin hR (τ := σ1) (fun k9 q9 => by rw [eσ1, up_ne q9]) (p1) (hW.part (by omega) (by omega)); exact ⟨hz.1, by rw [if_pos (by omega)]; exact ⟨rfl, hz.2⟩⟩)
    · skip
      refine r_iconst F dX4_alter_19 ?_
      exact r_iret F X hr hk dX4_alter_20 (⟨KX.refl σ, by rw [if_neg (by omega)]; exact ⟨rfl, hC⟩⟩)
theorem c_X4_drop (l : Launch) (G : GT) (σ : St) (N : Int) (r : Int → Int) (n : Int) (hs : Int → Int → Int) (hC : CX σ N r n hs) : Ct l yX4_drop cX4_drop 2 (some .int) 4 G [.ref (gY G 0)] σ (QI G (fun x9 τ9 => KX σ τ9 ∧ if 0 < r 60 then x9 = r 60 - 1 ∧ CX τ9 N (upI r 60 (r 60 - 1)) (min (n + 1) 20) (hpush r hs) else x9 = -1 ∧ CX τ9 N r n hs)) := by
  refine mt (own := RX4) (plainFor_of_name rfl) rfl (Nat.le_of_ble_eq_true rfl) ?_
  intro p e s m args below meth c ls F hr hk X hl
  have hl : lv_has ls 2 [(0, .ref (gY G 0))] := hl
  have hP := hC.1
  have hW := hC.2.1
  have hH := hC.2.2.1
  have hw := hW.num
  refine r_aload_n F hl 0 rfl rfl dX4_drop_0 ?_
  refine r_get F X 0 (by decide) (eK_0 G _) rfl gl_RX4 0 (by decide) rfl gf_RX4_12 rfl dX4_drop_1 ?_
  refine r_iconst F dX4_drop_4 ?_
  refine d_cVI F X 1 (by decide) (eK_1 G _) rfl (c_X2_get l G σ (r 60) 1 (by omega) (hP.se)) gv_RX4_45 rfl nd_X2_get rfl (rest := []) rfl (Nat.le_of_ble_eq_true rfl) ⟨Nat.le_of_ble_eq_true rfl, Nat.le_of_ble_eq_true rfl⟩ ⟨Nat.zero_le _, Nat.zero_le _⟩ hl.1 dX4_drop_5 (fun H locs X => ?_)
  refine r_iconst F dX4_drop_8 ?_
  refine r_isub F dX4_drop_9 ?_
  refine r_istore_n F hl [(1, .int (I ((r 60) - 1))), (0, .ref (gY G 0))] rfl (by decide) rfl dX4_drop_10 (fun ls hl => ?_)
  refine r_iload_n F hl 0 rfl rfl dX4_drop_11 ?_
  refine r_if_ge F 17 (by decide) (by omega) dX4_drop_12 (fun c1 => ?_) (fun c1 => ?_)
  · skip
    refine r_aload_n F hl 1 rfl rfl dX4_drop_17 ?_
    refine r_cVV F X 0 (by decide) (eK_0 G _) rfl (c_X4_remember l G σ N r n hs hP hW hH) gv_RX4_62 rfl nd_X4_remember rfl (rest := []) rfl (Nat.le_of_ble_eq_true rfl) ⟨Nat.le_of_ble_eq_true rfl, Nat.le_of_ble_eq_true rfl⟩ ⟨Nat.zero_le _, Nat.zero_le _⟩ hl.1 dX4_drop_18 (fun ρ H locs hR X => ?_)
    have hP1 := hR.pl hP
    refine r_aload_n F hl 1 rfl rfl dX4_drop_21 ?_
    refine r_get F X 0 (by decide) (eK_0 G _) rfl gl_RX4 0 (by decide) rfl gf_RX4_12 rfl dX4_drop_22 ?_
    refine r_iconst F dX4_drop_25 ?_
    refine r_iload_n F hl 0 rfl rfl dX4_drop_26 ?_
    refine d_cVV F X 1 (by decide) (eK_1 G _) rfl (c_X2_put l G ρ 1 ((r 60) - 1) (by omega)) gv_RX4_55 rfl nd_X2_put rfl (rest := []) rfl (Nat.le_of_ble_eq_true rfl) ⟨Nat.le_of_ble_eq_true rfl, Nat.le_of_ble_eq_true rfl⟩ ⟨Nat.zero_le _, Nat.zero_le _⟩ hl.1 dX4_drop_27 (fun H locs X => ?_)
    obtain ⟨σ1, eσ1⟩ : ∃ x : St, x = up ρ 2 (upI (ρ 2) 1 ((r 60) - 1)) := ⟨_, rfl⟩
    rw [← eσ1] at X
    refine r_iload_n F hl 0 rfl rfl dX4_drop_30 ?_
    exact r_iret F X hr hk dX4_drop_31 (by have p0 : PLf (ρ 2) N r := hP1; have p1 : PLf (σ1 2) N _ := (by rw [eσ1, up_eq]; exact plf_cnt p0 (r 60 - 1)); have hz := told_fin hR (τ := σ1) (fun k9 q9 => by rw [eσ1, up_ne q9]) (p1) (hW.cnt (by omega)); exact ⟨hz.1, by rw [if_pos (by omega)]; exact ⟨rfl, hz.2⟩⟩)
  · skip
    refine r_iconst F dX4_drop_15 ?_
    exact r_iret F X hr hk dX4_drop_16 (⟨KX.refl σ, by rw [if_neg (by omega)]; exact ⟨rfl, hC⟩⟩)
theorem c_X4_unmark (l : Launch) (G : GT) (σ : St) (N : Int) (r : Int → Int) (n : Int) (hs : Int → Int → Int) (q : Int) (hC : CX σ N r n hs) (hq : -2147483648 ≤ q ∧ q < 2147483648) : Ct l yX4_unmark cX4_unmark 2 (some .boolean) 4 G [.ref (gY G 0), .int (I q)] σ (QI G (fun x9 τ9 => KX σ τ9 ∧ if 0 ≤ q ∧ q < r 61 then x9 = 1 ∧ CX τ9 N (unm r q) (min (n + 1) 20) (hpush r hs) else x9 = 0 ∧ CX τ9 N r n hs)) := by
  refine mt (own := RX4) (plainFor_of_name rfl) rfl (Nat.le_of_ble_eq_true rfl) ?_
  intro p e s m args below meth c ls F hr hk X hl
  have hl : lv_has ls 2 [(0, .ref (gY G 0)), (1, .int (I q))] := hl
  have hP := hC.1
  have hW := hC.2.1
  have hH := hC.2.2.1
  have hw := hW.num
  refine r_aload_n F hl 0 rfl rfl dX4_unmark_0 ?_
  refine r_get F X 0 (by decide) (eK_0 G _) rfl gl_RX4 0 (by decide) rfl gf_RX4_12 rfl dX4_unmark_1 ?_
  refine r_iload_n F hl 1 rfl rfl dX4_unmark_4 ?_
  refine d_cVI F X 1 (by decide) (eK_1 G _) rfl (c_X2_hasMark l G σ N r q hP hW (by omega)) gv_RX4_85 rfl nd_X2_hasMark rfl (rest := []) rfl (Nat.le_of_ble_eq_true rfl) ⟨Nat.le_of_ble_eq_true rfl, Nat.le_of_ble_eq_true rfl⟩ ⟨Nat.zero_le _, Nat.zero_le _⟩ hl.1 dX4_unmark_5 (fun H locs X => ?_)
  refine r_bz_ne F 13 (0 ≤ q ∧ q < r 61) rfl (by decide) dX4_unmark_8 (fun c1 => ?_) (fun c1 => ?_)
  · skip
    refine r_aload_n F hl 0 rfl rfl dX4_unmark_13 ?_
    refine r_cVV F X 0 (by decide) (eK_0 G _) rfl (c_X4_remember l G σ N r n hs hP hW hH) gv_RX4_62 rfl nd_X4_remember rfl (rest := []) rfl (Nat.le_of_ble_eq_true rfl) ⟨Nat.le_of_ble_eq_true rfl, Nat.le_of_ble_eq_true rfl⟩ ⟨Nat.zero_le _, Nat.zero_le _⟩ hl.1 dX4_unmark_14 (fun ρ H locs hR X => ?_)
    have hP1 := hR.pl hP
    refine r_aload_n F hl 0 rfl rfl dX4_unmark_17 ?_
    refine r_get F X 0 (by decide) (eK_0 G _) rfl gl_RX4 0 (by decide) rfl gf_RX4_12 rfl dX4_unmark_18 ?_
    refine r_iload_n F hl 1 rfl rfl dX4_unmark_21 ?_
    refine d_cVV F X 1 (by decide) (eK_1 G _) rfl (c_X2_removeMark l G ρ N r q (hP1) hW (by omega)) gv_RX4_88 rfl nd_X2_removeMark rfl (rest := []) rfl (Nat.le_of_ble_eq_true rfl) ⟨Nat.le_of_ble_eq_true rfl, Nat.le_of_ble_eq_true rfl⟩ ⟨Nat.zero_le _, Nat.zero_le _⟩ hl.1 dX4_unmark_22 (fun H locs X => ?_)
    obtain ⟨σ1, eσ1⟩ : ∃ x : St, x = up ρ 2 (upI (rmp (ρ 2) q (48 + 3 * (r 61 - 1) + 0)) 11 (r 61 - 1)) := ⟨_, rfl⟩
    rw [← eσ1] at X
    refine r_iconst F dX4_unmark_25 ?_
    exact r_zret F X hr hk (by omega) dX4_unmark_26 (by have p0 : PLf (ρ 2) N r := hP1; have p1 : PLf (σ1 2) N _ := (by rw [eσ1, up_eq]; exact plf_unm p0 (by omega) (by omega)); have hz := told_fin hR (τ := σ1) (fun k9 q9 => by rw [eσ1, up_ne q9]) (p1) (hW.unm (by omega)); exact ⟨hz.1, by rw [if_pos (by omega)]; exact ⟨rfl, hz.2⟩⟩)
  · skip
    refine r_iconst F dX4_unmark_11 ?_
    exact r_zret F X hr hk (by omega) dX4_unmark_12 (⟨KX.refl σ, by rw [if_neg (by omega)]; exact ⟨rfl, hC⟩⟩)
theorem c_X4_back (l : Launch) (G : GT) (σ : St) (N : Int) (r : Int → Int) (n : Int) (hs : Int → Int → Int) (hC : CX σ N r n hs) : Ct l yX4_back cX4_back 1 (some .boolean) 3 G [.ref (gY G 0)] σ (QI G (fun x9 τ9 => KX σ τ9 ∧ if 0 < n then x9 = 1 ∧ CX τ9 N (hs 0) (n - 1) (hpop hs) else x9 = 0 ∧ CX τ9 N r n hs)) := by
  refine mt (own := RX4) (plainFor_of_name rfl) rfl (Nat.le_of_ble_eq_true rfl) ?_
  intro p e s m args below meth c ls F hr hk X hl
  have hl : lv_has ls 1 [(0, .ref (gY G 0))] := hl
  have hP := hC.1
  have hW := hC.2.1
  have hH := hC.2.2.1
  have hw := hW.num
  obtain ⟨g1, g2, g3, g4, g5, g6⟩ := id hH
  have f1 : ∀ k : Nat, k ≠ 5 → k ≠ 31 → up (up σ 5 (upI (σ 5) 3 0)) 31 (upI (σ 31) 12 0) k = σ k := fun k a b => by rw [up_ne b, up_ne a]
  refine r_aload_n F hl 0 rfl rfl dX4_back_0 ?_
  refine r_get F X 0 (by decide) (eK_0 G _) rfl gl_RX4 1 (by decide) rfl gf_RX4_19 rfl dX4_back_1 ?_
  refine d_cVI F X 3 (by decide) (eK_3 G _) rfl (c_X1_size l G σ ) gv_RX4_92 rfl nd_X1_size rfl (rest := []) rfl (Nat.le_of_ble_eq_true rfl) ⟨Nat.le_of_ble_eq_true rfl, Nat.le_of_ble_eq_true rfl⟩ ⟨Nat.zero_le _, Nat.zero_le _⟩ hl.1 dX4_back_4 (fun H locs X => ?_)
  refine r_eqI (b := n) (g1) ?_
  refine r_if_ne F 12 (by decide) (by omega) dX4_back_7 (fun c1 => ?_) (fun c1 => ?_)
  · skip
    refine r_aload_n F hl 0 rfl rfl dX4_back_12 ?_
    refine d_cVV F X 0 (by decide) (eK_0 G _) rfl (c_X4_outdate l G σ ) gv_RX4_52 rfl nd_X4_outdate rfl (rest := []) rfl (Nat.le_of_ble_eq_true rfl) ⟨Nat.le_of_ble_eq_true rfl, Nat.le_of_ble_eq_true rfl⟩ ⟨Nat.zero_le _, Nat.zero_le _⟩ hl.1 dX4_back_13 (fun H locs X => ?_)
    obtain ⟨σ1, eσ1⟩ : ∃ x : St, x = up (up σ 5 (upI (σ 5) 3 0)) 31 (upI (σ 31) 12 0) := ⟨_, rfl⟩
    rw [← eσ1] at X
    refine r_aload_n F hl 0 rfl rfl dX4_back_16 ?_
    refine r_get F X 0 (by decide) (eK_0 G _) rfl gl_RX4 1 (by decide) rfl gf_RX4_19 rfl dX4_back_17 ?_
    refine r_aload_n F hl 0 rfl rfl dX4_back_20 ?_
    refine r_get F X 0 (by decide) (eK_0 G _) rfl gl_RX4 0 (by decide) rfl gf_RX4_12 rfl dX4_back_21 ?_
    refine r_cVV F X 3 (by decide) (eK_3 G _) rfl (c_X1_restore l G σ1 (by rw [eσ1, f1 3 (by omega) (by omega)]; omega) (by rw [eσ1, f1 3 (by omega) (by omega)]; omega)) gv_RX4_96 rfl nd_X1_restore rfl (rest := []) rfl (Nat.le_of_ble_eq_true rfl) ⟨Nat.le_of_ble_eq_true rfl, Nat.le_of_ble_eq_true rfl⟩ ⟨Nat.zero_le _, Nat.zero_le _⟩ hl.1 dX4_back_24 (fun σ2 H locs hR X => ?_)
    refine r_iconst F dX4_back_27 ?_
    exact r_zret F X hr hk (by omega) dX4_back_28 (by obtain ⟨k1, k2, k3, k4⟩ := hR; rw [eσ1, f1 3 (by omega) (by omega)] at k2 k3; rw [eσ1, f1 4 (by omega) (by omega), f1 2 (by omega) (by omega)] at k4; have hz := hH.restore (τ := σ2) (by omega) (by rw [k1 4 (by omega) (by omega), eσ1, f1 4 (by omega) (by omega)]) k2 (by rw [k3, g1]) k4; exact ⟨fun k9 q9 => by rw [k1 k9 (by omega) (by omega), eσ1, f1 k9 (by omega) (by omega)], by rw [if_pos (by omega)]; exact ⟨rfl, CX.told hz.2.1 hz.2.2 hz.1 (by rw [k1 5 (by omega) (by omega), eσ1, up_ne (by omega), up_eq, upI_eq]) (by rw [k1 31 (by omega) (by omega), eσ1, up_eq, upI_eq])⟩⟩)
  · skip
    refine r_iconst F dX4_back_10 ?_
    exact r_zret F X hr hk (by omega) dX4_back_11 (⟨KX.refl σ, by rw [if_neg (by omega)]; exact ⟨rfl, hC⟩⟩)
theorem c_X4_steps (l : Launch) (G : GT) (σ : St) (N : Int) (r : Int → Int) (n : Int) (hs : Int → Int → Int) (v : Int) (hC : CX σ N r n hs) (hv : -2147483648 ≤ v ∧ v < 2147483648) : Ct l yX4_steps cX4_steps 3 (some .int) 3 G [.ref (gY G 0), .int (I v)] σ (QI G (fun x9 τ9 => KX σ τ9 ∧ if 24 ≤ v ∧ v ≤ 120 then x9 = r 60 ∧ CX τ9 v (upI (upI r 60 0) 61 0) (0) (hs) else x9 = -1 ∧ CX τ9 N r n hs)) := by
  refine mt (own := RX4) (plainFor_of_name rfl) rfl (Nat.le_of_ble_eq_true rfl) ?_
  intro p e s m args below meth c ls F hr hk X hl
  have hl : lv_has ls 3 [(0, .ref (gY G 0)), (1, .int (I v))] := hl
  have hP := hC.1
  have hW := hC.2.1
  have hH := hC.2.2.1
  have hw := hW.num
  have hs0 : stv 1 0 = 24 := rfl; have hg0 : stv 2 0 = 120 := rfl
  obtain ⟨g1, g2, g3, g4, g5, g6⟩ := id hH
  refine r_iconst F dX4_steps_0 ?_
  refine r_iload_n F hl 1 rfl rfl dX4_steps_1 ?_
  refine d_cSI F X (c_X4_fits l G σ 0 v (by omega) (by omega)) gv_RX4_41 nd_X4_fits rfl (rest := []) rfl (Nat.le_of_ble_eq_true rfl) ⟨Nat.le_of_ble_eq_true rfl, Nat.le_of_ble_eq_true rfl⟩ ⟨Nat.zero_le _, Nat.zero_le _⟩ hl.1 dX4_steps_2 (fun H locs X => ?_)
  refine r_bz_ne F 10 (0 ≤ 0 ∧ 0 < 12 ∧ stv 1 0 ≤ v ∧ v ≤ stv 2 0) rfl (by decide) dX4_steps_5 (fun c1 => ?_) (fun c1 => ?_)
  · skip
    refine r_aload_n F hl 0 rfl rfl dX4_steps_10 ?_
    refine r_get F X 0 (by decide) (eK_0 G _) rfl gl_RX4 0 (by decide) rfl gf_RX4_12 rfl dX4_steps_11 ?_
    refine r_iconst F dX4_steps_14 ?_
    refine d_cVI F X 1 (by decide) (eK_1 G _) rfl (c_X2_get l G σ (r 60) 1 (by omega) (hP.se)) gv_RX4_45 rfl nd_X2_get rfl (rest := []) rfl (Nat.le_of_ble_eq_true rfl) ⟨Nat.le_of_ble_eq_true rfl, Nat.le_of_ble_eq_true rfl⟩ ⟨Nat.zero_le _, Nat.zero_le _⟩ hl.1 dX4_steps_15 (fun H locs X => ?_)
    refine r_istore_n F hl [(2, .int (I (r 60))), (0, .ref (gY G 0)), (1, .int (I v))] rfl (by decide) rfl dX4_steps_18 (fun ls hl => ?_)
    refine r_aload_n F hl 1 rfl rfl dX4_steps_19 ?_
    refine r_get F X 0 (by decide) (eK_0 G _) rfl gl_RX4 1 (by decide) rfl gf_RX4_19 rfl dX4_steps_20 ?_
    refine d_cVV F X 3 (by decide) (eK_3 G _) rfl (c_X1_forget l G σ ) gv_RX4_49 rfl nd_X1_forget rfl (rest := []) rfl (Nat.le_of_ble_eq_true rfl) ⟨Nat.le_of_ble_eq_true rfl, Nat.le_of_ble_eq_true rfl⟩ ⟨Nat.zero_le _, Nat.zero_le _⟩ hl.1 dX4_steps_23 (fun H locs X => ?_)
    obtain ⟨σ1, eσ1⟩ : ∃ x : St, x = up σ 3 (upI (σ 3) 1 0) := ⟨_, rfl⟩
    rw [← eσ1] at X
    refine r_aload_n F hl 1 rfl rfl dX4_steps_26 ?_
    refine d_cVV F X 0 (by decide) (eK_0 G _) rfl (c_X4_outdate l G σ1 ) gv_RX4_52 rfl nd_X4_outdate rfl (rest := []) rfl (Nat.le_of_ble_eq_true rfl) ⟨Nat.le_of_ble_eq_true rfl, Nat.le_of_ble_eq_true rfl⟩ ⟨Nat.zero_le _, Nat.zero_le _⟩ hl.1 dX4_steps_27 (fun H locs X => ?_)
    obtain ⟨σ2, eσ2⟩ : ∃ x : St, x = up (up σ1 5 (upI (σ1 5) 3 0)) 31 (upI (σ1 31) 12 0) := ⟨_, rfl⟩
    rw [← eσ2] at X
    refine r_aload_n F hl 1 rfl rfl dX4_steps_30 ?_
    refine r_get F X 0 (by decide) (eK_0 G _) rfl gl_RX4 0 (by decide) rfl gf_RX4_12 rfl dX4_steps_31 ?_
    refine r_iconst F dX4_steps_34 ?_
    refine r_iload_n F hl 2 rfl rfl dX4_steps_35 ?_
    refine d_cVV F X 1 (by decide) (eK_1 G _) rfl (c_X2_put l G σ2 0 v (by omega)) gv_RX4_55 rfl nd_X2_put rfl (rest := []) rfl (Nat.le_of_ble_eq_true rfl) ⟨Nat.le_of_ble_eq_true rfl, Nat.le_of_ble_eq_true rfl⟩ ⟨Nat.zero_le _, Nat.zero_le _⟩ hl.1 dX4_steps_36 (fun H locs X => ?_)
    obtain ⟨σ3, eσ3⟩ : ∃ x : St, x = up σ2 2 (upI (σ2 2) 0 v) := ⟨_, rfl⟩
    rw [← eσ3] at X
    refine r_aload_n F hl 1 rfl rfl dX4_steps_39 ?_
    refine r_get F X 0 (by decide) (eK_0 G _) rfl gl_RX4 0 (by decide) rfl gf_RX4_12 rfl dX4_steps_40 ?_
    refine r_iconst F dX4_steps_43 ?_
    refine r_iconst F dX4_steps_44 ?_
    refine d_cVV F X 1 (by decide) (eK_1 G _) rfl (c_X2_put l G σ3 1 0 (by omega)) gv_RX4_55 rfl nd_X2_put rfl (rest := []) rfl (Nat.le_of_ble_eq_true rfl) ⟨Nat.le_of_ble_eq_true rfl, Nat.le_of_ble_eq_true rfl⟩ ⟨Nat.zero_le _, Nat.zero_le _⟩ hl.1 dX4_steps_45 (fun H locs X => ?_)
    obtain ⟨σ4, eσ4⟩ : ∃ x : St, x = up σ3 2 (upI (σ3 2) 1 0) := ⟨_, rfl⟩
    rw [← eσ4] at X
    refine r_aload_n F hl 1 rfl rfl dX4_steps_48 ?_
    refine r_get F X 0 (by decide) (eK_0 G _) rfl gl_RX4 0 (by decide) rfl gf_RX4_12 rfl dX4_steps_49 ?_
    refine r_bipush F (by decide) dX4_steps_52 ?_
    refine r_iconst F dX4_steps_54 ?_
    refine d_cVV F X 1 (by decide) (eK_1 G _) rfl (c_X2_put l G σ4 11 0 (by omega)) gv_RX4_55 rfl nd_X2_put rfl (rest := []) rfl (Nat.le_of_ble_eq_true rfl) ⟨Nat.le_of_ble_eq_true rfl, Nat.le_of_ble_eq_true rfl⟩ ⟨Nat.zero_le _, Nat.zero_le _⟩ hl.1 dX4_steps_55 (fun H locs X => ?_)
    obtain ⟨σ5, eσ5⟩ : ∃ x : St, x = up σ4 2 (upI (σ4 2) 11 0) := ⟨_, rfl⟩
    rw [← eσ5] at X
    refine r_iload_n F hl 0 rfl rfl dX4_steps_58 ?_
    exact r_iret F X hr hk dX4_steps_59 (by have p0 : PLf (σ2 2) N r := (by rw [eσ2, up_ne (by omega), up_ne (by omega), eσ1, up_ne (by omega)]; exact hP); have p1 := plf_cntm (plf_cnt (plf_N p0 v) 0) 0; have e9 : ∀ k : Nat, k ≠ 2 → k ≠ 3 → k ≠ 5 → k ≠ 31 → σ5 k = σ k := fun k a b c d => (by rw [eσ5, up_ne a, eσ4, up_ne a, eσ3, up_ne a, eσ2, up_ne d, up_ne c, eσ1, up_ne b]); have e93 : σ5 3 = upI (σ 3) 1 0 := (by rw [eσ5, up_ne (by omega), eσ4, up_ne (by omega), eσ3, up_ne (by omega), eσ2, up_ne (by omega), up_ne (by omega), eσ1, up_eq]); refine ⟨fun k9 q9 => e9 k9 (by omega) (by omega) (by omega) (by omega), ?_⟩; rw [if_pos (by omega)]; refine ⟨rfl, CX.told (N := v) ?_ (hW.newN (by omega)) ⟨?_, by omega, by omega, ?_, ?_, fun j a b => by omega⟩ ?_ ?_⟩; (unfold PL; rw [eσ5, up_eq, eσ4, up_eq, eσ3, up_eq]; exact p1); (rw [e93, upI_eq]); (rw [e93, upI_ne (by omega)]; omega); (rw [e93, upI_ne (by omega)]; omega); (rw [eσ5, up_ne (by omega), eσ4, up_ne (by omega), eσ3, up_ne (by omega), eσ2, up_ne (by omega), up_eq, upI_eq]); (rw [eσ5, up_ne (by omega), eσ4, up_ne (by omega), eσ3, up_ne (by omega), eσ2, up_eq, upI_eq]))
  · skip
    refine r_iconst F dX4_steps_8 ?_
    exact r_iret F X hr hk dX4_steps_9 (⟨KX.refl σ, by rw [if_neg (by omega)]; exact ⟨rfl, hC⟩⟩)
