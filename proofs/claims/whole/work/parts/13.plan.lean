theorem c_X2_placeOf (l : Launch) (G : GT) (σ : St) (a : Int) (b : Int) : Ct l yX2_placeOf cX2_placeOf 2 (some .int) 1 G [.int (I a), .int (I b)] σ (QI G (fun res9 τ => res9 = (12 + 3 * a + b) ∧ τ = σ)) := by
  refine mt (own := RX2) (plainFor_of_name rfl) rfl (Nat.le_of_ble_eq_true rfl) ?_
  intro p e s m args below meth c ls F hr hk X hl
  have hl : lv_has ls 2 [(0, .int (I a)), (1, .int (I b))] := hl
  refine r_bipush F (by decide) dX2_placeOf_0 ?_
  refine r_iconst F dX2_placeOf_2 ?_
  refine r_iload_n F hl 0 rfl rfl dX2_placeOf_3 ?_
  refine r_imul F dX2_placeOf_4 ?_
  refine r_iadd F dX2_placeOf_5 ?_
  refine r_iload_n F hl 1 rfl rfl dX2_placeOf_6 ?_
  refine r_iadd F dX2_placeOf_7 ?_
  exact r_iret F X hr hk dX2_placeOf_8 (⟨rfl, rfl⟩)
theorem c_X2_placeOfMark (l : Launch) (G : GT) (σ : St) (a : Int) (b : Int) : Ct l yX2_placeOfMark cX2_placeOfMark 2 (some .int) 1 G [.int (I a), .int (I b)] σ (QI G (fun res9 τ => res9 = (48 + 3 * a + b) ∧ τ = σ)) := by
  refine mt (own := RX2) (plainFor_of_name rfl) rfl (Nat.le_of_ble_eq_true rfl) ?_
  intro p e s m args below meth c ls F hr hk X hl
  have hl : lv_has ls 2 [(0, .int (I a)), (1, .int (I b))] := hl
  refine r_bipush F (by decide) dX2_placeOfMark_0 ?_
  refine r_iconst F dX2_placeOfMark_2 ?_
  refine r_iload_n F hl 0 rfl rfl dX2_placeOfMark_3 ?_
  refine r_imul F dX2_placeOfMark_4 ?_
  refine r_iadd F dX2_placeOfMark_5 ?_
  refine r_iload_n F hl 1 rfl rfl dX2_placeOfMark_6 ?_
  refine r_iadd F dX2_placeOfMark_7 ?_
  exact r_iret F X hr hk dX2_placeOfMark_8 (⟨rfl, rfl⟩)
theorem c_X2_get (l : Launch) (G : GT) (σ : St) (v : Int) (a : Int) (h : 0 ≤ a ∧ a < 72) (hv : σ 2 a = v) : Ct l yX2_get cX2_get 2 (some .int) 1 G [.ref (gY G 1), .int (I a)] σ (QI G (fun res9 τ => res9 = v ∧ τ = σ)) := by
  refine mt (own := RX2) (plainFor_of_name rfl) rfl (Nat.le_of_ble_eq_true rfl) ?_
  intro p e s m args below meth c ls F hr hk X hl
  have hl : lv_has ls 2 [(0, .ref (gY G 1)), (1, .int (I a))] := hl
  refine r_iload_n F hl 1 rfl rfl dX2_get_0 ?_
  refine r_if_lt F 22 (by decide) (by omega) dX2_get_1 (fun c1 => ?_) (fun c1 => ?_)
  · omega
  · skip
    refine r_iload_n F hl 1 rfl rfl dX2_get_4 ?_
    refine r_aload_n F hl 0 rfl rfl dX2_get_5 ?_
    refine r_get F X 1 (by decide) (eK_1 G _) rfl gl_RX2 0 (by decide) rfl gf_RX2_9 rfl dX2_get_6 ?_
    refine r_alen F X 2 (by decide) 0 (eK_2 G _) rfl 72 rfl dX2_get_9 ?_
    refine r_icmp_ge F 22 (by decide) (by omega) (by omega) dX2_get_10 (fun c2 => ?_) (fun c2 => ?_)
    · omega
    · skip
      refine r_aload_n F hl 0 rfl rfl dX2_get_13 ?_
      refine r_get F X 1 (by decide) (eK_1 G _) rfl gl_RX2 0 (by decide) rfl gf_RX2_9 rfl dX2_get_14 ?_
      refine r_iload_n F hl 1 rfl rfl dX2_get_17 ?_
      refine r_iald F X 2 (by decide) (eK_2 G) (by omega) (by decide) dX2_get_18 ?_
      refine r_goto F 23 (by decide) dX2_get_19 ?_
      exact r_iret F X hr hk dX2_get_23 (⟨hv, rfl⟩)
theorem c_X2_put (l : Launch) (G : GT) (σ : St) (a : Int) (v : Int) (h : 0 ≤ a ∧ a < 72) : Ct l yX2_put cX2_put 3 none 1 G [.ref (gY G 1), .int (I a), .int (I v)] σ (QV G (fun τ => τ = up σ 2 (upI (σ 2) a v))) := by
  refine mt (own := RX2) (plainFor_of_name rfl) rfl (Nat.le_of_ble_eq_true rfl) ?_
  intro p e s m args below meth c ls F hr hk X hl
  have hl : lv_has ls 3 [(0, .ref (gY G 1)), (1, .int (I a)), (2, .int (I v))] := hl
  refine r_iload_n F hl 1 rfl rfl dX2_put_0 ?_
  refine r_if_lt F 20 (by decide) (by omega) dX2_put_1 (fun c1 => ?_) (fun c1 => ?_)
  · omega
  · skip
    refine r_iload_n F hl 1 rfl rfl dX2_put_4 ?_
    refine r_aload_n F hl 0 rfl rfl dX2_put_5 ?_
    refine r_get F X 1 (by decide) (eK_1 G _) rfl gl_RX2 0 (by decide) rfl gf_RX2_9 rfl dX2_put_6 ?_
    refine r_alen F X 2 (by decide) 0 (eK_2 G _) rfl 72 rfl dX2_put_9 ?_
    refine r_icmp_ge F 20 (by decide) (by omega) (by omega) dX2_put_10 (fun c2 => ?_) (fun c2 => ?_)
    · omega
    · skip
      refine r_aload_n F hl 0 rfl rfl dX2_put_13 ?_
      refine r_get F X 1 (by decide) (eK_1 G _) rfl gl_RX2 0 (by decide) rfl gf_RX2_9 rfl dX2_put_14 ?_
      refine r_iload_n F hl 1 rfl rfl dX2_put_17 ?_
      refine r_iload_n F hl 2 rfl rfl dX2_put_18 ?_
      refine r_iast F X 2 (by decide) (eK_2 G) (by omega) (by decide) dX2_put_19 (fun H locs X => ?_)
      obtain ⟨σ1, eσ1⟩ : ∃ x : St, x = up σ 2 (upI (σ 2) a v) := ⟨_, rfl⟩
      rw [← eσ1] at X
      exact r_vret F X hr hk dX2_put_20 (by rw [eσ1])
theorem c_X2_exchange (l : Launch) (G : GT) (σ : St) (w : Int) (a : Int) (v : Int) (h : 0 ≤ a ∧ a < 72) (hv : σ 2 a = w) : Ct l yX2_exchange cX2_exchange 4 (some .int) 2 G [.ref (gY G 1), .int (I a), .int (I v)] σ (QI G (fun res9 τ => res9 = w ∧ τ = up σ 2 (upI (σ 2) a v))) := by
  refine mt (own := RX2) (plainFor_of_name rfl) rfl (Nat.le_of_ble_eq_true rfl) ?_
  intro p e s m args below meth c ls F hr hk X hl
  have hl : lv_has ls 4 [(0, .ref (gY G 1)), (1, .int (I a)), (2, .int (I v))] := hl
  refine r_aload_n F hl 0 rfl rfl dX2_exchange_0 ?_
  refine r_iload_n F hl 1 rfl rfl dX2_exchange_1 ?_
  refine d_cVI F X 1 (by decide) (eK_1 G _) rfl (c_X2_get l G σ w a (by omega) (hv)) gv_RX2_24 rfl nd_X2_get rfl (rest := []) rfl (Nat.le_of_ble_eq_true rfl) ⟨Nat.le_of_ble_eq_true rfl, Nat.le_of_ble_eq_true rfl⟩ ⟨Nat.zero_le _, Nat.zero_le _⟩ hl.1 dX2_exchange_2 (fun H locs X => ?_)
  refine r_istore_n F hl [(3, .int (I w)), (0, .ref (gY G 1)), (1, .int (I a)), (2, .int (I v))] rfl (by decide) rfl dX2_exchange_5 (fun ls hl => ?_)
  refine r_aload_n F hl 1 rfl rfl dX2_exchange_6 ?_
  refine r_iload_n F hl 2 rfl rfl dX2_exchange_7 ?_
  refine r_iload_n F hl 3 rfl rfl dX2_exchange_8 ?_
  refine d_cVV F X 1 (by decide) (eK_1 G _) rfl (c_X2_put l G σ a v (by omega)) gv_RX2_28 rfl nd_X2_put rfl (rest := []) rfl (Nat.le_of_ble_eq_true rfl) ⟨Nat.le_of_ble_eq_true rfl, Nat.le_of_ble_eq_true rfl⟩ ⟨Nat.zero_le _, Nat.zero_le _⟩ hl.1 dX2_exchange_9 (fun H locs X => ?_)
  obtain ⟨σ1, eσ1⟩ : ∃ x : St, x = up σ 2 (upI (σ 2) a v) := ⟨_, rfl⟩
  rw [← eσ1] at X
  refine r_iload_n F hl 0 rfl rfl dX2_exchange_12 ?_
  exact r_iret F X hr hk dX2_exchange_13 (⟨rfl, by rw [eσ1]⟩)
theorem c_X2_hasStep (l : Launch) (G : GT) (σ : St) (N : Int) (r : Int → Int) (a : Int) (hP : PL σ N r) (hW : WF N r) (ha : -2147483648 ≤ a ∧ a < 2147483648) : Ct l yX2_hasStep cX2_hasStep 2 (some .boolean) 2 G [.ref (gY G 1), .int (I a)] σ (QI G (fun res9 τ => res9 = (if 0 ≤ a ∧ a < N then 1 else 0) ∧ τ = σ)) := by
  refine mt (own := RX2) (plainFor_of_name rfl) rfl (Nat.le_of_ble_eq_true rfl) ?_
  intro p e s m args below meth c ls F hr hk X hl
  have hl : lv_has ls 2 [(0, .ref (gY G 1)), (1, .int (I a))] := hl
  have hw := hW.num
  refine r_iload_n F hl 1 rfl rfl dX2_hasStep_0 ?_
  refine r_if_lt F 17 (by decide) (by omega) dX2_hasStep_1 (fun c1 => ?_) (fun c1 => ?_)
  · skip
    refine r_iconst F dX2_hasStep_17 ?_
    exact r_zret F X hr hk (by omega) dX2_hasStep_18 (⟨by first | rw [if_pos (by omega)] | rw [if_neg (by omega)], rfl⟩)
  · skip
    refine r_iload_n F hl 1 rfl rfl dX2_hasStep_4 ?_
    refine r_aload_n F hl 0 rfl rfl dX2_hasStep_5 ?_
    refine r_iconst F dX2_hasStep_6 ?_
    refine d_cVI F X 1 (by decide) (eK_1 G _) rfl (c_X2_get l G σ N 0 (by omega) (hP.st)) gv_RX2_24 rfl nd_X2_get rfl (rest := [.int (I a)]) rfl (Nat.le_of_ble_eq_true rfl) ⟨Nat.le_of_ble_eq_true rfl, Nat.le_of_ble_eq_true rfl⟩ ⟨Nat.zero_le _, Nat.zero_le _⟩ hl.1 dX2_hasStep_7 (fun H locs X => ?_)
    refine r_icmp_ge F 17 (by decide) (by omega) (by omega) dX2_hasStep_10 (fun c2 => ?_) (fun c2 => ?_)
    · skip
      refine r_iconst F dX2_hasStep_17 ?_
      exact r_zret F X hr hk (by omega) dX2_hasStep_18 (⟨by first | rw [if_pos (by omega)] | rw [if_neg (by omega)], rfl⟩)
    · skip
      refine r_iconst F dX2_hasStep_13 ?_
      refine r_goto F 18 (by decide) dX2_hasStep_14 ?_
      exact r_zret F X hr hk (by omega) dX2_hasStep_18 (⟨by first | rw [if_pos (by omega)] | rw [if_neg (by omega)], rfl⟩)
theorem c_X2_hasSegment (l : Launch) (G : GT) (σ : St) (N : Int) (r : Int → Int) (a : Int) (hP : PL σ N r) (hW : WF N r) (ha : -2147483648 ≤ a ∧ a < 2147483648) : Ct l yX2_hasSegment cX2_hasSegment 2 (some .boolean) 2 G [.ref (gY G 1), .int (I a)] σ (QI G (fun res9 τ => res9 = (if 0 ≤ a ∧ a < r 60 then 1 else 0) ∧ τ = σ)) := by
  refine mt (own := RX2) (plainFor_of_name rfl) rfl (Nat.le_of_ble_eq_true rfl) ?_
  intro p e s m args below meth c ls F hr hk X hl
  have hl : lv_has ls 2 [(0, .ref (gY G 1)), (1, .int (I a))] := hl
  have hw := hW.num
  refine r_iload_n F hl 1 rfl rfl dX2_hasSegment_0 ?_
  refine r_if_lt F 17 (by decide) (by omega) dX2_hasSegment_1 (fun c1 => ?_) (fun c1 => ?_)
  · skip
    refine r_iconst F dX2_hasSegment_17 ?_
    exact r_zret F X hr hk (by omega) dX2_hasSegment_18 (⟨by first | rw [if_pos (by omega)] | rw [if_neg (by omega)], rfl⟩)
  · skip
    refine r_iload_n F hl 1 rfl rfl dX2_hasSegment_4 ?_
    refine r_aload_n F hl 0 rfl rfl dX2_hasSegment_5 ?_
    refine r_iconst F dX2_hasSegment_6 ?_
    refine d_cVI F X 1 (by decide) (eK_1 G _) rfl (c_X2_get l G σ (r 60) 1 (by omega) (hP.se)) gv_RX2_24 rfl nd_X2_get rfl (rest := [.int (I a)]) rfl (Nat.le_of_ble_eq_true rfl) ⟨Nat.le_of_ble_eq_true rfl, Nat.le_of_ble_eq_true rfl⟩ ⟨Nat.zero_le _, Nat.zero_le _⟩ hl.1 dX2_hasSegment_7 (fun H locs X => ?_)
    refine r_icmp_ge F 17 (by decide) (by omega) (by omega) dX2_hasSegment_10 (fun c2 => ?_) (fun c2 => ?_)
    · skip
      refine r_iconst F dX2_hasSegment_17 ?_
      exact r_zret F X hr hk (by omega) dX2_hasSegment_18 (⟨by first | rw [if_pos (by omega)] | rw [if_neg (by omega)], rfl⟩)
    · skip
      refine r_iconst F dX2_hasSegment_13 ?_
      refine r_goto F 18 (by decide) dX2_hasSegment_14 ?_
      exact r_zret F X hr hk (by omega) dX2_hasSegment_18 (⟨by first | rw [if_pos (by omega)] | rw [if_neg (by omega)], rfl⟩)
theorem c_X2_hasMark (l : Launch) (G : GT) (σ : St) (N : Int) (r : Int → Int) (a : Int) (hP : PL σ N r) (hW : WF N r) (ha : -2147483648 ≤ a ∧ a < 2147483648) : Ct l yX2_hasMark cX2_hasMark 2 (some .boolean) 2 G [.ref (gY G 1), .int (I a)] σ (QI G (fun res9 τ => res9 = (if 0 ≤ a ∧ a < r 61 then 1 else 0) ∧ τ = σ)) := by
  refine mt (own := RX2) (plainFor_of_name rfl) rfl (Nat.le_of_ble_eq_true rfl) ?_
  intro p e s m args below meth c ls F hr hk X hl
  have hl : lv_has ls 2 [(0, .ref (gY G 1)), (1, .int (I a))] := hl
  have hw := hW.num
  refine r_iload_n F hl 1 rfl rfl dX2_hasMark_0 ?_
  refine r_if_lt F 18 (by decide) (by omega) dX2_hasMark_1 (fun c1 => ?_) (fun c1 => ?_)
  · skip
    refine r_iconst F dX2_hasMark_18 ?_
    exact r_zret F X hr hk (by omega) dX2_hasMark_19 (⟨by first | rw [if_pos (by omega)] | rw [if_neg (by omega)], rfl⟩)
  · skip
    refine r_iload_n F hl 1 rfl rfl dX2_hasMark_4 ?_
    refine r_aload_n F hl 0 rfl rfl dX2_hasMark_5 ?_
    refine r_bipush F (by decide) dX2_hasMark_6 ?_
    refine d_cVI F X 1 (by decide) (eK_1 G _) rfl (c_X2_get l G σ (r 61) 11 (by omega) (hP.ma)) gv_RX2_24 rfl nd_X2_get rfl (rest := [.int (I a)]) rfl (Nat.le_of_ble_eq_true rfl) ⟨Nat.le_of_ble_eq_true rfl, Nat.le_of_ble_eq_true rfl⟩ ⟨Nat.zero_le _, Nat.zero_le _⟩ hl.1 dX2_hasMark_8 (fun H locs X => ?_)
    refine r_icmp_ge F 18 (by decide) (by omega) (by omega) dX2_hasMark_11 (fun c2 => ?_) (fun c2 => ?_)
    · skip
      refine r_iconst F dX2_hasMark_18 ?_
      exact r_zret F X hr hk (by omega) dX2_hasMark_19 (⟨by first | rw [if_pos (by omega)] | rw [if_neg (by omega)], rfl⟩)
    · skip
      refine r_iconst F dX2_hasMark_14 ?_
      refine r_goto F 19 (by decide) dX2_hasMark_15 ?_
      exact r_zret F X hr hk (by omega) dX2_hasMark_19 (⟨by first | rw [if_pos (by omega)] | rw [if_neg (by omega)], rfl⟩)
theorem c_X2_origin (l : Launch) (G : GT) (σ : St) (N : Int) (r : Int → Int) (a : Int) (hP : PL σ N r) (hW : WF N r) (ha : 0 ≤ a ∧ a < 12) : Ct l yX2_origin cX2_origin 2 (some .int) 2 G [.ref (gY G 1), .int (I a)] σ (QI G (fun res9 τ => res9 = (og r a) ∧ τ = σ)) := by
  refine mt (own := RX2) (plainFor_of_name rfl) rfl (Nat.le_of_ble_eq_true rfl) ?_
  intro p e s m args below meth c ls F hr hk X hl
  have hl : lv_has ls 2 [(0, .ref (gY G 1)), (1, .int (I a))] := hl
  refine r_aload_n F hl 0 rfl rfl dX2_origin_0 ?_
  refine r_iload_n F hl 1 rfl rfl dX2_origin_1 ?_
  refine r_if_ne F 9 (by decide) (by omega) dX2_origin_2 (fun c1 => ?_) (fun c1 => ?_)
  · skip
    refine r_iload_n F hl 1 rfl rfl dX2_origin_9 ?_
    refine r_iconst F dX2_origin_10 ?_
    refine r_isub F dX2_origin_11 ?_
    refine r_iconst F dX2_origin_12 ?_
    refine d_cSI F X (c_X2_placeOf l G σ (a - 1) 1) gv_RX2_36 nd_X2_placeOf rfl (rest := [.ref (gY G 1)]) rfl (Nat.le_of_ble_eq_true rfl) ⟨Nat.le_of_ble_eq_true rfl, Nat.le_of_ble_eq_true rfl⟩ ⟨Nat.zero_le _, Nat.zero_le _⟩ hl.1 dX2_origin_13 (fun H locs X => ?_)
    refine d_cVI F X 1 (by decide) (eK_1 G _) rfl (c_X2_get l G σ (og r a) (12 + 3 * (a - 1) + 1) (by omega) (by unfold og; first | (rw [if_pos (by omega)]; exact hP.set 2 (by omega) (by omega)) | (rw [if_neg (by omega)]; exact hP.en (i := a - 1) (by omega) (by omega)))) gv_RX2_24 rfl nd_X2_get rfl (rest := []) rfl (Nat.le_of_ble_eq_true rfl) ⟨Nat.le_of_ble_eq_true rfl, Nat.le_of_ble_eq_true rfl⟩ ⟨Nat.zero_le _, Nat.zero_le _⟩ hl.1 dX2_origin_16 (fun H locs X => ?_)
    exact r_iret F X hr hk dX2_origin_19 (⟨rfl, rfl⟩)
  · skip
    refine r_iconst F dX2_origin_5 ?_
    refine r_goto F 16 (by decide) dX2_origin_6 ?_
    refine d_cVI F X 1 (by decide) (eK_1 G _) rfl (c_X2_get l G σ (og r a) 2 (by omega) (by unfold og; first | (rw [if_pos (by omega)]; exact hP.set 2 (by omega) (by omega)) | (rw [if_neg (by omega)]; exact hP.en (i := a - 1) (by omega) (by omega)))) gv_RX2_24 rfl nd_X2_get rfl (rest := []) rfl (Nat.le_of_ble_eq_true rfl) ⟨Nat.le_of_ble_eq_true rfl, Nat.le_of_ble_eq_true rfl⟩ ⟨Nat.zero_le _, Nat.zero_le _⟩ hl.1 dX2_origin_16 (fun H locs X => ?_)
    exact r_iret F X hr hk dX2_origin_19 (⟨rfl, rfl⟩)
theorem c_X2_longAheadOf (l : Launch) (G : GT) (σ : St) (N : Int) (r : Int → Int) (a : Int) (hP : PL σ N r) (hW : WF N r) (ha : 0 ≤ a ∧ a ≤ 12) : Ct l yX2_longAheadOf cX2_longAheadOf 4 (some .int) 2 G [.ref (gY G 1), .int (I a)] σ (QI G (fun res9 τ => res9 = (bgI r a) ∧ τ = σ)) := by
  refine mt (own := RX2) (plainFor_of_name rfl) rfl (Nat.le_of_ble_eq_true rfl) ?_
  intro p e s m args below meth c ls F hr hk X hl
  have hl : lv_has ls 4 [(0, .ref (gY G 1)), (1, .int (I a))] := hl
  refine r_iconst F dX2_longAheadOf_0 ?_
  refine r_istore_n F hl [(2, .int (I 0)), (0, .ref (gY G 1)), (1, .int (I a))] rfl (by decide) rfl dX2_longAheadOf_1 (fun ls hl => ?_)
  refine r_iconst F dX2_longAheadOf_2 ?_
  refine r_istore_n F hl [(3, .int (I 0)), (2, .int (I 0)), (0, .ref (gY G 1)), (1, .int (I a))] rfl (by decide) rfl dX2_longAheadOf_3 (fun ls hl => ?_)
  have loop4 : ∀ (n : Nat) (i : Int) (ls : Array Slot) (H : Heap) (locs : List Loc) (hn : a - i < n) (hi : 0 ≤ i ∧ i ≤ a) (X : HX G σ s H locs) (hl : lv_has ls 4 [(0, .ref (gY G 1)), (1, .int (I a)), (2, .int (I (bgI r i))), (3, .int (I i))]), W p l e (rmd 2) s m args below meth c H locs 0 0 (MQ below (QI G (fun res9 τ => res9 = (bgI r a) ∧ τ = σ)) args s 0 0 (gA G)) (F0 m 4 ls []) := by
    intro n
    induction n with
    | zero => intro i ls H locs hn hi X hl; omega
    | succ n ih4 =>
      intro i ls H locs hn hi X hl
      refine r_iload_n F hl 3 rfl rfl dX2_longAheadOf_4 ?_
      refine r_iload_n F hl 1 rfl rfl dX2_longAheadOf_5 ?_
      refine r_icmp_ge F 27 (by decide) (by omega) (by omega) dX2_longAheadOf_6 (fun c1 => ?_) (fun c1 => ?_)
      · skip
        refine r_iload_n F hl 2 rfl rfl dX2_longAheadOf_27 ?_
        exact r_iret F X hr hk dX2_longAheadOf_28 (⟨by rw [show i = a by omega], rfl⟩)
      · skip
        refine r_iload_n F hl 2 rfl rfl dX2_longAheadOf_9 ?_
        refine r_aload_n F hl 0 rfl rfl dX2_longAheadOf_10 ?_
        refine r_iload_n F hl 3 rfl rfl dX2_longAheadOf_11 ?_
        refine r_iconst F dX2_longAheadOf_12 ?_
        refine d_cSI F X (c_X2_placeOf l G σ i 0) gv_RX2_36 nd_X2_placeOf rfl (rest := [.ref (gY G 1), .int (I (bgI r i))]) rfl (Nat.le_of_ble_eq_true rfl) ⟨Nat.le_of_ble_eq_true rfl, Nat.le_of_ble_eq_true rfl⟩ ⟨Nat.zero_le _, Nat.zero_le _⟩ hl.1 dX2_longAheadOf_13 (fun H locs X => ?_)
        refine d_cVI F X 1 (by decide) (eK_1 G _) rfl (c_X2_get l G σ (r i) (12 + 3 * i + 0) (by omega) (hP.lo (by omega) (by omega))) gv_RX2_24 rfl nd_X2_get rfl (rest := [.int (I (bgI r i))]) rfl (Nat.le_of_ble_eq_true rfl) ⟨Nat.le_of_ble_eq_true rfl, Nat.le_of_ble_eq_true rfl⟩ ⟨Nat.zero_le _, Nat.zero_le _⟩ hl.1 dX2_longAheadOf_16 (fun H locs X => ?_)
        refine r_iadd F dX2_longAheadOf_19 ?_
        refine r_eqI (b := bgI r (i + 1)) (bgI_succ r (by omega) |>.symm) ?_
        refine r_istore_n F hl [(2, .int (I (bgI r (i + 1)))), (0, .ref (gY G 1)), (1, .int (I a)), (3, .int (I i))] rfl (by decide) rfl dX2_longAheadOf_20 (fun ls hl => ?_)
        refine r_iinc F hl [(3, .int (I (i + 1))), (2, .int (I (bgI r (i + 1)))), (0, .ref (gY G 1)), (1, .int (I a))] 3 rfl (by decide) rfl dX2_longAheadOf_21 (fun ls hl => ?_)
        refine r_goto F 4 (by decide) dX2_longAheadOf_24 ?_
        exact ih4 (i + 1) _ _ _ (by omega) (by omega) X (lv_sub hl [2, 3, 1, 0] rfl)
  exact loop4 ((a - 0 + 1).toNat) 0 _ _ _ (by omega) (by omega) X (lv_sub hl [2, 3, 1, 0] rfl)
theorem c_X2_dwells (l : Launch) (G : GT) (σ : St) (N : Int) (r : Int → Int) (a : Int) (hP : PL σ N r) (hW : WF N r) (ha : 0 ≤ a ∧ a < 12) : Ct l yX2_dwells cX2_dwells 2 (some .boolean) 3 G [.ref (gY G 1), .int (I a)] σ (QI G (fun res9 τ => res9 = (if dwl r a = true then 1 else 0) ∧ τ = σ)) := by
  refine mt (own := RX2) (plainFor_of_name rfl) rfl (Nat.le_of_ble_eq_true rfl) ?_
  intro p e s m args below meth c ls F hr hk X hl
  have hl : lv_has ls 2 [(0, .ref (gY G 1)), (1, .int (I a))] := hl
  have h1 := hW.en (i := a) (by omega) (by omega)
  have h2 := hW.ogr (s := a) (by omega) (by omega)
  refine r_aload_n F hl 0 rfl rfl dX2_dwells_0 ?_
  refine r_iload_n F hl 1 rfl rfl dX2_dwells_1 ?_
  refine r_iconst F dX2_dwells_2 ?_
  refine d_cSI F X (c_X2_placeOf l G σ a 1) gv_RX2_36 nd_X2_placeOf rfl (rest := [.ref (gY G 1)]) rfl (Nat.le_of_ble_eq_true rfl) ⟨Nat.le_of_ble_eq_true rfl, Nat.le_of_ble_eq_true rfl⟩ ⟨Nat.zero_le _, Nat.zero_le _⟩ hl.1 dX2_dwells_3 (fun H locs X => ?_)
  refine d_cVI F X 1 (by decide) (eK_1 G _) rfl (c_X2_get l G σ (r (12 + a)) (12 + 3 * a + 1) (by omega) (hP.en (by omega) (by omega))) gv_RX2_24 rfl nd_X2_get rfl (rest := []) rfl (Nat.le_of_ble_eq_true rfl) ⟨Nat.le_of_ble_eq_true rfl, Nat.le_of_ble_eq_true rfl⟩ ⟨Nat.zero_le _, Nat.zero_le _⟩ hl.1 dX2_dwells_6 (fun H locs X => ?_)
  refine r_aload_n F hl 0 rfl rfl dX2_dwells_9 ?_
  refine r_iload_n F hl 1 rfl rfl dX2_dwells_10 ?_
  refine d_cVI F X 1 (by decide) (eK_1 G _) rfl (c_X2_origin l G σ N r a hP hW (by omega)) gv_RX2_39 rfl nd_X2_origin rfl (rest := [.int (I (r (12 + a)))]) rfl (Nat.le_of_ble_eq_true rfl) ⟨Nat.le_of_ble_eq_true rfl, Nat.le_of_ble_eq_true rfl⟩ ⟨Nat.zero_le _, Nat.zero_le _⟩ hl.1 dX2_dwells_11 (fun H locs X => ?_)
  refine r_icmp_ne F 21 (by decide) (by omega) (by omega) dX2_dwells_14 (fun c1 => ?_) (fun c1 => ?_)
  · skip
    refine r_iconst F dX2_dwells_21 ?_
    exact r_zret F X hr hk (by omega) dX2_dwells_22 (⟨by first | rw [if_pos (by unfold dwl; exact decide_eq_true (by omega))] | rw [if_neg (by unfold dwl; exact fun q => absurd (of_decide_eq_true q) (by omega))], rfl⟩)
  · skip
    refine r_iconst F dX2_dwells_17 ?_
    refine r_goto F 22 (by decide) dX2_dwells_18 ?_
    exact r_zret F X hr hk (by omega) dX2_dwells_22 (⟨by first | rw [if_pos (by unfold dwl; exact decide_eq_true (by omega))] | rw [if_neg (by unfold dwl; exact fun q => absurd (of_decide_eq_true q) (by omega))], rfl⟩)
theorem c_X2_countMoving (l : Launch) (G : GT) (σ : St) (N : Int) (r : Int → Int) (hP : PL σ N r) (hW : WF N r) : Ct l yX2_countMoving cX2_countMoving 3 (some .int) 4 G [.ref (gY G 1)] σ (QI G (fun res9 τ => res9 = (mvI r (r 60)) ∧ τ = σ)) := by
  refine mt (own := RX2) (plainFor_of_name rfl) rfl (Nat.le_of_ble_eq_true rfl) ?_
  intro p e s m args below meth c ls F hr hk X hl
  have hl : lv_has ls 3 [(0, .ref (gY G 1))] := hl
  have hw := hW.num
  refine r_iconst F dX2_countMoving_0 ?_
  refine r_istore_n F hl [(1, .int (I 0)), (0, .ref (gY G 1))] rfl (by decide) rfl dX2_countMoving_1 (fun ls hl => ?_)
  refine r_iconst F dX2_countMoving_2 ?_
  refine r_istore_n F hl [(2, .int (I 0)), (1, .int (I 0)), (0, .ref (gY G 1))] rfl (by decide) rfl dX2_countMoving_3 (fun ls hl => ?_)
  have loop4 : ∀ (n : Nat) (i : Int) (ls : Array Slot) (H : Heap) (locs : List Loc) (hn : r 60 - i < n) (hi : 0 ≤ i ∧ i ≤ r 60) (X : HX G σ s H locs) (hl : lv_has ls 3 [(0, .ref (gY G 1)), (1, .int (I (mvI r i))), (2, .int (I i))]), W p l e (rmd 4) s m args below meth c H locs 0 0 (MQ below (QI G (fun res9 τ => res9 = (mvI r (r 60)) ∧ τ = σ)) args s 0 0 (gA G)) (F0 m 4 ls []) := by
    intro n
    induction n with
    | zero => intro i ls H locs hn hi X hl; omega
    | succ n ih4 =>
      intro i ls H locs hn hi X hl
      refine r_iload_n F hl 2 rfl rfl dX2_countMoving_4 ?_
      refine r_aload_n F hl 0 rfl rfl dX2_countMoving_5 ?_
      refine r_iconst F dX2_countMoving_6 ?_
      refine d_cVI F X 1 (by decide) (eK_1 G _) rfl (c_X2_get l G σ (r 60) 1 (by omega) (hP.se)) gv_RX2_24 rfl nd_X2_get rfl (rest := [.int (I i)]) rfl (Nat.le_of_ble_eq_true rfl) ⟨Nat.le_of_ble_eq_true rfl, Nat.le_of_ble_eq_true rfl⟩ ⟨Nat.zero_le _, Nat.zero_le _⟩ hl.1 dX2_countMoving_7 (fun H locs X => ?_)
      refine r_icmp_ge F 35 (by decide) (by omega) (by omega) dX2_countMoving_10 (fun c1 => ?_) (fun c1 => ?_)
      · skip
        refine r_iload_n F hl 1 rfl rfl dX2_countMoving_35 ?_
        exact r_iret F X hr hk dX2_countMoving_36 (⟨by rw [show i = r 60 by omega], rfl⟩)
      · skip
        refine r_iload_n F hl 1 rfl rfl dX2_countMoving_13 ?_
        refine r_aload_n F hl 0 rfl rfl dX2_countMoving_14 ?_
        refine r_iload_n F hl 2 rfl rfl dX2_countMoving_15 ?_
        refine d_cVI F X 1 (by decide) (eK_1 G _) rfl (c_X2_dwells l G σ N r i hP hW (by omega)) gv_RX2_42 rfl nd_X2_dwells rfl (rest := [.int (I (mvI r i))]) rfl (Nat.le_of_ble_eq_true rfl) ⟨Nat.le_of_ble_eq_true rfl, Nat.le_of_ble_eq_true rfl⟩ ⟨Nat.zero_le _, Nat.zero_le _⟩ hl.1 dX2_countMoving_16 (fun H locs X => ?_)
        refine r_bz_eq F 26 (dwl r i = true) rfl (by decide) dX2_countMoving_19 (fun c2 => ?_) (fun c2 => ?_)
        · skip
          refine r_iconst F dX2_countMoving_26 ?_
          refine r_iadd F dX2_countMoving_27 ?_
          refine r_eqI (b := mvI r (i + 1)) (by rw [mvI_succ r (by omega)]; first | rw [if_pos (by assumption)] | rw [if_neg (by assumption)]) ?_
          refine r_istore_n F hl [(1, .int (I (mvI r (i + 1)))), (0, .ref (gY G 1)), (2, .int (I i))] rfl (by decide) rfl dX2_countMoving_28 (fun ls hl => ?_)
          refine r_iinc F hl [(2, .int (I (i + 1))), (1, .int (I (mvI r (i + 1)))), (0, .ref (gY G 1))] 2 rfl (by decide) rfl dX2_countMoving_29 (fun ls hl => ?_)
          refine r_goto F 4 (by decide) dX2_countMoving_32 ?_
          exact ih4 (i + 1) _ _ _ (by omega) (by omega) X (lv_sub hl [2, 1, 0] rfl)
        · skip
          refine r_iconst F dX2_countMoving_22 ?_
          refine r_goto F 27 (by decide) dX2_countMoving_23 ?_
          refine r_iadd F dX2_countMoving_27 ?_
          refine r_eqI (b := mvI r (i + 1)) (by rw [mvI_succ r (by omega)]; first | rw [if_pos (by assumption)] | rw [if_neg (by assumption)]) ?_
          refine r_istore_n F hl [(1, .int (I (mvI r (i + 1)))), (0, .ref (gY G 1)), (2, .int (I i))] rfl (by decide) rfl dX2_countMoving_28 (fun ls hl => ?_)
          refine r_iinc F hl [(2, .int (I (i + 1))), (1, .int (I (mvI r (i + 1)))), (0, .ref (gY G 1))] 2 rfl (by decide) rfl dX2_countMoving_29 (fun ls hl => ?_)
          refine r_goto F 4 (by decide) dX2_countMoving_32 ?_
          exact ih4 (i + 1) _ _ _ (by omega) (by omega) X (lv_sub hl [2, 1, 0] rfl)
  exact loop4 ((r 60 - 0 + 1).toNat) 0 _ _ _ (by omega) (by omega) X (lv_sub hl [2, 1, 0] rfl)
theorem c_X2_isWhole (l : Launch) (G : GT) (σ : St) (N : Int) (r : Int → Int) (hP : PL σ N r) (hW : WF N r) : Ct l yX2_isWhole cX2_isWhole 2 (some .boolean) 3 G [.ref (gY G 1)] σ (QI G (fun res9 τ => res9 = (if whl N r = true then 1 else 0) ∧ τ = σ)) := by
  refine mt (own := RX2) (plainFor_of_name rfl) rfl (Nat.le_of_ble_eq_true rfl) ?_
  intro p e s m args below meth c ls F hr hk X hl
  have hl : lv_has ls 2 [(0, .ref (gY G 1))] := hl
  have hw := hW.num
  have hbg := hW.bgr (s := r 60) (by omega) (by omega)
  refine r_aload_n F hl 0 rfl rfl dX2_isWhole_0 ?_
  refine r_iconst F dX2_isWhole_1 ?_
  refine d_cVI F X 1 (by decide) (eK_1 G _) rfl (c_X2_get l G σ (r 60) 1 (by omega) (hP.se)) gv_RX2_24 rfl nd_X2_get rfl (rest := []) rfl (Nat.le_of_ble_eq_true rfl) ⟨Nat.le_of_ble_eq_true rfl, Nat.le_of_ble_eq_true rfl⟩ ⟨Nat.zero_le _, Nat.zero_le _⟩ hl.1 dX2_isWhole_2 (fun H locs X => ?_)
  refine r_istore_n F hl [(1, .int (I (r 60))), (0, .ref (gY G 1))] rfl (by decide) rfl dX2_isWhole_5 (fun ls hl => ?_)
  refine r_iload_n F hl 0 rfl rfl dX2_isWhole_6 ?_
  refine r_if_le F 46 (by decide) (by omega) dX2_isWhole_7 (fun c1 => ?_) (fun c1 => ?_)
  · skip
    refine r_iconst F dX2_isWhole_46 ?_
    exact r_zret F X hr hk (by omega) dX2_isWhole_47 (⟨by first | rw [if_pos (by rw [whl_iff]; omega)] | rw [if_neg (by rw [whl_iff]; omega)], rfl⟩)
  · skip
    refine r_aload_n F hl 1 rfl rfl dX2_isWhole_10 ?_
    refine r_iload_n F hl 0 rfl rfl dX2_isWhole_11 ?_
    refine d_cVI F X 1 (by decide) (eK_1 G _) rfl (c_X2_longAheadOf l G σ N r (r 60) hP hW (by omega)) gv_RX2_46 rfl nd_X2_longAheadOf rfl (rest := []) rfl (Nat.le_of_ble_eq_true rfl) ⟨Nat.le_of_ble_eq_true rfl, Nat.le_of_ble_eq_true rfl⟩ ⟨Nat.zero_le _, Nat.zero_le _⟩ hl.1 dX2_isWhole_12 (fun H locs X => ?_)
    refine r_aload_n F hl 1 rfl rfl dX2_isWhole_15 ?_
    refine r_iconst F dX2_isWhole_16 ?_
    refine d_cVI F X 1 (by decide) (eK_1 G _) rfl (c_X2_get l G σ N 0 (by omega) (hP.st)) gv_RX2_24 rfl nd_X2_get rfl (rest := [.int (I (bgI r (r 60)))]) rfl (Nat.le_of_ble_eq_true rfl) ⟨Nat.le_of_ble_eq_true rfl, Nat.le_of_ble_eq_true rfl⟩ ⟨Nat.zero_le _, Nat.zero_le _⟩ hl.1 dX2_isWhole_17 (fun H locs X => ?_)
    refine r_icmp_ne F 46 (by decide) (by omega) (by omega) dX2_isWhole_20 (fun c2 => ?_) (fun c2 => ?_)
    · skip
      refine r_iconst F dX2_isWhole_46 ?_
      exact r_zret F X hr hk (by omega) dX2_isWhole_47 (⟨by first | rw [if_pos (by rw [whl_iff]; omega)] | rw [if_neg (by rw [whl_iff]; omega)], rfl⟩)
    · skip
      have h1 := hW.en (i := r 60 - 1) (by omega) (by omega)
      refine r_aload_n F hl 1 rfl rfl dX2_isWhole_23 ?_
      refine r_iload_n F hl 0 rfl rfl dX2_isWhole_24 ?_
      refine r_iconst F dX2_isWhole_25 ?_
      refine r_isub F dX2_isWhole_26 ?_
      refine r_iconst F dX2_isWhole_27 ?_
      refine d_cSI F X (c_X2_placeOf l G σ ((r 60) - 1) 1) gv_RX2_36 nd_X2_placeOf rfl (rest := [.ref (gY G 1)]) rfl (Nat.le_of_ble_eq_true rfl) ⟨Nat.le_of_ble_eq_true rfl, Nat.le_of_ble_eq_true rfl⟩ ⟨Nat.zero_le _, Nat.zero_le _⟩ hl.1 dX2_isWhole_28 (fun H locs X => ?_)
      refine d_cVI F X 1 (by decide) (eK_1 G _) rfl (c_X2_get l G σ (r (12 + (r 60 - 1))) (12 + 3 * ((r 60) - 1) + 1) (by omega) (hP.en (by omega) (by omega))) gv_RX2_24 rfl nd_X2_get rfl (rest := []) rfl (Nat.le_of_ble_eq_true rfl) ⟨Nat.le_of_ble_eq_true rfl, Nat.le_of_ble_eq_true rfl⟩ ⟨Nat.zero_le _, Nat.zero_le _⟩ hl.1 dX2_isWhole_31 (fun H locs X => ?_)
      refine r_aload_n F hl 1 rfl rfl dX2_isWhole_34 ?_
      refine r_iconst F dX2_isWhole_35 ?_
      refine d_cVI F X 1 (by decide) (eK_1 G _) rfl (c_X2_get l G σ (r 62) 2 (by omega) (hP.set 2 (by omega) (by omega))) gv_RX2_24 rfl nd_X2_get rfl (rest := [.int (I (r (12 + (r 60 - 1))))]) rfl (Nat.le_of_ble_eq_true rfl) ⟨Nat.le_of_ble_eq_true rfl, Nat.le_of_ble_eq_true rfl⟩ ⟨Nat.zero_le _, Nat.zero_le _⟩ hl.1 dX2_isWhole_36 (fun H locs X => ?_)
      refine r_icmp_ne F 46 (by decide) (by omega) (by omega) dX2_isWhole_39 (fun c3 => ?_) (fun c3 => ?_)
      · skip
        refine r_iconst F dX2_isWhole_46 ?_
        exact r_zret F X hr hk (by omega) dX2_isWhole_47 (⟨by first | rw [if_pos (by rw [whl_iff]; omega)] | rw [if_neg (by rw [whl_iff]; omega)], rfl⟩)
      · skip
        refine r_iconst F dX2_isWhole_42 ?_
        refine r_goto F 47 (by decide) dX2_isWhole_43 ?_
        exact r_zret F X hr hk (by omega) dX2_isWhole_47 (⟨by first | rw [if_pos (by rw [whl_iff]; omega)] | rw [if_neg (by rw [whl_iff]; omega)], rfl⟩)
