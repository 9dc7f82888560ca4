theorem um_rd {r : Int → Int} {m k i : Int} (hm : 0 ≤ m ∧ m ≤ k ∧ k < 7) (hi : i = 36 + k + 1 ∨ i = 44 + k + 1 ∨ i = 52 + k + 1) : um r m k i = r i := by
  unfold um
  rw [if_neg (by omega), if_neg (by omega)]
theorem unm_out {r : Int → Int} {m p : Int} (hm : 0 ≤ m ∧ r 61 ≤ 8) (h : p < 0 ∨ 71 ≤ p) : unm r m p = r p := by
  unfold unm
  rw [if_neg (by omega), if_neg (by omega)]
theorem c_X5_tells (l : Launch) (G : GT) (σ : St) (N : Int) (r : Int → Int) (n : Int) (hs : Int → Int → Int) (a : Int) (cn : Int) (v : Int) (hM : MX σ N r n hs) (hW : WF N r) (hcn : cn = 0 ∨ cn = 1) (ha : cn = 1 → 0 ≤ a ∧ a < 71) : Ct l yX5_tells cX5_tells 5 (some .int) 2 G [.ref (gY G 36), .int (I a), .int (I cn), .int (I v)] σ (QI G (fun x9 τ9 => (KY σ τ9 ∧ τ9 36 0 = σ 36 0) ∧ if cn = 1 then x9 = r a ∧ MX τ9 N (upI r a v) (min (n + 1) 20) (hpush r hs) else x9 = -1 ∧ MX τ9 N r n hs)) := by
  refine mt (own := RX5) (plainFor_of_name rfl) rfl (Nat.le_of_ble_eq_true rfl) ?_
  intro p e s m args below meth c ls F hr hk X hl
  have hl : lv_has ls 5 [(0, .ref (gY G 36)), (1, .int (I a)), (2, .int (I cn)), (3, .int (I v))] := hl
  have hw := hW.num
  have hro := hM.2.1
  have hN := hM.1
  refine r_iload_n F hl 2 rfl rfl dX5_tells_0 ?_
  refine r_if_ne F 6 (by decide) (by omega) dX5_tells_1 (fun c1 => ?_) (fun c1 => ?_)
  · skip
    refine r_aload_n F hl 0 rfl rfl dX5_tells_6 ?_
    refine r_cVV F X 36 (by decide) (eK_36 G _) rfl (c_X5_keeps l G σ N r n hs (hM) hW) gv_RX5_49 rfl nd_X5_keeps rfl (rest := []) rfl (Nat.le_of_ble_eq_true rfl) ⟨Nat.le_of_ble_eq_true rfl, Nat.le_of_ble_eq_true rfl⟩ ⟨Nat.zero_le _, Nat.zero_le _⟩ hl.1 dX5_tells_7 (fun κ H locs hκ X => ?_)
    have hM2 := MX.kp (σ := σ) ⟨hM, fun _ _ => rfl, rfl⟩ hκ.1 hκ.2
    have hrκ := hM2.1.2.1
    have hNκ := hM2.1.1
    have ha2 := ha (by omega)
    refine r_aload_n F hl 0 rfl rfl dX5_tells_10 ?_
    refine r_get F X 36 (by decide) (eK_36 G _) rfl gl_RX5 2 (by decide) rfl gf_RX5_16 rfl dX5_tells_11 ?_
    refine r_iload_n F hl 1 rfl rfl dX5_tells_14 ?_
    refine r_iald F X 37 (by decide) (eK_37 G) (by omega) (by decide) dX5_tells_15 ?_
    refine r_eqI (b := r a) (by rw [hrκ]) ?_
    refine r_istore F hl [(4, .int (I (r a))), (0, .ref (gY G 36)), (1, .int (I a)), (2, .int (I cn)), (3, .int (I v))] (by decide) rfl dX5_tells_16 (fun ls hl => ?_)
    refine r_aload_n F hl 1 rfl rfl dX5_tells_18 ?_
    refine r_get F X 36 (by decide) (eK_36 G _) rfl gl_RX5 2 (by decide) rfl gf_RX5_16 rfl dX5_tells_19 ?_
    refine r_iload_n F hl 2 rfl rfl dX5_tells_22 ?_
    refine r_iload_n F hl 4 rfl rfl dX5_tells_23 ?_
    refine r_iast F X 37 (by decide) (eK_37 G) (by omega) (by decide) dX5_tells_24 (fun H locs X => ?_)
    obtain ⟨σ1, eσ1⟩ : ∃ x9 : St, x9 = up κ 37 (upI (κ 37) a v) := ⟨_, rfl⟩
    rw [← eσ1] at X
    have hrσ1 : σ1 37 = upI r a v := by rw [eσ1, up_eq, hrκ]
    have hNσ1 : σ1 36 1 = N := by rw [eσ1, up_ne (by omega)]; exact hNκ
    refine r_iload F hl 0 rfl dX5_tells_25 ?_
    exact r_iret F X hr hk dX5_tells_27 (by have m0 := MX.upd hM2 (by omega) eσ1; exact ⟨m0.2, by rw [if_pos (by omega)]; exact ⟨rfl, m0.1⟩⟩)
  · skip
    refine r_iconst F dX5_tells_4 ?_
    exact r_iret F X hr hk dX5_tells_5 (⟨⟨fun _ _ => rfl, rfl⟩, by rw [if_neg (by omega)]; exact ⟨rfl, hM⟩⟩)
theorem c_X5_start (l : Launch) (G : GT) (σ : St) (N : Int) (r : Int → Int) (n : Int) (hs : Int → Int → Int) (v : Int) (hM : MX σ N r n hs) (hW : WF N r) (hv : -2147483648 ≤ v ∧ v < 2147483648) : Ct l yX5_start cX5_start 2 (some .int) 3 G [.ref (gY G 36), .int (I v)] σ (QI G (fun x9 τ9 => (KY σ τ9 ∧ τ9 36 0 = 0) ∧ if 0 ≤ v ∧ v ≤ 999 then x9 = r 62 ∧ MX τ9 N (upI r 62 v) (min (n + 1) 20) (hpush r hs) else x9 = -1 ∧ MX τ9 N r n hs)) := by
  refine mt (own := RX5) (plainFor_of_name rfl) rfl (Nat.le_of_ble_eq_true rfl) ?_
  intro p e s m args below meth c ls F hr hk X hl
  have hl : lv_has ls 2 [(0, .ref (gY G 36)), (1, .int (I v))] := hl
  have hw := hW.num
  have hro := hM.2.1
  have hN := hM.1
  refine r_aload_n F hl 0 rfl rfl dX5_start_0 ?_
  refine r_iconst F dX5_start_1 ?_
  refine r_put F X 36 (by decide) (upI (σ 36) 0 0) (eK_36 G _) rfl gl_RX5 tyX5 tyX5_ok nmX5 0 (by decide) rfl gf_RX5_1 rfl (tyX5_ok 0 (by decide)) rfl rfl (Nat.le_of_ble_eq_true rfl) (eK_36 G _) dX5_start_2 (fun H locs X => ?_)
  obtain ⟨σ1, eσ1⟩ : ∃ x9 : St, x9 = up σ 36 (upI (σ 36) 0 0) := ⟨_, rfl⟩
  rw [← eσ1] at X
  have hrσ1 : σ1 37 = r := by rw [eσ1, up_ne (by omega)]; exact hro
  have hNσ1 : σ1 36 1 = N := by rw [eσ1, up_eq, upI_ne (by omega)]; exact hN
  have hM1 := hM.th (v := 0) eσ1
  refine r_aload_n F hl 0 rfl rfl dX5_start_5 ?_
  refine r_bipush F (by decide) dX5_start_6 ?_
  refine r_iload_n F hl 1 rfl rfl dX5_start_8 ?_
  refine r_i2l F (by omega) dX5_start_9 ?_
  refine r_lconst F 0 (by decide +kernel) dX5_start_10 ?_
  refine r_ldc2 F 999 gk_RX5_45 (by decide +kernel) dX5_start_11 ?_
  refine d_cSI F X (c_X5_within l G σ1 v 0 999 (by omega) (by omega) (by omega)) gv_RX5_39 nd_X5_within rfl (rest := [.int (I 62), .ref (gY G 36)]) rfl (Nat.le_of_ble_eq_true rfl) ⟨Nat.le_of_ble_eq_true rfl, Nat.le_of_ble_eq_true rfl⟩ ⟨Nat.zero_le _, Nat.zero_le _⟩ hl.1 dX5_start_14 (fun H locs X => ?_)
  refine r_iload_n F hl 1 rfl rfl dX5_start_17 ?_
  refine r_cVI F X 36 (by decide) (eK_36 G _) rfl (c_X5_tells l G σ1 N r n hs 62 (if 0 ≤ v ∧ v ≤ 999 then 1 else 0) v (hM1.1) hW (by split <;> simp) (fun _ => by omega)) gv_RX5_56 rfl nd_X5_tells rfl (rest := []) rfl (Nat.le_of_ble_eq_true rfl) ⟨Nat.le_of_ble_eq_true rfl, Nat.le_of_ble_eq_true rfl⟩ ⟨Nat.zero_le _, Nat.zero_le _⟩ hl.1 dX5_start_18 (fun x1 ω H locs hω X => ?_)
  exact r_iret F X hr hk dX5_start_21 (by refine ⟨⟨fun k9 q9 => (by rw [hω.1.1 k9 q9]; exact hM1.2.1 k9 q9), (by rw [hω.1.2]; exact hM1.2.2)⟩, ?_⟩; have h8 := hω.2; by_cases z : 0 ≤ v ∧ v ≤ 999; (rw [if_pos z]; rw [if_pos z, if_pos rfl] at h8; exact h8); (rw [if_neg z]; rw [if_neg z, if_neg (by decide)] at h8; exact h8))
theorem c_X5_base (l : Launch) (G : GT) (σ : St) (N : Int) (r : Int → Int) (n : Int) (hs : Int → Int → Int) (v : Int) (hM : MX σ N r n hs) (hW : WF N r) (hv : -2147483648 ≤ v ∧ v < 2147483648) : Ct l yX5_base cX5_base 2 (some .int) 3 G [.ref (gY G 36), .int (I v)] σ (QI G (fun x9 τ9 => (KY σ τ9 ∧ τ9 36 0 = 0) ∧ if 10 ≤ v ∧ v ≤ 9999 then x9 = r 63 ∧ MX τ9 N (upI r 63 v) (min (n + 1) 20) (hpush r hs) else x9 = -1 ∧ MX τ9 N r n hs)) := by
  refine mt (own := RX5) (plainFor_of_name rfl) rfl (Nat.le_of_ble_eq_true rfl) ?_
  intro p e s m args below meth c ls F hr hk X hl
  have hl : lv_has ls 2 [(0, .ref (gY G 36)), (1, .int (I v))] := hl
  have hw := hW.num
  have hro := hM.2.1
  have hN := hM.1
  refine r_aload_n F hl 0 rfl rfl dX5_base_0 ?_
  refine r_iconst F dX5_base_1 ?_
  refine r_put F X 36 (by decide) (upI (σ 36) 0 0) (eK_36 G _) rfl gl_RX5 tyX5 tyX5_ok nmX5 0 (by decide) rfl gf_RX5_1 rfl (tyX5_ok 0 (by decide)) rfl rfl (Nat.le_of_ble_eq_true rfl) (eK_36 G _) dX5_base_2 (fun H locs X => ?_)
  obtain ⟨σ1, eσ1⟩ : ∃ x9 : St, x9 = up σ 36 (upI (σ 36) 0 0) := ⟨_, rfl⟩
  rw [← eσ1] at X
  have hrσ1 : σ1 37 = r := by rw [eσ1, up_ne (by omega)]; exact hro
  have hNσ1 : σ1 36 1 = N := by rw [eσ1, up_eq, upI_ne (by omega)]; exact hN
  have hM1 := hM.th (v := 0) eσ1
  refine r_aload_n F hl 0 rfl rfl dX5_base_5 ?_
  refine r_bipush F (by decide) dX5_base_6 ?_
  refine r_iload_n F hl 1 rfl rfl dX5_base_8 ?_
  refine r_i2l F (by omega) dX5_base_9 ?_
  refine r_ldc2 F 10 gk_RX5_60 (by decide +kernel) dX5_base_10 ?_
  refine r_ldc2 F 9999 gk_RX5_62 (by decide +kernel) dX5_base_13 ?_
  refine d_cSI F X (c_X5_within l G σ1 v 10 9999 (by omega) (by omega) (by omega)) gv_RX5_39 nd_X5_within rfl (rest := [.int (I 63), .ref (gY G 36)]) rfl (Nat.le_of_ble_eq_true rfl) ⟨Nat.le_of_ble_eq_true rfl, Nat.le_of_ble_eq_true rfl⟩ ⟨Nat.zero_le _, Nat.zero_le _⟩ hl.1 dX5_base_16 (fun H locs X => ?_)
  refine r_iload_n F hl 1 rfl rfl dX5_base_19 ?_
  refine r_cVI F X 36 (by decide) (eK_36 G _) rfl (c_X5_tells l G σ1 N r n hs 63 (if 10 ≤ v ∧ v ≤ 9999 then 1 else 0) v (hM1.1) hW (by split <;> simp) (fun _ => by omega)) gv_RX5_56 rfl nd_X5_tells rfl (rest := []) rfl (Nat.le_of_ble_eq_true rfl) ⟨Nat.le_of_ble_eq_true rfl, Nat.le_of_ble_eq_true rfl⟩ ⟨Nat.zero_le _, Nat.zero_le _⟩ hl.1 dX5_base_20 (fun x1 ω H locs hω X => ?_)
  exact r_iret F X hr hk dX5_base_23 (by refine ⟨⟨fun k9 q9 => (by rw [hω.1.1 k9 q9]; exact hM1.2.1 k9 q9), (by rw [hω.1.2]; exact hM1.2.2)⟩, ?_⟩; have h8 := hω.2; by_cases z : 10 ≤ v ∧ v ≤ 9999; (rw [if_pos z]; rw [if_pos z, if_pos rfl] at h8; exact h8); (rw [if_neg z]; rw [if_neg z, if_neg (by decide)] at h8; exact h8))
theorem c_X5_roller (l : Launch) (G : GT) (σ : St) (N : Int) (r : Int → Int) (n : Int) (hs : Int → Int → Int) (v : Int) (hM : MX σ N r n hs) (hW : WF N r) (hv : -2147483648 ≤ v ∧ v < 2147483648) : Ct l yX5_roller cX5_roller 2 (some .int) 3 G [.ref (gY G 36), .int (I v)] σ (QI G (fun x9 τ9 => (KY σ τ9 ∧ τ9 36 0 = 0) ∧ if 1 ≤ v ∧ v ≤ 9999 then x9 = r 64 ∧ MX τ9 N (upI r 64 v) (min (n + 1) 20) (hpush r hs) else x9 = -1 ∧ MX τ9 N r n hs)) := by
  refine mt (own := RX5) (plainFor_of_name rfl) rfl (Nat.le_of_ble_eq_true rfl) ?_
  intro p e s m args below meth c ls F hr hk X hl
  have hl : lv_has ls 2 [(0, .ref (gY G 36)), (1, .int (I v))] := hl
  have hw := hW.num
  have hro := hM.2.1
  have hN := hM.1
  refine r_aload_n F hl 0 rfl rfl dX5_roller_0 ?_
  refine r_iconst F dX5_roller_1 ?_
  refine r_put F X 36 (by decide) (upI (σ 36) 0 0) (eK_36 G _) rfl gl_RX5 tyX5 tyX5_ok nmX5 0 (by decide) rfl gf_RX5_1 rfl (tyX5_ok 0 (by decide)) rfl rfl (Nat.le_of_ble_eq_true rfl) (eK_36 G _) dX5_roller_2 (fun H locs X => ?_)
  obtain ⟨σ1, eσ1⟩ : ∃ x9 : St, x9 = up σ 36 (upI (σ 36) 0 0) := ⟨_, rfl⟩
  rw [← eσ1] at X
  have hrσ1 : σ1 37 = r := by rw [eσ1, up_ne (by omega)]; exact hro
  have hNσ1 : σ1 36 1 = N := by rw [eσ1, up_eq, upI_ne (by omega)]; exact hN
  have hM1 := hM.th (v := 0) eσ1
  refine r_aload_n F hl 0 rfl rfl dX5_roller_5 ?_
  refine r_bipush F (by decide) dX5_roller_6 ?_
  refine r_iload_n F hl 1 rfl rfl dX5_roller_8 ?_
  refine r_i2l F (by omega) dX5_roller_9 ?_
  refine r_lconst F 1 (by decide +kernel) dX5_roller_10 ?_
  refine r_ldc2 F 9999 gk_RX5_62 (by decide +kernel) dX5_roller_11 ?_
  refine d_cSI F X (c_X5_within l G σ1 v 1 9999 (by omega) (by omega) (by omega)) gv_RX5_39 nd_X5_within rfl (rest := [.int (I 64), .ref (gY G 36)]) rfl (Nat.le_of_ble_eq_true rfl) ⟨Nat.le_of_ble_eq_true rfl, Nat.le_of_ble_eq_true rfl⟩ ⟨Nat.zero_le _, Nat.zero_le _⟩ hl.1 dX5_roller_14 (fun H locs X => ?_)
  refine r_iload_n F hl 1 rfl rfl dX5_roller_17 ?_
  refine r_cVI F X 36 (by decide) (eK_36 G _) rfl (c_X5_tells l G σ1 N r n hs 64 (if 1 ≤ v ∧ v ≤ 9999 then 1 else 0) v (hM1.1) hW (by split <;> simp) (fun _ => by omega)) gv_RX5_56 rfl nd_X5_tells rfl (rest := []) rfl (Nat.le_of_ble_eq_true rfl) ⟨Nat.le_of_ble_eq_true rfl, Nat.le_of_ble_eq_true rfl⟩ ⟨Nat.zero_le _, Nat.zero_le _⟩ hl.1 dX5_roller_18 (fun x1 ω H locs hω X => ?_)
  exact r_iret F X hr hk dX5_roller_21 (by refine ⟨⟨fun k9 q9 => (by rw [hω.1.1 k9 q9]; exact hM1.2.1 k9 q9), (by rw [hω.1.2]; exact hM1.2.2)⟩, ?_⟩; have h8 := hω.2; by_cases z : 1 ≤ v ∧ v ≤ 9999; (rw [if_pos z]; rw [if_pos z, if_pos rfl] at h8; exact h8); (rw [if_neg z]; rw [if_neg z, if_neg (by decide)] at h8; exact h8))
theorem c_X5_speed (l : Launch) (G : GT) (σ : St) (N : Int) (r : Int → Int) (n : Int) (hs : Int → Int → Int) (v : Int) (hM : MX σ N r n hs) (hW : WF N r) (hv : -2147483648 ≤ v ∧ v < 2147483648) : Ct l yX5_speed cX5_speed 2 (some .int) 3 G [.ref (gY G 36), .int (I v)] σ (QI G (fun x9 τ9 => (KY σ τ9 ∧ τ9 36 0 = 0) ∧ if 0 ≤ v ∧ v ≤ 9999 then x9 = r 68 ∧ MX τ9 N (upI r 68 v) (min (n + 1) 20) (hpush r hs) else x9 = -1 ∧ MX τ9 N r n hs)) := by
  refine mt (own := RX5) (plainFor_of_name rfl) rfl (Nat.le_of_ble_eq_true rfl) ?_
  intro p e s m args below meth c ls F hr hk X hl
  have hl : lv_has ls 2 [(0, .ref (gY G 36)), (1, .int (I v))] := hl
  have hw := hW.num
  have hro := hM.2.1
  have hN := hM.1
  refine r_aload_n F hl 0 rfl rfl dX5_speed_0 ?_
  refine r_iconst F dX5_speed_1 ?_
  refine r_put F X 36 (by decide) (upI (σ 36) 0 0) (eK_36 G _) rfl gl_RX5 tyX5 tyX5_ok nmX5 0 (by decide) rfl gf_RX5_1 rfl (tyX5_ok 0 (by decide)) rfl rfl (Nat.le_of_ble_eq_true rfl) (eK_36 G _) dX5_speed_2 (fun H locs X => ?_)
  obtain ⟨σ1, eσ1⟩ : ∃ x9 : St, x9 = up σ 36 (upI (σ 36) 0 0) := ⟨_, rfl⟩
  rw [← eσ1] at X
  have hrσ1 : σ1 37 = r := by rw [eσ1, up_ne (by omega)]; exact hro
  have hNσ1 : σ1 36 1 = N := by rw [eσ1, up_eq, upI_ne (by omega)]; exact hN
  have hM1 := hM.th (v := 0) eσ1
  refine r_aload_n F hl 0 rfl rfl dX5_speed_5 ?_
  refine r_bipush F (by decide) dX5_speed_6 ?_
  refine r_iload_n F hl 1 rfl rfl dX5_speed_8 ?_
  refine r_i2l F (by omega) dX5_speed_9 ?_
  refine r_lconst F 0 (by decide +kernel) dX5_speed_10 ?_
  refine r_ldc2 F 9999 gk_RX5_62 (by decide +kernel) dX5_speed_11 ?_
  refine d_cSI F X (c_X5_within l G σ1 v 0 9999 (by omega) (by omega) (by omega)) gv_RX5_39 nd_X5_within rfl (rest := [.int (I 68), .ref (gY G 36)]) rfl (Nat.le_of_ble_eq_true rfl) ⟨Nat.le_of_ble_eq_true rfl, Nat.le_of_ble_eq_true rfl⟩ ⟨Nat.zero_le _, Nat.zero_le _⟩ hl.1 dX5_speed_14 (fun H locs X => ?_)
  refine r_iload_n F hl 1 rfl rfl dX5_speed_17 ?_
  refine r_cVI F X 36 (by decide) (eK_36 G _) rfl (c_X5_tells l G σ1 N r n hs 68 (if 0 ≤ v ∧ v ≤ 9999 then 1 else 0) v (hM1.1) hW (by split <;> simp) (fun _ => by omega)) gv_RX5_56 rfl nd_X5_tells rfl (rest := []) rfl (Nat.le_of_ble_eq_true rfl) ⟨Nat.le_of_ble_eq_true rfl, Nat.le_of_ble_eq_true rfl⟩ ⟨Nat.zero_le _, Nat.zero_le _⟩ hl.1 dX5_speed_18 (fun x1 ω H locs hω X => ?_)
  exact r_iret F X hr hk dX5_speed_21 (by refine ⟨⟨fun k9 q9 => (by rw [hω.1.1 k9 q9]; exact hM1.2.1 k9 q9), (by rw [hω.1.2]; exact hM1.2.2)⟩, ?_⟩; have h8 := hω.2; by_cases z : 0 ≤ v ∧ v ≤ 9999; (rw [if_pos z]; rw [if_pos z, if_pos rfl] at h8; exact h8); (rw [if_neg z]; rw [if_neg z, if_neg (by decide)] at h8; exact h8))
theorem c_X5_steepest (l : Launch) (G : GT) (σ : St) (N : Int) (r : Int → Int) (n : Int) (hs : Int → Int → Int) (v : Int) (hM : MX σ N r n hs) (hW : WF N r) (hv : -2147483648 ≤ v ∧ v < 2147483648) : Ct l yX5_steepest cX5_steepest 2 (some .int) 3 G [.ref (gY G 36), .int (I v)] σ (QI G (fun x9 τ9 => (KY σ τ9 ∧ τ9 36 0 = 0) ∧ if 0 ≤ v ∧ v ≤ 9999 then x9 = r 69 ∧ MX τ9 N (upI r 69 v) (min (n + 1) 20) (hpush r hs) else x9 = -1 ∧ MX τ9 N r n hs)) := by
  refine mt (own := RX5) (plainFor_of_name rfl) rfl (Nat.le_of_ble_eq_true rfl) ?_
  intro p e s m args below meth c ls F hr hk X hl
  have hl : lv_has ls 2 [(0, .ref (gY G 36)), (1, .int (I v))] := hl
  have hw := hW.num
  have hro := hM.2.1
  have hN := hM.1
  refine r_aload_n F hl 0 rfl rfl dX5_steepest_0 ?_
  refine r_iconst F dX5_steepest_1 ?_
  refine r_put F X 36 (by decide) (upI (σ 36) 0 0) (eK_36 G _) rfl gl_RX5 tyX5 tyX5_ok nmX5 0 (by decide) rfl gf_RX5_1 rfl (tyX5_ok 0 (by decide)) rfl rfl (Nat.le_of_ble_eq_true rfl) (eK_36 G _) dX5_steepest_2 (fun H locs X => ?_)
  obtain ⟨σ1, eσ1⟩ : ∃ x9 : St, x9 = up σ 36 (upI (σ 36) 0 0) := ⟨_, rfl⟩
  rw [← eσ1] at X
  have hrσ1 : σ1 37 = r := by rw [eσ1, up_ne (by omega)]; exact hro
  have hNσ1 : σ1 36 1 = N := by rw [eσ1, up_eq, upI_ne (by omega)]; exact hN
  have hM1 := hM.th (v := 0) eσ1
  refine r_aload_n F hl 0 rfl rfl dX5_steepest_5 ?_
  refine r_bipush F (by decide) dX5_steepest_6 ?_
  refine r_iload_n F hl 1 rfl rfl dX5_steepest_8 ?_
  refine r_i2l F (by omega) dX5_steepest_9 ?_
  refine r_lconst F 0 (by decide +kernel) dX5_steepest_10 ?_
  refine r_ldc2 F 9999 gk_RX5_62 (by decide +kernel) dX5_steepest_11 ?_
  refine d_cSI F X (c_X5_within l G σ1 v 0 9999 (by omega) (by omega) (by omega)) gv_RX5_39 nd_X5_within rfl (rest := [.int (I 69), .ref (gY G 36)]) rfl (Nat.le_of_ble_eq_true rfl) ⟨Nat.le_of_ble_eq_true rfl, Nat.le_of_ble_eq_true rfl⟩ ⟨Nat.zero_le _, Nat.zero_le _⟩ hl.1 dX5_steepest_14 (fun H locs X => ?_)
  refine r_iload_n F hl 1 rfl rfl dX5_steepest_17 ?_
  refine r_cVI F X 36 (by decide) (eK_36 G _) rfl (c_X5_tells l G σ1 N r n hs 69 (if 0 ≤ v ∧ v ≤ 9999 then 1 else 0) v (hM1.1) hW (by split <;> simp) (fun _ => by omega)) gv_RX5_56 rfl nd_X5_tells rfl (rest := []) rfl (Nat.le_of_ble_eq_true rfl) ⟨Nat.le_of_ble_eq_true rfl, Nat.le_of_ble_eq_true rfl⟩ ⟨Nat.zero_le _, Nat.zero_le _⟩ hl.1 dX5_steepest_18 (fun x1 ω H locs hω X => ?_)
  exact r_iret F X hr hk dX5_steepest_21 (by refine ⟨⟨fun k9 q9 => (by rw [hω.1.1 k9 q9]; exact hM1.2.1 k9 q9), (by rw [hω.1.2]; exact hM1.2.2)⟩, ?_⟩; have h8 := hω.2; by_cases z : 0 ≤ v ∧ v ≤ 9999; (rw [if_pos z]; rw [if_pos z, if_pos rfl] at h8; exact h8); (rw [if_neg z]; rw [if_neg z, if_neg (by decide)] at h8; exact h8))
theorem c_X5_slack (l : Launch) (G : GT) (σ : St) (N : Int) (r : Int → Int) (n : Int) (hs : Int → Int → Int) (v : Int) (hM : MX σ N r n hs) (hW : WF N r) (hv : -2147483648 ≤ v ∧ v < 2147483648) : Ct l yX5_slack cX5_slack 2 (some .int) 3 G [.ref (gY G 36), .int (I v)] σ (QI G (fun x9 τ9 => (KY σ τ9 ∧ τ9 36 0 = 0) ∧ if 0 ≤ v ∧ v ≤ 99 then x9 = r 70 ∧ MX τ9 N (upI r 70 v) (min (n + 1) 20) (hpush r hs) else x9 = -1 ∧ MX τ9 N r n hs)) := by
  refine mt (own := RX5) (plainFor_of_name rfl) rfl (Nat.le_of_ble_eq_true rfl) ?_
  intro p e s m args below meth c ls F hr hk X hl
  have hl : lv_has ls 2 [(0, .ref (gY G 36)), (1, .int (I v))] := hl
  have hw := hW.num
  have hro := hM.2.1
  have hN := hM.1
  refine r_aload_n F hl 0 rfl rfl dX5_slack_0 ?_
  refine r_iconst F dX5_slack_1 ?_
  refine r_put F X 36 (by decide) (upI (σ 36) 0 0) (eK_36 G _) rfl gl_RX5 tyX5 tyX5_ok nmX5 0 (by decide) rfl gf_RX5_1 rfl (tyX5_ok 0 (by decide)) rfl rfl (Nat.le_of_ble_eq_true rfl) (eK_36 G _) dX5_slack_2 (fun H locs X => ?_)
  obtain ⟨σ1, eσ1⟩ : ∃ x9 : St, x9 = up σ 36 (upI (σ 36) 0 0) := ⟨_, rfl⟩
  rw [← eσ1] at X
  have hrσ1 : σ1 37 = r := by rw [eσ1, up_ne (by omega)]; exact hro
  have hNσ1 : σ1 36 1 = N := by rw [eσ1, up_eq, upI_ne (by omega)]; exact hN
  have hM1 := hM.th (v := 0) eσ1
  refine r_aload_n F hl 0 rfl rfl dX5_slack_5 ?_
  refine r_bipush F (by decide) dX5_slack_6 ?_
  refine r_iload_n F hl 1 rfl rfl dX5_slack_8 ?_
  refine r_i2l F (by omega) dX5_slack_9 ?_
  refine r_lconst F 0 (by decide +kernel) dX5_slack_10 ?_
  refine r_ldc2 F 99 gk_RX5_66 (by decide +kernel) dX5_slack_11 ?_
  refine d_cSI F X (c_X5_within l G σ1 v 0 99 (by omega) (by omega) (by omega)) gv_RX5_39 nd_X5_within rfl (rest := [.int (I 70), .ref (gY G 36)]) rfl (Nat.le_of_ble_eq_true rfl) ⟨Nat.le_of_ble_eq_true rfl, Nat.le_of_ble_eq_true rfl⟩ ⟨Nat.zero_le _, Nat.zero_le _⟩ hl.1 dX5_slack_14 (fun H locs X => ?_)
  refine r_iload_n F hl 1 rfl rfl dX5_slack_17 ?_
  refine r_cVI F X 36 (by decide) (eK_36 G _) rfl (c_X5_tells l G σ1 N r n hs 70 (if 0 ≤ v ∧ v ≤ 99 then 1 else 0) v (hM1.1) hW (by split <;> simp) (fun _ => by omega)) gv_RX5_56 rfl nd_X5_tells rfl (rest := []) rfl (Nat.le_of_ble_eq_true rfl) ⟨Nat.le_of_ble_eq_true rfl, Nat.le_of_ble_eq_true rfl⟩ ⟨Nat.zero_le _, Nat.zero_le _⟩ hl.1 dX5_slack_18 (fun x1 ω H locs hω X => ?_)
  exact r_iret F X hr hk dX5_slack_21 (by refine ⟨⟨fun k9 q9 => (by rw [hω.1.1 k9 q9]; exact hM1.2.1 k9 q9), (by rw [hω.1.2]; exact hM1.2.2)⟩, ?_⟩; have h8 := hω.2; by_cases z : 0 ≤ v ∧ v ≤ 99; (rw [if_pos z]; rw [if_pos z, if_pos rfl] at h8; exact h8); (rw [if_neg z]; rw [if_neg z, if_neg (by decide)] at h8; exact h8))
theorem c_X5_spring (l : Launch) (G : GT) (σ : St) (N : Int) (r : Int → Int) (n : Int) (hs : Int → Int → Int) (a : Int) (w2 : Int) (w3 : Int) (hM : MX σ N r n hs) (hW : WF N r) (ha : -2147483648 ≤ a ∧ a < 2147483648) (hw2 : -2147483648 ≤ w2 ∧ w2 < 2147483648) (hw3 : -2147483648 ≤ w3 ∧ w3 < 2147483648) : Ct l yX5_spring cX5_spring 4 (some .boolean) 3 G [.ref (gY G 36), .int (I a), .int (I w2), .int (I w3)] σ (QI G (fun x9 τ9 => (KY σ τ9 ∧ τ9 36 0 = 0) ∧ if 0 ≤ a ∧ a ≤ 99999 ∧ 0 ≤ w2 ∧ w2 ≤ 999 ∧ 1 ≤ w3 ∧ w3 ≤ 999 then x9 = 1 ∧ MX τ9 N (upI (upI (upI r 65 a) 66 w2) 67 w3) (min (n + 1) 20) (hpush r hs) else x9 = 0 ∧ MX τ9 N r n hs)) := by
  refine mt (own := RX5) (plainFor_of_name rfl) rfl (Nat.le_of_ble_eq_true rfl) ?_
  intro p e s m args below meth c ls F hr hk X hl
  have hl : lv_has ls 4 [(0, .ref (gY G 36)), (1, .int (I a)), (2, .int (I w2)), (3, .int (I w3))] := hl
  have hw := hW.num
  have hro := hM.2.1
  have hN := hM.1
  refine r_aload_n F hl 0 rfl rfl dX5_spring_0 ?_
  refine r_iconst F dX5_spring_1 ?_
  refine r_put F X 36 (by decide) (upI (σ 36) 0 0) (eK_36 G _) rfl gl_RX5 tyX5 tyX5_ok nmX5 0 (by decide) rfl gf_RX5_1 rfl (tyX5_ok 0 (by decide)) rfl rfl (Nat.le_of_ble_eq_true rfl) (eK_36 G _) dX5_spring_2 (fun H locs X => ?_)
  obtain ⟨σ1, eσ1⟩ : ∃ x9 : St, x9 = up σ 36 (upI (σ 36) 0 0) := ⟨_, rfl⟩
  rw [← eσ1] at X
  have hrσ1 : σ1 37 = r := by rw [eσ1, up_ne (by omega)]; exact hro
  have hNσ1 : σ1 36 1 = N := by rw [eσ1, up_eq, upI_ne (by omega)]; exact hN
  have hM1 := hM.th (v := 0) eσ1
  refine r_iload_n F hl 1 rfl rfl dX5_spring_5 ?_
  refine r_i2l F (by omega) dX5_spring_6 ?_
  refine r_lconst F 0 (by decide +kernel) dX5_spring_7 ?_
  refine r_ldc2 F 99999 gk_RX5_64 (by decide +kernel) dX5_spring_8 ?_
  refine d_cSI F X (c_X5_within l G σ1 a 0 99999 (by omega) (by omega) (by omega)) gv_RX5_39 nd_X5_within rfl (rest := []) rfl (Nat.le_of_ble_eq_true rfl) ⟨Nat.le_of_ble_eq_true rfl, Nat.le_of_ble_eq_true rfl⟩ ⟨Nat.zero_le _, Nat.zero_le _⟩ hl.1 dX5_spring_11 (fun H locs X => ?_)
  refine r_bz_eq F 41 (0 ≤ a ∧ a ≤ 99999) rfl (by decide) dX5_spring_14 (fun c1 => ?_) (fun c1 => ?_)
  · skip
    refine r_iconst F dX5_spring_41 ?_
    exact r_zret F X hr hk (by omega) dX5_spring_42 (⟨⟨hM1.2.1, hM1.2.2⟩, by rw [if_neg (by omega)]; exact ⟨rfl, hM1.1⟩⟩)
  · skip
    refine r_iload_n F hl 2 rfl rfl dX5_spring_17 ?_
    refine r_i2l F (by omega) dX5_spring_18 ?_
    refine r_lconst F 0 (by decide +kernel) dX5_spring_19 ?_
    refine r_ldc2 F 999 gk_RX5_45 (by decide +kernel) dX5_spring_20 ?_
    refine d_cSI F X (c_X5_within l G σ1 w2 0 999 (by omega) (by omega) (by omega)) gv_RX5_39 nd_X5_within rfl (rest := []) rfl (Nat.le_of_ble_eq_true rfl) ⟨Nat.le_of_ble_eq_true rfl, Nat.le_of_ble_eq_true rfl⟩ ⟨Nat.zero_le _, Nat.zero_le _⟩ hl.1 dX5_spring_23 (fun H locs X => ?_)
    refine r_bz_eq F 41 (0 ≤ w2 ∧ w2 ≤ 999) rfl (by decide) dX5_spring_26 (fun c2 => ?_) (fun c2 => ?_)
    · skip
      refine r_iconst F dX5_spring_41 ?_
      exact r_zret F X hr hk (by omega) dX5_spring_42 (⟨⟨hM1.2.1, hM1.2.2⟩, by rw [if_neg (by omega)]; exact ⟨rfl, hM1.1⟩⟩)
    · skip
      refine r_iload_n F hl 3 rfl rfl dX5_spring_29 ?_
      refine r_i2l F (by omega) dX5_spring_30 ?_
      refine r_lconst F 1 (by decide +kernel) dX5_spring_31 ?_
      refine r_ldc2 F 999 gk_RX5_45 (by decide +kernel) dX5_spring_32 ?_
      refine d_cSI F X (c_X5_within l G σ1 w3 1 999 (by omega) (by omega) (by omega)) gv_RX5_39 nd_X5_within rfl (rest := []) rfl (Nat.le_of_ble_eq_true rfl) ⟨Nat.le_of_ble_eq_true rfl, Nat.le_of_ble_eq_true rfl⟩ ⟨Nat.zero_le _, Nat.zero_le _⟩ hl.1 dX5_spring_35 (fun H locs X => ?_)
      refine r_bz_ne F 43 (1 ≤ w3 ∧ w3 ≤ 999) rfl (by decide) dX5_spring_38 (fun c3 => ?_) (fun c3 => ?_)
      · skip
        refine r_aload_n F hl 0 rfl rfl dX5_spring_43 ?_
        refine r_cVV F X 36 (by decide) (eK_36 G _) rfl (c_X5_keeps l G σ1 N r n hs (hM1.1) hW) gv_RX5_49 rfl nd_X5_keeps rfl (rest := []) rfl (Nat.le_of_ble_eq_true rfl) ⟨Nat.le_of_ble_eq_true rfl, Nat.le_of_ble_eq_true rfl⟩ ⟨Nat.zero_le _, Nat.zero_le _⟩ hl.1 dX5_spring_44 (fun κ H locs hκ X => ?_)
        have hM2 := MX.kp hM1 hκ.1 hκ.2
        have hrκ := hM2.1.2.1
        have hNκ := hM2.1.1
        refine r_aload_n F hl 0 rfl rfl dX5_spring_47 ?_
        refine r_get F X 36 (by decide) (eK_36 G _) rfl gl_RX5 2 (by decide) rfl gf_RX5_16 rfl dX5_spring_48 ?_
        refine r_bipush F (by decide) dX5_spring_51 ?_
        refine r_iload_n F hl 1 rfl rfl dX5_spring_53 ?_
        refine r_iast F X 37 (by decide) (eK_37 G) (by omega) (by decide) dX5_spring_54 (fun H locs X => ?_)
        obtain ⟨σ2, eσ2⟩ : ∃ x9 : St, x9 = up κ 37 (upI (κ 37) 65 a) := ⟨_, rfl⟩
        rw [← eσ2] at X
        have hrσ2 : σ2 37 = upI r 65 a := by rw [eσ2, up_eq, hrκ]
        have hNσ2 : σ2 36 1 = N := by rw [eσ2, up_ne (by omega)]; exact hNκ
        refine r_aload_n F hl 0 rfl rfl dX5_spring_55 ?_
        refine r_get F X 36 (by decide) (eK_36 G _) rfl gl_RX5 2 (by decide) rfl gf_RX5_16 rfl dX5_spring_56 ?_
        refine r_bipush F (by decide) dX5_spring_59 ?_
        refine r_iload_n F hl 2 rfl rfl dX5_spring_61 ?_
        refine r_iast F X 37 (by decide) (eK_37 G) (by omega) (by decide) dX5_spring_62 (fun H locs X => ?_)
        obtain ⟨σ3, eσ3⟩ : ∃ x9 : St, x9 = up σ2 37 (upI (σ2 37) 66 w2) := ⟨_, rfl⟩
        rw [← eσ3] at X
        have hrσ3 : σ3 37 = upI (upI r 65 a) 66 w2 := by rw [eσ3, up_eq, hrσ2]
        have hNσ3 : σ3 36 1 = N := by rw [eσ3, up_ne (by omega)]; exact hNσ2
        refine r_aload_n F hl 0 rfl rfl dX5_spring_63 ?_
        refine r_get F X 36 (by decide) (eK_36 G _) rfl gl_RX5 2 (by decide) rfl gf_RX5_16 rfl dX5_spring_64 ?_
        refine r_bipush F (by decide) dX5_spring_67 ?_
        refine r_iload_n F hl 3 rfl rfl dX5_spring_69 ?_
        refine r_iast F X 37 (by decide) (eK_37 G) (by omega) (by decide) dX5_spring_70 (fun H locs X => ?_)
        obtain ⟨σ4, eσ4⟩ : ∃ x9 : St, x9 = up σ3 37 (upI (σ3 37) 67 w3) := ⟨_, rfl⟩
        rw [← eσ4] at X
        have hrσ4 : σ4 37 = upI (upI (upI r 65 a) 66 w2) 67 w3 := by rw [eσ4, up_eq, hrσ3]
        have hNσ4 : σ4 36 1 = N := by rw [eσ4, up_ne (by omega)]; exact hNσ3
        refine r_iconst F dX5_spring_71 ?_
        exact r_zret F X hr hk (by omega) dX5_spring_72 (by have m0 := MX.upd hM2 (by omega) eσ2; have m1 := MX.upd m0 (by omega) eσ3; have m2 := MX.upd m1 (by omega) eσ4; exact ⟨m2.2, by rw [if_pos (by omega)]; exact ⟨rfl, m2.1⟩⟩)
      · skip
        refine r_iconst F dX5_spring_41 ?_
        exact r_zret F X hr hk (by omega) dX5_spring_42 (⟨⟨hM1.2.1, hM1.2.2⟩, by rw [if_neg (by omega)]; exact ⟨rfl, hM1.1⟩⟩)
theorem c_X5_segment (l : Launch) (G : GT) (σ : St) (N : Int) (r : Int → Int) (n : Int) (hs : Int → Int → Int) (a : Int) (w2 : Int) (w3 : Int) (hM : MX σ N r n hs) (hW : WF N r) (ha : -2147483648 ≤ a ∧ a < 2147483648) (hw2 : -2147483648 ≤ w2 ∧ w2 < 2147483648) (hw3 : -2147483648 ≤ w3 ∧ w3 < 2147483648) : Ct l yX5_segment cX5_segment 5 (some .int) 3 G [.ref (gY G 36), .int (I a), .int (I w2), .int (I w3)] σ (QI G (fun x9 τ9 => (KY σ τ9 ∧ τ9 36 0 = 0) ∧ if r 60 < 12 ∧ 1 ≤ a ∧ a ≤ 60 ∧ 0 ≤ w2 ∧ w2 ≤ 999 ∧ 0 ≤ w3 ∧ w3 ≤ 3 then x9 = r 60 ∧ MX τ9 N (rseg r a w2 w3) (min (n + 1) 20) (hpush r hs) else x9 = -1 ∧ MX τ9 N r n hs)) := by
  refine mt (own := RX5) (plainFor_of_name rfl) rfl (Nat.le_of_ble_eq_true rfl) ?_
  intro p e s m args below meth c ls F hr hk X hl
  have hl : lv_has ls 5 [(0, .ref (gY G 36)), (1, .int (I a)), (2, .int (I w2)), (3, .int (I w3))] := hl
  have hw := hW.num
  have hro := hM.2.1
  have hN := hM.1
  refine r_aload_n F hl 0 rfl rfl dX5_segment_0 ?_
  refine r_iconst F dX5_segment_1 ?_
  refine r_put F X 36 (by decide) (upI (σ 36) 0 0) (eK_36 G _) rfl gl_RX5 tyX5 tyX5_ok nmX5 0 (by decide) rfl gf_RX5_1 rfl (tyX5_ok 0 (by decide)) rfl rfl (Nat.le_of_ble_eq_true rfl) (eK_36 G _) dX5_segment_2 (fun H locs X => ?_)
  obtain ⟨σ1, eσ1⟩ : ∃ x9 : St, x9 = up σ 36 (upI (σ 36) 0 0) := ⟨_, rfl⟩
  rw [← eσ1] at X
  have hrσ1 : σ1 37 = r := by rw [eσ1, up_ne (by omega)]; exact hro
  have hNσ1 : σ1 36 1 = N := by rw [eσ1, up_eq, upI_ne (by omega)]; exact hN
  have hM1 := hM.th (v := 0) eσ1
  refine r_aload_n F hl 0 rfl rfl dX5_segment_5 ?_
  refine r_get F X 36 (by decide) (eK_36 G _) rfl gl_RX5 2 (by decide) rfl gf_RX5_16 rfl dX5_segment_6 ?_
  refine r_bipush F (by decide) dX5_segment_9 ?_
  refine r_iald F X 37 (by decide) (eK_37 G) (by omega) (by decide) dX5_segment_11 ?_
  refine r_eqI (b := r 60) (by rw [hrσ1]) ?_
  refine r_istore F hl [(4, .int (I (r 60))), (0, .ref (gY G 36)), (1, .int (I a)), (2, .int (I w2)), (3, .int (I w3))] (by decide) rfl dX5_segment_12 (fun ls hl => ?_)
  refine r_iload_n F hl 2 rfl rfl dX5_segment_14 ?_
  refine r_i2l F (by omega) dX5_segment_15 ?_
  refine r_lconst F 1 (by decide +kernel) dX5_segment_16 ?_
  refine r_ldc2 F 60 gk_RX5_43 (by decide +kernel) dX5_segment_17 ?_
  refine d_cSI F X (c_X5_within l G σ1 a 1 60 (by omega) (by omega) (by omega)) gv_RX5_39 nd_X5_within rfl (rest := []) rfl (Nat.le_of_ble_eq_true rfl) ⟨Nat.le_of_ble_eq_true rfl, Nat.le_of_ble_eq_true rfl⟩ ⟨Nat.zero_le _, Nat.zero_le _⟩ hl.1 dX5_segment_20 (fun H locs X => ?_)
  refine r_bz_eq F 57 (1 ≤ a ∧ a ≤ 60) rfl (by decide) dX5_segment_23 (fun c1 => ?_) (fun c1 => ?_)
  · skip
    refine r_iconst F dX5_segment_57 ?_
    exact r_iret F X hr hk dX5_segment_58 (⟨⟨hM1.2.1, hM1.2.2⟩, by rw [if_neg (by omega)]; exact ⟨rfl, hM1.1⟩⟩)
  · skip
    refine r_iload_n F hl 3 rfl rfl dX5_segment_26 ?_
    refine r_i2l F (by omega) dX5_segment_27 ?_
    refine r_lconst F 0 (by decide +kernel) dX5_segment_28 ?_
    refine r_ldc2 F 999 gk_RX5_45 (by decide +kernel) dX5_segment_29 ?_
    refine d_cSI F X (c_X5_within l G σ1 w2 0 999 (by omega) (by omega) (by omega)) gv_RX5_39 nd_X5_within rfl (rest := []) rfl (Nat.le_of_ble_eq_true rfl) ⟨Nat.le_of_ble_eq_true rfl, Nat.le_of_ble_eq_true rfl⟩ ⟨Nat.zero_le _, Nat.zero_le _⟩ hl.1 dX5_segment_32 (fun H locs X => ?_)
    refine r_bz_eq F 57 (0 ≤ w2 ∧ w2 ≤ 999) rfl (by decide) dX5_segment_35 (fun c2 => ?_) (fun c2 => ?_)
    · skip
      refine r_iconst F dX5_segment_57 ?_
      exact r_iret F X hr hk dX5_segment_58 (⟨⟨hM1.2.1, hM1.2.2⟩, by rw [if_neg (by omega)]; exact ⟨rfl, hM1.1⟩⟩)
    · skip
      refine r_iload_n F hl 4 rfl rfl dX5_segment_38 ?_
      refine r_i2l F (by omega) dX5_segment_39 ?_
      refine r_lconst F 0 (by decide +kernel) dX5_segment_40 ?_
      refine r_ldc2 F 3 gk_RX5_47 (by decide +kernel) dX5_segment_41 ?_
      refine d_cSI F X (c_X5_within l G σ1 w3 0 3 (by omega) (by omega) (by omega)) gv_RX5_39 nd_X5_within rfl (rest := []) rfl (Nat.le_of_ble_eq_true rfl) ⟨Nat.le_of_ble_eq_true rfl, Nat.le_of_ble_eq_true rfl⟩ ⟨Nat.zero_le _, Nat.zero_le _⟩ hl.1 dX5_segment_44 (fun H locs X => ?_)
      refine r_bz_eq F 57 (0 ≤ w3 ∧ w3 ≤ 3) rfl (by decide) dX5_segment_47 (fun c3 => ?_) (fun c3 => ?_)
      · skip
        refine r_iconst F dX5_segment_57 ?_
        exact r_iret F X hr hk dX5_segment_58 (⟨⟨hM1.2.1, hM1.2.2⟩, by rw [if_neg (by omega)]; exact ⟨rfl, hM1.1⟩⟩)
      · skip
        refine r_iload F hl 0 rfl dX5_segment_50 ?_
        refine r_bipush F (by decide) dX5_segment_52 ?_
        refine r_icmp_ne F 59 (by decide) (by omega) (by omega) dX5_segment_54 (fun c4 => ?_) (fun c4 => ?_)
        · skip
          refine r_aload_n F hl 1 rfl rfl dX5_segment_59 ?_
          refine r_cVV F X 36 (by decide) (eK_36 G _) rfl (c_X5_keeps l G σ1 N r n hs (hM1.1) hW) gv_RX5_49 rfl nd_X5_keeps rfl (rest := []) rfl (Nat.le_of_ble_eq_true rfl) ⟨Nat.le_of_ble_eq_true rfl, Nat.le_of_ble_eq_true rfl⟩ ⟨Nat.zero_le _, Nat.zero_le _⟩ hl.1 dX5_segment_60 (fun κ H locs hκ X => ?_)
          have hM2 := MX.kp hM1 hκ.1 hκ.2
          have hrκ := hM2.1.2.1
          have hNκ := hM2.1.1
          refine r_aload_n F hl 1 rfl rfl dX5_segment_63 ?_
          refine r_get F X 36 (by decide) (eK_36 G _) rfl gl_RX5 2 (by decide) rfl gf_RX5_16 rfl dX5_segment_64 ?_
          refine r_iconst F dX5_segment_67 ?_
          refine r_iload F hl 0 rfl dX5_segment_68 ?_
          refine r_iadd F dX5_segment_70 ?_
          refine r_iload_n F hl 2 rfl rfl dX5_segment_71 ?_
          refine r_iast F X 37 (by decide) (eK_37 G) (by omega) (by decide) dX5_segment_72 (fun H locs X => ?_)
          obtain ⟨σ2, eσ2⟩ : ∃ x9 : St, x9 = up κ 37 (upI (κ 37) (0 + (r 60)) a) := ⟨_, rfl⟩
          rw [← eσ2] at X
          have hrσ2 : σ2 37 = upI r (0 + (r 60)) a := by rw [eσ2, up_eq, hrκ]
          have hNσ2 : σ2 36 1 = N := by rw [eσ2, up_ne (by omega)]; exact hNκ
          refine r_aload_n F hl 1 rfl rfl dX5_segment_73 ?_
          refine r_get F X 36 (by decide) (eK_36 G _) rfl gl_RX5 2 (by decide) rfl gf_RX5_16 rfl dX5_segment_74 ?_
          refine r_bipush F (by decide) dX5_segment_77 ?_
          refine r_iload F hl 0 rfl dX5_segment_79 ?_
          refine r_iadd F dX5_segment_81 ?_
          refine r_iload_n F hl 3 rfl rfl dX5_segment_82 ?_
          refine r_iast F X 37 (by decide) (eK_37 G) (by omega) (by decide) dX5_segment_83 (fun H locs X => ?_)
          obtain ⟨σ3, eσ3⟩ : ∃ x9 : St, x9 = up σ2 37 (upI (σ2 37) (12 + (r 60)) w2) := ⟨_, rfl⟩
          rw [← eσ3] at X
          have hrσ3 : σ3 37 = upI (upI r (0 + (r 60)) a) (12 + (r 60)) w2 := by rw [eσ3, up_eq, hrσ2]
          have hNσ3 : σ3 36 1 = N := by rw [eσ3, up_ne (by omega)]; exact hNσ2
          refine r_aload_n F hl 1 rfl rfl dX5_segment_84 ?_
          refine r_get F X 36 (by decide) (eK_36 G _) rfl gl_RX5 2 (by decide) rfl gf_RX5_16 rfl dX5_segment_85 ?_
          refine r_bipush F (by decide) dX5_segment_88 ?_
          refine r_iload F hl 0 rfl dX5_segment_90 ?_
          refine r_iadd F dX5_segment_92 ?_
          refine r_iload_n F hl 4 rfl rfl dX5_segment_93 ?_
          refine r_iast F X 37 (by decide) (eK_37 G) (by omega) (by decide) dX5_segment_94 (fun H locs X => ?_)
          obtain ⟨σ4, eσ4⟩ : ∃ x9 : St, x9 = up σ3 37 (upI (σ3 37) (24 + (r 60)) w3) := ⟨_, rfl⟩
          rw [← eσ4] at X
          have hrσ4 : σ4 37 = upI (upI (upI r (0 + (r 60)) a) (12 + (r 60)) w2) (24 + (r 60)) w3 := by rw [eσ4, up_eq, hrσ3]
          have hNσ4 : σ4 36 1 = N := by rw [eσ4, up_ne (by omega)]; exact hNσ3
          refine r_aload_n F hl 1 rfl rfl dX5_segment_95 ?_
          refine r_get F X 36 (by decide) (eK_36 G _) rfl gl_RX5 2 (by decide) rfl gf_RX5_16 rfl dX5_segment_96 ?_
          refine r_bipush F (by decide) dX5_segment_99 ?_
          refine r_dup2 F rfl rfl dX5_segment_101 ?_
          refine r_iald F X 37 (by decide) (eK_37 G) (by omega) (by decide) dX5_segment_102 ?_
          refine r_eqI (b := (upI (upI (upI r (0 + (r 60)) a) (12 + (r 60)) w2) (24 + (r 60)) w3) 60) (by rw [hrσ4]) ?_
          refine r_eqI (b := r 60) (by rw [upI_ne (by omega), upI_ne (by omega), upI_ne (by omega)]) ?_
          refine r_iconst F dX5_segment_103 ?_
          refine r_iadd F dX5_segment_104 ?_
          refine r_iast F X 37 (by decide) (eK_37 G) (by omega) (by decide) dX5_segment_105 (fun H locs X => ?_)
          obtain ⟨σ5, eσ5⟩ : ∃ x9 : St, x9 = up σ4 37 (upI (σ4 37) 60 ((r 60) + 1)) := ⟨_, rfl⟩
          rw [← eσ5] at X
          have hrσ5 : σ5 37 = upI (upI (upI (upI r (0 + (r 60)) a) (12 + (r 60)) w2) (24 + (r 60)) w3) 60 ((r 60) + 1) := by rw [eσ5, up_eq, hrσ4]
          have hNσ5 : σ5 36 1 = N := by rw [eσ5, up_ne (by omega)]; exact hNσ4
          refine r_iload F hl 0 rfl dX5_segment_106 ?_
          exact r_iret F X hr hk dX5_segment_108 (by have m0 := MX.upd hM2 (by omega) eσ2; have m1 := MX.upd m0 (by omega) eσ3; have m2 := MX.upd m1 (by omega) eσ4; have m3 := MX.upd m2 (by omega) eσ5; rw [show upI (upI (upI (upI r (0 + r 60) a) (12 + r 60) w2) (24 + r 60) w3) 60 (r 60 + 1) = rseg r a w2 w3 by rw [Int.zero_add]; rfl] at m3; exact ⟨m3.2, by rw [if_pos (by omega)]; exact ⟨rfl, m3.1⟩⟩)
        · skip
          refine r_iconst F dX5_segment_57 ?_
          exact r_iret F X hr hk dX5_segment_58 (⟨⟨hM1.2.1, hM1.2.2⟩, by rw [if_neg (by omega)]; exact ⟨rfl, hM1.1⟩⟩)
theorem c_X5_mark (l : Launch) (G : GT) (σ : St) (N : Int) (r : Int → Int) (n : Int) (hs : Int → Int → Int) (a : Int) (w2 : Int) (w3 : Int) (hM : MX σ N r n hs) (hW : WF N r) (ha : -2147483648 ≤ a ∧ a < 2147483648) (hw2 : -2147483648 ≤ w2 ∧ w2 < 2147483648) (hw3 : -2147483648 ≤ w3 ∧ w3 < 2147483648) : Ct l yX5_mark cX5_mark 5 (some .int) 3 G [.ref (gY G 36), .int (I a), .int (I w2), .int (I w3)] σ (QI G (fun x9 τ9 => (KY σ τ9 ∧ τ9 36 0 = 0) ∧ if r 61 < 8 ∧ 0 ≤ a ∧ a < N ∧ 0 ≤ w2 ∧ w2 ≤ 999 ∧ 0 ≤ w3 ∧ w3 ≤ 99 then x9 = r 61 ∧ MX τ9 N (rmark r a w2 w3) (min (n + 1) 20) (hpush r hs) else x9 = -1 ∧ MX τ9 N r n hs)) := by
  refine mt (own := RX5) (plainFor_of_name rfl) rfl (Nat.le_of_ble_eq_true rfl) ?_
  intro p e s m args below meth c ls F hr hk X hl
  have hl : lv_has ls 5 [(0, .ref (gY G 36)), (1, .int (I a)), (2, .int (I w2)), (3, .int (I w3))] := hl
  have hw := hW.num
  have hro := hM.2.1
  have hN := hM.1
  refine r_aload_n F hl 0 rfl rfl dX5_mark_0 ?_
  refine r_iconst F dX5_mark_1 ?_
  refine r_put F X 36 (by decide) (upI (σ 36) 0 0) (eK_36 G _) rfl gl_RX5 tyX5 tyX5_ok nmX5 0 (by decide) rfl gf_RX5_1 rfl (tyX5_ok 0 (by decide)) rfl rfl (Nat.le_of_ble_eq_true rfl) (eK_36 G _) dX5_mark_2 (fun H locs X => ?_)
  obtain ⟨σ1, eσ1⟩ : ∃ x9 : St, x9 = up σ 36 (upI (σ 36) 0 0) := ⟨_, rfl⟩
  rw [← eσ1] at X
  have hrσ1 : σ1 37 = r := by rw [eσ1, up_ne (by omega)]; exact hro
  have hNσ1 : σ1 36 1 = N := by rw [eσ1, up_eq, upI_ne (by omega)]; exact hN
  have hM1 := hM.th (v := 0) eσ1
  refine r_aload_n F hl 0 rfl rfl dX5_mark_5 ?_
  refine r_get F X 36 (by decide) (eK_36 G _) rfl gl_RX5 2 (by decide) rfl gf_RX5_16 rfl dX5_mark_6 ?_
  refine r_bipush F (by decide) dX5_mark_9 ?_
  refine r_iald F X 37 (by decide) (eK_37 G) (by omega) (by decide) dX5_mark_11 ?_
  refine r_eqI (b := r 61) (by rw [hrσ1]) ?_
  refine r_istore F hl [(4, .int (I (r 61))), (0, .ref (gY G 36)), (1, .int (I a)), (2, .int (I w2)), (3, .int (I w3))] (by decide) rfl dX5_mark_12 (fun ls hl => ?_)
  refine r_aload_n F hl 1 rfl rfl dX5_mark_14 ?_
  refine r_iload_n F hl 2 rfl rfl dX5_mark_15 ?_
  refine d_cVI F X 36 (by decide) (eK_36 G _) rfl (c_X5_isStep l G σ1 N r a hrσ1 hNσ1 hW (by omega)) gv_RX5_68 rfl nd_X5_isStep rfl (rest := []) rfl (Nat.le_of_ble_eq_true rfl) ⟨Nat.le_of_ble_eq_true rfl, Nat.le_of_ble_eq_true rfl⟩ ⟨Nat.zero_le _, Nat.zero_le _⟩ hl.1 dX5_mark_16 (fun H locs X => ?_)
  refine r_bz_eq F 53 (0 ≤ a ∧ a < N) rfl (by decide) dX5_mark_19 (fun c1 => ?_) (fun c1 => ?_)
  · skip
    refine r_iconst F dX5_mark_53 ?_
    exact r_iret F X hr hk dX5_mark_54 (⟨⟨hM1.2.1, hM1.2.2⟩, by rw [if_neg (by omega)]; exact ⟨rfl, hM1.1⟩⟩)
  · skip
    refine r_iload_n F hl 3 rfl rfl dX5_mark_22 ?_
    refine r_i2l F (by omega) dX5_mark_23 ?_
    refine r_lconst F 0 (by decide +kernel) dX5_mark_24 ?_
    refine r_ldc2 F 999 gk_RX5_45 (by decide +kernel) dX5_mark_25 ?_
    refine d_cSI F X (c_X5_within l G σ1 w2 0 999 (by omega) (by omega) (by omega)) gv_RX5_39 nd_X5_within rfl (rest := []) rfl (Nat.le_of_ble_eq_true rfl) ⟨Nat.le_of_ble_eq_true rfl, Nat.le_of_ble_eq_true rfl⟩ ⟨Nat.zero_le _, Nat.zero_le _⟩ hl.1 dX5_mark_28 (fun H locs X => ?_)
    refine r_bz_eq F 53 (0 ≤ w2 ∧ w2 ≤ 999) rfl (by decide) dX5_mark_31 (fun c2 => ?_) (fun c2 => ?_)
    · skip
      refine r_iconst F dX5_mark_53 ?_
      exact r_iret F X hr hk dX5_mark_54 (⟨⟨hM1.2.1, hM1.2.2⟩, by rw [if_neg (by omega)]; exact ⟨rfl, hM1.1⟩⟩)
    · skip
      refine r_iload_n F hl 4 rfl rfl dX5_mark_34 ?_
      refine r_i2l F (by omega) dX5_mark_35 ?_
      refine r_lconst F 0 (by decide +kernel) dX5_mark_36 ?_
      refine r_ldc2 F 99 gk_RX5_66 (by decide +kernel) dX5_mark_37 ?_
      refine d_cSI F X (c_X5_within l G σ1 w3 0 99 (by omega) (by omega) (by omega)) gv_RX5_39 nd_X5_within rfl (rest := []) rfl (Nat.le_of_ble_eq_true rfl) ⟨Nat.le_of_ble_eq_true rfl, Nat.le_of_ble_eq_true rfl⟩ ⟨Nat.zero_le _, Nat.zero_le _⟩ hl.1 dX5_mark_40 (fun H locs X => ?_)
      refine r_bz_eq F 53 (0 ≤ w3 ∧ w3 ≤ 99) rfl (by decide) dX5_mark_43 (fun c3 => ?_) (fun c3 => ?_)
      · skip
        refine r_iconst F dX5_mark_53 ?_
        exact r_iret F X hr hk dX5_mark_54 (⟨⟨hM1.2.1, hM1.2.2⟩, by rw [if_neg (by omega)]; exact ⟨rfl, hM1.1⟩⟩)
      · skip
        refine r_iload F hl 0 rfl dX5_mark_46 ?_
        refine r_bipush F (by decide) dX5_mark_48 ?_
        refine r_icmp_ne F 55 (by decide) (by omega) (by omega) dX5_mark_50 (fun c4 => ?_) (fun c4 => ?_)
        · skip
          refine r_aload_n F hl 1 rfl rfl dX5_mark_55 ?_
          refine r_cVV F X 36 (by decide) (eK_36 G _) rfl (c_X5_keeps l G σ1 N r n hs (hM1.1) hW) gv_RX5_49 rfl nd_X5_keeps rfl (rest := []) rfl (Nat.le_of_ble_eq_true rfl) ⟨Nat.le_of_ble_eq_true rfl, Nat.le_of_ble_eq_true rfl⟩ ⟨Nat.zero_le _, Nat.zero_le _⟩ hl.1 dX5_mark_56 (fun κ H locs hκ X => ?_)
          have hM2 := MX.kp hM1 hκ.1 hκ.2
          have hrκ := hM2.1.2.1
          have hNκ := hM2.1.1
          refine r_aload_n F hl 1 rfl rfl dX5_mark_59 ?_
          refine r_get F X 36 (by decide) (eK_36 G _) rfl gl_RX5 2 (by decide) rfl gf_RX5_16 rfl dX5_mark_60 ?_
          refine r_bipush F (by decide) dX5_mark_63 ?_
          refine r_iload F hl 0 rfl dX5_mark_65 ?_
          refine r_iadd F dX5_mark_67 ?_
          refine r_iload_n F hl 2 rfl rfl dX5_mark_68 ?_
          refine r_iast F X 37 (by decide) (eK_37 G) (by omega) (by decide) dX5_mark_69 (fun H locs X => ?_)
          obtain ⟨σ2, eσ2⟩ : ∃ x9 : St, x9 = up κ 37 (upI (κ 37) (36 + (r 61)) a) := ⟨_, rfl⟩
          rw [← eσ2] at X
          have hrσ2 : σ2 37 = upI r (36 + (r 61)) a := by rw [eσ2, up_eq, hrκ]
          have hNσ2 : σ2 36 1 = N := by rw [eσ2, up_ne (by omega)]; exact hNκ
          refine r_aload_n F hl 1 rfl rfl dX5_mark_70 ?_
          refine r_get F X 36 (by decide) (eK_36 G _) rfl gl_RX5 2 (by decide) rfl gf_RX5_16 rfl dX5_mark_71 ?_
          refine r_bipush F (by decide) dX5_mark_74 ?_
          refine r_iload F hl 0 rfl dX5_mark_76 ?_
          refine r_iadd F dX5_mark_78 ?_
          refine r_iload_n F hl 3 rfl rfl dX5_mark_79 ?_
          refine r_iast F X 37 (by decide) (eK_37 G) (by omega) (by decide) dX5_mark_80 (fun H locs X => ?_)
          obtain ⟨σ3, eσ3⟩ : ∃ x9 : St, x9 = up σ2 37 (upI (σ2 37) (44 + (r 61)) w2) := ⟨_, rfl⟩
          rw [← eσ3] at X
          have hrσ3 : σ3 37 = upI (upI r (36 + (r 61)) a) (44 + (r 61)) w2 := by rw [eσ3, up_eq, hrσ2]
          have hNσ3 : σ3 36 1 = N := by rw [eσ3, up_ne (by omega)]; exact hNσ2
          refine r_aload_n F hl 1 rfl rfl dX5_mark_81 ?_
          refine r_get F X 36 (by decide) (eK_36 G _) rfl gl_RX5 2 (by decide) rfl gf_RX5_16 rfl dX5_mark_82 ?_
          refine r_bipush F (by decide) dX5_mark_85 ?_
          refine r_iload F hl 0 rfl dX5_mark_87 ?_
          refine r_iadd F dX5_mark_89 ?_
          refine r_iload_n F hl 4 rfl rfl dX5_mark_90 ?_
          refine r_iast F X 37 (by decide) (eK_37 G) (by omega) (by decide) dX5_mark_91 (fun H locs X => ?_)
          obtain ⟨σ4, eσ4⟩ : ∃ x9 : St, x9 = up σ3 37 (upI (σ3 37) (52 + (r 61)) w3) := ⟨_, rfl⟩
          rw [← eσ4] at X
          have hrσ4 : σ4 37 = upI (upI (upI r (36 + (r 61)) a) (44 + (r 61)) w2) (52 + (r 61)) w3 := by rw [eσ4, up_eq, hrσ3]
          have hNσ4 : σ4 36 1 = N := by rw [eσ4, up_ne (by omega)]; exact hNσ3
          refine r_aload_n F hl 1 rfl rfl dX5_mark_92 ?_
          refine r_get F X 36 (by decide) (eK_36 G _) rfl gl_RX5 2 (by decide) rfl gf_RX5_16 rfl dX5_mark_93 ?_
          refine r_bipush F (by decide) dX5_mark_96 ?_
          refine r_dup2 F rfl rfl dX5_mark_98 ?_
          refine r_iald F X 37 (by decide) (eK_37 G) (by omega) (by decide) dX5_mark_99 ?_
          refine r_eqI (b := (upI (upI (upI r (36 + (r 61)) a) (44 + (r 61)) w2) (52 + (r 61)) w3) 61) (by rw [hrσ4]) ?_
          refine r_eqI (b := r 61) (by rw [upI_ne (by omega), upI_ne (by omega), upI_ne (by omega)]) ?_
          refine r_iconst F dX5_mark_100 ?_
          refine r_iadd F dX5_mark_101 ?_
          refine r_iast F X 37 (by decide) (eK_37 G) (by omega) (by decide) dX5_mark_102 (fun H locs X => ?_)
          obtain ⟨σ5, eσ5⟩ : ∃ x9 : St, x9 = up σ4 37 (upI (σ4 37) 61 ((r 61) + 1)) := ⟨_, rfl⟩
          rw [← eσ5] at X
          have hrσ5 : σ5 37 = upI (upI (upI (upI r (36 + (r 61)) a) (44 + (r 61)) w2) (52 + (r 61)) w3) 61 ((r 61) + 1) := by rw [eσ5, up_eq, hrσ4]
          have hNσ5 : σ5 36 1 = N := by rw [eσ5, up_ne (by omega)]; exact hNσ4
          refine r_iload F hl 0 rfl dX5_mark_103 ?_
          exact r_iret F X hr hk dX5_mark_105 (by have m0 := MX.upd hM2 (by omega) eσ2; have m1 := MX.upd m0 (by omega) eσ3; have m2 := MX.upd m1 (by omega) eσ4; have m3 := MX.upd m2 (by omega) eσ5; exact ⟨m3.2, by rw [if_pos (by omega)]; exact ⟨rfl, m3.1⟩⟩)
        · skip
          refine r_iconst F dX5_mark_53 ?_
          exact r_iret F X hr hk dX5_mark_54 (⟨⟨hM1.2.1, hM1.2.2⟩, by rw [if_neg (by omega)]; exact ⟨rfl, hM1.1⟩⟩)
theorem c_X5_drop (l : Launch) (G : GT) (σ : St) (N : Int) (r : Int → Int) (n : Int) (hs : Int → Int → Int) (hM : MX σ N r n hs) (hW : WF N r) : Ct l yX5_drop cX5_drop 1 (some .int) 3 G [.ref (gY G 36)] σ (QI G (fun x9 τ9 => (KY σ τ9 ∧ τ9 36 0 = 0) ∧ if 0 < r 60 then x9 = r 60 - 1 ∧ MX τ9 N (upI r 60 (r 60 - 1)) (min (n + 1) 20) (hpush r hs) else x9 = -1 ∧ MX τ9 N r n hs)) := by
  refine mt (own := RX5) (plainFor_of_name rfl) rfl (Nat.le_of_ble_eq_true rfl) ?_
  intro p e s m args below meth c ls F hr hk X hl
  have hl : lv_has ls 1 [(0, .ref (gY G 36))] := hl
  have hw := hW.num
  have hro := hM.2.1
  have hN := hM.1
  refine r_aload_n F hl 0 rfl rfl dX5_drop_0 ?_
  refine r_iconst F dX5_drop_1 ?_
  refine r_put F X 36 (by decide) (upI (σ 36) 0 0) (eK_36 G _) rfl gl_RX5 tyX5 tyX5_ok nmX5 0 (by decide) rfl gf_RX5_1 rfl (tyX5_ok 0 (by decide)) rfl rfl (Nat.le_of_ble_eq_true rfl) (eK_36 G _) dX5_drop_2 (fun H locs X => ?_)
  obtain ⟨σ1, eσ1⟩ : ∃ x9 : St, x9 = up σ 36 (upI (σ 36) 0 0) := ⟨_, rfl⟩
  rw [← eσ1] at X
  have hrσ1 : σ1 37 = r := by rw [eσ1, up_ne (by omega)]; exact hro
  have hNσ1 : σ1 36 1 = N := by rw [eσ1, up_eq, upI_ne (by omega)]; exact hN
  have hM1 := hM.th (v := 0) eσ1
  refine r_aload_n F hl 0 rfl rfl dX5_drop_5 ?_
  refine r_get F X 36 (by decide) (eK_36 G _) rfl gl_RX5 2 (by decide) rfl gf_RX5_16 rfl dX5_drop_6 ?_
  refine r_bipush F (by decide) dX5_drop_9 ?_
  refine r_iald F X 37 (by decide) (eK_37 G) (by omega) (by decide) dX5_drop_11 ?_
  refine r_eqI (b := r 60) (by rw [hrσ1]) ?_
  refine r_if_ne F 17 (by decide) (by omega) dX5_drop_12 (fun c1 => ?_) (fun c1 => ?_)
  · skip
    refine r_aload_n F hl 0 rfl rfl dX5_drop_17 ?_
    refine r_cVV F X 36 (by decide) (eK_36 G _) rfl (c_X5_keeps l G σ1 N r n hs (hM1.1) hW) gv_RX5_49 rfl nd_X5_keeps rfl (rest := []) rfl (Nat.le_of_ble_eq_true rfl) ⟨Nat.le_of_ble_eq_true rfl, Nat.le_of_ble_eq_true rfl⟩ ⟨Nat.zero_le _, Nat.zero_le _⟩ hl.1 dX5_drop_18 (fun κ H locs hκ X => ?_)
    have hM2 := MX.kp hM1 hκ.1 hκ.2
    have hrκ := hM2.1.2.1
    have hNκ := hM2.1.1
    refine r_aload_n F hl 0 rfl rfl dX5_drop_21 ?_
    refine r_get F X 36 (by decide) (eK_36 G _) rfl gl_RX5 2 (by decide) rfl gf_RX5_16 rfl dX5_drop_22 ?_
    refine r_bipush F (by decide) dX5_drop_25 ?_
    refine r_dup2 F rfl rfl dX5_drop_27 ?_
    refine r_iald F X 37 (by decide) (eK_37 G) (by omega) (by decide) dX5_drop_28 ?_
    refine r_eqI (b := r 60) (by rw [hrκ]) ?_
    refine r_iconst F dX5_drop_29 ?_
    refine r_isub F dX5_drop_30 ?_
    refine r_iast F X 37 (by decide) (eK_37 G) (by omega) (by decide) dX5_drop_31 (fun H locs X => ?_)
    obtain ⟨σ2, eσ2⟩ : ∃ x9 : St, x9 = up κ 37 (upI (κ 37) 60 ((r 60) - 1)) := ⟨_, rfl⟩
    rw [← eσ2] at X
    have hrσ2 : σ2 37 = upI r 60 ((r 60) - 1) := by rw [eσ2, up_eq, hrκ]
    have hNσ2 : σ2 36 1 = N := by rw [eσ2, up_ne (by omega)]; exact hNκ
    refine r_aload_n F hl 0 rfl rfl dX5_drop_32 ?_
    refine r_get F X 36 (by decide) (eK_36 G _) rfl gl_RX5 2 (by decide) rfl gf_RX5_16 rfl dX5_drop_33 ?_
    refine r_bipush F (by decide) dX5_drop_36 ?_
    refine r_iald F X 37 (by decide) (eK_37 G) (by omega) (by decide) dX5_drop_38 ?_
    refine r_eqI (b := (upI r 60 ((r 60) - 1)) 60) (by rw [hrσ2]) ?_
    refine r_eqI (b := r 60 - 1) (upI_eq) ?_
    exact r_iret F X hr hk dX5_drop_39 (by have m0 := MX.upd hM2 (by omega) eσ2; exact ⟨m0.2, by rw [if_pos (by omega)]; exact ⟨rfl, m0.1⟩⟩)
  · skip
    refine r_iconst F dX5_drop_15 ?_
    exact r_iret F X hr hk dX5_drop_16 (⟨⟨hM1.2.1, hM1.2.2⟩, by rw [if_neg (by omega)]; exact ⟨rfl, hM1.1⟩⟩)
theorem c_X5_alter (l : Launch) (G : GT) (σ : St) (N : Int) (r : Int → Int) (n : Int) (hs : Int → Int → Int) (s2 : Int) (w2 : Int) (v : Int) (hM : MX σ N r n hs) (hW : WF N r) (hs2 : -2147483648 ≤ s2 ∧ s2 < 2147483648) (hw2 : -2147483648 ≤ w2 ∧ w2 < 2147483648) (hv : -2147483648 ≤ v ∧ v < 2147483648) : Ct l yX5_alter cX5_alter 5 (some .int) 3 G [.ref (gY G 36), .int (I s2), .int (I w2), .int (I v)] σ (QI G (fun x9 τ9 => (KY σ τ9 ∧ τ9 36 0 = 0) ∧ if 0 ≤ s2 ∧ s2 < r 60 ∧ (w2 = 0 ∧ 1 ≤ v ∧ v ≤ 60 ∨ w2 = 1 ∧ 0 ≤ v ∧ v ≤ 999 ∨ w2 = 2 ∧ 0 ≤ v ∧ v ≤ 3) then x9 = r (12 * w2 + s2) ∧ MX τ9 N (upI r (12 * w2 + s2) v) (min (n + 1) 20) (hpush r hs) else x9 = -1 ∧ MX τ9 N r n hs)) := by
  refine mt (own := RX5) (plainFor_of_name rfl) rfl (Nat.le_of_ble_eq_true rfl) ?_
  intro p e s m args below meth c ls F hr hk X hl
  have hl : lv_has ls 5 [(0, .ref (gY G 36)), (1, .int (I s2)), (2, .int (I w2)), (3, .int (I v))] := hl
  have hw := hW.num
  have hro := hM.2.1
  have hN := hM.1
  refine r_aload_n F hl 0 rfl rfl dX5_alter_0 ?_
  refine r_iconst F dX5_alter_1 ?_
  refine r_put F X 36 (by decide) (upI (σ 36) 0 0) (eK_36 G _) rfl gl_RX5 tyX5 tyX5_ok nmX5 0 (by decide) rfl gf_RX5_1 rfl (tyX5_ok 0 (by decide)) rfl rfl (Nat.le_of_ble_eq_true rfl) (eK_36 G _) dX5_alter_2 (fun H locs X => ?_)
  obtain ⟨σ1, eσ1⟩ : ∃ x9 : St, x9 = up σ 36 (upI (σ 36) 0 0) := ⟨_, rfl⟩
  rw [← eσ1] at X
  have hrσ1 : σ1 37 = r := by rw [eσ1, up_ne (by omega)]; exact hro
  have hNσ1 : σ1 36 1 = N := by rw [eσ1, up_eq, upI_ne (by omega)]; exact hN
  have hM1 := hM.th (v := 0) eσ1
  have join62 : ∀ (ls : Array Slot) (H : Heap) (locs : List Loc) (X : HX G σ1 s H locs) (hl : lv_has ls 5 [(0, .ref (gY G 36)), (1, .int (I s2)), (2, .int (I w2)), (3, .int (I v)), (4, .int (I (if (w2 = 0 ∧ 1 ≤ v ∧ v ≤ 60 ∨ w2 = 1 ∧ 0 ≤ v ∧ v ≤ 999 ∨ w2 = 2 ∧ 0 ≤ v ∧ v ≤ 3) then 1 else 0)))]), W p l e (rmd 3) s m args below meth c H locs 0 0 (MQ below (QI G (fun x9 τ9 => (KY σ τ9 ∧ τ9 36 0 = 0) ∧ if 0 ≤ s2 ∧ s2 < r 60 ∧ (w2 = 0 ∧ 1 ≤ v ∧ v ≤ 60 ∨ w2 = 1 ∧ 0 ≤ v ∧ v ≤ 999 ∨ w2 = 2 ∧ 0 ≤ v ∧ v ≤ 3) then x9 = r (12 * w2 + s2) ∧ MX τ9 N (upI r (12 * w2 + s2) v) (min (n + 1) 20) (hpush r hs) else x9 = -1 ∧ MX τ9 N r n hs)) args s 0 0 (gA G)) (F0 m 62 ls []) := by
    intro   ls H locs  X hl
    refine r_aload_n F hl 0 rfl rfl dX5_alter_62 ?_
    refine r_bipush F (by decide) dX5_alter_63 ?_
    refine r_iload F hl 4 rfl dX5_alter_65 ?_
    refine r_bz_eq F 74 ((w2 = 0 ∧ 1 ≤ v ∧ v ≤ 60 ∨ w2 = 1 ∧ 0 ≤ v ∧ v ≤ 999 ∨ w2 = 2 ∧ 0 ≤ v ∧ v ≤ 3)) rfl (by decide) dX5_alter_67 (fun c1 => ?_) (fun c1 => ?_)
    · skip
      refine r_iconst F dX5_alter_74 ?_
      refine r_imul F dX5_alter_75 ?_
      refine r_iload_n F hl 1 rfl rfl dX5_alter_76 ?_
      refine r_iadd F dX5_alter_77 ?_
      refine r_iload F hl 4 rfl dX5_alter_78 ?_
      refine r_bz_eq F 95 ((w2 = 0 ∧ 1 ≤ v ∧ v ≤ 60 ∨ w2 = 1 ∧ 0 ≤ v ∧ v ≤ 999 ∨ w2 = 2 ∧ 0 ≤ v ∧ v ≤ 3)) rfl (by decide) dX5_alter_80 (fun c2 => ?_) (fun c2 => ?_)
      · skip
        refine r_iconst F dX5_alter_95 ?_
        refine r_iload_n F hl 3 rfl rfl dX5_alter_96 ?_
        refine r_cVI F X 36 (by decide) (eK_36 G _) rfl (c_X5_tells l G σ1 N r n hs ((12 * 0) + s2) 0 v (hM1.1) hW (by omega) (fun _ => by omega)) gv_RX5_56 rfl nd_X5_tells rfl (rest := []) rfl (Nat.le_of_ble_eq_true rfl) ⟨Nat.le_of_ble_eq_true rfl, Nat.le_of_ble_eq_true rfl⟩ ⟨Nat.zero_le _, Nat.zero_le _⟩ hl.1 dX5_alter_97 (fun x1 ω H locs hω X => ?_)
        exact r_iret F X hr hk dX5_alter_100 (by refine ⟨⟨fun k9 q9 => (by rw [hω.1.1 k9 q9]; exact hM1.2.1 k9 q9), (by rw [hω.1.2]; exact hM1.2.2)⟩, ?_⟩; have h8 := hω.2; by_cases z : 0 ≤ s2 ∧ s2 < r 60 ∧ (w2 = 0 ∧ 1 ≤ v ∧ v ≤ 60 ∨ w2 = 1 ∧ 0 ≤ v ∧ v ≤ 999 ∨ w2 = 2 ∧ 0 ≤ v ∧ v ≤ 3); (rw [if_pos z]; first | (exfalso; omega) | (rw [if_pos (by omega)] at h8; exact h8)); (rw [if_neg z]; first | (exfalso; omega) | (rw [if_neg (by omega)] at h8; exact h8)))
      · skip
        refine r_aload_n F hl 0 rfl rfl dX5_alter_83 ?_
        refine r_iload_n F hl 1 rfl rfl dX5_alter_84 ?_
        refine d_cVI F X 36 (by decide) (eK_36 G _) rfl (c_X5_isSegment l G σ1 N r s2 hrσ1 hNσ1 hW (by omega)) gv_RX5_52 rfl nd_X5_isSegment rfl (rest := [.int (I ((12 * 0) + s2)), .ref (gY G 36)]) rfl (Nat.le_of_ble_eq_true rfl) ⟨Nat.le_of_ble_eq_true rfl, Nat.le_of_ble_eq_true rfl⟩ ⟨Nat.zero_le _, Nat.zero_le _⟩ hl.1 dX5_alter_85 (fun H locs X => ?_)
        refine r_bz_eq F 95 (0 ≤ s2 ∧ s2 < r 60) rfl (by decide) dX5_alter_88 (fun c3 => ?_) (fun c3 => ?_)
        · skip
          refine r_iconst F dX5_alter_95 ?_
          refine r_iload_n F hl 3 rfl rfl dX5_alter_96 ?_
          refine r_cVI F X 36 (by decide) (eK_36 G _) rfl (c_X5_tells l G σ1 N r n hs ((12 * 0) + s2) 0 v (hM1.1) hW (by omega) (fun _ => by omega)) gv_RX5_56 rfl nd_X5_tells rfl (rest := []) rfl (Nat.le_of_ble_eq_true rfl) ⟨Nat.le_of_ble_eq_true rfl, Nat.le_of_ble_eq_true rfl⟩ ⟨Nat.zero_le _, Nat.zero_le _⟩ hl.1 dX5_alter_97 (fun x1 ω H locs hω X => ?_)
          exact r_iret F X hr hk dX5_alter_100 (by refine ⟨⟨fun k9 q9 => (by rw [hω.1.1 k9 q9]; exact hM1.2.1 k9 q9), (by rw [hω.1.2]; exact hM1.2.2)⟩, ?_⟩; have h8 := hω.2; by_cases z : 0 ≤ s2 ∧ s2 < r 60 ∧ (w2 = 0 ∧ 1 ≤ v ∧ v ≤ 60 ∨ w2 = 1 ∧ 0 ≤ v ∧ v ≤ 999 ∨ w2 = 2 ∧ 0 ≤ v ∧ v ≤ 3); (rw [if_pos z]; first | (exfalso; omega) | (rw [if_pos (by omega)] at h8; exact h8)); (rw [if_neg z]; first | (exfalso; omega) | (rw [if_neg (by omega)] at h8; exact h8)))
        · skip
          refine r_iconst F dX5_alter_91 ?_
          refine r_goto F 96 (by decide) dX5_alter_92 ?_
          refine r_iload_n F hl 3 rfl rfl dX5_alter_96 ?_
          refine r_cVI F X 36 (by decide) (eK_36 G _) rfl (c_X5_tells l G σ1 N r n hs ((12 * 0) + s2) 1 v (hM1.1) hW (by omega) (fun _ => by omega)) gv_RX5_56 rfl nd_X5_tells rfl (rest := []) rfl (Nat.le_of_ble_eq_true rfl) ⟨Nat.le_of_ble_eq_true rfl, Nat.le_of_ble_eq_true rfl⟩ ⟨Nat.zero_le _, Nat.zero_le _⟩ hl.1 dX5_alter_97 (fun x1 ω H locs hω X => ?_)
          exact r_iret F X hr hk dX5_alter_100 (by refine ⟨⟨fun k9 q9 => (by rw [hω.1.1 k9 q9]; exact hM1.2.1 k9 q9), (by rw [hω.1.2]; exact hM1.2.2)⟩, ?_⟩; have h8 := hω.2; by_cases z : 0 ≤ s2 ∧ s2 < r 60 ∧ (w2 = 0 ∧ 1 ≤ v ∧ v ≤ 60 ∨ w2 = 1 ∧ 0 ≤ v ∧ v ≤ 999 ∨ w2 = 2 ∧ 0 ≤ v ∧ v ≤ 3); (rw [if_pos z]; first | (exfalso; omega) | (rw [if_pos (by omega)] at h8; exact h8)); (rw [if_neg z]; first | (exfalso; omega) | (rw [if_neg (by omega)] at h8; exact h8)))
    · skip
      refine r_iload_n F hl 2 rfl rfl dX5_alter_70 ?_
      refine r_goto F 75 (by decide) dX5_alter_71 ?_
      refine r_imul F dX5_alter_75 ?_
      refine r_iload_n F hl 1 rfl rfl dX5_alter_76 ?_
      refine r_iadd F dX5_alter_77 ?_
      refine r_iload F hl 4 rfl dX5_alter_78 ?_
      refine r_bz_eq F 95 ((w2 = 0 ∧ 1 ≤ v ∧ v ≤ 60 ∨ w2 = 1 ∧ 0 ≤ v ∧ v ≤ 999 ∨ w2 = 2 ∧ 0 ≤ v ∧ v ≤ 3)) rfl (by decide) dX5_alter_80 (fun c4 => ?_) (fun c4 => ?_)
      · skip
        refine r_iconst F dX5_alter_95 ?_
        refine r_iload_n F hl 3 rfl rfl dX5_alter_96 ?_
        refine r_cVI F X 36 (by decide) (eK_36 G _) rfl (c_X5_tells l G σ1 N r n hs ((12 * w2) + s2) 0 v (hM1.1) hW (by omega) (fun _ => by omega)) gv_RX5_56 rfl nd_X5_tells rfl (rest := []) rfl (Nat.le_of_ble_eq_true rfl) ⟨Nat.le_of_ble_eq_true rfl, Nat.le_of_ble_eq_true rfl⟩ ⟨Nat.zero_le _, Nat.zero_le _⟩ hl.1 dX5_alter_97 (fun x1 ω H locs hω X => ?_)
        exact r_iret F X hr hk dX5_alter_100 (by refine ⟨⟨fun k9 q9 => (by rw [hω.1.1 k9 q9]; exact hM1.2.1 k9 q9), (by rw [hω.1.2]; exact hM1.2.2)⟩, ?_⟩; have h8 := hω.2; by_cases z : 0 ≤ s2 ∧ s2 < r 60 ∧ (w2 = 0 ∧ 1 ≤ v ∧ v ≤ 60 ∨ w2 = 1 ∧ 0 ≤ v ∧ v ≤ 999 ∨ w2 = 2 ∧ 0 ≤ v ∧ v ≤ 3); (rw [if_pos z]; first | (exfalso; omega) | (rw [if_pos (by omega)] at h8; exact h8)); (rw [if_neg z]; first | (exfalso; omega) | (rw [if_neg (by omega)] at h8; exact h8)))
      · skip
        refine r_aload_n F hl 0 rfl rfl dX5_alter_83 ?_
        refine r_iload_n F hl 1 rfl rfl dX5_alter_84 ?_
        refine d_cVI F X 36 (by decide) (eK_36 G _) rfl (c_X5_isSegment l G σ1 N r s2 hrσ1 hNσ1 hW (by omega)) gv_RX5_52 rfl nd_X5_isSegment rfl (rest := [.int (I ((12 * w2) + s2)), .ref (gY G 36)]) rfl (Nat.le_of_ble_eq_true rfl) ⟨Nat.le_of_ble_eq_true rfl, Nat.le_of_ble_eq_true rfl⟩ ⟨Nat.zero_le _, Nat.zero_le _⟩ hl.1 dX5_alter_85 (fun H locs X => ?_)
        refine r_bz_eq F 95 (0 ≤ s2 ∧ s2 < r 60) rfl (by decide) dX5_alter_88 (fun c5 => ?_) (fun c5 => ?_)
        · skip
          refine r_iconst F dX5_alter_95 ?_
          refine r_iload_n F hl 3 rfl rfl dX5_alter_96 ?_
          refine r_cVI F X 36 (by decide) (eK_36 G _) rfl (c_X5_tells l G σ1 N r n hs ((12 * w2) + s2) 0 v (hM1.1) hW (by omega) (fun _ => by omega)) gv_RX5_56 rfl nd_X5_tells rfl (rest := []) rfl (Nat.le_of_ble_eq_true rfl) ⟨Nat.le_of_ble_eq_true rfl, Nat.le_of_ble_eq_true rfl⟩ ⟨Nat.zero_le _, Nat.zero_le _⟩ hl.1 dX5_alter_97 (fun x1 ω H locs hω X => ?_)
          exact r_iret F X hr hk dX5_alter_100 (by refine ⟨⟨fun k9 q9 => (by rw [hω.1.1 k9 q9]; exact hM1.2.1 k9 q9), (by rw [hω.1.2]; exact hM1.2.2)⟩, ?_⟩; have h8 := hω.2; by_cases z : 0 ≤ s2 ∧ s2 < r 60 ∧ (w2 = 0 ∧ 1 ≤ v ∧ v ≤ 60 ∨ w2 = 1 ∧ 0 ≤ v ∧ v ≤ 999 ∨ w2 = 2 ∧ 0 ≤ v ∧ v ≤ 3); (rw [if_pos z]; first | (exfalso; omega) | (rw [if_pos (by omega)] at h8; exact h8)); (rw [if_neg z]; first | (exfalso; omega) | (rw [if_neg (by omega)] at h8; exact h8)))
        · skip
          refine r_iconst F dX5_alter_91 ?_
          refine r_goto F 96 (by decide) dX5_alter_92 ?_
          refine r_iload_n F hl 3 rfl rfl dX5_alter_96 ?_
          refine r_cVI F X 36 (by decide) (eK_36 G _) rfl (c_X5_tells l G σ1 N r n hs ((12 * w2) + s2) 1 v (hM1.1) hW (by omega) (fun _ => by omega)) gv_RX5_56 rfl nd_X5_tells rfl (rest := []) rfl (Nat.le_of_ble_eq_true rfl) ⟨Nat.le_of_ble_eq_true rfl, Nat.le_of_ble_eq_true rfl⟩ ⟨Nat.zero_le _, Nat.zero_le _⟩ hl.1 dX5_alter_97 (fun x1 ω H locs hω X => ?_)
          exact r_iret F X hr hk dX5_alter_100 (by refine ⟨⟨fun k9 q9 => (by rw [hω.1.1 k9 q9]; exact hM1.2.1 k9 q9), (by rw [hω.1.2]; exact hM1.2.2)⟩, ?_⟩; have h8 := hω.2; by_cases z : 0 ≤ s2 ∧ s2 < r 60 ∧ (w2 = 0 ∧ 1 ≤ v ∧ v ≤ 60 ∨ w2 = 1 ∧ 0 ≤ v ∧ v ≤ 999 ∨ w2 = 2 ∧ 0 ≤ v ∧ v ≤ 3); (rw [if_pos z]; first | (exfalso; omega) | (rw [if_pos (by omega)] at h8; exact h8)); (rw [if_neg z]; first | (exfalso; omega) | (rw [if_neg (by omega)] at h8; exact h8)))
  refine r_iload_n F hl 2 rfl rfl dX5_alter_5 ?_
  refine r_if_ne F 21 (by decide) (by omega) dX5_alter_6 (fun c6 => ?_) (fun c6 => ?_)
  · skip
    refine r_iload_n F hl 2 rfl rfl dX5_alter_21 ?_
    refine r_iconst F dX5_alter_22 ?_
    refine r_icmp_ne F 38 (by decide) (by omega) (by omega) dX5_alter_23 (fun c7 => ?_) (fun c7 => ?_)
    · skip
      refine r_iload_n F hl 2 rfl rfl dX5_alter_38 ?_
      refine r_iconst F dX5_alter_39 ?_
      refine r_icmp_ne F 59 (by decide) (by omega) (by omega) dX5_alter_40 (fun c8 => ?_) (fun c8 => ?_)
      · skip
        refine r_iconst F dX5_alter_59 ?_
        refine r_eqI (b := if (w2 = 0 ∧ 1 ≤ v ∧ v ≤ 60 ∨ w2 = 1 ∧ 0 ≤ v ∧ v ≤ 999 ∨ w2 = 2 ∧ 0 ≤ v ∧ v ≤ 3) then 1 else 0) (by first | rw [if_pos (by omega)] | rw [if_neg (by omega)] | (split <;> split <;> omega)) ?_
        refine r_istore F hl [(4, .int (I (if (w2 = 0 ∧ 1 ≤ v ∧ v ≤ 60 ∨ w2 = 1 ∧ 0 ≤ v ∧ v ≤ 999 ∨ w2 = 2 ∧ 0 ≤ v ∧ v ≤ 3) then 1 else 0))), (0, .ref (gY G 36)), (1, .int (I s2)), (2, .int (I w2)), (3, .int (I v))] (by decide) rfl dX5_alter_60 (fun ls hl => ?_)
        exact join62   _ _ _  X (lv_sub hl [1, 2, 3, 4, 0] rfl)
      · skip
        refine r_iload_n F hl 3 rfl rfl dX5_alter_43 ?_
        refine r_i2l F (by omega) dX5_alter_44 ?_
        refine r_lconst F 0 (by decide +kernel) dX5_alter_45 ?_
        refine r_ldc2 F 3 gk_RX5_47 (by decide +kernel) dX5_alter_46 ?_
        refine d_cSI F X (c_X5_within l G σ1 v 0 3 (by omega) (by omega) (by omega)) gv_RX5_39 nd_X5_within rfl (rest := []) rfl (Nat.le_of_ble_eq_true rfl) ⟨Nat.le_of_ble_eq_true rfl, Nat.le_of_ble_eq_true rfl⟩ ⟨Nat.zero_le _, Nat.zero_le _⟩ hl.1 dX5_alter_49 (fun H locs X => ?_)
        refine r_bz_eq F 59 (0 ≤ v ∧ v ≤ 3) rfl (by decide) dX5_alter_52 (fun c9 => ?_) (fun c9 => ?_)
        · skip
          refine r_iconst F dX5_alter_59 ?_
          refine r_eqI (b := if (w2 = 0 ∧ 1 ≤ v ∧ v ≤ 60 ∨ w2 = 1 ∧ 0 ≤ v ∧ v ≤ 999 ∨ w2 = 2 ∧ 0 ≤ v ∧ v ≤ 3) then 1 else 0) (by first | rw [if_pos (by omega)] | rw [if_neg (by omega)] | (split <;> split <;> omega)) ?_
          refine r_istore F hl [(4, .int (I (if (w2 = 0 ∧ 1 ≤ v ∧ v ≤ 60 ∨ w2 = 1 ∧ 0 ≤ v ∧ v ≤ 999 ∨ w2 = 2 ∧ 0 ≤ v ∧ v ≤ 3) then 1 else 0))), (0, .ref (gY G 36)), (1, .int (I s2)), (2, .int (I w2)), (3, .int (I v))] (by decide) rfl dX5_alter_60 (fun ls hl => ?_)
          exact join62   _ _ _  X (lv_sub hl [1, 2, 3, 4, 0] rfl)
        · skip
          refine r_iconst F dX5_alter_55 ?_
          refine r_goto F 60 (by decide) dX5_alter_56 ?_
          refine r_eqI (b := if (w2 = 0 ∧ 1 ≤ v ∧ v ≤ 60 ∨ w2 = 1 ∧ 0 ≤ v ∧ v ≤ 999 ∨ w2 = 2 ∧ 0 ≤ v ∧ v ≤ 3) then 1 else 0) (by first | rw [if_pos (by omega)] | rw [if_neg (by omega)] | (split <;> split <;> omega)) ?_
          refine r_istore F hl [(4, .int (I (if (w2 = 0 ∧ 1 ≤ v ∧ v ≤ 60 ∨ w2 = 1 ∧ 0 ≤ v ∧ v ≤ 999 ∨ w2 = 2 ∧ 0 ≤ v ∧ v ≤ 3) then 1 else 0))), (0, .ref (gY G 36)), (1, .int (I s2)), (2, .int (I w2)), (3, .int (I v))] (by decide) rfl dX5_alter_60 (fun ls hl => ?_)
          exact join62   _ _ _  X (lv_sub hl [1, 2, 3, 4, 0] rfl)
    · skip
      refine r_iload_n F hl 3 rfl rfl dX5_alter_26 ?_
      refine r_i2l F (by omega) dX5_alter_27 ?_
      refine r_lconst F 0 (by decide +kernel) dX5_alter_28 ?_
      refine r_ldc2 F 999 gk_RX5_45 (by decide +kernel) dX5_alter_29 ?_
      refine d_cSI F X (c_X5_within l G σ1 v 0 999 (by omega) (by omega) (by omega)) gv_RX5_39 nd_X5_within rfl (rest := []) rfl (Nat.le_of_ble_eq_true rfl) ⟨Nat.le_of_ble_eq_true rfl, Nat.le_of_ble_eq_true rfl⟩ ⟨Nat.zero_le _, Nat.zero_le _⟩ hl.1 dX5_alter_32 (fun H locs X => ?_)
      refine r_goto F 60 (by decide) dX5_alter_35 ?_
      refine r_eqI (b := if (w2 = 0 ∧ 1 ≤ v ∧ v ≤ 60 ∨ w2 = 1 ∧ 0 ≤ v ∧ v ≤ 999 ∨ w2 = 2 ∧ 0 ≤ v ∧ v ≤ 3) then 1 else 0) (by first | rw [if_pos (by omega)] | rw [if_neg (by omega)] | (split <;> split <;> omega)) ?_
      refine r_istore F hl [(4, .int (I (if (w2 = 0 ∧ 1 ≤ v ∧ v ≤ 60 ∨ w2 = 1 ∧ 0 ≤ v ∧ v ≤ 999 ∨ w2 = 2 ∧ 0 ≤ v ∧ v ≤ 3) then 1 else 0))), (0, .ref (gY G 36)), (1, .int (I s2)), (2, .int (I w2)), (3, .int (I v))] (by decide) rfl dX5_alter_60 (fun ls hl => ?_)
      exact join62   _ _ _  X (lv_sub hl [1, 2, 3, 4, 0] rfl)
  · skip
    refine r_iload_n F hl 3 rfl rfl dX5_alter_9 ?_
    refine r_i2l F (by omega) dX5_alter_10 ?_
    refine r_lconst F 1 (by decide +kernel) dX5_alter_11 ?_
    refine r_ldc2 F 60 gk_RX5_43 (by decide +kernel) dX5_alter_12 ?_
    refine d_cSI F X (c_X5_within l G σ1 v 1 60 (by omega) (by omega) (by omega)) gv_RX5_39 nd_X5_within rfl (rest := []) rfl (Nat.le_of_ble_eq_true rfl) ⟨Nat.le_of_ble_eq_true rfl, Nat.le_of_ble_eq_true rfl⟩ ⟨Nat.zero_le _, Nat.zero_le _⟩ hl.1 dX5_alter_15 (fun H locs X => ?_)
    refine r_goto F 60 (by decide) dX5_alter_18 ?_
    refine r_eqI (b := if (w2 = 0 ∧ 1 ≤ v ∧ v ≤ 60 ∨ w2 = 1 ∧ 0 ≤ v ∧ v ≤ 999 ∨ w2 = 2 ∧ 0 ≤ v ∧ v ≤ 3) then 1 else 0) (by first | rw [if_pos (by omega)] | rw [if_neg (by omega)] | (split <;> split <;> omega)) ?_
    refine r_istore F hl [(4, .int (I (if (w2 = 0 ∧ 1 ≤ v ∧ v ≤ 60 ∨ w2 = 1 ∧ 0 ≤ v ∧ v ≤ 999 ∨ w2 = 2 ∧ 0 ≤ v ∧ v ≤ 3) then 1 else 0))), (0, .ref (gY G 36)), (1, .int (I s2)), (2, .int (I w2)), (3, .int (I v))] (by decide) rfl dX5_alter_60 (fun ls hl => ?_)
    exact join62   _ _ _  X (lv_sub hl [1, 2, 3, 4, 0] rfl)
theorem c_X5_unmark (l : Launch) (G : GT) (σ : St) (N : Int) (r : Int → Int) (n : Int) (hs : Int → Int → Int) (q : Int) (hM : MX σ N r n hs) (hW : WF N r) (hq : -2147483648 ≤ q ∧ q < 2147483648) : Ct l yX5_unmark cX5_unmark 3 (some .boolean) 3 G [.ref (gY G 36), .int (I q)] σ (QI G (fun x9 τ9 => (KY σ τ9 ∧ τ9 36 0 = 0) ∧ if 0 ≤ q ∧ q < r 61 then x9 = 1 ∧ MX τ9 N (unm r q) (min (n + 1) 20) (hpush r hs) else x9 = 0 ∧ MX τ9 N r n hs)) := by
  refine mt (own := RX5) (plainFor_of_name rfl) rfl (Nat.le_of_ble_eq_true rfl) ?_
  intro p e s m args below meth c ls F hr hk X hl
  have hl : lv_has ls 3 [(0, .ref (gY G 36)), (1, .int (I q))] := hl
  have hw := hW.num
  have hro := hM.2.1
  have hN := hM.1
  refine r_aload_n F hl 0 rfl rfl dX5_unmark_0 ?_
  refine r_iconst F dX5_unmark_1 ?_
  refine r_put F X 36 (by decide) (upI (σ 36) 0 0) (eK_36 G _) rfl gl_RX5 tyX5 tyX5_ok nmX5 0 (by decide) rfl gf_RX5_1 rfl (tyX5_ok 0 (by decide)) rfl rfl (Nat.le_of_ble_eq_true rfl) (eK_36 G _) dX5_unmark_2 (fun H locs X => ?_)
  obtain ⟨σ1, eσ1⟩ : ∃ x9 : St, x9 = up σ 36 (upI (σ 36) 0 0) := ⟨_, rfl⟩
  rw [← eσ1] at X
  have hrσ1 : σ1 37 = r := by rw [eσ1, up_ne (by omega)]; exact hro
  have hNσ1 : σ1 36 1 = N := by rw [eσ1, up_eq, upI_ne (by omega)]; exact hN
  have hM1 := hM.th (v := 0) eσ1
  refine r_aload_n F hl 0 rfl rfl dX5_unmark_5 ?_
  refine r_iload_n F hl 1 rfl rfl dX5_unmark_6 ?_
  refine d_cVI F X 36 (by decide) (eK_36 G _) rfl (c_X5_isMark l G σ1 N r q hrσ1 hNσ1 hW (by omega)) gv_RX5_71 rfl nd_X5_isMark rfl (rest := []) rfl (Nat.le_of_ble_eq_true rfl) ⟨Nat.le_of_ble_eq_true rfl, Nat.le_of_ble_eq_true rfl⟩ ⟨Nat.zero_le _, Nat.zero_le _⟩ hl.1 dX5_unmark_7 (fun H locs X => ?_)
  refine r_bz_ne F 15 (0 ≤ q ∧ q < r 61) rfl (by decide) dX5_unmark_10 (fun c1 => ?_) (fun c1 => ?_)
  · skip
    refine r_aload_n F hl 0 rfl rfl dX5_unmark_15 ?_
    refine r_cVV F X 36 (by decide) (eK_36 G _) rfl (c_X5_keeps l G σ1 N r n hs (hM1.1) hW) gv_RX5_49 rfl nd_X5_keeps rfl (rest := []) rfl (Nat.le_of_ble_eq_true rfl) ⟨Nat.le_of_ble_eq_true rfl, Nat.le_of_ble_eq_true rfl⟩ ⟨Nat.zero_le _, Nat.zero_le _⟩ hl.1 dX5_unmark_16 (fun κ H locs hκ X => ?_)
    have hM2 := MX.kp hM1 hκ.1 hκ.2
    have hrκ := hM2.1.2.1
    have hNκ := hM2.1.1
    refine r_aload_n F hl 0 rfl rfl dX5_unmark_19 ?_
    refine r_get F X 36 (by decide) (eK_36 G _) rfl gl_RX5 2 (by decide) rfl gf_RX5_16 rfl dX5_unmark_20 ?_
    refine r_bipush F (by decide) dX5_unmark_23 ?_
    refine r_dup2 F rfl rfl dX5_unmark_25 ?_
    refine r_iald F X 37 (by decide) (eK_37 G) (by omega) (by decide) dX5_unmark_26 ?_
    refine r_eqI (b := r 61) (by rw [hrκ]) ?_
    refine r_iconst F dX5_unmark_27 ?_
    refine r_isub F dX5_unmark_28 ?_
    refine r_iast F X 37 (by decide) (eK_37 G) (by omega) (by decide) dX5_unmark_29 (fun H locs X => ?_)
    obtain ⟨σ2, eσ2⟩ : ∃ x9 : St, x9 = up κ 37 (upI (κ 37) 61 ((r 61) - 1)) := ⟨_, rfl⟩
    rw [← eσ2] at X
    have hrσ2 : σ2 37 = upI r 61 ((r 61) - 1) := by rw [eσ2, up_eq, hrκ]
    have hNσ2 : σ2 36 1 = N := by rw [eσ2, up_ne (by omega)]; exact hNκ
    refine r_iload_n F hl 1 rfl rfl dX5_unmark_30 ?_
    refine r_istore_n F hl [(2, .int (I q)), (0, .ref (gY G 36)), (1, .int (I q))] rfl (by decide) rfl dX5_unmark_31 (fun ls hl => ?_)
    have loop32 : ∀ (n_ : Nat) (k : Int) (τ : St) (ls : Array Slot) (H : Heap) (locs : List Loc) (hn_ : r 61 - 1 - k < n_) (hk2 : q ≤ k ∧ k ≤ r 61 - 1) (hrt : τ 37 = um r q k) (hfz : ∀ c : Nat, c ≠ 37 → τ c = κ c) (X : HX G τ s H locs) (hl : lv_has ls 3 [(0, .ref (gY G 36)), (1, .int (I q)), (2, .int (I k))]), W p l e (rmd 3) s m args below meth c H locs 0 0 (MQ below (QI G (fun x9 τ9 => (KY σ τ9 ∧ τ9 36 0 = 0) ∧ if 0 ≤ q ∧ q < r 61 then x9 = 1 ∧ MX τ9 N (unm r q) (min (n + 1) 20) (hpush r hs) else x9 = 0 ∧ MX τ9 N r n hs)) args s 0 0 (gA G)) (F0 m 32 ls []) := by
      intro n_
      induction n_ with
      | zero => intro k τ ls H locs hn_ hk2 hrt hfz X hl; omega
      | succ n_ ih32 =>
        intro k τ ls H locs hn_ hk2 hrt hfz X hl
        have hNt : τ 36 1 = N := by rw [hfz 36 (by omega)]; exact hNκ
        refine r_iload_n F hl 2 rfl rfl dX5_unmark_32 ?_
        refine r_aload_n F hl 0 rfl rfl dX5_unmark_33 ?_
        refine r_get F X 36 (by decide) (eK_36 G _) rfl gl_RX5 2 (by decide) rfl gf_RX5_16 rfl dX5_unmark_34 ?_
        refine r_bipush F (by decide) dX5_unmark_37 ?_
        refine r_iald F X 37 (by decide) (eK_37 G) (by omega) (by decide) dX5_unmark_39 ?_
        refine r_eqI (b := (um r q k) 61) (by rw [hrt]) ?_
        refine r_eqI (b := r 61 - 1) (if_pos rfl) ?_
        refine r_icmp_ge F 109 (by decide) (by omega) (by omega) dX5_unmark_40 (fun c2 => ?_) (fun c2 => ?_)
        · skip
          refine r_iconst F dX5_unmark_109 ?_
          exact r_zret F X hr hk (by omega) dX5_unmark_110 (by have hke : k = r 61 - 1 := (by omega); have m0 := hM2.1.row (τ := τ) (q := unm r q) (fun i a b => by rw [hfz 36 (by omega)]) (hfz 38 (by omega)) (by rw [hrt, hke]; rfl) (fun p9 a => unm_out (by omega) a); exact ⟨⟨fun k9 q9 => by rw [hfz k9 (by omega)]; exact hM2.2.1 k9 q9, by rw [hfz 36 (by omega)]; exact hM2.2.2⟩, by rw [if_pos (by omega)]; exact ⟨rfl, m0⟩⟩)
        · skip
          refine r_aload_n F hl 0 rfl rfl dX5_unmark_43 ?_
          refine r_get F X 36 (by decide) (eK_36 G _) rfl gl_RX5 2 (by decide) rfl gf_RX5_16 rfl dX5_unmark_44 ?_
          refine r_bipush F (by decide) dX5_unmark_47 ?_
          refine r_iload_n F hl 2 rfl rfl dX5_unmark_49 ?_
          refine r_iadd F dX5_unmark_50 ?_
          refine r_aload_n F hl 0 rfl rfl dX5_unmark_51 ?_
          refine r_get F X 36 (by decide) (eK_36 G _) rfl gl_RX5 2 (by decide) rfl gf_RX5_16 rfl dX5_unmark_52 ?_
          refine r_bipush F (by decide) dX5_unmark_55 ?_
          refine r_iload_n F hl 2 rfl rfl dX5_unmark_57 ?_
          refine r_iadd F dX5_unmark_58 ?_
          refine r_iconst F dX5_unmark_59 ?_
          refine r_iadd F dX5_unmark_60 ?_
          refine r_iald F X 37 (by decide) (eK_37 G) (by omega) (by decide) dX5_unmark_61 ?_
          refine r_eqI (b := (um r q k) ((36 + k) + 1)) (by rw [hrt]) ?_
          refine r_eqI (b := r (36 + k + 1)) (um_rd (by omega) (by omega)) ?_
          refine r_iast F X 37 (by decide) (eK_37 G) (by omega) (by decide) dX5_unmark_62 (fun H locs X => ?_)
          obtain ⟨σ3, eσ3⟩ : ∃ x9 : St, x9 = up τ 37 (upI (τ 37) (36 + k) (r (36 + k + 1))) := ⟨_, rfl⟩
          rw [← eσ3] at X
          have hrσ3 : σ3 37 = upI (um r q k) (36 + k) (r (36 + k + 1)) := by rw [eσ3, up_eq, hrt]
          have hNσ3 : σ3 36 1 = N := by rw [eσ3, up_ne (by omega)]; exact hNt
          refine r_aload_n F hl 0 rfl rfl dX5_unmark_63 ?_
          refine r_get F X 36 (by decide) (eK_36 G _) rfl gl_RX5 2 (by decide) rfl gf_RX5_16 rfl dX5_unmark_64 ?_
          refine r_bipush F (by decide) dX5_unmark_67 ?_
          refine r_iload_n F hl 2 rfl rfl dX5_unmark_69 ?_
          refine r_iadd F dX5_unmark_70 ?_
          refine r_aload_n F hl 0 rfl rfl dX5_unmark_71 ?_
          refine r_get F X 36 (by decide) (eK_36 G _) rfl gl_RX5 2 (by decide) rfl gf_RX5_16 rfl dX5_unmark_72 ?_
          refine r_bipush F (by decide) dX5_unmark_75 ?_
          refine r_iload_n F hl 2 rfl rfl dX5_unmark_77 ?_
          refine r_iadd F dX5_unmark_78 ?_
          refine r_iconst F dX5_unmark_79 ?_
          refine r_iadd F dX5_unmark_80 ?_
          refine r_iald F X 37 (by decide) (eK_37 G) (by omega) (by decide) dX5_unmark_81 ?_
          refine r_eqI (b := (upI (um r q k) (36 + k) (r (36 + k + 1))) ((44 + k) + 1)) (by rw [hrσ3]) ?_
          refine r_eqI (b := r (44 + k + 1)) (by rw [upI_ne (by omega)]; exact um_rd (by omega) (by omega)) ?_
          refine r_iast F X 37 (by decide) (eK_37 G) (by omega) (by decide) dX5_unmark_82 (fun H locs X => ?_)
          obtain ⟨σ4, eσ4⟩ : ∃ x9 : St, x9 = up σ3 37 (upI (σ3 37) (44 + k) (r (44 + k + 1))) := ⟨_, rfl⟩
          rw [← eσ4] at X
          have hrσ4 : σ4 37 = upI (upI (um r q k) (36 + k) (r (36 + k + 1))) (44 + k) (r (44 + k + 1)) := by rw [eσ4, up_eq, hrσ3]
          have hNσ4 : σ4 36 1 = N := by rw [eσ4, up_ne (by omega)]; exact hNσ3
          refine r_aload_n F hl 0 rfl rfl dX5_unmark_83 ?_
          refine r_get F X 36 (by decide) (eK_36 G _) rfl gl_RX5 2 (by decide) rfl gf_RX5_16 rfl dX5_unmark_84 ?_
          refine r_bipush F (by decide) dX5_unmark_87 ?_
          refine r_iload_n F hl 2 rfl rfl dX5_unmark_89 ?_
          refine r_iadd F dX5_unmark_90 ?_
          refine r_aload_n F hl 0 rfl rfl dX5_unmark_91 ?_
          refine r_get F X 36 (by decide) (eK_36 G _) rfl gl_RX5 2 (by decide) rfl gf_RX5_16 rfl dX5_unmark_92 ?_
          refine r_bipush F (by decide) dX5_unmark_95 ?_
          refine r_iload_n F hl 2 rfl rfl dX5_unmark_97 ?_
          refine r_iadd F dX5_unmark_98 ?_
          refine r_iconst F dX5_unmark_99 ?_
          refine r_iadd F dX5_unmark_100 ?_
          refine r_iald F X 37 (by decide) (eK_37 G) (by omega) (by decide) dX5_unmark_101 ?_
          refine r_eqI (b := (upI (upI (um r q k) (36 + k) (r (36 + k + 1))) (44 + k) (r (44 + k + 1))) ((52 + k) + 1)) (by rw [hrσ4]) ?_
          refine r_eqI (b := r (52 + k + 1)) (by rw [upI_ne (by omega), upI_ne (by omega)]; exact um_rd (by omega) (by omega)) ?_
          refine r_iast F X 37 (by decide) (eK_37 G) (by omega) (by decide) dX5_unmark_102 (fun H locs X => ?_)
          obtain ⟨σ5, eσ5⟩ : ∃ x9 : St, x9 = up σ4 37 (upI (σ4 37) (52 + k) (r (52 + k + 1))) := ⟨_, rfl⟩
          rw [← eσ5] at X
          have hrσ5 : σ5 37 = upI (upI (upI (um r q k) (36 + k) (r (36 + k + 1))) (44 + k) (r (44 + k + 1))) (52 + k) (r (52 + k + 1)) := by rw [eσ5, up_eq, hrσ4]
          have hNσ5 : σ5 36 1 = N := by rw [eσ5, up_ne (by omega)]; exact hNσ4
          refine r_iinc F hl [(2, .int (I (k + 1))), (0, .ref (gY G 36)), (1, .int (I q))] 2 rfl (by decide) rfl dX5_unmark_103 (fun ls hl => ?_)
          refine r_goto F 32 (by decide) dX5_unmark_106 ?_
          exact ih32 (k + 1) σ5 _ _ _ (by omega) (by omega) (by rw [hrσ5]; exact um_s (by omega) (by omega)) (by intro c a; rw [eσ5, up_ne a, eσ4, up_ne a, eσ3, up_ne a]; exact hfz c a) X (lv_sub hl [1, 2, 0] rfl)
    exact loop32 (((r 61 - 1 - q : Int) + 1).toNat) q σ2 _ _ _ (by omega) (by omega) (by rw [hrσ2]; exact um_0 r q) (by intro c a; rw [eσ2, up_ne a]) X (lv_sub hl [1, 2, 0] rfl)
  · skip
    refine r_iconst F dX5_unmark_13 ?_
    exact r_zret F X hr hk (by omega) dX5_unmark_14 (⟨⟨hM1.2.1, hM1.2.2⟩, by rw [if_neg (by omega)]; exact ⟨rfl, hM1.1⟩⟩)
theorem c_X5_back (l : Launch) (G : GT) (σ : St) (N : Int) (r : Int → Int) (n : Int) (hs : Int → Int → Int) (hM : MX σ N r n hs) (hW : WF N r) : Ct l yX5_back cX5_back 2 (some .boolean) 3 G [.ref (gY G 36)] σ (QI G (fun x9 τ9 => (KY σ τ9 ∧ τ9 36 0 = 0) ∧ if 0 < n then x9 = 1 ∧ MX τ9 N (hs 0) (n - 1) (hpop hs) else x9 = 0 ∧ MX τ9 N r n hs)) := by
  refine mt (own := RX5) (plainFor_of_name rfl) rfl (Nat.le_of_ble_eq_true rfl) ?_
  intro p e s m args below meth c ls F hr hk X hl
  have hl : lv_has ls 2 [(0, .ref (gY G 36))] := hl
  have hw := hW.num
  have hro := hM.2.1
  have hN := hM.1
  obtain ⟨g1, g2, g3, g4, g5, g6⟩ := id hM
  refine r_aload_n F hl 0 rfl rfl dX5_back_0 ?_
  refine r_iconst F dX5_back_1 ?_
  refine r_put F X 36 (by decide) (upI (σ 36) 0 0) (eK_36 G _) rfl gl_RX5 tyX5 tyX5_ok nmX5 0 (by decide) rfl gf_RX5_1 rfl (tyX5_ok 0 (by decide)) rfl rfl (Nat.le_of_ble_eq_true rfl) (eK_36 G _) dX5_back_2 (fun H locs X => ?_)
  obtain ⟨σ1, eσ1⟩ : ∃ x9 : St, x9 = up σ 36 (upI (σ 36) 0 0) := ⟨_, rfl⟩
  rw [← eσ1] at X
  have hrσ1 : σ1 37 = r := by rw [eσ1, up_ne (by omega)]; exact hro
  have hNσ1 : σ1 36 1 = N := by rw [eσ1, up_eq, upI_ne (by omega)]; exact hN
  have hM1 := hM.th (v := 0) eσ1
  refine r_aload_n F hl 0 rfl rfl dX5_back_5 ?_
  refine r_get F X 36 (by decide) (eK_36 G _) rfl gl_RX5 4 (by decide) rfl gf_RX5_32 rfl dX5_back_6 ?_
  refine r_eqI (b := n) (hM1.1.2.2.1) ?_
  refine r_if_ne F 14 (by decide) (by omega) dX5_back_9 (fun c1 => ?_) (fun c1 => ?_)
  · skip
    refine r_aload_n F hl 0 rfl rfl dX5_back_14 ?_
    refine r_dup F rfl dX5_back_15 ?_
    refine r_get F X 36 (by decide) (eK_36 G _) rfl gl_RX5 4 (by decide) rfl gf_RX5_32 rfl dX5_back_16 ?_
    refine r_eqI (b := n) (hM1.1.2.2.1) ?_
    refine r_iconst F dX5_back_19 ?_
    refine r_isub F dX5_back_20 ?_
    refine r_put F X 36 (by decide) (upI (σ1 36) 4 (n - 1)) (eK_36 G _) rfl gl_RX5 tyX5 tyX5_ok nmX5 4 (by decide) rfl gf_RX5_32 rfl (tyX5_ok 4 (by decide)) rfl rfl (Nat.le_of_ble_eq_true rfl) (eK_36 G _) dX5_back_21 (fun H locs X => ?_)
    obtain ⟨σ2, eσ2⟩ : ∃ x9 : St, x9 = up σ1 36 (upI (σ1 36) 4 (n - 1)) := ⟨_, rfl⟩
    rw [← eσ2] at X
    have hrσ2 : σ2 37 = r := by rw [eσ2, up_ne (by omega)]; exact hrσ1
    have hNσ2 : σ2 36 1 = N := by rw [eσ2, up_eq, upI_ne (by omega)]; exact hNσ1
    refine r_iconst F dX5_back_24 ?_
    refine r_istore_n F hl [(1, .int (I 0)), (0, .ref (gY G 36))] rfl (by decide) rfl dX5_back_25 (fun ls hl => ?_)
    have loop26 : ∀ (n_ : Nat) (k : Int) (τ : St) (ls : Array Slot) (H : Heap) (locs : List Loc) (hn_ : 71 - k < n_) (hk2 : 0 ≤ k ∧ k ≤ 71) (hrt : τ 37 = bk (σ 38) r n k) (hfz : ∀ c : Nat, c ≠ 37 → τ c = σ2 c) (X : HX G τ s H locs) (hl : lv_has ls 2 [(0, .ref (gY G 36)), (1, .int (I k))]), W p l e (rmd 3) s m args below meth c H locs 0 0 (MQ below (QI G (fun x9 τ9 => (KY σ τ9 ∧ τ9 36 0 = 0) ∧ if 0 < n then x9 = 1 ∧ MX τ9 N (hs 0) (n - 1) (hpop hs) else x9 = 0 ∧ MX τ9 N r n hs)) args s 0 0 (gA G)) (F0 m 26 ls []) := by
      intro n_
      induction n_ with
      | zero => intro k τ ls H locs hn_ hk2 hrt hfz X hl; omega
      | succ n_ ih26 =>
        intro k τ ls H locs hn_ hk2 hrt hfz X hl
        have hNt : τ 36 1 = N := by rw [hfz 36 (by omega)]; exact hNσ2
        have h38 : τ 38 = σ 38 := by rw [hfz 38 (by omega), eσ2, up_ne (by omega), eσ1, up_ne (by omega)]
        have h364 : τ 36 4 = n - 1 := by rw [hfz 36 (by omega), eσ2, up_eq, upI_eq]
        refine r_iload_n F hl 1 rfl rfl dX5_back_26 ?_
        refine r_bipush F (by decide) dX5_back_27 ?_
        refine r_icmp_ge F 58 (by decide) (by omega) (by omega) dX5_back_29 (fun c2 => ?_) (fun c2 => ?_)
        · skip
          refine r_iconst F dX5_back_58 ?_
          exact r_zret F X hr hk (by omega) dX5_back_59 (by have hke : k = 71 := (by omega); rw [hke] at hrt; have e0 : ∀ i : Int, i ≠ 0 → i ≠ 4 → τ 36 i = σ 36 i := (fun i a b => by rw [hfz 36 (by omega), eσ2, up_eq, upI_ne b, eσ1, up_eq, upI_ne a]); have m0 := MX.back (ρ := σ) (τ := τ) (σ := σ) hM (by omega) e0 h364 h38 hrt; exact ⟨⟨fun k9 q9 => by rw [hfz k9 (by omega), eσ2, up_ne (by omega)]; exact hM1.2.1 k9 q9, by rw [hfz 36 (by omega), eσ2, up_eq, upI_ne (by omega)]; exact hM1.2.2⟩, by rw [if_pos (by omega)]; exact ⟨rfl, m0⟩⟩)
        · skip
          refine r_aload_n F hl 0 rfl rfl dX5_back_32 ?_
          refine r_get F X 36 (by decide) (eK_36 G _) rfl gl_RX5 2 (by decide) rfl gf_RX5_16 rfl dX5_back_33 ?_
          refine r_iload_n F hl 1 rfl rfl dX5_back_36 ?_
          refine r_aload_n F hl 0 rfl rfl dX5_back_37 ?_
          refine r_get F X 36 (by decide) (eK_36 G _) rfl gl_RX5 3 (by decide) rfl gf_RX5_20 rfl dX5_back_38 ?_
          refine r_bipush F (by decide) dX5_back_41 ?_
          refine r_aload_n F hl 0 rfl rfl dX5_back_43 ?_
          refine r_get F X 36 (by decide) (eK_36 G _) rfl gl_RX5 4 (by decide) rfl gf_RX5_32 rfl dX5_back_44 ?_
          refine r_eqI (b := n - 1) (h364) ?_
          refine r_imul F dX5_back_47 ?_
          refine r_iload_n F hl 1 rfl rfl dX5_back_48 ?_
          refine r_iadd F dX5_back_49 ?_
          refine r_iald F X 38 (by decide) (eK_38 G) (by omega) (by decide) dX5_back_50 ?_
          refine r_eqI (b := σ 38 (71 * (n - 1) + k)) (by rw [h38]) ?_
          refine r_iast F X 37 (by decide) (eK_37 G) (by omega) (by decide) dX5_back_51 (fun H locs X => ?_)
          obtain ⟨σ3, eσ3⟩ : ∃ x9 : St, x9 = up τ 37 (upI (τ 37) k (σ 38 (71 * (n - 1) + k))) := ⟨_, rfl⟩
          rw [← eσ3] at X
          have hrσ3 : σ3 37 = upI (bk (σ 38) r n k) k (σ 38 (71 * (n - 1) + k)) := by rw [eσ3, up_eq, hrt]
          have hNσ3 : σ3 36 1 = N := by rw [eσ3, up_ne (by omega)]; exact hNt
          refine r_iinc F hl [(1, .int (I (k + 1))), (0, .ref (gY G 36))] 1 rfl (by decide) rfl dX5_back_52 (fun ls hl => ?_)
          refine r_goto F 26 (by decide) dX5_back_55 ?_
          exact ih26 (k + 1) σ3 _ _ _ (by omega) (by omega) (by rw [hrσ3]; exact bk_s hk2.1) (by intro c a; rw [eσ3, up_ne a]; exact hfz c a) X (lv_sub hl [1, 0] rfl)
    exact loop26 (((71 - 0 : Int) + 1).toNat) 0 σ2 _ _ _ (by omega) (by omega) (by rw [bk_0]; exact hrσ2) (by exact fun _ _ => rfl) X (lv_sub hl [1, 0] rfl)
  · skip
    refine r_iconst F dX5_back_12 ?_
    exact r_zret F X hr hk (by omega) dX5_back_13 (⟨⟨hM1.2.1, hM1.2.2⟩, by rw [if_neg (by omega)]; exact ⟨rfl, hM1.1⟩⟩)
theorem c_X5_steps (l : Launch) (G : GT) (σ : St) (N : Int) (r : Int → Int) (n : Int) (hs : Int → Int → Int) (v : Int) (hM : MX σ N r n hs) (hW : WF N r) (hv : -2147483648 ≤ v ∧ v < 2147483648) : Ct l yX5_steps cX5_steps 3 (some .int) 3 G [.ref (gY G 36), .int (I v)] σ (QI G (fun x9 τ9 => (KY σ τ9 ∧ τ9 36 0 = 0) ∧ if 24 ≤ v ∧ v ≤ 120 then x9 = r 60 ∧ MX τ9 v (upI (upI r 60 0) 61 0) (0) (hs) else x9 = -1 ∧ MX τ9 N r n hs)) := by
  refine mt (own := RX5) (plainFor_of_name rfl) rfl (Nat.le_of_ble_eq_true rfl) ?_
  intro p e s m args below meth c ls F hr hk X hl
  have hl : lv_has ls 3 [(0, .ref (gY G 36)), (1, .int (I v))] := hl
  have hw := hW.num
  have hro := hM.2.1
  have hN := hM.1
  obtain ⟨g1, g2, g3, g4, g5, g6⟩ := id hM
  refine r_aload_n F hl 0 rfl rfl dX5_steps_0 ?_
  refine r_iconst F dX5_steps_1 ?_
  refine r_put F X 36 (by decide) (upI (σ 36) 0 0) (eK_36 G _) rfl gl_RX5 tyX5 tyX5_ok nmX5 0 (by decide) rfl gf_RX5_1 rfl (tyX5_ok 0 (by decide)) rfl rfl (Nat.le_of_ble_eq_true rfl) (eK_36 G _) dX5_steps_2 (fun H locs X => ?_)
  obtain ⟨σ1, eσ1⟩ : ∃ x9 : St, x9 = up σ 36 (upI (σ 36) 0 0) := ⟨_, rfl⟩
  rw [← eσ1] at X
  have hrσ1 : σ1 37 = r := by rw [eσ1, up_ne (by omega)]; exact hro
  have hNσ1 : σ1 36 1 = N := by rw [eσ1, up_eq, upI_ne (by omega)]; exact hN
  have hM1 := hM.th (v := 0) eσ1
  refine r_iload_n F hl 1 rfl rfl dX5_steps_5 ?_
  refine r_i2l F (by omega) dX5_steps_6 ?_
  refine r_ldc2 F 24 gk_RX5_35 (by decide +kernel) dX5_steps_7 ?_
  refine r_ldc2 F 120 gk_RX5_37 (by decide +kernel) dX5_steps_10 ?_
  refine d_cSI F X (c_X5_within l G σ1 v 24 120 (by omega) (by omega) (by omega)) gv_RX5_39 nd_X5_within rfl (rest := []) rfl (Nat.le_of_ble_eq_true rfl) ⟨Nat.le_of_ble_eq_true rfl, Nat.le_of_ble_eq_true rfl⟩ ⟨Nat.zero_le _, Nat.zero_le _⟩ hl.1 dX5_steps_13 (fun H locs X => ?_)
  refine r_bz_ne F 21 (24 ≤ v ∧ v ≤ 120) rfl (by decide) dX5_steps_16 (fun c1 => ?_) (fun c1 => ?_)
  · skip
    refine r_aload_n F hl 0 rfl rfl dX5_steps_21 ?_
    refine r_get F X 36 (by decide) (eK_36 G _) rfl gl_RX5 2 (by decide) rfl gf_RX5_16 rfl dX5_steps_22 ?_
    refine r_bipush F (by decide) dX5_steps_25 ?_
    refine r_iald F X 37 (by decide) (eK_37 G) (by omega) (by decide) dX5_steps_27 ?_
    refine r_eqI (b := r 60) (by rw [hrσ1]) ?_
    refine r_istore_n F hl [(2, .int (I (r 60))), (0, .ref (gY G 36)), (1, .int (I v))] rfl (by decide) rfl dX5_steps_28 (fun ls hl => ?_)
    refine r_aload_n F hl 1 rfl rfl dX5_steps_29 ?_
    refine r_iload_n F hl 2 rfl rfl dX5_steps_30 ?_
    refine r_put F X 36 (by decide) (upI (σ1 36) 1 v) (eK_36 G _) rfl gl_RX5 tyX5 tyX5_ok nmX5 1 (by decide) rfl gf_RX5_13 rfl (tyX5_ok 1 (by decide)) rfl rfl (Nat.le_of_ble_eq_true rfl) (eK_36 G _) dX5_steps_31 (fun H locs X => ?_)
    obtain ⟨σ2, eσ2⟩ : ∃ x9 : St, x9 = up σ1 36 (upI (σ1 36) 1 v) := ⟨_, rfl⟩
    rw [← eσ2] at X
    have hrσ2 : σ2 37 = r := by rw [eσ2, up_ne (by omega)]; exact hrσ1
    have hNσ2 : σ2 36 1 = v := by rw [eσ2, up_eq, upI_eq]
    refine r_aload_n F hl 1 rfl rfl dX5_steps_34 ?_
    refine r_get F X 36 (by decide) (eK_36 G _) rfl gl_RX5 2 (by decide) rfl gf_RX5_16 rfl dX5_steps_35 ?_
    refine r_bipush F (by decide) dX5_steps_38 ?_
    refine r_iconst F dX5_steps_40 ?_
    refine r_iast F X 37 (by decide) (eK_37 G) (by omega) (by decide) dX5_steps_41 (fun H locs X => ?_)
    obtain ⟨σ3, eσ3⟩ : ∃ x9 : St, x9 = up σ2 37 (upI (σ2 37) 60 0) := ⟨_, rfl⟩
    rw [← eσ3] at X
    have hrσ3 : σ3 37 = upI r 60 0 := by rw [eσ3, up_eq, hrσ2]
    have hNσ3 : σ3 36 1 = v := by rw [eσ3, up_ne (by omega)]; exact hNσ2
    refine r_aload_n F hl 1 rfl rfl dX5_steps_42 ?_
    refine r_get F X 36 (by decide) (eK_36 G _) rfl gl_RX5 2 (by decide) rfl gf_RX5_16 rfl dX5_steps_43 ?_
    refine r_bipush F (by decide) dX5_steps_46 ?_
    refine r_iconst F dX5_steps_48 ?_
    refine r_iast F X 37 (by decide) (eK_37 G) (by omega) (by decide) dX5_steps_49 (fun H locs X => ?_)
    obtain ⟨σ4, eσ4⟩ : ∃ x9 : St, x9 = up σ3 37 (upI (σ3 37) 61 0) := ⟨_, rfl⟩
    rw [← eσ4] at X
    have hrσ4 : σ4 37 = upI (upI r 60 0) 61 0 := by rw [eσ4, up_eq, hrσ3]
    have hNσ4 : σ4 36 1 = v := by rw [eσ4, up_ne (by omega)]; exact hNσ3
    refine r_aload_n F hl 1 rfl rfl dX5_steps_50 ?_
    refine r_iconst F dX5_steps_51 ?_
    refine r_put F X 36 (by decide) (upI (σ4 36) 4 0) (eK_36 G _) rfl gl_RX5 tyX5 tyX5_ok nmX5 4 (by decide) rfl gf_RX5_32 rfl (tyX5_ok 4 (by decide)) rfl rfl (Nat.le_of_ble_eq_true rfl) (eK_36 G _) dX5_steps_52 (fun H locs X => ?_)
    obtain ⟨σ5, eσ5⟩ : ∃ x9 : St, x9 = up σ4 36 (upI (σ4 36) 4 0) := ⟨_, rfl⟩
    rw [← eσ5] at X
    have hrσ5 : σ5 37 = upI (upI r 60 0) 61 0 := by rw [eσ5, up_ne (by omega)]; exact hrσ4
    have hNσ5 : σ5 36 1 = v := by rw [eσ5, up_eq, upI_ne (by omega)]; exact hNσ4
    refine r_iload_n F hl 0 rfl rfl dX5_steps_55 ?_
    exact r_iret F X hr hk dX5_steps_56 (by have e36 : ∀ i : Int, i ≠ 0 → i ≠ 1 → i ≠ 4 → σ5 36 i = σ 36 i := (fun i a b c => by rw [eσ5, up_eq, upI_ne c, eσ4, up_ne (by omega), eσ3, up_ne (by omega), eσ2, up_eq, upI_ne b, eσ1, up_eq, upI_ne a]); refine ⟨⟨fun k9 q9 => (by rw [eσ5, up_ne (by omega), eσ4, up_ne (by omega), eσ3, up_ne (by omega), eσ2, up_ne (by omega)]; exact hM1.2.1 k9 q9), (by rw [eσ5, up_eq, upI_ne (by omega), eσ4, up_ne (by omega), eσ3, up_ne (by omega), eσ2, up_eq, upI_ne (by omega)]; exact hM1.2.2)⟩, ?_⟩; rw [if_pos (by omega)]; refine ⟨rfl, hNσ5, hrσ5, (by rw [eσ5, up_eq, upI_eq]), by omega, ?_, fun j a b => by omega⟩; (unfold MBR; rw [e36 9 (by omega) (by omega) (by omega), e36 10 (by omega) (by omega) (by omega), e36 8 (by omega) (by omega) (by omega)]; exact g5))
  · skip
    refine r_iconst F dX5_steps_19 ?_
    exact r_iret F X hr hk dX5_steps_20 (⟨⟨hM1.2.1, hM1.2.2⟩, by rw [if_neg (by omega)]; exact ⟨rfl, hM1.1⟩⟩)
