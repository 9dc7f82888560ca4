def pl0 : Int → Int := cpyI (stv 0) (fun _ => 0) 0 0 12
theorem k_X2 (l : Launch) (G : GT) (ws : va_W) (k h0 : Nat) (hk : ws[k]? = some (h0, .inr (2, [.null]))) : Kt l yX2_init cX2_init 1 2 1 72 G [.ref h0] ws (fun ws2 => ∃ q : Nat, ws2 = NF ws k h0 [(q, fI (gI G) 72 pl0)] (.inr (2, [.ref q]))) := by
  have hkl := (List.getElem?_eq_some_iff.mp hk).1
  refine mtk (own := RX2) (by decide) rfl rfl (Nat.le_of_ble_eq_true rfl) ?_
  intro p e s m args below meth c ls F hB hA hi hr hkk X hl
  have hl : lv_has ls 1 [(0, .ref h0)] := hl
  rw [← NF_0 hk] at X
  refine r_aload_n F hl 0 rfl rfl dX2_init_0 ?_
  refine q_obj F hl.1 go_RX2 (Nat.le_of_ble_eq_true rfl) (Nat.le_of_ble_eq_true rfl) dX2_init_1 ?_
  refine r_aload_n F hl 0 rfl rfl dX2_init_4 ?_
  refine r_bipush F (by decide) dX2_init_5 ?_
  refine q_newi F hB X 72 (by decide) (Nat.le_of_ble_eq_true rfl) (Nat.le_of_ble_eq_true rfl) dX2_init_7 (fun q H X => ?_)
  rw [NF_app hkl] at X
  refine q_putF F X k (NF_at hkl) (ci := 2) rfl gl_RX2 tyX2 tyX2_ok nmX2 0 (by decide) rfl gf_RX2_9 rfl hi rfl (tyX2_ok 0 (by decide)) rfl rfl (Nat.le_of_ble_eq_true rfl) dX2_init_9 (fun H locs X => ?_)
  rw [NF_put] at X
  refine q_gets F X 0 (by decide) F.2.1.2.1 dX2_init_12 ?_
  refine r_iconst F dX2_init_15 ?_
  refine r_aload_n F hl 0 rfl rfl dX2_init_16 ?_
  refine q_get F X k (NF_at hkl) (ci := 2) rfl gl_RX2 0 (by decide) rfl gf_RX2_9 rfl dX2_init_17 ?_
  refine r_iconst F dX2_init_20 ?_
  refine r_bipush F (by decide) dX2_init_21 ?_
  refine q_copyT F X (ws.length + 0) (NF_el hkl (j := 0) rfl) (by decide) (by decide) hl.1 gac_l (Nat.le_of_ble_eq_true rfl) (Nat.le_of_ble_eq_true rfl) dX2_init_23 (fun H locs X => ?_)
  rw [NF_set hkl] at X
  exact q_vret F hB hA X hr hkk dX2_init_26 ⟨q, rfl⟩
theorem k_X1 (l : Launch) (G : GT) (ws : va_W) (k h0 : Nat) (hk : ws[k]? = some (h0, .inr (1, [.null, .int (I 0), .int (I 0)]))) : Kt l yX1_init cX1_init 1 2 1 1440 G [.ref h0] ws (fun ws2 => ∃ q : Nat, ws2 = NF ws k h0 [(q, fI (gI G) 1440 (fun _ => 0))] (.inr (1, [.ref q, .int (I 0), .int (I 0)]))) := by
  have hkl := (List.getElem?_eq_some_iff.mp hk).1
  refine mtk (own := RX1) (by decide) rfl rfl (Nat.le_of_ble_eq_true rfl) ?_
  intro p e s m args below meth c ls F hB hA hi hr hkk X hl
  have hl : lv_has ls 1 [(0, .ref h0)] := hl
  rw [← NF_0 hk] at X
  refine r_aload_n F hl 0 rfl rfl dX1_init_0 ?_
  refine q_obj F hl.1 go_RX1 (Nat.le_of_ble_eq_true rfl) (Nat.le_of_ble_eq_true rfl) dX1_init_1 ?_
  refine r_aload_n F hl 0 rfl rfl dX1_init_4 ?_
  refine r_sipush F (by decide) dX1_init_5 ?_
  refine q_newi F hB X 1440 (by decide) (Nat.le_of_ble_eq_true rfl) (Nat.le_of_ble_eq_true rfl) dX1_init_8 (fun q H X => ?_)
  rw [NF_app hkl] at X
  refine q_putF F X k (NF_at hkl) (ci := 1) rfl gl_RX1 tyX1 tyX1_ok nmX1 0 (by decide) rfl gf_RX1_11 rfl hi rfl (tyX1_ok 0 (by decide)) rfl rfl (Nat.le_of_ble_eq_true rfl) dX1_init_10 (fun H locs X => ?_)
  rw [NF_put] at X
  exact q_vret F hB hA X hr hkk dX1_init_13 ⟨q, rfl⟩
theorem k_X3 (l : Launch) (G : GT) (ws : va_W) (k h0 hp : Nat) (hk : ws[k]? = some (h0, .inr (3, [.null, .null, .int (I 0), .int (I 0)]))) : Kt l yX3_init cX3_init 2 2 12 1331 G [.ref h0, .ref hp] ws (fun ws2 => ∃ (q : Nat) (r : Nat → Nat), ws2 = NF ws k h0 ((q, fR (gR G) 11 r) :: rows11 G r) (.inr (3, [.ref hp, .ref q, .int (I 0), .int (I 0)]))) := by
  have hkl := (List.getElem?_eq_some_iff.mp hk).1
  refine mtk (own := RX3) (by decide) rfl rfl (Nat.le_of_ble_eq_true rfl) ?_
  intro p e s m args below meth c ls F hB hA hi hr hkk X hl
  have hl : lv_has ls 2 [(0, .ref h0), (1, .ref hp)] := hl
  rw [← NF_0 hk] at X
  refine r_aload_n F hl 0 rfl rfl dX3_init_0 ?_
  refine q_obj F hl.1 go_RX3 (Nat.le_of_ble_eq_true rfl) (Nat.le_of_ble_eq_true rfl) dX3_init_1 ?_
  refine r_aload_n F hl 0 rfl rfl dX3_init_4 ?_
  refine r_bipush F (by decide) dX3_init_5 ?_
  refine r_bipush F (by decide) dX3_init_7 ?_
  refine q_mna F hB hA X gc_RX3_9 (Nat.le_of_ble_eq_true rfl) (Nat.le_of_ble_eq_true rfl) dX3_init_9 (fun q r H X => ?_)
  rw [NF_app hkl] at X
  refine q_putF F X k (NF_at hkl) (ci := 3) rfl gl_RX3 tyX3 tyX3_ok nmX3 1 (by decide) rfl gf_RX3_11 rfl hi rfl (tyX3_ok 1 (by decide)) rfl rfl (Nat.le_of_ble_eq_true rfl) dX3_init_13 (fun H locs X => ?_)
  rw [NF_put] at X
  refine r_aload_n F hl 0 rfl rfl dX3_init_16 ?_
  refine r_aload_n F hl 1 rfl rfl dX3_init_17 ?_
  refine q_putF F X k (NF_at hkl) (ci := 3) rfl gl_RX3 tyX3 tyX3_ok nmX3 0 (by decide) rfl gf_RX3_16 rfl hi rfl (tyX3_ok 0 (by decide)) rfl rfl (Nat.le_of_ble_eq_true rfl) dX3_init_18 (fun H locs X => ?_)
  rw [NF_put] at X
  exact q_vret F hB hA X hr hkk dX3_init_21 ⟨q, r, rfl⟩
theorem k_X0 (l : Launch) (G : GT) (ws : va_W) (k h0 hp ht : Nat) (hk : ws[k]? = some (h0, .inr (0, [.null, .null, .null, .null, .null, .null, .int (I 0), .int (I 0), .int (I 0), .int (I 0), .int (I 0), .int (I 0), .int (I 0)]))) : Kt l yX0_init cX0_init 3 2 4 294 G [.ref h0, .ref hp, .ref ht] ws (fun ws2 => ∃ q0 q1 q2 q3 : Nat, ws2 = NF ws k h0 [(q0, fI (gI G) 6 (fun _ => 0)), (q1, fI (gI G) 96 (fun _ => 0)), (q2, fI (gI G) 96 (fun _ => 0)), (q3, fI (gZ G) 96 (fun _ => 0))] (.inr (0, [.ref hp, .ref ht, .ref q0, .ref q1, .ref q2, .ref q3, .int (I 0), .int (I 0), .int (I 0), .int (I 0), .int (I 0), .int (I 0), .int (I 0)]))) := by
  have hkl := (List.getElem?_eq_some_iff.mp hk).1
  refine mtk (own := RX0) (by decide) rfl rfl (Nat.le_of_ble_eq_true rfl) ?_
  intro p e s m args below meth c ls F hB hA hi hr hkk X hl
  have hl : lv_has ls 3 [(0, .ref h0), (1, .ref hp), (2, .ref ht)] := hl
  rw [← NF_0 hk] at X
  refine r_aload_n F hl 0 rfl rfl dX0_init_0 ?_
  refine q_obj F hl.1 go_RX0 (Nat.le_of_ble_eq_true rfl) (Nat.le_of_ble_eq_true rfl) dX0_init_1 ?_
  refine r_aload_n F hl 0 rfl rfl dX0_init_4 ?_
  refine r_bipush F (by decide) dX0_init_5 ?_
  refine q_newi F hB X 6 (by decide) (Nat.le_of_ble_eq_true rfl) (Nat.le_of_ble_eq_true rfl) dX0_init_7 (fun q0 H X => ?_)
  rw [NF_app hkl] at X
  refine q_putF F X k (NF_at hkl) (ci := 0) rfl gl_RX0 tyX0 tyX0_ok nmX0 2 (by decide) rfl gf_RX0_9 rfl hi rfl (tyX0_ok 2 (by decide)) rfl rfl (Nat.le_of_ble_eq_true rfl) dX0_init_9 (fun H locs X => ?_)
  rw [NF_put] at X
  refine r_aload_n F hl 0 rfl rfl dX0_init_12 ?_
  refine r_bipush F (by decide) dX0_init_13 ?_
  refine q_newi F hB X 96 (by decide) (Nat.le_of_ble_eq_true rfl) (Nat.le_of_ble_eq_true rfl) dX0_init_15 (fun q1 H X => ?_)
  rw [NF_app hkl] at X
  refine q_putF F X k (NF_at hkl) (ci := 0) rfl gl_RX0 tyX0 tyX0_ok nmX0 3 (by decide) rfl gf_RX0_15 rfl hi rfl (tyX0_ok 3 (by decide)) rfl rfl (Nat.le_of_ble_eq_true rfl) dX0_init_17 (fun H locs X => ?_)
  rw [NF_put] at X
  refine r_aload_n F hl 0 rfl rfl dX0_init_20 ?_
  refine r_bipush F (by decide) dX0_init_21 ?_
  refine q_newi F hB X 96 (by decide) (Nat.le_of_ble_eq_true rfl) (Nat.le_of_ble_eq_true rfl) dX0_init_23 (fun q2 H X => ?_)
  rw [NF_app hkl] at X
  refine q_putF F X k (NF_at hkl) (ci := 0) rfl gl_RX0 tyX0 tyX0_ok nmX0 4 (by decide) rfl gf_RX0_18 rfl hi rfl (tyX0_ok 4 (by decide)) rfl rfl (Nat.le_of_ble_eq_true rfl) dX0_init_25 (fun H locs X => ?_)
  rw [NF_put] at X
  refine r_aload_n F hl 0 rfl rfl dX0_init_28 ?_
  refine r_bipush F (by decide) dX0_init_29 ?_
  refine q_newz F hB X 96 (by decide) (Nat.le_of_ble_eq_true rfl) (Nat.le_of_ble_eq_true rfl) dX0_init_31 (fun q3 H X => ?_)
  rw [NF_app hkl] at X
  refine q_putF F X k (NF_at hkl) (ci := 0) rfl gl_RX0 tyX0 tyX0_ok nmX0 5 (by decide) rfl gf_RX0_21 rfl hi rfl (tyX0_ok 5 (by decide)) rfl rfl (Nat.le_of_ble_eq_true rfl) dX0_init_33 (fun H locs X => ?_)
  rw [NF_put] at X
  refine r_aload_n F hl 0 rfl rfl dX0_init_36 ?_
  refine r_aload_n F hl 1 rfl rfl dX0_init_37 ?_
  refine q_putF F X k (NF_at hkl) (ci := 0) rfl gl_RX0 tyX0 tyX0_ok nmX0 0 (by decide) rfl gf_RX0_25 rfl hi rfl (tyX0_ok 0 (by decide)) rfl rfl (Nat.le_of_ble_eq_true rfl) dX0_init_38 (fun H locs X => ?_)
  rw [NF_put] at X
  refine r_aload_n F hl 0 rfl rfl dX0_init_41 ?_
  refine r_aload_n F hl 2 rfl rfl dX0_init_42 ?_
  refine q_putF F X k (NF_at hkl) (ci := 0) rfl gl_RX0 tyX0 tyX0_ok nmX0 1 (by decide) rfl gf_RX0_29 rfl hi rfl (tyX0_ok 1 (by decide)) rfl rfl (Nat.le_of_ble_eq_true rfl) dX0_init_43 (fun H locs X => ?_)
  rw [NF_put] at X
  exact q_vret F hB hA X hr hkk dX0_init_46 ⟨q0, q1, q2, q3, rfl⟩
def row0 : Int → Int := upI (upI (upI (upI (upI (upI (upI (upI (fun _ => 0) 63 400) 64 100) 65 1000) 66 10) 67 10) 68 100) 69 577) 70 1
theorem k_X5 (l : Launch) (G : GT) (ws : va_W) (k h0 : Nat) (hk : ws[k]? = some (h0, .inr (5, [.int (I 0), .int (I 0), .null, .null, .int (I 0), .null, .null, .null, .int (I 0), .int (I 0), .int (I 0)]))) : Kt l yX5_init cX5_init 1 2 5 1635 G [.ref h0] ws (fun ws2 => ∃ q0 q1 q2 q3 q4 : Nat, ws2 = NF ws k h0 [(q0, fI (gI G) 71 row0), (q1, fI (gI G) 1420 (fun _ => 0)), (q2, fI (gI G) 120 (fun _ => 0)), (q3, fI (gI G) 12 (fun _ => 0)), (q4, fI (gI G) 12 (fun _ => 0))] (.inr (5, [.int (I 0), .int (I 24), .ref q0, .ref q1, .int (I 0), .ref q2, .ref q3, .ref q4, .int (I 0), .int (I 0), .int (I 0)]))) := by
  have hkl := (List.getElem?_eq_some_iff.mp hk).1
  refine mtk (own := RX5) (by decide) rfl rfl (Nat.le_of_ble_eq_true rfl) ?_
  intro p e s m args below meth c ls F hB hA hi hr hkk X hl
  have hl : lv_has ls 1 [(0, .ref h0)] := hl
  rw [← NF_0 hk] at X
  refine r_aload_n F hl 0 rfl rfl dX5_init_0 ?_
  refine q_obj F hl.1 go_RX5 (Nat.le_of_ble_eq_true rfl) (Nat.le_of_ble_eq_true rfl) dX5_init_1 ?_
  refine r_aload_n F hl 0 rfl rfl dX5_init_4 ?_
  refine r_bipush F (by decide) dX5_init_5 ?_
  refine q_put F X k (NF_at hkl) (ci := 5) rfl gl_RX5 tyX5 tyX5_ok nmX5 1 (by decide) rfl gf_RX5_13 rfl (tyX5_ok 1 (by decide)) rfl rfl (Nat.le_of_ble_eq_true rfl) dX5_init_7 (fun H locs X => ?_)
  rw [NF_put] at X
  refine r_aload_n F hl 0 rfl rfl dX5_init_10 ?_
  refine r_bipush F (by decide) dX5_init_11 ?_
  refine q_newi F hB X 71 (by decide) (Nat.le_of_ble_eq_true rfl) (Nat.le_of_ble_eq_true rfl) dX5_init_13 (fun q0 H X => ?_)
  rw [NF_app hkl] at X
  refine q_putF F X k (NF_at hkl) (ci := 5) rfl gl_RX5 tyX5 tyX5_ok nmX5 2 (by decide) rfl gf_RX5_16 rfl hi rfl (tyX5_ok 2 (by decide)) rfl rfl (Nat.le_of_ble_eq_true rfl) dX5_init_15 (fun H locs X => ?_)
  rw [NF_put] at X
  refine r_aload_n F hl 0 rfl rfl dX5_init_18 ?_
  refine r_sipush F (by decide) dX5_init_19 ?_
  refine q_newi F hB X 1420 (by decide) (Nat.le_of_ble_eq_true rfl) (Nat.le_of_ble_eq_true rfl) dX5_init_22 (fun q1 H X => ?_)
  rw [NF_app hkl] at X
  refine q_putF F X k (NF_at hkl) (ci := 5) rfl gl_RX5 tyX5 tyX5_ok nmX5 3 (by decide) rfl gf_RX5_20 rfl hi rfl (tyX5_ok 3 (by decide)) rfl rfl (Nat.le_of_ble_eq_true rfl) dX5_init_24 (fun H locs X => ?_)
  rw [NF_put] at X
  refine r_aload_n F hl 0 rfl rfl dX5_init_27 ?_
  refine r_bipush F (by decide) dX5_init_28 ?_
  refine q_newi F hB X 120 (by decide) (Nat.le_of_ble_eq_true rfl) (Nat.le_of_ble_eq_true rfl) dX5_init_30 (fun q2 H X => ?_)
  rw [NF_app hkl] at X
  refine q_putF F X k (NF_at hkl) (ci := 5) rfl gl_RX5 tyX5 tyX5_ok nmX5 5 (by decide) rfl gf_RX5_23 rfl hi rfl (tyX5_ok 5 (by decide)) rfl rfl (Nat.le_of_ble_eq_true rfl) dX5_init_32 (fun H locs X => ?_)
  rw [NF_put] at X
  refine r_aload_n F hl 0 rfl rfl dX5_init_35 ?_
  refine r_bipush F (by decide) dX5_init_36 ?_
  refine q_newi F hB X 12 (by decide) (Nat.le_of_ble_eq_true rfl) (Nat.le_of_ble_eq_true rfl) dX5_init_38 (fun q3 H X => ?_)
  rw [NF_app hkl] at X
  refine q_putF F X k (NF_at hkl) (ci := 5) rfl gl_RX5 tyX5 tyX5_ok nmX5 6 (by decide) rfl gf_RX5_26 rfl hi rfl (tyX5_ok 6 (by decide)) rfl rfl (Nat.le_of_ble_eq_true rfl) dX5_init_40 (fun H locs X => ?_)
  rw [NF_put] at X
  refine r_aload_n F hl 0 rfl rfl dX5_init_43 ?_
  refine r_bipush F (by decide) dX5_init_44 ?_
  refine q_newi F hB X 12 (by decide) (Nat.le_of_ble_eq_true rfl) (Nat.le_of_ble_eq_true rfl) dX5_init_46 (fun q4 H X => ?_)
  rw [NF_app hkl] at X
  refine q_putF F X k (NF_at hkl) (ci := 5) rfl gl_RX5 tyX5 tyX5_ok nmX5 7 (by decide) rfl gf_RX5_29 rfl hi rfl (tyX5_ok 7 (by decide)) rfl rfl (Nat.le_of_ble_eq_true rfl) dX5_init_48 (fun H locs X => ?_)
  rw [NF_put] at X
  refine r_aload_n F hl 0 rfl rfl dX5_init_51 ?_
  refine q_get F X k (NF_at hkl) (ci := 5) rfl gl_RX5 2 (by decide) rfl gf_RX5_16 rfl dX5_init_52 ?_
  refine r_bipush F (by decide) dX5_init_55 ?_
  refine r_sipush F (by decide) dX5_init_57 ?_
  refine q_iast F X (ws.length + 0) (NF_el hkl (j := 0) rfl) (by decide) (by decide) dX5_init_60 (fun H locs X => ?_)
  rw [NF_set hkl] at X
  refine r_aload_n F hl 0 rfl rfl dX5_init_61 ?_
  refine q_get F X k (NF_at hkl) (ci := 5) rfl gl_RX5 2 (by decide) rfl gf_RX5_16 rfl dX5_init_62 ?_
  refine r_bipush F (by decide) dX5_init_65 ?_
  refine r_bipush F (by decide) dX5_init_67 ?_
  refine q_iast F X (ws.length + 0) (NF_el hkl (j := 0) rfl) (by decide) (by decide) dX5_init_69 (fun H locs X => ?_)
  rw [NF_set hkl] at X
  refine r_aload_n F hl 0 rfl rfl dX5_init_70 ?_
  refine q_get F X k (NF_at hkl) (ci := 5) rfl gl_RX5 2 (by decide) rfl gf_RX5_16 rfl dX5_init_71 ?_
  refine r_bipush F (by decide) dX5_init_74 ?_
  refine r_sipush F (by decide) dX5_init_76 ?_
  refine q_iast F X (ws.length + 0) (NF_el hkl (j := 0) rfl) (by decide) (by decide) dX5_init_79 (fun H locs X => ?_)
  rw [NF_set hkl] at X
  refine r_aload_n F hl 0 rfl rfl dX5_init_80 ?_
  refine q_get F X k (NF_at hkl) (ci := 5) rfl gl_RX5 2 (by decide) rfl gf_RX5_16 rfl dX5_init_81 ?_
  refine r_bipush F (by decide) dX5_init_84 ?_
  refine r_bipush F (by decide) dX5_init_86 ?_
  refine q_iast F X (ws.length + 0) (NF_el hkl (j := 0) rfl) (by decide) (by decide) dX5_init_88 (fun H locs X => ?_)
  rw [NF_set hkl] at X
  refine r_aload_n F hl 0 rfl rfl dX5_init_89 ?_
  refine q_get F X k (NF_at hkl) (ci := 5) rfl gl_RX5 2 (by decide) rfl gf_RX5_16 rfl dX5_init_90 ?_
  refine r_bipush F (by decide) dX5_init_93 ?_
  refine r_bipush F (by decide) dX5_init_95 ?_
  refine q_iast F X (ws.length + 0) (NF_el hkl (j := 0) rfl) (by decide) (by decide) dX5_init_97 (fun H locs X => ?_)
  rw [NF_set hkl] at X
  refine r_aload_n F hl 0 rfl rfl dX5_init_98 ?_
  refine q_get F X k (NF_at hkl) (ci := 5) rfl gl_RX5 2 (by decide) rfl gf_RX5_16 rfl dX5_init_99 ?_
  refine r_bipush F (by decide) dX5_init_102 ?_
  refine r_bipush F (by decide) dX5_init_104 ?_
  refine q_iast F X (ws.length + 0) (NF_el hkl (j := 0) rfl) (by decide) (by decide) dX5_init_106 (fun H locs X => ?_)
  rw [NF_set hkl] at X
  refine r_aload_n F hl 0 rfl rfl dX5_init_107 ?_
  refine q_get F X k (NF_at hkl) (ci := 5) rfl gl_RX5 2 (by decide) rfl gf_RX5_16 rfl dX5_init_108 ?_
  refine r_bipush F (by decide) dX5_init_111 ?_
  refine r_sipush F (by decide) dX5_init_113 ?_
  refine q_iast F X (ws.length + 0) (NF_el hkl (j := 0) rfl) (by decide) (by decide) dX5_init_116 (fun H locs X => ?_)
  rw [NF_set hkl] at X
  refine r_aload_n F hl 0 rfl rfl dX5_init_117 ?_
  refine q_get F X k (NF_at hkl) (ci := 5) rfl gl_RX5 2 (by decide) rfl gf_RX5_16 rfl dX5_init_118 ?_
  refine r_bipush F (by decide) dX5_init_121 ?_
  refine r_iconst F dX5_init_123 ?_
  refine q_iast F X (ws.length + 0) (NF_el hkl (j := 0) rfl) (by decide) (by decide) dX5_init_124 (fun H locs X => ?_)
  rw [NF_set hkl] at X
  exact q_vret F hB hA X hr hkk dX5_init_125 ⟨q0, q1, q2, q3, q4, rfl⟩
theorem k_X4 (l : Launch) (G : GT) (ws : va_W) (k h0 : Nat) (hk : ws[k]? = some (h0, .inr (4, [.null, .null, .null, .null]))) : Kt l yX4_init cX4_init 2 4 35 4493 G [.ref h0] ws (fun ws2 => ∃ (a1 a2 a3 a4 a5 a6 a7 a8 a9 b0 b1 b2 b3 : Nat) (r1 r2 : Nat → Nat), ws2 = NF ws k h0 [(a1, .inr (2, [.ref a2])), (a2, fI (gI G) 72 pl0), (a3, .inr (1, [.ref a4, .int (I 0), .int (I 0)])), (a4, fI (gI G) 1440 (fun _ => 0)), (a5, .inr (3, [.ref a1, .ref a6, .int (I 0), .int (I 0)])), (a6, fR (gR G) 11 r1), (r1 0, fJ (gJ G) 120 (fun _ => 0)), (r1 1, fJ (gJ G) 120 (fun _ => 0)), (r1 2, fJ (gJ G) 120 (fun _ => 0)), (r1 3, fJ (gJ G) 120 (fun _ => 0)), (r1 4, fJ (gJ G) 120 (fun _ => 0)), (r1 5, fJ (gJ G) 120 (fun _ => 0)), (r1 6, fJ (gJ G) 120 (fun _ => 0)), (r1 7, fJ (gJ G) 120 (fun _ => 0)), (r1 8, fJ (gJ G) 120 (fun _ => 0)), (r1 9, fJ (gJ G) 120 (fun _ => 0)), (r1 10, fJ (gJ G) 120 (fun _ => 0)), (a7, .inr (0, [.ref a1, .ref a8, .ref b0, .ref b1, .ref b2, .ref b3, .int (I 0), .int (I 0), .int (I 0), .int (I 0), .int (I 0), .int (I 0), .int (I 0)])), (a8, .inr (3, [.ref a1, .ref a9, .int (I 0), .int (I 0)])), (a9, fR (gR G) 11 r2), (r2 0, fJ (gJ G) 120 (fun _ => 0)), (r2 1, fJ (gJ G) 120 (fun _ => 0)), (r2 2, fJ (gJ G) 120 (fun _ => 0)), (r2 3, fJ (gJ G) 120 (fun _ => 0)), (r2 4, fJ (gJ G) 120 (fun _ => 0)), (r2 5, fJ (gJ G) 120 (fun _ => 0)), (r2 6, fJ (gJ G) 120 (fun _ => 0)), (r2 7, fJ (gJ G) 120 (fun _ => 0)), (r2 8, fJ (gJ G) 120 (fun _ => 0)), (r2 9, fJ (gJ G) 120 (fun _ => 0)), (r2 10, fJ (gJ G) 120 (fun _ => 0)), (b0, fI (gI G) 6 (fun _ => 0)), (b1, fI (gI G) 96 (fun _ => 0)), (b2, fI (gI G) 96 (fun _ => 0)), (b3, fI (gZ G) 96 (fun _ => 0))] (.inr (4, [.ref a1, .ref a3, .ref a5, .ref a7]))) := by
  have hkl := (List.getElem?_eq_some_iff.mp hk).1
  refine mtk (own := RX4) (by decide) rfl rfl (Nat.le_of_ble_eq_true rfl) ?_
  intro p e s m args below meth c ls F hB hA hi hr hkk X hl
  have hl : lv_has ls 2 [(0, .ref h0)] := hl
  rw [← NF_0 hk] at X
  refine r_aload_n F hl 0 rfl rfl dX4_init_0 ?_
  refine q_obj F hl.1 go_RX4 (Nat.le_of_ble_eq_true rfl) (Nat.le_of_ble_eq_true rfl) dX4_init_1 ?_
  refine q_new F hB X (ci := 2) rfl gl_RX2 tyX2 tyX2_ok gc_RX4_9 gn_RX2 gz_RX2 [.null] (fun j hj => by rcases (show j = 0 by omega) with rfl <;> decide) (Nat.le_of_ble_eq_true rfl) (Nat.le_of_ble_eq_true rfl) dX4_init_4 (fun a1 H X => ?_)
  rw [NF_app hkl] at X
  refine r_dup F rfl dX4_init_7 ?_
  refine q_call F hB hA X (As := []) (rest := [.ref a1]) (k_X2 l G _ (ws.length + 0) a1 (NF_el hkl (j := 0) rfl)) gv_RX4_11 cy_X2_init rfl nd_X2_init rfl rfl (Nat.le_of_ble_eq_true rfl) ⟨(Nat.le_of_ble_eq_true rfl), (Nat.le_of_ble_eq_true rfl)⟩ ⟨(Nat.le_of_ble_eq_true rfl), (Nat.le_of_ble_eq_true rfl)⟩ hl.1 dX4_init_8 (fun ws2 H locs hw X => ?_)
  obtain ⟨a2, rfl⟩ := hw
  rw [NF_call hkl] at X
  refine r_astore_n F hl [(1, .ref a1), (0, .ref h0)] rfl (by decide) rfl dX4_init_11 (fun ls hl => ?_)
  refine r_aload_n F hl 1 rfl rfl dX4_init_12 ?_
  refine r_aload_n F hl 0 rfl rfl dX4_init_13 ?_
  refine q_putF F X k (NF_at hkl) (ci := 4) rfl gl_RX4 tyX4 tyX4_ok nmX4 0 (by decide) rfl gf_RX4_12 rfl hi rfl (tyX4_ok 0 (by decide)) rfl rfl (Nat.le_of_ble_eq_true rfl) dX4_init_14 (fun H locs X => ?_)
  rw [NF_put] at X
  refine r_aload_n F hl 1 rfl rfl dX4_init_17 ?_
  refine q_new F hB X (ci := 1) rfl gl_RX1 tyX1 tyX1_ok gc_RX4_16 gn_RX1 gz_RX1 [.null, .int (I 0), .int (I 0)] (fun j hj => by rcases (show j = 0 ∨ j = 1 ∨ j = 2 by omega) with rfl | rfl | rfl <;> decide) (Nat.le_of_ble_eq_true rfl) (Nat.le_of_ble_eq_true rfl) dX4_init_18 (fun a3 H X => ?_)
  rw [NF_app hkl] at X
  refine r_dup F rfl dX4_init_21 ?_
  refine q_callN F hB hA X (As := []) (rest := [.ref a3, .ref h0]) (k_X1 l G _ (ws.length + 2) a3 (NF_el hkl (j := 2) rfl)) (host := "CamMaker") hA.2 cy_X1_init rfl nd_X1_init rfl rfl (Nat.le_of_ble_eq_true rfl) ⟨(Nat.le_of_ble_eq_true rfl), (Nat.le_of_ble_eq_true rfl)⟩ ⟨(Nat.le_of_ble_eq_true rfl), (Nat.le_of_ble_eq_true rfl)⟩ hl.1 dX4_init_22 (fun ws2 H locs hw X => ?_)
  obtain ⟨a4, rfl⟩ := hw
  rw [NF_call hkl] at X
  refine q_putF F X k (NF_at hkl) (ci := 4) rfl gl_RX4 tyX4 tyX4_ok nmX4 1 (by decide) rfl gf_RX4_19 rfl hi rfl (tyX4_ok 1 (by decide)) rfl rfl (Nat.le_of_ble_eq_true rfl) dX4_init_25 (fun H locs X => ?_)
  rw [NF_put] at X
  refine r_aload_n F hl 1 rfl rfl dX4_init_28 ?_
  refine q_new F hB X (ci := 3) rfl gl_RX3 tyX3 tyX3_ok gc_RX4_23 gn_RX3 gz_RX3 [.null, .null, .int (I 0), .int (I 0)] (fun j hj => by rcases (show j = 0 ∨ j = 1 ∨ j = 2 ∨ j = 3 by omega) with rfl | rfl | rfl | rfl <;> decide) (Nat.le_of_ble_eq_true rfl) (Nat.le_of_ble_eq_true rfl) dX4_init_29 (fun a5 H X => ?_)
  rw [NF_app hkl] at X
  refine r_dup F rfl dX4_init_32 ?_
  refine r_aload_n F hl 0 rfl rfl dX4_init_33 ?_
  refine q_call F hB hA X (As := [.ref a1]) (rest := [.ref a5, .ref h0]) (k_X3 l G _ (ws.length + 4) a5 a1 (NF_el hkl (j := 4) rfl)) gv_RX4_25 cy_X3_init rfl nd_X3_init rfl rfl (Nat.le_of_ble_eq_true rfl) ⟨(Nat.le_of_ble_eq_true rfl), (Nat.le_of_ble_eq_true rfl)⟩ ⟨(Nat.le_of_ble_eq_true rfl), (Nat.le_of_ble_eq_true rfl)⟩ hl.1 dX4_init_34 (fun ws2 H locs hw X => ?_)
  obtain ⟨a6, r1, rfl⟩ := hw
  rw [NF_call hkl] at X
  refine q_putF F X k (NF_at hkl) (ci := 4) rfl gl_RX4 tyX4 tyX4_ok nmX4 2 (by decide) rfl gf_RX4_28 rfl hi rfl (tyX4_ok 2 (by decide)) rfl rfl (Nat.le_of_ble_eq_true rfl) dX4_init_37 (fun H locs X => ?_)
  rw [NF_put] at X
  refine r_aload_n F hl 1 rfl rfl dX4_init_40 ?_
  refine q_new F hB X (ci := 0) rfl gl_RX0 tyX0 tyX0_ok gc_RX4_32 gn_RX0 gz_RX0 [.null, .null, .null, .null, .null, .null, .int (I 0), .int (I 0), .int (I 0), .int (I 0), .int (I 0), .int (I 0), .int (I 0)] (fun j hj => by rcases (show j = 0 ∨ j = 1 ∨ j = 2 ∨ j = 3 ∨ j = 4 ∨ j = 5 ∨ j = 6 ∨ j = 7 ∨ j = 8 ∨ j = 9 ∨ j = 10 ∨ j = 11 ∨ j = 12 by omega) with rfl | rfl | rfl | rfl | rfl | rfl | rfl | rfl | rfl | rfl | rfl | rfl | rfl <;> decide) (Nat.le_of_ble_eq_true rfl) (Nat.le_of_ble_eq_true rfl) dX4_init_41 (fun a7 H X => ?_)
  rw [NF_app hkl] at X
  refine r_dup F rfl dX4_init_44 ?_
  refine r_aload_n F hl 0 rfl rfl dX4_init_45 ?_
  refine q_new F hB X (ci := 3) rfl gl_RX3 tyX3 tyX3_ok gc_RX4_23 gn_RX3 gz_RX3 [.null, .null, .int (I 0), .int (I 0)] (fun j hj => by rcases (show j = 0 ∨ j = 1 ∨ j = 2 ∨ j = 3 by omega) with rfl | rfl | rfl | rfl <;> decide) (Nat.le_of_ble_eq_true rfl) (Nat.le_of_ble_eq_true rfl) dX4_init_46 (fun a8 H X => ?_)
  rw [NF_app hkl] at X
  refine r_dup F rfl dX4_init_49 ?_
  refine r_aload_n F hl 0 rfl rfl dX4_init_50 ?_
  refine q_call F hB hA X (As := [.ref a1]) (rest := [.ref a8, .ref a1, .ref a7, .ref a7, .ref h0]) (k_X3 l G _ (ws.length + 18) a8 a1 (NF_el hkl (j := 18) rfl)) gv_RX4_25 cy_X3_init rfl nd_X3_init rfl rfl (Nat.le_of_ble_eq_true rfl) ⟨(Nat.le_of_ble_eq_true rfl), (Nat.le_of_ble_eq_true rfl)⟩ ⟨(Nat.le_of_ble_eq_true rfl), (Nat.le_of_ble_eq_true rfl)⟩ hl.1 dX4_init_51 (fun ws2 H locs hw X => ?_)
  obtain ⟨a9, r2, rfl⟩ := hw
  rw [NF_call hkl] at X
  refine q_call F hB hA X (As := [.ref a1, .ref a8]) (rest := [.ref a7, .ref h0]) (k_X0 l G _ (ws.length + 17) a7 a1 a8 (NF_el hkl (j := 17) rfl)) gv_RX4_34 cy_X0_init rfl nd_X0_init rfl rfl (Nat.le_of_ble_eq_true rfl) ⟨(Nat.le_of_ble_eq_true rfl), (Nat.le_of_ble_eq_true rfl)⟩ ⟨(Nat.le_of_ble_eq_true rfl), (Nat.le_of_ble_eq_true rfl)⟩ hl.1 dX4_init_54 (fun ws2 H locs hw X => ?_)
  obtain ⟨b0, b1, b2, b3, rfl⟩ := hw
  rw [NF_call hkl] at X
  refine q_putF F X k (NF_at hkl) (ci := 4) rfl gl_RX4 tyX4 tyX4_ok nmX4 3 (by decide) rfl gf_RX4_37 rfl hi rfl (tyX4_ok 3 (by decide)) rfl rfl (Nat.le_of_ble_eq_true rfl) dX4_init_57 (fun H locs X => ?_)
  rw [NF_put] at X
  exact q_vret F hB hA X hr hkk dX4_init_60 ⟨a1, a2, a3, a4, a5, a6, a7, a8, a9, b0, b1, b2, b3, r1, r2, rfl⟩
