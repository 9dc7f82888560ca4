theorem c_J9_floorDiv_f86c9 (l : Launch) (G : GT) (σ : St) (a : Int) (b : Int) (ha : -9223372036854775808 < a ∧ a < 9223372036854775808) (hb : 0 < b ∧ b < 9223372036854775808) : Ct l yJ9_floorDiv_f86c9 cJ9_floorDiv_f86c9 6 (some .long) 1 G [.long (J a), .long (J b)] σ (QJ G (fun res9 τ => res9 = (a / b) ∧ τ = σ)) := by
  refine mt (own := RJ9) pf_J9_floorDiv_f86c9 rfl (Nat.le_of_ble_eq_true rfl) ?_
  intro p e s m args below meth c ls F hr hk X hl
  have hl : lv_has ls 6 [(0, .long (J a)), (2, .long (J b))] := hl
  have ht := td_abs (a := a) hb.1
  have htd := @td_neg a b
  have hnn := @td_nn a b
  have hmm : -9223372036854775808 ≤ (a.tdiv b) * b ∧ (a.tdiv b) * b < 9223372036854775808 := by have q1 := Int.tmod_add_mul_tdiv a b; have q2 := Int.tmod_lt_of_pos a hb.1; have q3 := Int.lt_tmod_of_pos a hb.1; rw [Int.mul_comm] at q1; have q4 := Int.tmod_nonneg (a := a) b; have q5 := Int.tmod_nonneg (a := -a) b; rw [Int.neg_tmod] at q5; omega
  refine r_lload_n F hl 0 rfl rfl dJ9_floorDiv_f86c9_0 ?_
  refine r_lload_n F hl 1 rfl rfl dJ9_floorDiv_f86c9_1 ?_
  refine r_ldiv F (by omega) (by omega) dJ9_floorDiv_f86c9_2 ?_
  refine r_lstore F hl [(4, .long (J (a.tdiv b))), (0, .long (J a)), (2, .long (J b))] (by decide) rfl dJ9_floorDiv_f86c9_3 (fun ls hl => ?_)
  refine r_lload_n F hl 1 rfl rfl dJ9_floorDiv_f86c9_5 ?_
  refine r_lload_n F hl 2 rfl rfl dJ9_floorDiv_f86c9_6 ?_
  refine r_lxor F (by omega) (by omega) dJ9_floorDiv_f86c9_7 (fun z1 hz1 qz1 => ?_)
  refine r_lconst F 0 (by decide +kernel) dJ9_floorDiv_f86c9_8 ?_
  refine r_lcmp_ge F 27 (by decide) (by omega) (by omega) dJ9_floorDiv_f86c9_9 dJ9_floorDiv_f86c9_10 (fun c1 => ?_) (fun c1 => ?_)
  · skip
    refine r_lload F hl 0 rfl dJ9_floorDiv_f86c9_27 ?_
    exact r_lret F X hr hk dJ9_floorDiv_f86c9_29 (⟨(Int.lt_or_le a 0).elim (fun q => (htd q (by omega)).1 (by omega)) hnn, rfl⟩)
  · skip
    refine r_lload F hl 0 rfl dJ9_floorDiv_f86c9_13 ?_
    refine r_lload_n F hl 2 rfl rfl dJ9_floorDiv_f86c9_15 ?_
    refine r_lmul F dJ9_floorDiv_f86c9_16 ?_
    refine r_lload_n F hl 1 rfl rfl dJ9_floorDiv_f86c9_17 ?_
    refine r_lcmp_eq F 27 (by decide) (by omega) (by omega) dJ9_floorDiv_f86c9_18 dJ9_floorDiv_f86c9_19 (fun c2 => ?_) (fun c2 => ?_)
    · skip
      refine r_lload F hl 0 rfl dJ9_floorDiv_f86c9_27 ?_
      exact r_lret F X hr hk dJ9_floorDiv_f86c9_29 (⟨(Int.lt_or_le a 0).elim (fun q => (htd q (by omega)).1 (by omega)) hnn, rfl⟩)
    · skip
      refine r_lload F hl 0 rfl dJ9_floorDiv_f86c9_22 ?_
      refine r_lconst F 1 (by decide +kernel) dJ9_floorDiv_f86c9_24 ?_
      refine r_lsub F dJ9_floorDiv_f86c9_25 ?_
      exact r_lret F X hr hk dJ9_floorDiv_f86c9_26 (⟨(htd (by omega) (by omega)).2 (by omega), rfl⟩)
theorem c_J9_abs (l : Launch) (G : GT) (σ : St) (a : Int) (ha : -9223372036854775808 ≤ a ∧ a < 9223372036854775808) : Ct l yJ9_abs_067f4 cJ9_abs_067f4 2 (some .long) 1 G [.long (J a)] σ (QJ G (fun res9 τ => res9 = (ab a) ∧ τ = σ)) := by
  refine mt (own := RJ9) pf_J9_abs_067f4 rfl (Nat.le_of_ble_eq_true rfl) ?_
  intro p e s m args below meth c ls F hr hk X hl
  have hl : lv_has ls 2 [(0, .long (J a))] := hl
  refine r_lload_n F hl 0 rfl rfl dJ9_abs_067f4_0 ?_
  refine r_lconst F 0 (by decide +kernel) dJ9_abs_067f4_1 ?_
  refine r_lcmp_ge F 11 (by decide) (by omega) (by omega) dJ9_abs_067f4_2 dJ9_abs_067f4_3 (fun c1 => ?_) (fun c1 => ?_)
  · skip
    refine r_lload_n F hl 0 rfl rfl dJ9_abs_067f4_11 ?_
    exact r_lret F X hr hk dJ9_abs_067f4_12 (⟨by unfold ab; first | rw [if_pos (by omega)] | rw [if_neg (by omega)], rfl⟩)
  · skip
    refine r_lload_n F hl 0 rfl rfl dJ9_abs_067f4_6 ?_
    refine r_lneg F dJ9_abs_067f4_7 ?_
    refine r_goto F 12 (by decide) dJ9_abs_067f4_8 ?_
    exact r_lret F X hr hk dJ9_abs_067f4_12 (⟨by unfold ab; first | rw [if_pos (by omega)] | rw [if_neg (by omega)], rfl⟩)
theorem c_J9_maxI (l : Launch) (G : GT) (σ : St) (a : Int) (b : Int) (ha : -2147483648 ≤ a ∧ a < 2147483648) (hb : -2147483648 ≤ b ∧ b < 2147483648) : Ct l yJ9_max_7cf53 cJ9_max_7cf53 2 (some .int) 1 G [.int (I a), .int (I b)] σ (QI G (fun res9 τ => res9 = (max a b) ∧ τ = σ)) := by
  refine mt (own := RJ9) pf_J9_max_7cf53 rfl (Nat.le_of_ble_eq_true rfl) ?_
  intro p e s m args below meth c ls F hr hk X hl
  have hl : lv_has ls 2 [(0, .int (I a)), (1, .int (I b))] := hl
  refine r_iload_n F hl 0 rfl rfl dJ9_max_7cf53_0 ?_
  refine r_iload_n F hl 1 rfl rfl dJ9_max_7cf53_1 ?_
  refine r_icmp_lt F 9 (by decide) (by omega) (by omega) dJ9_max_7cf53_2 (fun c1 => ?_) (fun c1 => ?_)
  · skip
    refine r_iload_n F hl 1 rfl rfl dJ9_max_7cf53_9 ?_
    exact r_iret F X hr hk dJ9_max_7cf53_10 (⟨by omega, rfl⟩)
  · skip
    refine r_iload_n F hl 0 rfl rfl dJ9_max_7cf53_5 ?_
    refine r_goto F 10 (by decide) dJ9_max_7cf53_6 ?_
    exact r_iret F X hr hk dJ9_max_7cf53_10 (⟨by omega, rfl⟩)
theorem c_J9_minI (l : Launch) (G : GT) (σ : St) (a : Int) (b : Int) (ha : -2147483648 ≤ a ∧ a < 2147483648) (hb : -2147483648 ≤ b ∧ b < 2147483648) : Ct l yJ9_min_7cf53 cJ9_min_7cf53 2 (some .int) 1 G [.int (I a), .int (I b)] σ (QI G (fun res9 τ => res9 = (min a b) ∧ τ = σ)) := by
  refine mt (own := RJ9) pf_J9_min_7cf53 rfl (Nat.le_of_ble_eq_true rfl) ?_
  intro p e s m args below meth c ls F hr hk X hl
  have hl : lv_has ls 2 [(0, .int (I a)), (1, .int (I b))] := hl
  refine r_iload_n F hl 0 rfl rfl dJ9_min_7cf53_0 ?_
  refine r_iload_n F hl 1 rfl rfl dJ9_min_7cf53_1 ?_
  refine r_icmp_gt F 9 (by decide) (by omega) (by omega) dJ9_min_7cf53_2 (fun c1 => ?_) (fun c1 => ?_)
  · skip
    refine r_iload_n F hl 1 rfl rfl dJ9_min_7cf53_9 ?_
    exact r_iret F X hr hk dJ9_min_7cf53_10 (⟨by omega, rfl⟩)
  · skip
    refine r_iload_n F hl 0 rfl rfl dJ9_min_7cf53_5 ?_
    refine r_goto F 10 (by decide) dJ9_min_7cf53_6 ?_
    exact r_iret F X hr hk dJ9_min_7cf53_10 (⟨by omega, rfl⟩)
theorem c_J9_maxL (l : Launch) (G : GT) (σ : St) (a : Int) (b : Int) (ha : -9223372036854775808 ≤ a ∧ a < 9223372036854775808) (hb : -9223372036854775808 ≤ b ∧ b < 9223372036854775808) : Ct l yJ9_max_f86c9 cJ9_max_f86c9 4 (some .long) 1 G [.long (J a), .long (J b)] σ (QJ G (fun res9 τ => res9 = (max a b) ∧ τ = σ)) := by
  refine mt (own := RJ9) pf_J9_max_f86c9 rfl (Nat.le_of_ble_eq_true rfl) ?_
  intro p e s m args below meth c ls F hr hk X hl
  have hl : lv_has ls 4 [(0, .long (J a)), (2, .long (J b))] := hl
  refine r_lload_n F hl 0 rfl rfl dJ9_max_f86c9_0 ?_
  refine r_lload_n F hl 1 rfl rfl dJ9_max_f86c9_1 ?_
  refine r_lcmp_lt F 10 (by decide) (by omega) (by omega) dJ9_max_f86c9_2 dJ9_max_f86c9_3 (fun c1 => ?_) (fun c1 => ?_)
  · skip
    refine r_lload_n F hl 1 rfl rfl dJ9_max_f86c9_10 ?_
    exact r_lret F X hr hk dJ9_max_f86c9_11 (⟨by omega, rfl⟩)
  · skip
    refine r_lload_n F hl 0 rfl rfl dJ9_max_f86c9_6 ?_
    refine r_goto F 11 (by decide) dJ9_max_f86c9_7 ?_
    exact r_lret F X hr hk dJ9_max_f86c9_11 (⟨by omega, rfl⟩)
theorem c_J9_minL (l : Launch) (G : GT) (σ : St) (a : Int) (b : Int) (ha : -9223372036854775808 ≤ a ∧ a < 9223372036854775808) (hb : -9223372036854775808 ≤ b ∧ b < 9223372036854775808) : Ct l yJ9_min_f86c9 cJ9_min_f86c9 4 (some .long) 1 G [.long (J a), .long (J b)] σ (QJ G (fun res9 τ => res9 = (min a b) ∧ τ = σ)) := by
  refine mt (own := RJ9) pf_J9_min_f86c9 rfl (Nat.le_of_ble_eq_true rfl) ?_
  intro p e s m args below meth c ls F hr hk X hl
  have hl : lv_has ls 4 [(0, .long (J a)), (2, .long (J b))] := hl
  refine r_lload_n F hl 0 rfl rfl dJ9_min_f86c9_0 ?_
  refine r_lload_n F hl 1 rfl rfl dJ9_min_f86c9_1 ?_
  refine r_lcmp_gt F 10 (by decide) (by omega) (by omega) dJ9_min_f86c9_2 dJ9_min_f86c9_3 (fun c1 => ?_) (fun c1 => ?_)
  · skip
    refine r_lload_n F hl 1 rfl rfl dJ9_min_f86c9_10 ?_
    exact r_lret F X hr hk dJ9_min_f86c9_11 (⟨by omega, rfl⟩)
  · skip
    refine r_lload_n F hl 0 rfl rfl dJ9_min_f86c9_6 ?_
    refine r_goto F 11 (by decide) dJ9_min_f86c9_7 ?_
    exact r_lret F X hr hk dJ9_min_f86c9_11 (⟨by omega, rfl⟩)
theorem c_X3_at (l : Launch) (G : GT) (σ : St) (b : Nat) (k : Nat) (i : Int) (hb : b = 5 ∨ b = 18) (hk11 : k < 11) (hst : 0 < σ b 2 ∧ σ b 2 ≤ 120) (hi : -(σ b 2) ≤ i ∧ i < 2 * σ b 2) : Ct l yX3_at cX3_at 4 (some .long) 1 G [.ref (gY G b), .int (I (k : Int)), .int (I i)] σ (QJ G (fun res9 τ => res9 = (σ (b + 2 + k) (i % σ b 2)) ∧ τ = σ)) := by
  refine mt (own := RX3) (plainFor_of_name rfl) rfl (Nat.le_of_ble_eq_true rfl) ?_
  intro p e s m args below meth c ls F hr hk X hl
  have hl : lv_has ls 4 [(0, .ref (gY G b)), (1, .int (I (k : Int))), (2, .int (I i))] := hl
  refine r_iload_n F hl 2 rfl rfl dX3_at_0 ?_
  refine r_if_ge F 13 (by decide) (by omega) dX3_at_1 (fun c1 => ?_) (fun c1 => ?_)
  · skip
    refine r_iload_n F hl 2 rfl rfl dX3_at_13 ?_
    refine r_aload_n F hl 0 rfl rfl dX3_at_14 ?_
    refine r_get F X b (hb43 hb) (eK_P hb G _) rfl gl_RX3 2 (by decide) rfl gf_RX3_27 rfl dX3_at_15 ?_
    refine r_icmp_lt F 30 (by decide) (by omega) (by omega) dX3_at_18 (fun c2 => ?_) (fun c2 => ?_)
    · skip
      refine r_iload_n F hl 2 rfl rfl dX3_at_30 ?_
      refine r_istore_n F hl [(3, .int (I i)), (0, .ref (gY G b)), (1, .int (I (k : Int))), (2, .int (I i))] rfl (by decide) rfl dX3_at_31 (fun ls hl => ?_)
      refine r_iload_n F hl 2 rfl rfl dX3_at_32 ?_
      refine r_if_lt F 63 (by decide) (by omega) dX3_at_33 (fun c3 => ?_) (fun c3 => ?_)
      · omega
      · skip
        refine r_iload_n F hl 2 rfl rfl dX3_at_36 ?_
        refine r_bipush F (by decide) dX3_at_37 ?_
        refine r_icmp_ge F 63 (by decide) (by omega) (by omega) dX3_at_39 (fun c4 => ?_) (fun c4 => ?_)
        · omega
        · skip
          refine r_iload_n F hl 0 rfl rfl dX3_at_42 ?_
          refine r_if_lt F 63 (by decide) (by omega) dX3_at_43 (fun c5 => ?_) (fun c5 => ?_)
          · omega
          · skip
            refine r_iload_n F hl 0 rfl rfl dX3_at_46 ?_
            refine r_bipush F (by decide) dX3_at_47 ?_
            refine r_icmp_ge F 63 (by decide) (by omega) (by omega) dX3_at_49 (fun c6 => ?_) (fun c6 => ?_)
            · omega
            · skip
              refine r_aload_n F hl 1 rfl rfl dX3_at_52 ?_
              refine r_get F X b (hb43 hb) (eK_P hb G _) rfl gl_RX3 1 (by decide) rfl gf_RX3_11 rfl dX3_at_53 ?_
              refine r_iload_n F hl 2 rfl rfl dX3_at_56 ?_
              refine r_aald F X (b + 1) (hb44 hb) k rfl (eK_R hb G) (by omega) (by decide) dX3_at_57 ?_
              refine r_iload_n F hl 0 rfl rfl dX3_at_58 ?_
              refine r_lald F X (b + 2 + k) (hbL hb (by omega)) (eK_L hb (by omega) G) (by omega) (by decide) dX3_at_59 ?_
              refine r_goto F 64 (by decide) dX3_at_60 ?_
              exact r_lret F X hr hk dX3_at_64 (⟨by first | rw [em_lo (by omega)] | rw [em_hi (by omega)] | rw [em_in (by omega)], rfl⟩)
    · skip
      refine r_iload_n F hl 2 rfl rfl dX3_at_21 ?_
      refine r_aload_n F hl 0 rfl rfl dX3_at_22 ?_
      refine r_get F X b (hb43 hb) (eK_P hb G _) rfl gl_RX3 2 (by decide) rfl gf_RX3_27 rfl dX3_at_23 ?_
      refine r_isub F dX3_at_26 ?_
      refine r_goto F 31 (by decide) dX3_at_27 ?_
      refine r_istore_n F hl [(3, .int (I (i - (σ b 2)))), (0, .ref (gY G b)), (1, .int (I (k : Int))), (2, .int (I i))] rfl (by decide) rfl dX3_at_31 (fun ls hl => ?_)
      refine r_iload_n F hl 2 rfl rfl dX3_at_32 ?_
      refine r_if_lt F 63 (by decide) (by omega) dX3_at_33 (fun c7 => ?_) (fun c7 => ?_)
      · omega
      · skip
        refine r_iload_n F hl 2 rfl rfl dX3_at_36 ?_
        refine r_bipush F (by decide) dX3_at_37 ?_
        refine r_icmp_ge F 63 (by decide) (by omega) (by omega) dX3_at_39 (fun c8 => ?_) (fun c8 => ?_)
        · omega
        · skip
          refine r_iload_n F hl 0 rfl rfl dX3_at_42 ?_
          refine r_if_lt F 63 (by decide) (by omega) dX3_at_43 (fun c9 => ?_) (fun c9 => ?_)
          · omega
          · skip
            refine r_iload_n F hl 0 rfl rfl dX3_at_46 ?_
            refine r_bipush F (by decide) dX3_at_47 ?_
            refine r_icmp_ge F 63 (by decide) (by omega) (by omega) dX3_at_49 (fun c10 => ?_) (fun c10 => ?_)
            · omega
            · skip
              refine r_aload_n F hl 1 rfl rfl dX3_at_52 ?_
              refine r_get F X b (hb43 hb) (eK_P hb G _) rfl gl_RX3 1 (by decide) rfl gf_RX3_11 rfl dX3_at_53 ?_
              refine r_iload_n F hl 2 rfl rfl dX3_at_56 ?_
              refine r_aald F X (b + 1) (hb44 hb) k rfl (eK_R hb G) (by omega) (by decide) dX3_at_57 ?_
              refine r_iload_n F hl 0 rfl rfl dX3_at_58 ?_
              refine r_lald F X (b + 2 + k) (hbL hb (by omega)) (eK_L hb (by omega) G) (by omega) (by decide) dX3_at_59 ?_
              refine r_goto F 64 (by decide) dX3_at_60 ?_
              exact r_lret F X hr hk dX3_at_64 (⟨by first | rw [em_lo (by omega)] | rw [em_hi (by omega)] | rw [em_in (by omega)], rfl⟩)
  · skip
    refine r_iload_n F hl 2 rfl rfl dX3_at_4 ?_
    refine r_aload_n F hl 0 rfl rfl dX3_at_5 ?_
    refine r_get F X b (hb43 hb) (eK_P hb G _) rfl gl_RX3 2 (by decide) rfl gf_RX3_27 rfl dX3_at_6 ?_
    refine r_iadd F dX3_at_9 ?_
    refine r_goto F 31 (by decide) dX3_at_10 ?_
    refine r_istore_n F hl [(3, .int (I (i + (σ b 2)))), (0, .ref (gY G b)), (1, .int (I (k : Int))), (2, .int (I i))] rfl (by decide) rfl dX3_at_31 (fun ls hl => ?_)
    refine r_iload_n F hl 2 rfl rfl dX3_at_32 ?_
    refine r_if_lt F 63 (by decide) (by omega) dX3_at_33 (fun c11 => ?_) (fun c11 => ?_)
    · omega
    · skip
      refine r_iload_n F hl 2 rfl rfl dX3_at_36 ?_
      refine r_bipush F (by decide) dX3_at_37 ?_
      refine r_icmp_ge F 63 (by decide) (by omega) (by omega) dX3_at_39 (fun c12 => ?_) (fun c12 => ?_)
      · omega
      · skip
        refine r_iload_n F hl 0 rfl rfl dX3_at_42 ?_
        refine r_if_lt F 63 (by decide) (by omega) dX3_at_43 (fun c13 => ?_) (fun c13 => ?_)
        · omega
        · skip
          refine r_iload_n F hl 0 rfl rfl dX3_at_46 ?_
          refine r_bipush F (by decide) dX3_at_47 ?_
          refine r_icmp_ge F 63 (by decide) (by omega) (by omega) dX3_at_49 (fun c14 => ?_) (fun c14 => ?_)
          · omega
          · skip
            refine r_aload_n F hl 1 rfl rfl dX3_at_52 ?_
            refine r_get F X b (hb43 hb) (eK_P hb G _) rfl gl_RX3 1 (by decide) rfl gf_RX3_11 rfl dX3_at_53 ?_
            refine r_iload_n F hl 2 rfl rfl dX3_at_56 ?_
            refine r_aald F X (b + 1) (hb44 hb) k rfl (eK_R hb G) (by omega) (by decide) dX3_at_57 ?_
            refine r_iload_n F hl 0 rfl rfl dX3_at_58 ?_
            refine r_lald F X (b + 2 + k) (hbL hb (by omega)) (eK_L hb (by omega) G) (by omega) (by decide) dX3_at_59 ?_
            refine r_goto F 64 (by decide) dX3_at_60 ?_
            exact r_lret F X hr hk dX3_at_64 (⟨by first | rw [em_lo (by omega)] | rw [em_hi (by omega)] | rw [em_in (by omega)], rfl⟩)
theorem c_X3_put (l : Launch) (G : GT) (σ : St) (b : Nat) (k : Nat) (i : Int) (v : Int) (hb : b = 5 ∨ b = 18) (hk11 : k < 11) (hi : 0 ≤ i ∧ i < 120) : Ct l yX3_put cX3_put 5 none 1 G [.ref (gY G b), .int (I (k : Int)), .int (I i), .long (J v)] σ (QV G (fun τ => τ = up σ (b + 2 + k) (upI (σ (b + 2 + k)) i v))) := by
  refine mt (own := RX3) (plainFor_of_name rfl) rfl (Nat.le_of_ble_eq_true rfl) ?_
  intro p e s m args below meth c ls F hr hk X hl
  have hl : lv_has ls 5 [(0, .ref (gY G b)), (1, .int (I (k : Int))), (2, .int (I i)), (3, .long (J v))] := hl
  refine r_iload_n F hl 1 rfl rfl dX3_put_0 ?_
  refine r_if_lt F 29 (by decide) (by omega) dX3_put_1 (fun c1 => ?_) (fun c1 => ?_)
  · omega
  · skip
    refine r_iload_n F hl 1 rfl rfl dX3_put_4 ?_
    refine r_bipush F (by decide) dX3_put_5 ?_
    refine r_icmp_ge F 29 (by decide) (by omega) (by omega) dX3_put_7 (fun c2 => ?_) (fun c2 => ?_)
    · omega
    · skip
      refine r_iload_n F hl 2 rfl rfl dX3_put_10 ?_
      refine r_if_lt F 29 (by decide) (by omega) dX3_put_11 (fun c3 => ?_) (fun c3 => ?_)
      · omega
      · skip
        refine r_iload_n F hl 2 rfl rfl dX3_put_14 ?_
        refine r_bipush F (by decide) dX3_put_15 ?_
        refine r_icmp_ge F 29 (by decide) (by omega) (by omega) dX3_put_17 (fun c4 => ?_) (fun c4 => ?_)
        · omega
        · skip
          refine r_aload_n F hl 0 rfl rfl dX3_put_20 ?_
          refine r_get F X b (hb43 hb) (eK_P hb G _) rfl gl_RX3 1 (by decide) rfl gf_RX3_11 rfl dX3_put_21 ?_
          refine r_iload_n F hl 1 rfl rfl dX3_put_24 ?_
          refine r_aald F X (b + 1) (hb44 hb) k rfl (eK_R hb G) (by omega) (by decide) dX3_put_25 ?_
          refine r_iload_n F hl 2 rfl rfl dX3_put_26 ?_
          refine r_lload_n F hl 3 rfl rfl dX3_put_27 ?_
          refine r_last F X (b + 2 + k) (hbL hb (by omega)) (eK_L hb (by omega) G) (by omega) (by decide) dX3_put_28 (fun H locs X => ?_)
          obtain ⟨σ1, eσ1⟩ : ∃ x : St, x = up σ (b + 2 + k) (upI (σ (b + 2 + k)) i v) := ⟨_, rfl⟩
          rw [← eσ1] at X
          exact r_vret F X hr hk dX3_put_29 (by rw [eσ1])
theorem c_X3_riseBy (l : Launch) (G : GT) (σ : St) (law : Int) (h : Int) (k : Int) (n : Int) (h1 : 0 ≤ law ∧ law ≤ 3) (h2 : -999 ≤ h ∧ h ≤ 999) (h3 : 0 ≤ k ∧ k < n) (h4 : n ≤ 60) : Ct l yX3_riseBy cX3_riseBy 11 (some .long) 2 G [.int (I law), .long (J h), .long (J k), .long (J n)] σ (QJ G (fun res9 τ => res9 = (rise law h k n) ∧ τ = σ)) := by
  refine mt (own := RX3) (plainFor_of_name rfl) rfl (Nat.le_of_ble_eq_true rfl) ?_
  intro p e s m args below meth c ls F hr hk X hl
  have hl : lv_has ls 11 [(0, .int (I law)), (1, .long (J h)), (3, .long (J k)), (5, .long (J n))] := hl
  obtain ⟨p1, p2, p3, p4⟩ := nude law k n h1.1 h1.2 h3.1 h3.2 h4
  have p5 := mrg (A := 1998) (B := 2799360000000) (a := 2 * h) (b := nu law k n) (by omega) (by omega)
  refine r_lload_n F hl 2 rfl rfl dX3_riseBy_0 ?_
  refine r_lstore F hl [(7, .long (J k)), (0, .int (I law)), (1, .long (J h)), (3, .long (J k)), (5, .long (J n))] (by decide) rfl dX3_riseBy_1 (fun ls hl => ?_)
  refine r_lload F hl 4 rfl dX3_riseBy_3 ?_
  refine r_lstore F hl [(9, .long (J n)), (7, .long (J k)), (0, .int (I law)), (1, .long (J h)), (3, .long (J k)), (5, .long (J n))] (by decide) rfl dX3_riseBy_5 (fun ls hl => ?_)
  have join218 : ∀ (ls : Array Slot) (H : Heap) (locs : List Loc) (X : HX G σ s H locs) (hl : lv_has ls 11 [(0, .int (I law)), (1, .long (J h)), (7, .long (J (nu law k n))), (9, .long (J (de law n)))]), W p l e (rmd 2) s m args below meth c H locs 0 0 (MQ below (QJ G (fun res9 τ => res9 = (rise law h k n) ∧ τ = σ)) args s 0 0 (gA G)) (F0 m 218 ls []) := by
    intro   ls H locs  X hl
    refine r_lload F hl 3 rfl dX3_riseBy_218 ?_
    refine r_lconst F 0 (by decide +kernel) dX3_riseBy_220 ?_
    refine r_lcmp_le F 248 (by decide) (by omega) (by omega) dX3_riseBy_221 dX3_riseBy_222 (fun c1 => ?_) (fun c1 => ?_)
    · omega
    · skip
      refine r_ldc2 F 2 gk_RX3_63 (by decide +kernel) dX3_riseBy_225 ?_
      refine r_lload_n F hl 1 rfl rfl dX3_riseBy_228 ?_
      refine r_lmul F dX3_riseBy_229 ?_
      refine r_lload F hl 2 rfl dX3_riseBy_230 ?_
      refine r_lmul F dX3_riseBy_232 ?_
      refine r_lload F hl 3 rfl dX3_riseBy_233 ?_
      refine r_ladd F dX3_riseBy_235 ?_
      refine r_ldc2 F 2 gk_RX3_63 (by decide +kernel) dX3_riseBy_236 ?_
      refine r_lload F hl 3 rfl dX3_riseBy_239 ?_
      refine r_lmul F dX3_riseBy_241 ?_
      refine d_cSJ F X (c_J9_floorDiv_f86c9 l G σ (((2 * h) * (nu law k n)) + (de law n)) (2 * (de law n)) (by omega) (by omega)) gv_RX3_79 nd_J9_floorDiv_f86c9 rfl (rest := []) rfl (Nat.le_of_ble_eq_true rfl) ⟨Nat.le_of_ble_eq_true rfl, Nat.le_of_ble_eq_true rfl⟩ ⟨Nat.zero_le _, Nat.zero_le _⟩ hl.1 dX3_riseBy_242 (fun H locs X => ?_)
      refine r_goto F 249 (by decide) dX3_riseBy_245 ?_
      exact r_lret F X hr hk dX3_riseBy_249 (⟨rfl, rfl⟩)
  refine r_iload_n F hl 2 rfl rfl dX3_riseBy_7 ?_
  rcases (show law = 1 ∨ law = 2 ∨ law = 3 ∨ (law < 1 ∨ 3 < law) by omega) with q1 | q1 | q1 | q1
  · skip
    refine r_tabIn F 1 36 q1 (by decide) (by decide) (by decide) rfl (by decide) dX3_riseBy_8 ?_
    refine r_lload F hl 5 rfl dX3_riseBy_36 ?_
    refine r_lload F hl 5 rfl dX3_riseBy_38 ?_
    refine r_lmul F dX3_riseBy_40 ?_
    refine r_eqJ (b := de law n) (by unfold de; rw [if_pos (by omega)]) ?_
    refine r_lstore F hl [(9, .long (J (de law n))), (7, .long (J k)), (0, .int (I law)), (1, .long (J h)), (3, .long (J k)), (5, .long (J n))] (by decide) rfl dX3_riseBy_41 (fun ls hl => ?_)
    refine r_ldc2 F 2 gk_RX3_63 (by decide +kernel) dX3_riseBy_43 ?_
    refine r_lload_n F hl 4 rfl rfl dX3_riseBy_46 ?_
    refine r_lmul F dX3_riseBy_47 ?_
    refine r_lload F hl 5 rfl dX3_riseBy_48 ?_
    refine r_lcmp_gt F 64 (by decide) (by omega) (by omega) dX3_riseBy_50 dX3_riseBy_51 (fun c2 => ?_) (fun c2 => ?_)
    · skip
      refine r_lload F hl 0 rfl dX3_riseBy_64 ?_
      refine r_ldc2 F 2 gk_RX3_63 (by decide +kernel) dX3_riseBy_66 ?_
      refine r_lload F hl 5 rfl dX3_riseBy_69 ?_
      refine r_lload_n F hl 4 rfl rfl dX3_riseBy_71 ?_
      refine r_lsub F dX3_riseBy_72 ?_
      refine r_lmul F dX3_riseBy_73 ?_
      refine r_lload F hl 5 rfl dX3_riseBy_74 ?_
      refine r_lload_n F hl 4 rfl rfl dX3_riseBy_76 ?_
      refine r_lsub F dX3_riseBy_77 ?_
      refine r_lmul F dX3_riseBy_78 ?_
      refine r_lsub F dX3_riseBy_79 ?_
      refine r_eqJ (b := nu law k n) (by unfold nu; rw [if_pos (by omega)]; first | rw [if_pos (by omega)] | rw [if_neg (by omega)]; unfold de; rw [if_pos (by omega)]) ?_
      refine r_lstore F hl [(7, .long (J (nu law k n))), (9, .long (J (de law n))), (0, .int (I law)), (1, .long (J h)), (3, .long (J k)), (5, .long (J n))] (by decide) rfl dX3_riseBy_80 (fun ls hl => ?_)
      refine r_goto F 218 (by decide) dX3_riseBy_82 ?_
      exact join218   _ _ _  X (lv_sub hl [2, 3, 0, 1] rfl)
    · skip
      refine r_ldc2 F 2 gk_RX3_63 (by decide +kernel) dX3_riseBy_54 ?_
      refine r_lload_n F hl 4 rfl rfl dX3_riseBy_57 ?_
      refine r_lmul F dX3_riseBy_58 ?_
      refine r_lload_n F hl 4 rfl rfl dX3_riseBy_59 ?_
      refine r_lmul F dX3_riseBy_60 ?_
      refine r_goto F 80 (by decide) dX3_riseBy_61 ?_
      refine r_eqJ (b := nu law k n) (by unfold nu; rw [if_pos (by omega)]; first | rw [if_pos (by omega)] | rw [if_neg (by omega)]; unfold de; rw [if_pos (by omega)]) ?_
      refine r_lstore F hl [(7, .long (J (nu law k n))), (9, .long (J (de law n))), (0, .int (I law)), (1, .long (J h)), (3, .long (J k)), (5, .long (J n))] (by decide) rfl dX3_riseBy_80 (fun ls hl => ?_)
      refine r_goto F 218 (by decide) dX3_riseBy_82 ?_
      exact join218   _ _ _  X (lv_sub hl [2, 3, 0, 1] rfl)
  · skip
    refine r_tabIn F 2 85 q1 (by decide) (by decide) (by decide) rfl (by decide) dX3_riseBy_8 ?_
    refine r_lload F hl 5 rfl dX3_riseBy_85 ?_
    refine r_lload F hl 5 rfl dX3_riseBy_87 ?_
    refine r_lmul F dX3_riseBy_89 ?_
    refine r_lload F hl 5 rfl dX3_riseBy_90 ?_
    refine r_lmul F dX3_riseBy_92 ?_
    refine r_lload F hl 5 rfl dX3_riseBy_93 ?_
    refine r_lmul F dX3_riseBy_95 ?_
    refine r_lload F hl 5 rfl dX3_riseBy_96 ?_
    refine r_lmul F dX3_riseBy_98 ?_
    refine r_eqJ (b := de law n) (by unfold de; rw [if_neg (by omega), if_pos (by omega)]) ?_
    refine r_lstore F hl [(9, .long (J (de law n))), (7, .long (J k)), (0, .int (I law)), (1, .long (J h)), (3, .long (J k)), (5, .long (J n))] (by decide) rfl dX3_riseBy_99 (fun ls hl => ?_)
    refine r_lload_n F hl 4 rfl rfl dX3_riseBy_101 ?_
    refine r_lload_n F hl 4 rfl rfl dX3_riseBy_102 ?_
    refine r_lmul F dX3_riseBy_103 ?_
    refine r_lload_n F hl 4 rfl rfl dX3_riseBy_104 ?_
    refine r_lmul F dX3_riseBy_105 ?_
    refine r_ldc2 F 10 gk_RX3_65 (by decide +kernel) dX3_riseBy_106 ?_
    refine r_lload F hl 5 rfl dX3_riseBy_109 ?_
    refine r_lmul F dX3_riseBy_111 ?_
    refine r_lload F hl 5 rfl dX3_riseBy_112 ?_
    refine r_lmul F dX3_riseBy_114 ?_
    refine r_ldc2 F 15 gk_RX3_67 (by decide +kernel) dX3_riseBy_115 ?_
    refine r_lload_n F hl 4 rfl rfl dX3_riseBy_118 ?_
    refine r_lmul F dX3_riseBy_119 ?_
    refine r_lload F hl 5 rfl dX3_riseBy_120 ?_
    refine r_lmul F dX3_riseBy_122 ?_
    refine r_lsub F dX3_riseBy_123 ?_
    refine r_ldc2 F 6 gk_RX3_69 (by decide +kernel) dX3_riseBy_124 ?_
    refine r_lload_n F hl 4 rfl rfl dX3_riseBy_127 ?_
    refine r_lmul F dX3_riseBy_128 ?_
    refine r_lload_n F hl 4 rfl rfl dX3_riseBy_129 ?_
    refine r_lmul F dX3_riseBy_130 ?_
    refine r_ladd F dX3_riseBy_131 ?_
    refine r_lmul F dX3_riseBy_132 ?_
    refine r_eqJ (b := nu law k n) (by unfold nu; rw [if_neg (by omega), if_pos (by omega)]) ?_
    refine r_lstore F hl [(7, .long (J (nu law k n))), (9, .long (J (de law n))), (0, .int (I law)), (1, .long (J h)), (3, .long (J k)), (5, .long (J n))] (by decide) rfl dX3_riseBy_133 (fun ls hl => ?_)
    refine r_goto F 218 (by decide) dX3_riseBy_135 ?_
    exact join218   _ _ _  X (lv_sub hl [2, 3, 0, 1] rfl)
  · skip
    refine r_tabIn F 3 138 q1 (by decide) (by decide) (by decide) rfl (by decide) dX3_riseBy_8 ?_
    refine r_lload F hl 5 rfl dX3_riseBy_138 ?_
    refine r_lload F hl 5 rfl dX3_riseBy_140 ?_
    refine r_lmul F dX3_riseBy_142 ?_
    refine r_lload F hl 5 rfl dX3_riseBy_143 ?_
    refine r_lmul F dX3_riseBy_145 ?_
    refine r_lload F hl 5 rfl dX3_riseBy_146 ?_
    refine r_lmul F dX3_riseBy_148 ?_
    refine r_lload F hl 5 rfl dX3_riseBy_149 ?_
    refine r_lmul F dX3_riseBy_151 ?_
    refine r_lload F hl 5 rfl dX3_riseBy_152 ?_
    refine r_lmul F dX3_riseBy_154 ?_
    refine r_lload F hl 5 rfl dX3_riseBy_155 ?_
    refine r_lmul F dX3_riseBy_157 ?_
    refine r_eqJ (b := de law n) (by unfold de; rw [if_neg (by omega), if_neg (by omega), if_pos (by omega)]) ?_
    refine r_lstore F hl [(9, .long (J (de law n))), (7, .long (J k)), (0, .int (I law)), (1, .long (J h)), (3, .long (J k)), (5, .long (J n))] (by decide) rfl dX3_riseBy_158 (fun ls hl => ?_)
    refine r_lload_n F hl 4 rfl rfl dX3_riseBy_160 ?_
    refine r_lload_n F hl 4 rfl rfl dX3_riseBy_161 ?_
    refine r_lmul F dX3_riseBy_162 ?_
    refine r_lload_n F hl 4 rfl rfl dX3_riseBy_163 ?_
    refine r_lmul F dX3_riseBy_164 ?_
    refine r_lload_n F hl 4 rfl rfl dX3_riseBy_165 ?_
    refine r_lmul F dX3_riseBy_166 ?_
    refine r_ldc2 F 35 gk_RX3_71 (by decide +kernel) dX3_riseBy_167 ?_
    refine r_lload F hl 5 rfl dX3_riseBy_170 ?_
    refine r_lmul F dX3_riseBy_172 ?_
    refine r_lload F hl 5 rfl dX3_riseBy_173 ?_
    refine r_lmul F dX3_riseBy_175 ?_
    refine r_lload F hl 5 rfl dX3_riseBy_176 ?_
    refine r_lmul F dX3_riseBy_178 ?_
    refine r_ldc2 F 84 gk_RX3_73 (by decide +kernel) dX3_riseBy_179 ?_
    refine r_lload_n F hl 4 rfl rfl dX3_riseBy_182 ?_
    refine r_lmul F dX3_riseBy_183 ?_
    refine r_lload F hl 5 rfl dX3_riseBy_184 ?_
    refine r_lmul F dX3_riseBy_186 ?_
    refine r_lload F hl 5 rfl dX3_riseBy_187 ?_
    refine r_lmul F dX3_riseBy_189 ?_
    refine r_lsub F dX3_riseBy_190 ?_
    refine r_ldc2 F 70 gk_RX3_75 (by decide +kernel) dX3_riseBy_191 ?_
    refine r_lload_n F hl 4 rfl rfl dX3_riseBy_194 ?_
    refine r_lmul F dX3_riseBy_195 ?_
    refine r_lload_n F hl 4 rfl rfl dX3_riseBy_196 ?_
    refine r_lmul F dX3_riseBy_197 ?_
    refine r_lload F hl 5 rfl dX3_riseBy_198 ?_
    refine r_lmul F dX3_riseBy_200 ?_
    refine r_ladd F dX3_riseBy_201 ?_
    refine r_ldc2 F 20 gk_RX3_77 (by decide +kernel) dX3_riseBy_202 ?_
    refine r_lload_n F hl 4 rfl rfl dX3_riseBy_205 ?_
    refine r_lmul F dX3_riseBy_206 ?_
    refine r_lload_n F hl 4 rfl rfl dX3_riseBy_207 ?_
    refine r_lmul F dX3_riseBy_208 ?_
    refine r_lload_n F hl 4 rfl rfl dX3_riseBy_209 ?_
    refine r_lmul F dX3_riseBy_210 ?_
    refine r_lsub F dX3_riseBy_211 ?_
    refine r_lmul F dX3_riseBy_212 ?_
    refine r_eqJ (b := nu law k n) (by unfold nu; rw [if_neg (by omega), if_neg (by omega), if_pos (by omega)]) ?_
    refine r_lstore F hl [(7, .long (J (nu law k n))), (9, .long (J (de law n))), (0, .int (I law)), (1, .long (J h)), (3, .long (J k)), (5, .long (J n))] (by decide) rfl dX3_riseBy_213 (fun ls hl => ?_)
    refine r_goto F 218 (by decide) dX3_riseBy_215 ?_
    exact join218   _ _ _  X (lv_sub hl [2, 3, 0, 1] rfl)
  · skip
    refine r_tabOut F 218 (by omega) q1 (by decide) dX3_riseBy_8 ?_
    have e0 : law = 0 := by omega
    have hl : lv_has ls 11 [(9, .long (J n)), (7, .long (J (nu law k n))), (0, .int (I law)), (1, .long (J h)), (3, .long (J k)), (5, .long (J n))] := by rw [show nu law k n = k by unfold nu; rw [if_neg (by omega), if_neg (by omega), if_neg (by omega)]]; exact hl
    have hl : lv_has ls 11 [(9, .long (J (de law n))), (7, .long (J (nu law k n))), (0, .int (I law)), (1, .long (J h)), (3, .long (J k)), (5, .long (J n))] := by rw [show de law n = n by unfold de; rw [if_neg (by omega), if_neg (by omega), if_neg (by omega)]]; exact hl
    exact join218   _ _ _  X (lv_sub hl [2, 3, 1, 0] rfl)
theorem c_X3_bend (l : Launch) (G : GT) (σ : St) (x : Int) (v : Int) (a : Int) : Ct l yX3_bend cX3_bend 6 (some .long) 1 G [.long (J x), .long (J v), .long (J a)] σ (QJ G (fun res9 τ => res9 = (bn x v a) ∧ τ = σ)) := by
  refine mt (own := RX3) (plainFor_of_name rfl) rfl (Nat.le_of_ble_eq_true rfl) ?_
  intro p e s m args below meth c ls F hr hk X hl
  have hl : lv_has ls 6 [(0, .long (J x)), (2, .long (J v)), (4, .long (J a))] := hl
  refine r_lload_n F hl 0 rfl rfl dX3_bend_0 ?_
  refine r_lload_n F hl 0 rfl rfl dX3_bend_1 ?_
  refine r_lmul F dX3_bend_2 ?_
  refine r_ldc2 F 2 gk_RX3_63 (by decide +kernel) dX3_bend_3 ?_
  refine r_lload_n F hl 1 rfl rfl dX3_bend_6 ?_
  refine r_lmul F dX3_bend_7 ?_
  refine r_lload_n F hl 1 rfl rfl dX3_bend_8 ?_
  refine r_lmul F dX3_bend_9 ?_
  refine r_ladd F dX3_bend_10 ?_
  refine r_lload_n F hl 0 rfl rfl dX3_bend_11 ?_
  refine r_lload F hl 2 rfl dX3_bend_12 ?_
  refine r_lmul F dX3_bend_14 ?_
  refine r_lsub F dX3_bend_15 ?_
  exact r_lret F X hr hk dX3_bend_16 (⟨by unfold bn; rfl, rfl⟩)
theorem c_X3_undercutOf (l : Launch) (G : GT) (σ : St) (q : Int) (t : Int) (w : Int) (h1 : 0 ≤ q ∧ q ≤ 9999) (h2 : 0 ≤ t ∧ t < 1000000000000000) (h3 : -900000000000000 ≤ w ∧ w ≤ 900000000000000) : Ct l yX3_undercutOf cX3_undercutOf 8 (some .int) 1 G [.long (J q), .long (J t), .long (J w)] σ (QI G (fun res9 τ => res9 = (uc q t w) ∧ τ = σ)) := by
  refine mt (own := RX3) (plainFor_of_name rfl) rfl (Nat.le_of_ble_eq_true rfl) ?_
  intro p e s m args below meth c ls F hr hk X hl
  have hl : lv_has ls 8 [(0, .long (J q)), (2, .long (J t)), (4, .long (J w))] := hl
  have m1 := mrg (A := 9999) (B := 900000000000000) (a := q) (b := w) (by omega) (by omega)
  refine r_lload F hl 2 rfl dX3_undercutOf_0 ?_
  refine r_lconst F 0 (by decide +kernel) dX3_undercutOf_2 ?_
  refine r_lcmp_gt F 9 (by decide) (by omega) (by omega) dX3_undercutOf_3 dX3_undercutOf_4 (fun c1 => ?_) (fun c1 => ?_)
  · skip
    refine r_lload_n F hl 0 rfl rfl dX3_undercutOf_9 ?_
    refine r_lload F hl 2 rfl dX3_undercutOf_10 ?_
    refine r_lmul F dX3_undercutOf_12 ?_
    refine r_lstore F hl [(6, .long (J (q * w))), (0, .long (J q)), (2, .long (J t)), (4, .long (J w))] (by decide) rfl dX3_undercutOf_13 (fun ls hl => ?_)
    refine r_lload_n F hl 2 rfl rfl dX3_undercutOf_15 ?_
    refine r_ldc2 F 2097151 gk_RX3_119 (by decide +kernel) dX3_undercutOf_16 ?_
    refine r_lcmp_gt F 32 (by decide) (by omega) (by omega) dX3_undercutOf_19 dX3_undercutOf_20 (fun c2 => ?_) (fun c2 => ?_)
    · skip
      refine r_iconst F dX3_undercutOf_32 ?_
      exact r_iret F X hr hk dX3_undercutOf_33 (⟨by unfold uc; first | rw [if_pos (by omega)] | (rw [if_neg (by omega)]; first | rw [if_pos (by omega)] | (rw [if_neg (by omega)]; first | rw [if_pos (by omega)] | rw [if_neg (by omega)])), rfl⟩)
    · skip
      have m2 := mrg (A := 2097151) (B := 2097151) (a := t) (b := t) (by omega) (by omega)
      have m3 := mrg (A := 4398042316801) (B := 2097151) (a := t * t) (b := t) (by omega) (by omega)
      refine r_lload F hl 0 rfl dX3_undercutOf_23 ?_
      refine r_ldc2 F 3037000499 gk_RX3_121 (by decide +kernel) dX3_undercutOf_25 ?_
      refine r_lcmp_le F 34 (by decide) (by omega) (by omega) dX3_undercutOf_28 dX3_undercutOf_29 (fun c3 => ?_) (fun c3 => ?_)
      · skip
        have m0 := mnn (a := q) (b := w) (by omega) (by omega)
        have m4 := mrg (A := 3037000499) (B := 3037000499) (a := q * w) (b := q * w) (by omega) (by omega)
        refine r_lload_n F hl 2 rfl rfl dX3_undercutOf_34 ?_
        refine r_lload_n F hl 2 rfl rfl dX3_undercutOf_35 ?_
        refine r_lmul F dX3_undercutOf_36 ?_
        refine r_lload_n F hl 2 rfl rfl dX3_undercutOf_37 ?_
        refine r_lmul F dX3_undercutOf_38 ?_
        refine r_lload F hl 0 rfl dX3_undercutOf_39 ?_
        refine r_lload F hl 0 rfl dX3_undercutOf_41 ?_
        refine r_lmul F dX3_undercutOf_43 ?_
        refine r_lcmp_ge F 52 (by decide) (by omega) (by omega) dX3_undercutOf_44 dX3_undercutOf_45 (fun c4 => ?_) (fun c4 => ?_)
        · skip
          refine r_iconst F dX3_undercutOf_52 ?_
          exact r_iret F X hr hk dX3_undercutOf_53 (⟨by unfold uc; first | rw [if_pos (by omega)] | (rw [if_neg (by omega)]; first | rw [if_pos (by omega)] | (rw [if_neg (by omega)]; first | rw [if_pos (by omega)] | rw [if_neg (by omega)])), rfl⟩)
        · skip
          refine r_iconst F dX3_undercutOf_48 ?_
          refine r_goto F 53 (by decide) dX3_undercutOf_49 ?_
          exact r_iret F X hr hk dX3_undercutOf_53 (⟨by unfold uc; first | rw [if_pos (by omega)] | (rw [if_neg (by omega)]; first | rw [if_pos (by omega)] | (rw [if_neg (by omega)]; first | rw [if_pos (by omega)] | rw [if_neg (by omega)])), rfl⟩)
      · skip
        refine r_iconst F dX3_undercutOf_32 ?_
        exact r_iret F X hr hk dX3_undercutOf_33 (⟨by unfold uc; first | rw [if_pos (by omega)] | (rw [if_neg (by omega)]; first | rw [if_pos (by omega)] | (rw [if_neg (by omega)]; first | rw [if_pos (by omega)] | rw [if_neg (by omega)])), rfl⟩)
  · skip
    refine r_iconst F dX3_undercutOf_7 ?_
    exact r_iret F X hr hk dX3_undercutOf_8 (⟨by unfold uc; first | rw [if_pos (by omega)] | (rw [if_neg (by omega)]; first | rw [if_pos (by omega)] | (rw [if_neg (by omega)]; first | rw [if_pos (by omega)] | rw [if_neg (by omega)])), rfl⟩)
theorem c_X3_rest (l : Launch) (G : GT) (σ : St) (b : Nat) (N : Int) (r : Int → Int) (f : Int → Int) (i : Int) (hb : b = 5 ∨ b = 18) (hP : PL σ N r) (hW : WF N r) (hN : σ b 2 = N) (hf : f = σ (b + 2 + 0)) (hL : LR f N) (hi : -N ≤ i ∧ i < 2 * N) : Ct l yX3_rest cX3_rest 2 (some .long) 2 G [.ref (gY G b), .int (I i)] σ (QJ G (fun res9 τ => res9 = (rs f N r i) ∧ τ = σ)) := by
  refine mt (own := RX3) (plainFor_of_name rfl) rfl (Nat.le_of_ble_eq_true rfl) ?_
  intro p e s m args below meth c ls F hr hk X hl
  have hl : lv_has ls 2 [(0, .ref (gY G b)), (1, .int (I i))] := hl
  have hw := hW.num
  refine r_aload_n F hl 0 rfl rfl dX3_rest_0 ?_
  refine r_get F X b (hb43 hb) (eK_P hb G _) rfl gl_RX3 0 (by decide) rfl gf_RX3_16 rfl dX3_rest_1 ?_
  refine r_iconst F dX3_rest_4 ?_
  refine d_cVI F X 1 (by decide) (eK_1 G _) rfl (c_X2_get l G σ (r 65) 5 (by omega) (hP.set 5 (by omega) (by omega))) gv_RX3_35 rfl nd_X2_get rfl (rest := []) rfl (Nat.le_of_ble_eq_true rfl) ⟨Nat.le_of_ble_eq_true rfl, Nat.le_of_ble_eq_true rfl⟩ ⟨Nat.zero_le _, Nat.zero_le _⟩ hl.1 dX3_rest_5 (fun H locs X => ?_)
  refine r_i2l F (by omega) dX3_rest_8 ?_
  refine r_aload_n F hl 0 rfl rfl dX3_rest_9 ?_
  refine r_get F X b (hb43 hb) (eK_P hb G _) rfl gl_RX3 0 (by decide) rfl gf_RX3_16 rfl dX3_rest_10 ?_
  refine r_bipush F (by decide) dX3_rest_13 ?_
  refine d_cVI F X 1 (by decide) (eK_1 G _) rfl (c_X2_get l G σ (r 66) 6 (by omega) (hP.set 6 (by omega) (by omega))) gv_RX3_35 rfl nd_X2_get rfl (rest := [.long (J (r 65))]) rfl (Nat.le_of_ble_eq_true rfl) ⟨Nat.le_of_ble_eq_true rfl, Nat.le_of_ble_eq_true rfl⟩ ⟨Nat.zero_le _, Nat.zero_le _⟩ hl.1 dX3_rest_15 (fun H locs X => ?_)
  refine r_i2l F (by omega) dX3_rest_18 ?_
  refine r_aload_n F hl 0 rfl rfl dX3_rest_19 ?_
  refine r_iconst F dX3_rest_20 ?_
  refine r_iload_n F hl 1 rfl rfl dX3_rest_21 ?_
  refine d_cVJ F X b (hb43 hb) (eK_P hb G _) rfl (c_X3_at l G σ b 0 i hb (by omega) (by omega) (by omega)) gv_RX3_85 rfl nd_X3_at rfl (rest := [.long (J (r 66)), .long (J (r 65))]) rfl (Nat.le_of_ble_eq_true rfl) ⟨Nat.le_of_ble_eq_true rfl, Nat.le_of_ble_eq_true rfl⟩ ⟨Nat.zero_le _, Nat.zero_le _⟩ hl.1 dX3_rest_22 (fun H locs X => ?_)
  refine r_lmul F dX3_rest_25 ?_
  refine r_ladd F dX3_rest_26 ?_
  exact r_lret F X hr hk dX3_rest_27 (⟨by subst hf; subst hN; rfl, rfl⟩)
