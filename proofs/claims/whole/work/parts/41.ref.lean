theorem gd_stop {f : Int → Int} {N : Int} {r : Int → Int} {i : Int} (h0 : 0 ≤ i) (h1 : i ≤ N) (h : i = N ∨ ¬ (alI (mk f r) (r 61) && alI (ok1 f N r) i) = true) : (if (alI (mk f r) (r 61) && alI (ok1 f N r) i) = true then (1 : Int) else 0) = (if gd f N r = true then 1 else 0) := by
  unfold gd
  rcases h with q | q
  · rw [q]
  · rw [if_neg q]
    refine (if_neg (fun z => q ?_)).symm
    rw [Bool.and_eq_true] at z ⊢
    refine ⟨z.1, ?_⟩
    rw [alI_iff]
    exact fun j a b => (alI_iff _ _).mp z.2 j a (by omega)
theorem bt_all {p : Int → Bool} {n : Int} : btI p n = 2 ^ n.toNat - 1 ↔ alI p n = true := bt2_full p n.toNat
theorem mvI_le (r : Int → Int) {s t : Int} (h0 : 0 ≤ s) (h1 : s ≤ t) : mvI r s ≤ mvI r t := by
  rw [mvI_cc r h0, mvI_cc r (by omega)]
  have := cc_mono (mvb r) (show s.toNat ≤ t.toNat by omega)
  omega
theorem c_X5_isBad (l : Launch) (G : GT) (σ : St) (N : Int) (r : Int → Int) (f : Int → Int) (i : Int) (w : Int) (hro : σ 37 = r) (hN : σ 36 1 = N) (hW : WF N r) (hE : EQN (σ 39) f N) (hL : LR f N) (hi : 0 ≤ i ∧ i < N) (hw2 : 0 ≤ w ∧ w ≤ 3) : Ct l yX5_isBad cX5_isBad 3 (some .boolean) 7 G [.ref (gY G 36), .int (I i), .int (I w)] σ (QI G (fun res9 τ => res9 = (if bd f N r w i = true then 1 else 0) ∧ τ = σ)) := by
  refine mt (own := RX5) (plainFor_of_name rfl) rfl (Nat.le_of_ble_eq_true rfl) ?_
  intro p e s m args below meth c ls F hr hk X hl
  have hl : lv_has ls 3 [(0, .ref (gY G 36)), (1, .int (I i)), (2, .int (I w))] := hl
  have hw := hW.num
  have hu := uc_012 (r 64) ((r 63 + r 64 + lw f N i) * (r 63 + r 64 + lw f N i) + vV f N i * vV f N i) (bn (r 63 + r 64 + lw f N i) (vV f N i) (vA f N i))
  have hu2 : ucq (r 64) f N r i = 0 ∨ ucq (r 64) f N r i = 1 ∨ ucq (r 64) f N r i = 2 := hu
  have hpr := pr_rg hW hL i
  have hfo := (fo_rg hW hL i).2.2
  refine r_iload_n F hl 2 rfl rfl dX5_isBad_0 ?_
  rcases (show w = 0 ∨ w = 1 ∨ w = 2 ∨ (w < 0 ∨ 2 < w) by omega) with q1 | q1 | q1 | q1
  · skip
    refine r_tabIn F 0 28 q1 (by decide) (by decide) (by decide) rfl (by decide) dX5_isBad_1 ?_
    refine r_aload_n F hl 0 rfl rfl dX5_isBad_28 ?_
    refine r_iload_n F hl 1 rfl rfl dX5_isBad_29 ?_
    refine d_cVI F X 36 (by decide) (eK_36 G _) rfl (c_X5_undercutAt l G σ N r f i hro hN hW hE hL (by omega)) gv_RX5_167 rfl nd_X5_undercutAt rfl (rest := []) rfl (Nat.le_of_ble_eq_true rfl) ⟨Nat.le_of_ble_eq_true rfl, Nat.le_of_ble_eq_true rfl⟩ ⟨Nat.zero_le _, Nat.zero_le _⟩ hl.1 dX5_isBad_30 (fun H locs X => ?_)
    refine r_iload_n F hl 2 rfl rfl dX5_isBad_33 ?_
    refine r_iconst F dX5_isBad_34 ?_
    refine r_iadd F dX5_isBad_35 ?_
    refine r_icmp_ne F 43 (by decide) (by omega) (by omega) dX5_isBad_36 (fun c1 => ?_) (fun c1 => ?_)
    · skip
      refine r_iconst F dX5_isBad_43 ?_
      exact r_zret F X hr hk (by omega) dX5_isBad_44 (⟨by unfold bd; grind, rfl⟩)
    · skip
      refine r_iconst F dX5_isBad_39 ?_
      refine r_goto F 44 (by decide) dX5_isBad_40 ?_
      exact r_zret F X hr hk (by omega) dX5_isBad_44 (⟨by unfold bd; grind, rfl⟩)
  · skip
    refine r_tabIn F 1 28 q1 (by decide) (by decide) (by decide) rfl (by decide) dX5_isBad_1 ?_
    refine r_aload_n F hl 0 rfl rfl dX5_isBad_28 ?_
    refine r_iload_n F hl 1 rfl rfl dX5_isBad_29 ?_
    refine d_cVI F X 36 (by decide) (eK_36 G _) rfl (c_X5_undercutAt l G σ N r f i hro hN hW hE hL (by omega)) gv_RX5_167 rfl nd_X5_undercutAt rfl (rest := []) rfl (Nat.le_of_ble_eq_true rfl) ⟨Nat.le_of_ble_eq_true rfl, Nat.le_of_ble_eq_true rfl⟩ ⟨Nat.zero_le _, Nat.zero_le _⟩ hl.1 dX5_isBad_30 (fun H locs X => ?_)
    refine r_iload_n F hl 2 rfl rfl dX5_isBad_33 ?_
    refine r_iconst F dX5_isBad_34 ?_
    refine r_iadd F dX5_isBad_35 ?_
    refine r_icmp_ne F 43 (by decide) (by omega) (by omega) dX5_isBad_36 (fun c2 => ?_) (fun c2 => ?_)
    · skip
      refine r_iconst F dX5_isBad_43 ?_
      exact r_zret F X hr hk (by omega) dX5_isBad_44 (⟨by unfold bd; grind, rfl⟩)
    · skip
      refine r_iconst F dX5_isBad_39 ?_
      refine r_goto F 44 (by decide) dX5_isBad_40 ?_
      exact r_zret F X hr hk (by omega) dX5_isBad_44 (⟨by unfold bd; grind, rfl⟩)
  · skip
    refine r_tabIn F 2 45 q1 (by decide) (by decide) (by decide) rfl (by decide) dX5_isBad_1 ?_
    refine r_aload_n F hl 0 rfl rfl dX5_isBad_45 ?_
    refine r_iload_n F hl 1 rfl rfl dX5_isBad_46 ?_
    refine d_cVI F X 36 (by decide) (eK_36 G _) rfl (c_X5_pressAt l G σ N r f i hro hN hW hE hL (by omega)) gv_RX5_170 rfl nd_X5_pressAt rfl (rest := []) rfl (Nat.le_of_ble_eq_true rfl) ⟨Nat.le_of_ble_eq_true rfl, Nat.le_of_ble_eq_true rfl⟩ ⟨Nat.zero_le _, Nat.zero_le _⟩ hl.1 dX5_isBad_47 (fun H locs X => ?_)
    refine r_aload_n F hl 0 rfl rfl dX5_isBad_50 ?_
    refine r_get F X 36 (by decide) (eK_36 G _) rfl gl_RX5 2 (by decide) rfl gf_RX5_16 rfl dX5_isBad_51 ?_
    refine r_bipush F (by decide) dX5_isBad_54 ?_
    refine r_iald F X 37 (by decide) (eK_37 G) (by omega) (by decide) dX5_isBad_56 ?_
    refine r_eqI (b := r 69) (by rw [hro]) ?_
    refine r_icmp_le F 64 (by decide) (by omega) (by omega) dX5_isBad_57 (fun c3 => ?_) (fun c3 => ?_)
    · skip
      refine r_iconst F dX5_isBad_64 ?_
      exact r_zret F X hr hk (by omega) dX5_isBad_65 (⟨by unfold bd; grind, rfl⟩)
    · skip
      refine r_iconst F dX5_isBad_60 ?_
      refine r_goto F 65 (by decide) dX5_isBad_61 ?_
      exact r_zret F X hr hk (by omega) dX5_isBad_65 (⟨by unfold bd; grind, rfl⟩)
  · skip
    refine r_tabOut F 66 (by omega) q1 (by decide) dX5_isBad_1 ?_
    refine r_aload_n F hl 0 rfl rfl dX5_isBad_66 ?_
    refine r_iload_n F hl 1 rfl rfl dX5_isBad_67 ?_
    refine d_cVJ F X 36 (by decide) (eK_36 G _) rfl (c_X5_forceAt l G σ N r f i hro hN hW hE hL (by omega)) gv_RX5_173 rfl nd_X5_forceAt rfl (rest := []) rfl (Nat.le_of_ble_eq_true rfl) ⟨Nat.le_of_ble_eq_true rfl, Nat.le_of_ble_eq_true rfl⟩ ⟨Nat.zero_le _, Nat.zero_le _⟩ hl.1 dX5_isBad_68 (fun H locs X => ?_)
    refine r_lconst F 0 (by decide +kernel) dX5_isBad_71 ?_
    refine r_lcmp_ge F 80 (by decide) (by omega) (by omega) dX5_isBad_72 dX5_isBad_73 (fun c4 => ?_) (fun c4 => ?_)
    · skip
      refine r_iconst F dX5_isBad_80 ?_
      exact r_zret F X hr hk (by omega) dX5_isBad_81 (⟨by unfold bd; grind, rfl⟩)
    · skip
      refine r_iconst F dX5_isBad_76 ?_
      refine r_goto F 81 (by decide) dX5_isBad_77 ?_
      exact r_zret F X hr hk (by omega) dX5_isBad_81 (⟨by unfold bd; grind, rfl⟩)
theorem c_X5_offAt (l : Launch) (G : GT) (σ : St) (N : Int) (r : Int → Int) (f : Int → Int) (q : Int) (hro : σ 37 = r) (hN : σ 36 1 = N) (hW : WF N r) (hE : EQN (σ 39) f N) (hL : LR f N) (hq : 0 ≤ q ∧ q < r 61) : Ct l yX5_offAt cX5_offAt 2 (some .int) 2 G [.ref (gY G 36), .int (I q)] σ (QI G (fun res9 τ => res9 = (mo f r q) ∧ τ = σ)) := by
  refine mt (own := RX5) (plainFor_of_name rfl) rfl (Nat.le_of_ble_eq_true rfl) ?_
  intro p e s m args below meth c ls F hr hk X hl
  have hl : lv_has ls 2 [(0, .ref (gY G 36)), (1, .int (I q))] := hl
  have hw := hW.num
  have hms := hW.ms (i := q) (by omega) (by omega)
  have hmN := hW.mN (i := q) (by omega) (by omega)
  have hml := hW.ml (i := q) (by omega) (by omega)
  have hfr := hL (r (36 + q)) (by omega) (by omega)
  refine r_aload_n F hl 0 rfl rfl dX5_offAt_0 ?_
  refine r_get F X 36 (by decide) (eK_36 G _) rfl gl_RX5 5 (by decide) rfl gf_RX5_23 rfl dX5_offAt_1 ?_
  refine r_aload_n F hl 0 rfl rfl dX5_offAt_4 ?_
  refine r_get F X 36 (by decide) (eK_36 G _) rfl gl_RX5 2 (by decide) rfl gf_RX5_16 rfl dX5_offAt_5 ?_
  refine r_bipush F (by decide) dX5_offAt_8 ?_
  refine r_iload_n F hl 1 rfl rfl dX5_offAt_10 ?_
  refine r_iadd F dX5_offAt_11 ?_
  refine r_iald F X 37 (by decide) (eK_37 G) (by omega) (by decide) dX5_offAt_12 ?_
  refine r_eqI (b := r (36 + q)) (by rw [hro]) ?_
  refine r_iald F X 39 (by decide) (eK_39 G) (by omega) (by decide) dX5_offAt_13 ?_
  refine r_eqI (b := f (r (36 + q))) (hE _ (by omega) (by omega)) ?_
  refine r_aload_n F hl 0 rfl rfl dX5_offAt_14 ?_
  refine r_get F X 36 (by decide) (eK_36 G _) rfl gl_RX5 2 (by decide) rfl gf_RX5_16 rfl dX5_offAt_15 ?_
  refine r_bipush F (by decide) dX5_offAt_18 ?_
  refine r_iload_n F hl 1 rfl rfl dX5_offAt_20 ?_
  refine r_iadd F dX5_offAt_21 ?_
  refine r_iald F X 37 (by decide) (eK_37 G) (by omega) (by decide) dX5_offAt_22 ?_
  refine r_eqI (b := r (44 + q)) (by rw [hro]) ?_
  refine r_isub F dX5_offAt_23 ?_
  refine d_cSI F X (c_X5_size l G σ ((f (r (36 + q))) - (r (44 + q))) (by omega)) gv_RX5_131 nd_X5_size rfl (rest := []) rfl (Nat.le_of_ble_eq_true rfl) ⟨Nat.le_of_ble_eq_true rfl, Nat.le_of_ble_eq_true rfl⟩ ⟨Nat.zero_le _, Nat.zero_le _⟩ hl.1 dX5_offAt_24 (fun H locs X => ?_)
  exact r_iret F X hr hk dX5_offAt_27 (⟨rfl, rfl⟩)
theorem c_X5_metNow (l : Launch) (G : GT) (σ : St) (N : Int) (r : Int → Int) (f : Int → Int) (hro : σ 37 = r) (hN : σ 36 1 = N) (hW : WF N r) (hE : EQN (σ 39) f N) (hL : LR f N) : Ct l yX5_metNow cX5_metNow 3 (some .int) 3 G [.ref (gY G 36)] σ (QI G (fun res9 τ => res9 = (btI (mk f r) (r 61)) ∧ τ = σ)) := by
  refine mt (own := RX5) (plainFor_of_name rfl) rfl (Nat.le_of_ble_eq_true rfl) ?_
  intro p e s m args below meth c ls F hr hk X hl
  have hl : lv_has ls 3 [(0, .ref (gY G 36))] := hl
  have hw := hW.num
  refine r_iconst F dX5_metNow_0 ?_
  refine r_istore_n F hl [(1, .int (I 0)), (0, .ref (gY G 36))] rfl (by decide) rfl dX5_metNow_1 (fun ls hl => ?_)
  refine r_iconst F dX5_metNow_2 ?_
  refine r_istore_n F hl [(2, .int (I 0)), (1, .int (I 0)), (0, .ref (gY G 36))] rfl (by decide) rfl dX5_metNow_3 (fun ls hl => ?_)
  have loop4 : ∀ (n : Nat) (i : Int) (ls : Array Slot) (H : Heap) (locs : List Loc) (hn : r 61 - i < n) (hi : 0 ≤ i ∧ i ≤ r 61) (X : HX G σ s H locs) (hl : lv_has ls 3 [(0, .ref (gY G 36)), (1, .int (I (btI (mk f r) i))), (2, .int (I i))]), W p l e (rmd 3) s m args below meth c H locs 0 0 (MQ below (QI G (fun res9 τ => res9 = (btI (mk f r) (r 61)) ∧ τ = σ)) args s 0 0 (gA G)) (F0 m 4 ls []) := by
    intro n
    induction n with
    | zero => intro i ls H locs hn hi X hl; omega
    | succ n ih4 =>
      intro i ls H locs hn hi X hl
      refine r_iload_n F hl 2 rfl rfl dX5_metNow_4 ?_
      refine r_aload_n F hl 0 rfl rfl dX5_metNow_5 ?_
      refine r_get F X 36 (by decide) (eK_36 G _) rfl gl_RX5 2 (by decide) rfl gf_RX5_16 rfl dX5_metNow_6 ?_
      refine r_bipush F (by decide) dX5_metNow_9 ?_
      refine r_iald F X 37 (by decide) (eK_37 G) (by omega) (by decide) dX5_metNow_11 ?_
      refine r_eqI (b := r 61) (by rw [hro]) ?_
      refine r_icmp_ge F 48 (by decide) (by omega) (by omega) dX5_metNow_12 (fun c1 => ?_) (fun c1 => ?_)
      · skip
        refine r_iload_n F hl 1 rfl rfl dX5_metNow_48 ?_
        exact r_iret F X hr hk dX5_metNow_49 (⟨by rw [show i = r 61 by omega], rfl⟩)
      · skip
        have hmo := mo_rg (m := i) hW hL (by omega) (by omega)
        have hmn := hW.mn (i := i) (by omega) (by omega)
        have hbr := bt2_rg (mk f r) i.toNat
        refine r_iload_n F hl 1 rfl rfl dX5_metNow_15 ?_
        refine r_aload_n F hl 0 rfl rfl dX5_metNow_16 ?_
        refine r_iload_n F hl 2 rfl rfl dX5_metNow_17 ?_
        refine d_cVI F X 36 (by decide) (eK_36 G _) rfl (c_X5_offAt l G σ N r f i hro hN hW hE hL (by omega)) gv_RX5_182 rfl nd_X5_offAt rfl (rest := [.int (I (btI (mk f r) i))]) rfl (Nat.le_of_ble_eq_true rfl) ⟨Nat.le_of_ble_eq_true rfl, Nat.le_of_ble_eq_true rfl⟩ ⟨Nat.zero_le _, Nat.zero_le _⟩ hl.1 dX5_metNow_18 (fun H locs X => ?_)
        refine r_aload_n F hl 0 rfl rfl dX5_metNow_21 ?_
        refine r_get F X 36 (by decide) (eK_36 G _) rfl gl_RX5 2 (by decide) rfl gf_RX5_16 rfl dX5_metNow_22 ?_
        refine r_bipush F (by decide) dX5_metNow_25 ?_
        refine r_iload_n F hl 2 rfl rfl dX5_metNow_27 ?_
        refine r_iadd F dX5_metNow_28 ?_
        refine r_iald F X 37 (by decide) (eK_37 G) (by omega) (by decide) dX5_metNow_29 ?_
        refine r_eqI (b := r (52 + i)) (by rw [hro]) ?_
        refine r_icmp_gt F 39 (by decide) (by omega) (by omega) dX5_metNow_30 (fun c2 => ?_) (fun c2 => ?_)
        · skip
          refine r_iconst F dX5_metNow_39 ?_
          refine r_ior F (i.toNat) (by omega) (by unfold btI; omega) (by omega) dX5_metNow_40 ?_
          refine r_eqI (b := btI (mk f r) (i + 1)) (by rw [btI_succ _ (by omega)]; show _ = btI (mk f r) i + (if decide (mo f r i ≤ r (52 + i)) = true then _ else _); first | rw [if_pos (decide_eq_true (by omega))] | rw [if_neg (fun z => absurd (of_decide_eq_true z) (by omega))]) ?_
          refine r_istore_n F hl [(1, .int (I (btI (mk f r) (i + 1)))), (0, .ref (gY G 36)), (2, .int (I i))] rfl (by decide) rfl dX5_metNow_41 (fun ls hl => ?_)
          refine r_iinc F hl [(2, .int (I (i + 1))), (1, .int (I (btI (mk f r) (i + 1)))), (0, .ref (gY G 36))] 2 rfl (by decide) rfl dX5_metNow_42 (fun ls hl => ?_)
          refine r_goto F 4 (by decide) dX5_metNow_45 ?_
          exact ih4 (i + 1) _ _ _ (by omega) (by omega) X (lv_sub hl [2, 1, 0] rfl)
        · skip
          refine r_iconst F dX5_metNow_33 ?_
          refine r_iload_n F hl 2 rfl rfl dX5_metNow_34 ?_
          refine r_shl1 F (by omega) dX5_metNow_35 ?_
          refine r_goto F 40 (by decide) dX5_metNow_36 ?_
          refine r_ior F (i.toNat) (by omega) (by unfold btI; omega) (by omega) dX5_metNow_40 ?_
          refine r_eqI (b := btI (mk f r) (i + 1)) (by rw [btI_succ _ (by omega)]; show _ = btI (mk f r) i + (if decide (mo f r i ≤ r (52 + i)) = true then _ else _); first | rw [if_pos (decide_eq_true (by omega))] | rw [if_neg (fun z => absurd (of_decide_eq_true z) (by omega))]) ?_
          refine r_istore_n F hl [(1, .int (I (btI (mk f r) (i + 1)))), (0, .ref (gY G 36)), (2, .int (I i))] rfl (by decide) rfl dX5_metNow_41 (fun ls hl => ?_)
          refine r_iinc F hl [(2, .int (I (i + 1))), (1, .int (I (btI (mk f r) (i + 1)))), (0, .ref (gY G 36))] 2 rfl (by decide) rfl dX5_metNow_42 (fun ls hl => ?_)
          refine r_goto F 4 (by decide) dX5_metNow_45 ?_
          exact ih4 (i + 1) _ _ _ (by omega) (by omega) X (lv_sub hl [2, 1, 0] rfl)
  exact loop4 (((r 61 - 0 : Int) + 1).toNat) 0 _ _ _ (by omega) (by omega) X (lv_sub hl [2, 1, 0] rfl)
theorem c_X5_isGood (l : Launch) (G : GT) (σ : St) (N : Int) (r : Int → Int) (f : Int → Int) (hro : σ 37 = r) (hN : σ 36 1 = N) (hW : WF N r) (hE : EQN (σ 39) f N) (hL : LR f N) : Ct l yX5_isGood cX5_isGood 3 (some .boolean) 8 G [.ref (gY G 36)] σ (QI G (fun res9 τ => res9 = (if gd f N r = true then 1 else 0) ∧ τ = σ)) := by
  refine mt (own := RX5) (plainFor_of_name rfl) rfl (Nat.le_of_ble_eq_true rfl) ?_
  intro p e s m args below meth c ls F hr hk X hl
  have hl : lv_has ls 3 [(0, .ref (gY G 36))] := hl
  have hw := hW.num
  have hbr := bt2_rg (mk f r) (r 61).toNat
  have hbr2 : 0 ≤ btI (mk f r) (r 61) ∧ btI (mk f r) (r 61) < 2 ^ (r 61).toNat := hbr
  have hp2 : (1 : Int) ≤ 2 ^ (r 61).toNat ∧ (2 : Int) ^ (r 61).toNat ≤ 256 := by rcases (show r 61 = 0 ∨ r 61 = 1 ∨ r 61 = 2 ∨ r 61 = 3 ∨ r 61 = 4 ∨ r 61 = 5 ∨ r 61 = 6 ∨ r 61 = 7 ∨ r 61 = 8 by omega) with q | q | q | q | q | q | q | q | q <;> rw [q] <;> decide
  have hba := @bt_all (mk f r) (r 61)
  refine r_aload_n F hl 0 rfl rfl dX5_isGood_0 ?_
  refine d_cVI F X 36 (by decide) (eK_36 G _) rfl (c_X5_metNow l G σ N r f hro hN hW hE hL) gv_RX5_185 rfl nd_X5_metNow rfl (rest := []) rfl (Nat.le_of_ble_eq_true rfl) ⟨Nat.le_of_ble_eq_true rfl, Nat.le_of_ble_eq_true rfl⟩ ⟨Nat.zero_le _, Nat.zero_le _⟩ hl.1 dX5_isGood_1 (fun H locs X => ?_)
  refine r_iconst F dX5_isGood_4 ?_
  refine r_aload_n F hl 0 rfl rfl dX5_isGood_5 ?_
  refine r_get F X 36 (by decide) (eK_36 G _) rfl gl_RX5 2 (by decide) rfl gf_RX5_16 rfl dX5_isGood_6 ?_
  refine r_bipush F (by decide) dX5_isGood_9 ?_
  refine r_iald F X 37 (by decide) (eK_37 G) (by omega) (by decide) dX5_isGood_11 ?_
  refine r_eqI (b := r 61) (by rw [hro]) ?_
  refine r_shl1 F (by omega) dX5_isGood_12 ?_
  refine r_iconst F dX5_isGood_13 ?_
  refine r_isub F dX5_isGood_14 ?_
  refine r_icmp_ne F 22 (by decide) (by omega) (by omega) dX5_isGood_15 (fun c1 => ?_) (fun c1 => ?_)
  · skip
    refine r_iconst F dX5_isGood_22 ?_
    refine r_eqI (b := if (alI (mk f r) (r 61) && alI (ok1 f N r) 0) = true then 1 else 0) (by rw [alI_0, Bool.and_true]; first | rw [if_pos (hba.mp (by assumption))] | rw [if_neg (fun z => by have := hba.mpr z; omega)] | rw [if_pos (hba.mp (by omega))]) ?_
    refine r_istore_n F hl [(1, .int (I (if (alI (mk f r) (r 61) && alI (ok1 f N r) 0) = true then 1 else 0))), (0, .ref (gY G 36))] rfl (by decide) rfl dX5_isGood_23 (fun ls hl => ?_)
    refine r_iconst F dX5_isGood_24 ?_
    refine r_istore_n F hl [(2, .int (I 0)), (1, .int (I (if (alI (mk f r) (r 61) && alI (ok1 f N r) 0) = true then 1 else 0))), (0, .ref (gY G 36))] rfl (by decide) rfl dX5_isGood_25 (fun ls hl => ?_)
    have loop26 : ∀ (n : Nat) (i : Int) (ls : Array Slot) (H : Heap) (locs : List Loc) (hn : N - i < n) (hi : 0 ≤ i ∧ i ≤ N) (X : HX G σ s H locs) (hl : lv_has ls 3 [(0, .ref (gY G 36)), (1, .int (I (if (alI (mk f r) (r 61) && alI (ok1 f N r) i) = true then 1 else 0))), (2, .int (I i))]), W p l e (rmd 8) s m args below meth c H locs 0 0 (MQ below (QI G (fun res9 τ => res9 = (if gd f N r = true then 1 else 0) ∧ τ = σ)) args s 0 0 (gA G)) (F0 m 26 ls []) := by
      intro n
      induction n with
      | zero => intro i ls H locs hn hi X hl; omega
      | succ n ih26 =>
        intro i ls H locs hn hi X hl
        refine r_iload_n F hl 2 rfl rfl dX5_isGood_26 ?_
        refine r_aload_n F hl 0 rfl rfl dX5_isGood_27 ?_
        refine r_get F X 36 (by decide) (eK_36 G _) rfl gl_RX5 1 (by decide) rfl gf_RX5_13 rfl dX5_isGood_28 ?_
        refine r_eqI (b := N) (hN) ?_
        refine r_icmp_ge F 76 (by decide) (by omega) (by omega) dX5_isGood_31 (fun c2 => ?_) (fun c2 => ?_)
        · skip
          refine r_iload_n F hl 1 rfl rfl dX5_isGood_76 ?_
          exact r_zret F X hr hk (by split <;> simp) dX5_isGood_77 (⟨gd_stop hi.1 hi.2 (by first | exact Or.inl (by omega) | exact Or.inr (by assumption)), rfl⟩)
        · skip
          refine r_iload_n F hl 1 rfl rfl dX5_isGood_34 ?_
          refine r_bz_eq F 76 ((alI (mk f r) (r 61) && alI (ok1 f N r) i) = true) rfl (by decide) dX5_isGood_35 (fun c3 => ?_) (fun c3 => ?_)
          · skip
            refine r_iload_n F hl 1 rfl rfl dX5_isGood_76 ?_
            exact r_zret F X hr hk (by split <;> simp) dX5_isGood_77 (⟨gd_stop hi.1 hi.2 (by first | exact Or.inl (by omega) | exact Or.inr (by assumption)), rfl⟩)
          · skip
            refine r_aload_n F hl 0 rfl rfl dX5_isGood_38 ?_
            refine r_iload_n F hl 2 rfl rfl dX5_isGood_39 ?_
            refine d_cVI F X 36 (by decide) (eK_36 G _) rfl (c_X5_undercutAt l G σ N r f i hro hN hW hE hL (by omega)) gv_RX5_167 rfl nd_X5_undercutAt rfl (rest := []) rfl (Nat.le_of_ble_eq_true rfl) ⟨Nat.le_of_ble_eq_true rfl, Nat.le_of_ble_eq_true rfl⟩ ⟨Nat.zero_le _, Nat.zero_le _⟩ hl.1 dX5_isGood_40 (fun H locs X => ?_)
            have hu2 : ucq (r 64) f N r i = 0 ∨ ucq (r 64) f N r i = 1 ∨ ucq (r 64) f N r i = 2 := uc_012 _ _ _
            refine r_if_ne F 68 (by decide) (by omega) dX5_isGood_43 (fun c4 => ?_) (fun c4 => ?_)
            · skip
              refine r_iconst F dX5_isGood_68 ?_
              refine r_eqI (b := if (alI (mk f r) (r 61) && alI (ok1 f N r) (i + 1)) = true then 1 else 0) (by rw [alI_succ _ hi.1]; first | (have h9 := ok_yes (f := f) (N := N) (r := r) (i := i) (by omega) (by assumption) (by assumption); grind) | (have h9 := ok_no1 (f := f) (N := N) (r := r) (i := i) (by omega); grind) | (have h9 := ok_no2 (f := f) (N := N) (r := r) (i := i) (by assumption); grind) | (have h9 := ok_no3 (f := f) (N := N) (r := r) (i := i) (by assumption); grind)) ?_
              refine r_istore_n F hl [(1, .int (I (if (alI (mk f r) (r 61) && alI (ok1 f N r) (i + 1)) = true then 1 else 0))), (0, .ref (gY G 36)), (2, .int (I i))] rfl (by decide) rfl dX5_isGood_69 (fun ls hl => ?_)
              refine r_iinc F hl [(2, .int (I (i + 1))), (1, .int (I (if (alI (mk f r) (r 61) && alI (ok1 f N r) (i + 1)) = true then 1 else 0))), (0, .ref (gY G 36))] 2 rfl (by decide) rfl dX5_isGood_70 (fun ls hl => ?_)
              refine r_goto F 26 (by decide) dX5_isGood_73 ?_
              exact ih26 (i + 1) _ _ _ (by omega) (by omega) X (lv_sub hl [2, 1, 0] rfl)
            · skip
              refine r_aload_n F hl 0 rfl rfl dX5_isGood_46 ?_
              refine r_iload_n F hl 2 rfl rfl dX5_isGood_47 ?_
              refine r_iconst F dX5_isGood_48 ?_
              refine d_cVI F X 36 (by decide) (eK_36 G _) rfl (c_X5_isBad l G σ N r f i 2 hro hN hW hE hL (by omega) (by omega)) gv_RX5_176 rfl nd_X5_isBad rfl (rest := []) rfl (Nat.le_of_ble_eq_true rfl) ⟨Nat.le_of_ble_eq_true rfl, Nat.le_of_ble_eq_true rfl⟩ ⟨Nat.zero_le _, Nat.zero_le _⟩ hl.1 dX5_isGood_49 (fun H locs X => ?_)
              refine r_bz_ne F 68 (bd f N r 2 i = true) rfl (by decide) dX5_isGood_52 (fun c5 => ?_) (fun c5 => ?_)
              · skip
                refine r_iconst F dX5_isGood_68 ?_
                refine r_eqI (b := if (alI (mk f r) (r 61) && alI (ok1 f N r) (i + 1)) = true then 1 else 0) (by rw [alI_succ _ hi.1]; first | (have h9 := ok_yes (f := f) (N := N) (r := r) (i := i) (by omega) (by assumption) (by assumption); grind) | (have h9 := ok_no1 (f := f) (N := N) (r := r) (i := i) (by omega); grind) | (have h9 := ok_no2 (f := f) (N := N) (r := r) (i := i) (by assumption); grind) | (have h9 := ok_no3 (f := f) (N := N) (r := r) (i := i) (by assumption); grind)) ?_
                refine r_istore_n F hl [(1, .int (I (if (alI (mk f r) (r 61) && alI (ok1 f N r) (i + 1)) = true then 1 else 0))), (0, .ref (gY G 36)), (2, .int (I i))] rfl (by decide) rfl dX5_isGood_69 (fun ls hl => ?_)
                refine r_iinc F hl [(2, .int (I (i + 1))), (1, .int (I (if (alI (mk f r) (r 61) && alI (ok1 f N r) (i + 1)) = true then 1 else 0))), (0, .ref (gY G 36))] 2 rfl (by decide) rfl dX5_isGood_70 (fun ls hl => ?_)
                refine r_goto F 26 (by decide) dX5_isGood_73 ?_
                exact ih26 (i + 1) _ _ _ (by omega) (by omega) X (lv_sub hl [2, 1, 0] rfl)
              · skip
                refine r_aload_n F hl 0 rfl rfl dX5_isGood_55 ?_
                refine r_iload_n F hl 2 rfl rfl dX5_isGood_56 ?_
                refine r_iconst F dX5_isGood_57 ?_
                refine d_cVI F X 36 (by decide) (eK_36 G _) rfl (c_X5_isBad l G σ N r f i 3 hro hN hW hE hL (by omega) (by omega)) gv_RX5_176 rfl nd_X5_isBad rfl (rest := []) rfl (Nat.le_of_ble_eq_true rfl) ⟨Nat.le_of_ble_eq_true rfl, Nat.le_of_ble_eq_true rfl⟩ ⟨Nat.zero_le _, Nat.zero_le _⟩ hl.1 dX5_isGood_58 (fun H locs X => ?_)
                refine r_bz_ne F 68 (bd f N r 3 i = true) rfl (by decide) dX5_isGood_61 (fun c6 => ?_) (fun c6 => ?_)
                · skip
                  refine r_iconst F dX5_isGood_68 ?_
                  refine r_eqI (b := if (alI (mk f r) (r 61) && alI (ok1 f N r) (i + 1)) = true then 1 else 0) (by rw [alI_succ _ hi.1]; first | (have h9 := ok_yes (f := f) (N := N) (r := r) (i := i) (by omega) (by assumption) (by assumption); grind) | (have h9 := ok_no1 (f := f) (N := N) (r := r) (i := i) (by omega); grind) | (have h9 := ok_no2 (f := f) (N := N) (r := r) (i := i) (by assumption); grind) | (have h9 := ok_no3 (f := f) (N := N) (r := r) (i := i) (by assumption); grind)) ?_
                  refine r_istore_n F hl [(1, .int (I (if (alI (mk f r) (r 61) && alI (ok1 f N r) (i + 1)) = true then 1 else 0))), (0, .ref (gY G 36)), (2, .int (I i))] rfl (by decide) rfl dX5_isGood_69 (fun ls hl => ?_)
                  refine r_iinc F hl [(2, .int (I (i + 1))), (1, .int (I (if (alI (mk f r) (r 61) && alI (ok1 f N r) (i + 1)) = true then 1 else 0))), (0, .ref (gY G 36))] 2 rfl (by decide) rfl dX5_isGood_70 (fun ls hl => ?_)
                  refine r_goto F 26 (by decide) dX5_isGood_73 ?_
                  exact ih26 (i + 1) _ _ _ (by omega) (by omega) X (lv_sub hl [2, 1, 0] rfl)
                · skip
                  refine r_iconst F dX5_isGood_64 ?_
                  refine r_goto F 69 (by decide) dX5_isGood_65 ?_
                  refine r_eqI (b := if (alI (mk f r) (r 61) && alI (ok1 f N r) (i + 1)) = true then 1 else 0) (by rw [alI_succ _ hi.1]; first | (have h9 := ok_yes (f := f) (N := N) (r := r) (i := i) (by omega) (by assumption) (by assumption); grind) | (have h9 := ok_no1 (f := f) (N := N) (r := r) (i := i) (by omega); grind) | (have h9 := ok_no2 (f := f) (N := N) (r := r) (i := i) (by assumption); grind) | (have h9 := ok_no3 (f := f) (N := N) (r := r) (i := i) (by assumption); grind)) ?_
                  refine r_istore_n F hl [(1, .int (I (if (alI (mk f r) (r 61) && alI (ok1 f N r) (i + 1)) = true then 1 else 0))), (0, .ref (gY G 36)), (2, .int (I i))] rfl (by decide) rfl dX5_isGood_69 (fun ls hl => ?_)
                  refine r_iinc F hl [(2, .int (I (i + 1))), (1, .int (I (if (alI (mk f r) (r 61) && alI (ok1 f N r) (i + 1)) = true then 1 else 0))), (0, .ref (gY G 36))] 2 rfl (by decide) rfl dX5_isGood_70 (fun ls hl => ?_)
                  refine r_goto F 26 (by decide) dX5_isGood_73 ?_
                  exact ih26 (i + 1) _ _ _ (by omega) (by omega) X (lv_sub hl [2, 1, 0] rfl)
    exact loop26 (((N - 0 : Int) + 1).toNat) 0 _ _ _ (by omega) (by omega) X (lv_sub hl [2, 1, 0] rfl)
  · skip
    refine r_iconst F dX5_isGood_18 ?_
    refine r_goto F 23 (by decide) dX5_isGood_19 ?_
    refine r_eqI (b := if (alI (mk f r) (r 61) && alI (ok1 f N r) 0) = true then 1 else 0) (by rw [alI_0, Bool.and_true]; first | rw [if_pos (hba.mp (by assumption))] | rw [if_neg (fun z => by have := hba.mpr z; omega)] | rw [if_pos (hba.mp (by omega))]) ?_
    refine r_istore_n F hl [(1, .int (I (if (alI (mk f r) (r 61) && alI (ok1 f N r) 0) = true then 1 else 0))), (0, .ref (gY G 36))] rfl (by decide) rfl dX5_isGood_23 (fun ls hl => ?_)
    refine r_iconst F dX5_isGood_24 ?_
    refine r_istore_n F hl [(2, .int (I 0)), (1, .int (I (if (alI (mk f r) (r 61) && alI (ok1 f N r) 0) = true then 1 else 0))), (0, .ref (gY G 36))] rfl (by decide) rfl dX5_isGood_25 (fun ls hl => ?_)
    have loop26 : ∀ (n : Nat) (i : Int) (ls : Array Slot) (H : Heap) (locs : List Loc) (hn : N - i < n) (hi : 0 ≤ i ∧ i ≤ N) (X : HX G σ s H locs) (hl : lv_has ls 3 [(0, .ref (gY G 36)), (1, .int (I (if (alI (mk f r) (r 61) && alI (ok1 f N r) i) = true then 1 else 0))), (2, .int (I i))]), W p l e (rmd 8) s m args below meth c H locs 0 0 (MQ below (QI G (fun res9 τ => res9 = (if gd f N r = true then 1 else 0) ∧ τ = σ)) args s 0 0 (gA G)) (F0 m 26 ls []) := by
      intro n
      induction n with
      | zero => intro i ls H locs hn hi X hl; omega
      | succ n ih26 =>
        intro i ls H locs hn hi X hl
        refine r_iload_n F hl 2 rfl rfl dX5_isGood_26 ?_
        refine r_aload_n F hl 0 rfl rfl dX5_isGood_27 ?_
        refine r_get F X 36 (by decide) (eK_36 G _) rfl gl_RX5 1 (by decide) rfl gf_RX5_13 rfl dX5_isGood_28 ?_
        refine r_eqI (b := N) (hN) ?_
        refine r_icmp_ge F 76 (by decide) (by omega) (by omega) dX5_isGood_31 (fun c7 => ?_) (fun c7 => ?_)
        · skip
          refine r_iload_n F hl 1 rfl rfl dX5_isGood_76 ?_
          exact r_zret F X hr hk (by split <;> simp) dX5_isGood_77 (⟨gd_stop hi.1 hi.2 (by first | exact Or.inl (by omega) | exact Or.inr (by assumption)), rfl⟩)
        · skip
          refine r_iload_n F hl 1 rfl rfl dX5_isGood_34 ?_
          refine r_bz_eq F 76 ((alI (mk f r) (r 61) && alI (ok1 f N r) i) = true) rfl (by decide) dX5_isGood_35 (fun c8 => ?_) (fun c8 => ?_)
          · skip
            refine r_iload_n F hl 1 rfl rfl dX5_isGood_76 ?_
            exact r_zret F X hr hk (by split <;> simp) dX5_isGood_77 (⟨gd_stop hi.1 hi.2 (by first | exact Or.inl (by omega) | exact Or.inr (by assumption)), rfl⟩)
          · skip
            refine r_aload_n F hl 0 rfl rfl dX5_isGood_38 ?_
            refine r_iload_n F hl 2 rfl rfl dX5_isGood_39 ?_
            refine d_cVI F X 36 (by decide) (eK_36 G _) rfl (c_X5_undercutAt l G σ N r f i hro hN hW hE hL (by omega)) gv_RX5_167 rfl nd_X5_undercutAt rfl (rest := []) rfl (Nat.le_of_ble_eq_true rfl) ⟨Nat.le_of_ble_eq_true rfl, Nat.le_of_ble_eq_true rfl⟩ ⟨Nat.zero_le _, Nat.zero_le _⟩ hl.1 dX5_isGood_40 (fun H locs X => ?_)
            have hu2 : ucq (r 64) f N r i = 0 ∨ ucq (r 64) f N r i = 1 ∨ ucq (r 64) f N r i = 2 := uc_012 _ _ _
            refine r_if_ne F 68 (by decide) (by omega) dX5_isGood_43 (fun c9 => ?_) (fun c9 => ?_)
            · skip
              refine r_iconst F dX5_isGood_68 ?_
              refine r_eqI (b := if (alI (mk f r) (r 61) && alI (ok1 f N r) (i + 1)) = true then 1 else 0) (by rw [alI_succ _ hi.1]; first | (have h9 := ok_yes (f := f) (N := N) (r := r) (i := i) (by omega) (by assumption) (by assumption); grind) | (have h9 := ok_no1 (f := f) (N := N) (r := r) (i := i) (by omega); grind) | (have h9 := ok_no2 (f := f) (N := N) (r := r) (i := i) (by assumption); grind) | (have h9 := ok_no3 (f := f) (N := N) (r := r) (i := i) (by assumption); grind)) ?_
              refine r_istore_n F hl [(1, .int (I (if (alI (mk f r) (r 61) && alI (ok1 f N r) (i + 1)) = true then 1 else 0))), (0, .ref (gY G 36)), (2, .int (I i))] rfl (by decide) rfl dX5_isGood_69 (fun ls hl => ?_)
              refine r_iinc F hl [(2, .int (I (i + 1))), (1, .int (I (if (alI (mk f r) (r 61) && alI (ok1 f N r) (i + 1)) = true then 1 else 0))), (0, .ref (gY G 36))] 2 rfl (by decide) rfl dX5_isGood_70 (fun ls hl => ?_)
              refine r_goto F 26 (by decide) dX5_isGood_73 ?_
              exact ih26 (i + 1) _ _ _ (by omega) (by omega) X (lv_sub hl [2, 1, 0] rfl)
            · skip
              refine r_aload_n F hl 0 rfl rfl dX5_isGood_46 ?_
              refine r_iload_n F hl 2 rfl rfl dX5_isGood_47 ?_
              refine r_iconst F dX5_isGood_48 ?_
              refine d_cVI F X 36 (by decide) (eK_36 G _) rfl (c_X5_isBad l G σ N r f i 2 hro hN hW hE hL (by omega) (by omega)) gv_RX5_176 rfl nd_X5_isBad rfl (rest := []) rfl (Nat.le_of_ble_eq_true rfl) ⟨Nat.le_of_ble_eq_true rfl, Nat.le_of_ble_eq_true rfl⟩ ⟨Nat.zero_le _, Nat.zero_le _⟩ hl.1 dX5_isGood_49 (fun H locs X => ?_)
              refine r_bz_ne F 68 (bd f N r 2 i = true) rfl (by decide) dX5_isGood_52 (fun c10 => ?_) (fun c10 => ?_)
              · skip
                refine r_iconst F dX5_isGood_68 ?_
                refine r_eqI (b := if (alI (mk f r) (r 61) && alI (ok1 f N r) (i + 1)) = true then 1 else 0) (by rw [alI_succ _ hi.1]; first | (have h9 := ok_yes (f := f) (N := N) (r := r) (i := i) (by omega) (by assumption) (by assumption); grind) | (have h9 := ok_no1 (f := f) (N := N) (r := r) (i := i) (by omega); grind) | (have h9 := ok_no2 (f := f) (N := N) (r := r) (i := i) (by assumption); grind) | (have h9 := ok_no3 (f := f) (N := N) (r := r) (i := i) (by assumption); grind)) ?_
                refine r_istore_n F hl [(1, .int (I (if (alI (mk f r) (r 61) && alI (ok1 f N r) (i + 1)) = true then 1 else 0))), (0, .ref (gY G 36)), (2, .int (I i))] rfl (by decide) rfl dX5_isGood_69 (fun ls hl => ?_)
                refine r_iinc F hl [(2, .int (I (i + 1))), (1, .int (I (if (alI (mk f r) (r 61) && alI (ok1 f N r) (i + 1)) = true then 1 else 0))), (0, .ref (gY G 36))] 2 rfl (by decide) rfl dX5_isGood_70 (fun ls hl => ?_)
                refine r_goto F 26 (by decide) dX5_isGood_73 ?_
                exact ih26 (i + 1) _ _ _ (by omega) (by omega) X (lv_sub hl [2, 1, 0] rfl)
              · skip
                refine r_aload_n F hl 0 rfl rfl dX5_isGood_55 ?_
                refine r_iload_n F hl 2 rfl rfl dX5_isGood_56 ?_
                refine r_iconst F dX5_isGood_57 ?_
                refine d_cVI F X 36 (by decide) (eK_36 G _) rfl (c_X5_isBad l G σ N r f i 3 hro hN hW hE hL (by omega) (by omega)) gv_RX5_176 rfl nd_X5_isBad rfl (rest := []) rfl (Nat.le_of_ble_eq_true rfl) ⟨Nat.le_of_ble_eq_true rfl, Nat.le_of_ble_eq_true rfl⟩ ⟨Nat.zero_le _, Nat.zero_le _⟩ hl.1 dX5_isGood_58 (fun H locs X => ?_)
                refine r_bz_ne F 68 (bd f N r 3 i = true) rfl (by decide) dX5_isGood_61 (fun c11 => ?_) (fun c11 => ?_)
                · skip
                  refine r_iconst F dX5_isGood_68 ?_
                  refine r_eqI (b := if (alI (mk f r) (r 61) && alI (ok1 f N r) (i + 1)) = true then 1 else 0) (by rw [alI_succ _ hi.1]; first | (have h9 := ok_yes (f := f) (N := N) (r := r) (i := i) (by omega) (by assumption) (by assumption); grind) | (have h9 := ok_no1 (f := f) (N := N) (r := r) (i := i) (by omega); grind) | (have h9 := ok_no2 (f := f) (N := N) (r := r) (i := i) (by assumption); grind) | (have h9 := ok_no3 (f := f) (N := N) (r := r) (i := i) (by assumption); grind)) ?_
                  refine r_istore_n F hl [(1, .int (I (if (alI (mk f r) (r 61) && alI (ok1 f N r) (i + 1)) = true then 1 else 0))), (0, .ref (gY G 36)), (2, .int (I i))] rfl (by decide) rfl dX5_isGood_69 (fun ls hl => ?_)
                  refine r_iinc F hl [(2, .int (I (i + 1))), (1, .int (I (if (alI (mk f r) (r 61) && alI (ok1 f N r) (i + 1)) = true then 1 else 0))), (0, .ref (gY G 36))] 2 rfl (by decide) rfl dX5_isGood_70 (fun ls hl => ?_)
                  refine r_goto F 26 (by decide) dX5_isGood_73 ?_
                  exact ih26 (i + 1) _ _ _ (by omega) (by omega) X (lv_sub hl [2, 1, 0] rfl)
                · skip
                  refine r_iconst F dX5_isGood_64 ?_
                  refine r_goto F 69 (by decide) dX5_isGood_65 ?_
                  refine r_eqI (b := if (alI (mk f r) (r 61) && alI (ok1 f N r) (i + 1)) = true then 1 else 0) (by rw [alI_succ _ hi.1]; first | (have h9 := ok_yes (f := f) (N := N) (r := r) (i := i) (by omega) (by assumption) (by assumption); grind) | (have h9 := ok_no1 (f := f) (N := N) (r := r) (i := i) (by omega); grind) | (have h9 := ok_no2 (f := f) (N := N) (r := r) (i := i) (by assumption); grind) | (have h9 := ok_no3 (f := f) (N := N) (r := r) (i := i) (by assumption); grind)) ?_
                  refine r_istore_n F hl [(1, .int (I (if (alI (mk f r) (r 61) && alI (ok1 f N r) (i + 1)) = true then 1 else 0))), (0, .ref (gY G 36)), (2, .int (I i))] rfl (by decide) rfl dX5_isGood_69 (fun ls hl => ?_)
                  refine r_iinc F hl [(2, .int (I (i + 1))), (1, .int (I (if (alI (mk f r) (r 61) && alI (ok1 f N r) (i + 1)) = true then 1 else 0))), (0, .ref (gY G 36))] 2 rfl (by decide) rfl dX5_isGood_70 (fun ls hl => ?_)
                  refine r_goto F 26 (by decide) dX5_isGood_73 ?_
                  exact ih26 (i + 1) _ _ _ (by omega) (by omega) X (lv_sub hl [2, 1, 0] rfl)
    exact loop26 (((N - 0 : Int) + 1).toNat) 0 _ _ _ (by omega) (by omega) X (lv_sub hl [2, 1, 0] rfl)
theorem c_X5_turned (l : Launch) (G : GT) (σ : St) (N : Int) (r : Int → Int) (hro : σ 37 = r) (hN : σ 36 1 = N) (hW : WF N r) : Ct l yX5_turned cX5_turned 3 (some .int) 3 G [.ref (gY G 36)] σ (QI G (fun res9 τ => res9 = (mvI r (r 60)) ∧ τ = σ)) := by
  refine mt (own := RX5) (plainFor_of_name rfl) rfl (Nat.le_of_ble_eq_true rfl) ?_
  intro p e s m args below meth c ls F hr hk X hl
  have hl : lv_has ls 3 [(0, .ref (gY G 36))] := hl
  have hw := hW.num
  refine r_iconst F dX5_turned_0 ?_
  refine r_istore_n F hl [(1, .int (I 0)), (0, .ref (gY G 36))] rfl (by decide) rfl dX5_turned_1 (fun ls hl => ?_)
  refine r_iconst F dX5_turned_2 ?_
  refine r_istore_n F hl [(2, .int (I 0)), (1, .int (I 0)), (0, .ref (gY G 36))] rfl (by decide) rfl dX5_turned_3 (fun ls hl => ?_)
  have loop4 : ∀ (n : Nat) (t : Int) (ls : Array Slot) (H : Heap) (locs : List Loc) (hn : r 60 - t < n) (ht : 0 ≤ t ∧ t ≤ r 60) (X : HX G σ s H locs) (hl : lv_has ls 3 [(0, .ref (gY G 36)), (1, .int (I (mvI r t))), (2, .int (I t))]), W p l e (rmd 3) s m args below meth c H locs 0 0 (MQ below (QI G (fun res9 τ => res9 = (mvI r (r 60)) ∧ τ = σ)) args s 0 0 (gA G)) (F0 m 4 ls []) := by
    intro n
    induction n with
    | zero => intro t ls H locs hn ht X hl; omega
    | succ n ih4 =>
      intro t ls H locs hn ht X hl
      refine r_iload_n F hl 2 rfl rfl dX5_turned_4 ?_
      refine r_aload_n F hl 0 rfl rfl dX5_turned_5 ?_
      refine r_get F X 36 (by decide) (eK_36 G _) rfl gl_RX5 2 (by decide) rfl gf_RX5_16 rfl dX5_turned_6 ?_
      refine r_bipush F (by decide) dX5_turned_9 ?_
      refine r_iald F X 37 (by decide) (eK_37 G) (by omega) (by decide) dX5_turned_11 ?_
      refine r_eqI (b := r 60) (by rw [hro]) ?_
      refine r_icmp_ge F 37 (by decide) (by omega) (by omega) dX5_turned_12 (fun c1 => ?_) (fun c1 => ?_)
      · skip
        refine r_iload_n F hl 1 rfl rfl dX5_turned_37 ?_
        exact r_iret F X hr hk dX5_turned_38 (⟨by rw [show t = r 60 by omega], rfl⟩)
      · skip
        refine r_iload_n F hl 1 rfl rfl dX5_turned_15 ?_
        refine r_aload_n F hl 0 rfl rfl dX5_turned_16 ?_
        refine r_iload_n F hl 2 rfl rfl dX5_turned_17 ?_
        refine d_cVI F X 36 (by decide) (eK_36 G _) rfl (c_X5_isDwell l G σ N r t hro hN hW (by omega)) gv_RX5_81 rfl nd_X5_isDwell rfl (rest := [.int (I (mvI r t))]) rfl (Nat.le_of_ble_eq_true rfl) ⟨Nat.le_of_ble_eq_true rfl, Nat.le_of_ble_eq_true rfl⟩ ⟨Nat.zero_le _, Nat.zero_le _⟩ hl.1 dX5_turned_18 (fun H locs X => ?_)
        refine r_bz_eq F 28 (dwl r t = true) rfl (by decide) dX5_turned_21 (fun c2 => ?_) (fun c2 => ?_)
        · skip
          refine r_iconst F dX5_turned_28 ?_
          refine r_iadd F dX5_turned_29 ?_
          refine r_eqI (b := mvI r (t + 1)) (by rw [mvI_succ r ht.1]; first | rw [if_pos (by assumption)] | rw [if_neg (by assumption)]) ?_
          refine r_istore_n F hl [(1, .int (I (mvI r (t + 1)))), (0, .ref (gY G 36)), (2, .int (I t))] rfl (by decide) rfl dX5_turned_30 (fun ls hl => ?_)
          refine r_iinc F hl [(2, .int (I (t + 1))), (1, .int (I (mvI r (t + 1)))), (0, .ref (gY G 36))] 2 rfl (by decide) rfl dX5_turned_31 (fun ls hl => ?_)
          refine r_goto F 4 (by decide) dX5_turned_34 ?_
          exact ih4 (t + 1) _ _ _ (by omega) (by omega) X (lv_sub hl [2, 1, 0] rfl)
        · skip
          refine r_iconst F dX5_turned_24 ?_
          refine r_goto F 29 (by decide) dX5_turned_25 ?_
          refine r_iadd F dX5_turned_29 ?_
          refine r_eqI (b := mvI r (t + 1)) (by rw [mvI_succ r ht.1]; first | rw [if_pos (by assumption)] | rw [if_neg (by assumption)]) ?_
          refine r_istore_n F hl [(1, .int (I (mvI r (t + 1)))), (0, .ref (gY G 36)), (2, .int (I t))] rfl (by decide) rfl dX5_turned_30 (fun ls hl => ?_)
          refine r_iinc F hl [(2, .int (I (t + 1))), (1, .int (I (mvI r (t + 1)))), (0, .ref (gY G 36))] 2 rfl (by decide) rfl dX5_turned_31 (fun ls hl => ?_)
          refine r_goto F 4 (by decide) dX5_turned_34 ?_
          exact ih4 (t + 1) _ _ _ (by omega) (by omega) X (lv_sub hl [2, 1, 0] rfl)
  exact loop4 (((r 60 - 0 : Int) + 1).toNat) 0 _ _ _ (by omega) (by omega) X (lv_sub hl [2, 1, 0] rfl)
