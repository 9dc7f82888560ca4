theorem am_in (lt : Int → Int → Bool) {n : Int} (h : 0 ≤ n) : 0 ≤ amI lt n ∧ (amI lt n < n ∨ amI lt n = 0) := by
  rcases (show n = 0 ∨ 0 < n by omega) with q | q
  · subst q; exact ⟨Int.le_refl 0, Or.inr rfl⟩
  · have := amI_rg lt q; omega
theorem mval_pr (f : Int → Int) (N : Int) (r : Int → Int) (i : Int) {k : Nat} (h : 1 ≤ k ∧ k ≤ 3) : mval f N r (i + N - 1) k = mval f N r (i - 1) k := by
  rw [← mval_mod f N r (i + N - 1) h, ← mval_mod f N r (i - 1) h, show i + N - 1 = i - 1 + N by omega, Int.add_emod_right]
theorem c_X5_border (l : Launch) (G : GT) (σ : St) (N : Int) (r : Int → Int) (n : Int) (hs : Int → Int → Int) (s2 : Int) (hM : MX σ N r n hs) (hW : WF N r) (hs2 : -2147483648 ≤ s2 ∧ s2 < 2147483648) : Ct l yX5_border cX5_border 4 (some .int) 5 G [.ref (gY G 36), .int (I s2)] σ (QI G (fun x9 τ9 => x9 = qBorder N r s2 ∧ MX τ9 N r n hs ∧ KY σ τ9 ∧ τ9 36 0 = 0)) := by
  refine mt (own := RX5) (plainFor_of_name rfl) rfl (Nat.le_of_ble_eq_true rfl) ?_
  intro p e s m args below meth c ls F hr hk X hl
  have hl : lv_has ls 4 [(0, .ref (gY G 36)), (1, .int (I s2))] := hl
  have hw := hW.num
  have hro := hM.2.1
  have hN := hM.1
  refine r_aload_n F hl 0 rfl rfl dX5_border_0 ?_
  refine r_iconst F dX5_border_1 ?_
  refine r_put F X 36 (by decide) (upI (σ 36) 0 0) (eK_36 G _) rfl gl_RX5 tyX5 tyX5_ok nmX5 0 (by decide) rfl gf_RX5_1 rfl (tyX5_ok 0 (by decide)) rfl rfl (Nat.le_of_ble_eq_true rfl) (eK_36 G _) dX5_border_2 (fun H locs X => ?_)
  obtain ⟨σ1, eσ1⟩ : ∃ x9 : St, x9 = up σ 36 (upI (σ 36) 0 0) := ⟨_, rfl⟩
  rw [← eσ1] at X
  have hrσ1 : σ1 37 = r := by rw [eσ1, up_ne (by omega)]; exact hro
  have hNσ1 : σ1 36 1 = N := by rw [eσ1, up_eq, upI_ne (by omega)]; exact hN
  have hM1 := hM.th (v := 0) eσ1
  refine r_aload_n F hl 0 rfl rfl dX5_border_5 ?_
  refine r_iload_n F hl 1 rfl rfl dX5_border_6 ?_
  refine d_cVI F X 36 (by decide) (eK_36 G _) rfl (c_X5_isSegment l G σ1 N r s2 hrσ1 hNσ1 hW (by omega)) gv_RX5_52 rfl nd_X5_isSegment rfl (rest := []) rfl (Nat.le_of_ble_eq_true rfl) ⟨Nat.le_of_ble_eq_true rfl, Nat.le_of_ble_eq_true rfl⟩ ⟨Nat.zero_le _, Nat.zero_le _⟩ hl.1 dX5_border_7 (fun H locs X => ?_)
  refine r_bz_eq F 20 (0 ≤ s2 ∧ s2 < r 60) rfl (by decide) dX5_border_10 (fun c1 => ?_) (fun c1 => ?_)
  · skip
    refine r_iconst F dX5_border_20 ?_
    exact r_iret F X hr hk dX5_border_21 (by first | exact ⟨by unfold qBorder; grind, hM2.1, hM2.2.1, hM2.2.2⟩ | exact ⟨by unfold qBorder; grind, hM1.1, hM1.2.1, hM1.2.2⟩)
  · skip
    refine r_aload_n F hl 0 rfl rfl dX5_border_13 ?_
    refine r_cVI F X 36 (by decide) (eK_36 G _) rfl (c_X5_isLaid l G σ1 N r hrσ1 hNσ1 hW) gv_RX5_128 rfl nd_X5_isLaid rfl (rest := []) rfl (Nat.le_of_ble_eq_true rfl) ⟨Nat.le_of_ble_eq_true rfl, Nat.le_of_ble_eq_true rfl⟩ ⟨Nat.zero_le _, Nat.zero_le _⟩ hl.1 dX5_border_14 (fun x1 τ1 H locs hI X => ?_)
    obtain ⟨hx1, hfr1, hE1⟩ := hI
    have hM2 := MX.laid hM1 hfr1
    have hr2 := hM2.1.2.1
    have hN2 := hM2.1.1
    refine r_eqI (b := if whl N r = true then 1 else 0) (hx1) ?_
    refine r_bz_ne F 22 (whl N r = true) rfl (by decide) dX5_border_17 (fun c2 => ?_) (fun c2 => ?_)
    · skip
      have hE2 := hE1 (by assumption)
      have hL := lfI_LR hW (by assumption)
      have hlo1 := hW.lo1 (i := s2) (by omega) (by omega)
      have hbg9 := whl_bg hW (by assumption) (s := s2) (by omega) (by omega)
      have hv1a := mval_rg (r := r) hL (show 0 < N by omega) (bgI r s2) (k := 1) (by omega); have hv1b := mval_rg (r := r) hL (show 0 < N by omega) (bgI r s2 - 1) (k := 1) (by omega); have hv1d := mval_rg (r := r) hL (show 0 < N by omega) (bgI r s2 + N - 1) (k := 1) (by omega); have hv1c : mval (lfI r) N r (bgI r s2 + N - 1) 1 = mval (lfI r) N r (bgI r s2 - 1) 1 := mval_pr (lfI r) N r (bgI r s2) (by omega)
      have hv2a := mval_rg (r := r) hL (show 0 < N by omega) (bgI r s2) (k := 2) (by omega); have hv2b := mval_rg (r := r) hL (show 0 < N by omega) (bgI r s2 - 1) (k := 2) (by omega); have hv2d := mval_rg (r := r) hL (show 0 < N by omega) (bgI r s2 + N - 1) (k := 2) (by omega); have hv2c : mval (lfI r) N r (bgI r s2 + N - 1) 2 = mval (lfI r) N r (bgI r s2 - 1) 2 := mval_pr (lfI r) N r (bgI r s2) (by omega)
      have hv3a := mval_rg (r := r) hL (show 0 < N by omega) (bgI r s2) (k := 3) (by omega); have hv3b := mval_rg (r := r) hL (show 0 < N by omega) (bgI r s2 - 1) (k := 3) (by omega); have hv3d := mval_rg (r := r) hL (show 0 < N by omega) (bgI r s2 + N - 1) (k := 3) (by omega); have hv3c : mval (lfI r) N r (bgI r s2 + N - 1) 3 = mval (lfI r) N r (bgI r s2 - 1) 3 := mval_pr (lfI r) N r (bgI r s2) (by omega)
      refine r_aload_n F hl 0 rfl rfl dX5_border_22 ?_
      refine r_iload_n F hl 1 rfl rfl dX5_border_23 ?_
      refine d_cVI F X 36 (by decide) (eK_36 G _) rfl (c_X5_begins l G τ1 N r s2 hr2 hN2 hW (by omega)) gv_RX5_78 rfl nd_X5_begins rfl (rest := []) rfl (Nat.le_of_ble_eq_true rfl) ⟨Nat.le_of_ble_eq_true rfl, Nat.le_of_ble_eq_true rfl⟩ ⟨Nat.zero_le _, Nat.zero_le _⟩ hl.1 dX5_border_24 (fun H locs X => ?_)
      refine r_istore_n F hl [(2, .int (I (bgI r s2))), (0, .ref (gY G 36)), (1, .int (I s2))] rfl (by decide) rfl dX5_border_27 (fun ls hl => ?_)
      refine r_iconst F dX5_border_28 ?_
      refine r_istore_n F hl [(3, .int (I 0)), (2, .int (I (bgI r s2))), (0, .ref (gY G 36)), (1, .int (I s2))] rfl (by decide) rfl dX5_border_29 (fun ls hl => ?_)
      refine r_iload_n F hl 0 rfl rfl dX5_border_30 ?_
      refine r_iconst F dX5_border_31 ?_
      refine r_icmp_ge F 78 (by decide) (by omega) (by omega) dX5_border_32 (fun c3 => ?_) (fun c3 => ?_)
      · omega
      · skip
        refine r_aload_n F hl 2 rfl rfl dX5_border_35 ?_
        refine r_iload_n F hl 1 rfl rfl dX5_border_36 ?_
        refine r_iload_n F hl 0 rfl rfl dX5_border_37 ?_
        refine r_iconst F dX5_border_38 ?_
        refine r_iadd F dX5_border_39 ?_
        refine d_cVI F X 36 (by decide) (eK_36 G _) rfl (c_X5_diffAt l G τ1 N r (lfI r) (bgI r s2) 1 hr2 hN2 hW hE2 hL (by omega) (by omega)) gv_RX5_124 rfl nd_X5_diffAt rfl (rest := []) rfl (Nat.le_of_ble_eq_true rfl) ⟨Nat.le_of_ble_eq_true rfl, Nat.le_of_ble_eq_true rfl⟩ ⟨Nat.zero_le _, Nat.zero_le _⟩ hl.1 dX5_border_40 (fun H locs X => ?_)
        refine r_aload_n F hl 2 rfl rfl dX5_border_43 ?_
        refine r_iload_n F hl 1 rfl rfl dX5_border_44 ?_
        refine r_aload_n F hl 2 rfl rfl dX5_border_45 ?_
        refine r_get F X 36 (by decide) (eK_36 G _) rfl gl_RX5 1 (by decide) rfl gf_RX5_13 rfl dX5_border_46 ?_
        refine r_eqI (b := N) (hN2) ?_
        refine r_iadd F dX5_border_49 ?_
        refine r_iconst F dX5_border_50 ?_
        refine r_isub F dX5_border_51 ?_
        refine r_iload_n F hl 0 rfl rfl dX5_border_52 ?_
        refine r_iconst F dX5_border_53 ?_
        refine r_iadd F dX5_border_54 ?_
        refine d_cVI F X 36 (by decide) (eK_36 G _) rfl (c_X5_diffAt l G τ1 N r (lfI r) (((bgI r s2) + N) - 1) 1 hr2 hN2 hW hE2 hL (by omega) (by omega)) gv_RX5_124 rfl nd_X5_diffAt rfl (rest := [.int (I (mval (lfI r) N r (bgI r s2) 1))]) rfl (Nat.le_of_ble_eq_true rfl) ⟨Nat.le_of_ble_eq_true rfl, Nat.le_of_ble_eq_true rfl⟩ ⟨Nat.zero_le _, Nat.zero_le _⟩ hl.1 dX5_border_55 (fun H locs X => ?_)
        refine r_eqI (b := mval (lfI r) N r (bgI r s2 - 1) 1) hv1c ?_
        refine r_isub F dX5_border_58 ?_
        refine d_cSI F X (c_X5_size l G τ1 ((mval (lfI r) N r (bgI r s2) 1) - (mval (lfI r) N r (bgI r s2 - 1) 1)) (by omega)) gv_RX5_131 nd_X5_size rfl (rest := []) rfl (Nat.le_of_ble_eq_true rfl) ⟨Nat.le_of_ble_eq_true rfl, Nat.le_of_ble_eq_true rfl⟩ ⟨Nat.zero_le _, Nat.zero_le _⟩ hl.1 dX5_border_59 (fun H locs X => ?_)
        have hq1 := ab_nn (mval (lfI r) N r (bgI r s2) 1 - mval (lfI r) N r (bgI r s2 - 1) 1)
        refine r_aload_n F hl 2 rfl rfl dX5_border_62 ?_
        refine r_get F X 36 (by decide) (eK_36 G _) rfl gl_RX5 2 (by decide) rfl gf_RX5_16 rfl dX5_border_63 ?_
        refine r_bipush F (by decide) dX5_border_66 ?_
        refine r_iald F X 37 (by decide) (eK_37 G) (by omega) (by decide) dX5_border_68 ?_
        refine r_eqI (b := r 70) (by rw [hr2]) ?_
        refine r_icmp_gt F 78 (by decide) (by omega) (by omega) dX5_border_69 (fun c4 => ?_) (fun c4 => ?_)
        · skip
          refine r_iload_n F hl 0 rfl rfl dX5_border_78 ?_
          exact r_iret F X hr hk dX5_border_79 (⟨by unfold qBorder; rw [if_pos (by assumption), if_pos (by omega)]; unfold evq evn ev1; (repeat first | rw [if_pos (decide_eq_true (by omega))] | rw [if_neg (fun q => absurd (of_decide_eq_true q) (by omega))]); try omega, hM2.1, hM2.2.1, hM2.2.2⟩)
        · skip
          refine r_iinc F hl [(3, .int (I (0 + 1))), (2, .int (I (bgI r s2))), (0, .ref (gY G 36)), (1, .int (I s2))] 0 rfl (by decide) rfl dX5_border_72 (fun ls hl => ?_)
          refine r_goto F 30 (by decide) dX5_border_75 ?_
          refine r_iload_n F hl 0 rfl rfl dX5_border_30 ?_
          refine r_iconst F dX5_border_31 ?_
          refine r_icmp_ge F 78 (by decide) (by omega) (by omega) dX5_border_32 (fun c5 => ?_) (fun c5 => ?_)
          · omega
          · skip
            refine r_aload_n F hl 2 rfl rfl dX5_border_35 ?_
            refine r_iload_n F hl 1 rfl rfl dX5_border_36 ?_
            refine r_iload_n F hl 0 rfl rfl dX5_border_37 ?_
            refine r_iconst F dX5_border_38 ?_
            refine r_iadd F dX5_border_39 ?_
            refine d_cVI F X 36 (by decide) (eK_36 G _) rfl (c_X5_diffAt l G τ1 N r (lfI r) (bgI r s2) 2 hr2 hN2 hW hE2 hL (by omega) (by omega)) gv_RX5_124 rfl nd_X5_diffAt rfl (rest := []) rfl (Nat.le_of_ble_eq_true rfl) ⟨Nat.le_of_ble_eq_true rfl, Nat.le_of_ble_eq_true rfl⟩ ⟨Nat.zero_le _, Nat.zero_le _⟩ hl.1 dX5_border_40 (fun H locs X => ?_)
            refine r_aload_n F hl 2 rfl rfl dX5_border_43 ?_
            refine r_iload_n F hl 1 rfl rfl dX5_border_44 ?_
            refine r_aload_n F hl 2 rfl rfl dX5_border_45 ?_
            refine r_get F X 36 (by decide) (eK_36 G _) rfl gl_RX5 1 (by decide) rfl gf_RX5_13 rfl dX5_border_46 ?_
            refine r_eqI (b := N) (hN2) ?_
            refine r_iadd F dX5_border_49 ?_
            refine r_iconst F dX5_border_50 ?_
            refine r_isub F dX5_border_51 ?_
            refine r_iload_n F hl 0 rfl rfl dX5_border_52 ?_
            refine r_iconst F dX5_border_53 ?_
            refine r_iadd F dX5_border_54 ?_
            refine d_cVI F X 36 (by decide) (eK_36 G _) rfl (c_X5_diffAt l G τ1 N r (lfI r) (((bgI r s2) + N) - 1) 2 hr2 hN2 hW hE2 hL (by omega) (by omega)) gv_RX5_124 rfl nd_X5_diffAt rfl (rest := [.int (I (mval (lfI r) N r (bgI r s2) 2))]) rfl (Nat.le_of_ble_eq_true rfl) ⟨Nat.le_of_ble_eq_true rfl, Nat.le_of_ble_eq_true rfl⟩ ⟨Nat.zero_le _, Nat.zero_le _⟩ hl.1 dX5_border_55 (fun H locs X => ?_)
            refine r_eqI (b := mval (lfI r) N r (bgI r s2 - 1) 2) hv2c ?_
            refine r_isub F dX5_border_58 ?_
            refine d_cSI F X (c_X5_size l G τ1 ((mval (lfI r) N r (bgI r s2) 2) - (mval (lfI r) N r (bgI r s2 - 1) 2)) (by omega)) gv_RX5_131 nd_X5_size rfl (rest := []) rfl (Nat.le_of_ble_eq_true rfl) ⟨Nat.le_of_ble_eq_true rfl, Nat.le_of_ble_eq_true rfl⟩ ⟨Nat.zero_le _, Nat.zero_le _⟩ hl.1 dX5_border_59 (fun H locs X => ?_)
            have hq2 := ab_nn (mval (lfI r) N r (bgI r s2) 2 - mval (lfI r) N r (bgI r s2 - 1) 2)
            refine r_aload_n F hl 2 rfl rfl dX5_border_62 ?_
            refine r_get F X 36 (by decide) (eK_36 G _) rfl gl_RX5 2 (by decide) rfl gf_RX5_16 rfl dX5_border_63 ?_
            refine r_bipush F (by decide) dX5_border_66 ?_
            refine r_iald F X 37 (by decide) (eK_37 G) (by omega) (by decide) dX5_border_68 ?_
            refine r_eqI (b := r 70) (by rw [hr2]) ?_
            refine r_icmp_gt F 78 (by decide) (by omega) (by omega) dX5_border_69 (fun c6 => ?_) (fun c6 => ?_)
            · skip
              refine r_iload_n F hl 0 rfl rfl dX5_border_78 ?_
              exact r_iret F X hr hk dX5_border_79 (⟨by unfold qBorder; rw [if_pos (by assumption), if_pos (by omega)]; unfold evq evn ev1; (repeat first | rw [if_pos (decide_eq_true (by omega))] | rw [if_neg (fun q => absurd (of_decide_eq_true q) (by omega))]); try omega, hM2.1, hM2.2.1, hM2.2.2⟩)
            · skip
              refine r_iinc F hl [(3, .int (I ((0 + 1) + 1))), (2, .int (I (bgI r s2))), (0, .ref (gY G 36)), (1, .int (I s2))] 0 rfl (by decide) rfl dX5_border_72 (fun ls hl => ?_)
              refine r_goto F 30 (by decide) dX5_border_75 ?_
              refine r_iload_n F hl 0 rfl rfl dX5_border_30 ?_
              refine r_iconst F dX5_border_31 ?_
              refine r_icmp_ge F 78 (by decide) (by omega) (by omega) dX5_border_32 (fun c7 => ?_) (fun c7 => ?_)
              · omega
              · skip
                refine r_aload_n F hl 2 rfl rfl dX5_border_35 ?_
                refine r_iload_n F hl 1 rfl rfl dX5_border_36 ?_
                refine r_iload_n F hl 0 rfl rfl dX5_border_37 ?_
                refine r_iconst F dX5_border_38 ?_
                refine r_iadd F dX5_border_39 ?_
                refine d_cVI F X 36 (by decide) (eK_36 G _) rfl (c_X5_diffAt l G τ1 N r (lfI r) (bgI r s2) 3 hr2 hN2 hW hE2 hL (by omega) (by omega)) gv_RX5_124 rfl nd_X5_diffAt rfl (rest := []) rfl (Nat.le_of_ble_eq_true rfl) ⟨Nat.le_of_ble_eq_true rfl, Nat.le_of_ble_eq_true rfl⟩ ⟨Nat.zero_le _, Nat.zero_le _⟩ hl.1 dX5_border_40 (fun H locs X => ?_)
                refine r_aload_n F hl 2 rfl rfl dX5_border_43 ?_
                refine r_iload_n F hl 1 rfl rfl dX5_border_44 ?_
                refine r_aload_n F hl 2 rfl rfl dX5_border_45 ?_
                refine r_get F X 36 (by decide) (eK_36 G _) rfl gl_RX5 1 (by decide) rfl gf_RX5_13 rfl dX5_border_46 ?_
                refine r_eqI (b := N) (hN2) ?_
                refine r_iadd F dX5_border_49 ?_
                refine r_iconst F dX5_border_50 ?_
                refine r_isub F dX5_border_51 ?_
                refine r_iload_n F hl 0 rfl rfl dX5_border_52 ?_
                refine r_iconst F dX5_border_53 ?_
                refine r_iadd F dX5_border_54 ?_
                refine d_cVI F X 36 (by decide) (eK_36 G _) rfl (c_X5_diffAt l G τ1 N r (lfI r) (((bgI r s2) + N) - 1) 3 hr2 hN2 hW hE2 hL (by omega) (by omega)) gv_RX5_124 rfl nd_X5_diffAt rfl (rest := [.int (I (mval (lfI r) N r (bgI r s2) 3))]) rfl (Nat.le_of_ble_eq_true rfl) ⟨Nat.le_of_ble_eq_true rfl, Nat.le_of_ble_eq_true rfl⟩ ⟨Nat.zero_le _, Nat.zero_le _⟩ hl.1 dX5_border_55 (fun H locs X => ?_)
                refine r_eqI (b := mval (lfI r) N r (bgI r s2 - 1) 3) hv3c ?_
                refine r_isub F dX5_border_58 ?_
                refine d_cSI F X (c_X5_size l G τ1 ((mval (lfI r) N r (bgI r s2) 3) - (mval (lfI r) N r (bgI r s2 - 1) 3)) (by omega)) gv_RX5_131 nd_X5_size rfl (rest := []) rfl (Nat.le_of_ble_eq_true rfl) ⟨Nat.le_of_ble_eq_true rfl, Nat.le_of_ble_eq_true rfl⟩ ⟨Nat.zero_le _, Nat.zero_le _⟩ hl.1 dX5_border_59 (fun H locs X => ?_)
                have hq3 := ab_nn (mval (lfI r) N r (bgI r s2) 3 - mval (lfI r) N r (bgI r s2 - 1) 3)
                refine r_aload_n F hl 2 rfl rfl dX5_border_62 ?_
                refine r_get F X 36 (by decide) (eK_36 G _) rfl gl_RX5 2 (by decide) rfl gf_RX5_16 rfl dX5_border_63 ?_
                refine r_bipush F (by decide) dX5_border_66 ?_
                refine r_iald F X 37 (by decide) (eK_37 G) (by omega) (by decide) dX5_border_68 ?_
                refine r_eqI (b := r 70) (by rw [hr2]) ?_
                refine r_icmp_gt F 78 (by decide) (by omega) (by omega) dX5_border_69 (fun c8 => ?_) (fun c8 => ?_)
                · skip
                  refine r_iload_n F hl 0 rfl rfl dX5_border_78 ?_
                  exact r_iret F X hr hk dX5_border_79 (⟨by unfold qBorder; rw [if_pos (by assumption), if_pos (by omega)]; unfold evq evn ev1; (repeat first | rw [if_pos (decide_eq_true (by omega))] | rw [if_neg (fun q => absurd (of_decide_eq_true q) (by omega))]); try omega, hM2.1, hM2.2.1, hM2.2.2⟩)
                · skip
                  refine r_iinc F hl [(3, .int (I (((0 + 1) + 1) + 1))), (2, .int (I (bgI r s2))), (0, .ref (gY G 36)), (1, .int (I s2))] 0 rfl (by decide) rfl dX5_border_72 (fun ls hl => ?_)
                  refine r_goto F 30 (by decide) dX5_border_75 ?_
                  refine r_iload_n F hl 0 rfl rfl dX5_border_30 ?_
                  refine r_iconst F dX5_border_31 ?_
                  refine r_icmp_ge F 78 (by decide) (by omega) (by omega) dX5_border_32 (fun c9 => ?_) (fun c9 => ?_)
                  · skip
                    refine r_iload_n F hl 0 rfl rfl dX5_border_78 ?_
                    exact r_iret F X hr hk dX5_border_79 (⟨by unfold qBorder; rw [if_pos (by assumption), if_pos (by omega)]; unfold evq evn ev1; (repeat first | rw [if_pos (decide_eq_true (by omega))] | rw [if_neg (fun q => absurd (of_decide_eq_true q) (by omega))]); try omega, hM2.1, hM2.2.1, hM2.2.2⟩)
                  · omega
    · skip
      refine r_iconst F dX5_border_20 ?_
      exact r_iret F X hr hk dX5_border_21 (by first | exact ⟨by unfold qBorder; grind, hM2.1, hM2.2.1, hM2.2.2⟩ | exact ⟨by unfold qBorder; grind, hM1.1, hM1.2.1, hM1.2.2⟩)
theorem c_X5_bad (l : Launch) (G : GT) (σ : St) (N : Int) (r : Int → Int) (n : Int) (hs : Int → Int → Int) (w : Int) (i : Int) (hM : MX σ N r n hs) (hW : WF N r) (hw : -2147483648 ≤ w ∧ w < 2147483648) (hi : -2147483648 ≤ i ∧ i < 2147483648) : Ct l yX5_bad cX5_bad 5 (some .int) 8 G [.ref (gY G 36), .int (I w), .int (I i)] σ (QI G (fun x9 τ9 => x9 = qBad N r w i ∧ MX τ9 N r n hs ∧ KY σ τ9 ∧ τ9 36 0 = 0)) := by
  refine mt (own := RX5) (plainFor_of_name rfl) rfl (Nat.le_of_ble_eq_true rfl) ?_
  intro p e s m args below meth c ls F hr hk X hl
  have hl : lv_has ls 5 [(0, .ref (gY G 36)), (1, .int (I w)), (2, .int (I i))] := hl
  have hw := hW.num
  have hro := hM.2.1
  have hN := hM.1
  refine r_aload_n F hl 0 rfl rfl dX5_bad_0 ?_
  refine r_iconst F dX5_bad_1 ?_
  refine r_put F X 36 (by decide) (upI (σ 36) 0 0) (eK_36 G _) rfl gl_RX5 tyX5 tyX5_ok nmX5 0 (by decide) rfl gf_RX5_1 rfl (tyX5_ok 0 (by decide)) rfl rfl (Nat.le_of_ble_eq_true rfl) (eK_36 G _) dX5_bad_2 (fun H locs X => ?_)
  obtain ⟨σ1, eσ1⟩ : ∃ x9 : St, x9 = up σ 36 (upI (σ 36) 0 0) := ⟨_, rfl⟩
  rw [← eσ1] at X
  have hrσ1 : σ1 37 = r := by rw [eσ1, up_ne (by omega)]; exact hro
  have hNσ1 : σ1 36 1 = N := by rw [eσ1, up_eq, upI_ne (by omega)]; exact hN
  have hM1 := hM.th (v := 0) eσ1
  refine r_iload_n F hl 1 rfl rfl dX5_bad_5 ?_
  refine r_i2l F (by omega) dX5_bad_6 ?_
  refine r_lconst F 0 (by decide +kernel) dX5_bad_7 ?_
  refine r_ldc2 F 3 gk_RX5_47 (by decide +kernel) dX5_bad_8 ?_
  refine d_cSI F X (c_X5_within l G σ1 w 0 3 (by omega) (by omega) (by omega)) gv_RX5_39 nd_X5_within rfl (rest := []) rfl (Nat.le_of_ble_eq_true rfl) ⟨Nat.le_of_ble_eq_true rfl, Nat.le_of_ble_eq_true rfl⟩ ⟨Nat.zero_le _, Nat.zero_le _⟩ hl.1 dX5_bad_11 (fun H locs X => ?_)
  refine r_bz_eq F 29 (0 ≤ w ∧ w ≤ 3) rfl (by decide) dX5_bad_14 (fun c1 => ?_) (fun c1 => ?_)
  · skip
    refine r_iconst F dX5_bad_29 ?_
    exact r_iret F X hr hk dX5_bad_30 (by first | exact ⟨by unfold qBad; grind, hM2.1, hM2.2.1, hM2.2.2⟩ | exact ⟨by unfold qBad; grind, hM1.1, hM1.2.1, hM1.2.2⟩)
  · skip
    refine r_iload_n F hl 2 rfl rfl dX5_bad_17 ?_
    refine r_iconst F dX5_bad_18 ?_
    refine r_icmp_lt F 29 (by decide) (by omega) (by omega) dX5_bad_19 (fun c2 => ?_) (fun c2 => ?_)
    · skip
      refine r_iconst F dX5_bad_29 ?_
      exact r_iret F X hr hk dX5_bad_30 (by first | exact ⟨by unfold qBad; grind, hM2.1, hM2.2.1, hM2.2.2⟩ | exact ⟨by unfold qBad; grind, hM1.1, hM1.2.1, hM1.2.2⟩)
    · skip
      refine r_aload_n F hl 0 rfl rfl dX5_bad_22 ?_
      refine r_cVI F X 36 (by decide) (eK_36 G _) rfl (c_X5_isLaid l G σ1 N r hrσ1 hNσ1 hW) gv_RX5_128 rfl nd_X5_isLaid rfl (rest := []) rfl (Nat.le_of_ble_eq_true rfl) ⟨Nat.le_of_ble_eq_true rfl, Nat.le_of_ble_eq_true rfl⟩ ⟨Nat.zero_le _, Nat.zero_le _⟩ hl.1 dX5_bad_23 (fun x1 τ1 H locs hI X => ?_)
      obtain ⟨hx1, hfr1, hE1⟩ := hI
      have hM2 := MX.laid hM1 hfr1
      have hr2 := hM2.1.2.1
      have hN2 := hM2.1.1
      refine r_eqI (b := if whl N r = true then 1 else 0) (hx1) ?_
      refine r_bz_ne F 31 (whl N r = true) rfl (by decide) dX5_bad_26 (fun c3 => ?_) (fun c3 => ?_)
      · skip
        have hE2 := hE1 (by assumption)
        have hL := lfI_LR hW (by assumption)
        refine r_iconst F dX5_bad_31 ?_
        refine r_istore_n F hl [(3, .int (I 0)), (0, .ref (gY G 36)), (1, .int (I w)), (2, .int (I i))] rfl (by decide) rfl dX5_bad_32 (fun ls hl => ?_)
        refine r_iconst F dX5_bad_33 ?_
        refine r_istore F hl [(4, .int (I 0)), (3, .int (I 0)), (0, .ref (gY G 36)), (1, .int (I w)), (2, .int (I i))] (by decide) rfl dX5_bad_34 (fun ls hl => ?_)
        have loop36 : ∀ (n_ : Nat) (j : Int) (ls : Array Slot) (H : Heap) (locs : List Loc) (hn_ : N - j < n_) (hj : 0 ≤ j ∧ j ≤ N) (hno : ∀ j9 : Int, 0 ≤ j9 → j9 < j → (fun j => bd (lfI r) N r w j && decide (ctI (bd (lfI r) N r w) j = i)) j9 = false) (X : HX G τ1 s H locs) (hl : lv_has ls 5 [(0, .ref (gY G 36)), (1, .int (I w)), (2, .int (I i)), (3, .int (I (ctI (bd (lfI r) N r w) j))), (4, .int (I j))]), W p l e (rmd 8) s m args below meth c H locs 0 0 (MQ below (QI G (fun x9 τ9 => x9 = qBad N r w i ∧ MX τ9 N r n hs ∧ KY σ τ9 ∧ τ9 36 0 = 0)) args s 0 0 (gA G)) (F0 m 36 ls []) := by
          intro n_
          induction n_ with
          | zero => intro j ls H locs hn_ hj hno X hl; omega
          | succ n_ ih36 =>
            intro j ls H locs hn_ hj hno X hl
            have hct := ctI_rg (bd (lfI r) N r w) (n := j) (by omega)
            refine r_iload F hl 4 rfl dX5_bad_36 ?_
            refine r_aload_n F hl 0 rfl rfl dX5_bad_38 ?_
            refine r_get F X 36 (by decide) (eK_36 G _) rfl gl_RX5 1 (by decide) rfl gf_RX5_13 rfl dX5_bad_39 ?_
            refine r_eqI (b := N) (hN2) ?_
            refine r_icmp_ge F 72 (by decide) (by omega) (by omega) dX5_bad_42 (fun c4 => ?_) (fun c4 => ?_)
            · skip
              refine r_iload_n F hl 2 rfl rfl dX5_bad_72 ?_
              refine r_iconst F dX5_bad_73 ?_
              refine r_icmp_ne F 81 (by decide) (by omega) (by omega) dX5_bad_74 (fun c5 => ?_) (fun c5 => ?_)
              · skip
                refine r_iconst F dX5_bad_81 ?_
                exact r_iret F X hr hk dX5_bad_82 (⟨by have hje : j = N := (by omega); rw [hje] at hno; (try rw [hje]); unfold qBad; rw [if_pos (by assumption), if_pos (by omega)]; first | rw [if_pos (by omega)] | (rw [if_neg (by omega)]; exact (ffI_none hno).symm), hM2.1, hM2.2.1, hM2.2.2⟩)
              · skip
                refine r_iload_n F hl 3 rfl rfl dX5_bad_77 ?_
                refine r_goto F 82 (by decide) dX5_bad_78 ?_
                exact r_iret F X hr hk dX5_bad_82 (⟨by have hje : j = N := (by omega); rw [hje] at hno; (try rw [hje]); unfold qBad; rw [if_pos (by assumption), if_pos (by omega)]; first | rw [if_pos (by omega)] | (rw [if_neg (by omega)]; exact (ffI_none hno).symm), hM2.1, hM2.2.1, hM2.2.2⟩)
            · skip
              refine r_aload_n F hl 0 rfl rfl dX5_bad_45 ?_
              refine r_iload F hl 4 rfl dX5_bad_46 ?_
              refine r_iload_n F hl 1 rfl rfl dX5_bad_48 ?_
              refine d_cVI F X 36 (by decide) (eK_36 G _) rfl (c_X5_isBad l G τ1 N r (lfI r) j w hr2 hN2 hW hE2 hL (by omega) (by omega)) gv_RX5_176 rfl nd_X5_isBad rfl (rest := []) rfl (Nat.le_of_ble_eq_true rfl) ⟨Nat.le_of_ble_eq_true rfl, Nat.le_of_ble_eq_true rfl⟩ ⟨Nat.zero_le _, Nat.zero_le _⟩ hl.1 dX5_bad_49 (fun H locs X => ?_)
              refine r_bz_eq F 66 (bd (lfI r) N r w j = true) rfl (by decide) dX5_bad_52 (fun c6 => ?_) (fun c6 => ?_)
              · skip
                have hl : lv_has ls 5 [(0, .ref (gY G 36)), (1, .int (I w)), (2, .int (I i)), (3, .int (I (ctI (bd (lfI r) N r w) (j + 1)))), (4, .int (I j))] := by rw [ctI_succ _ (by omega)]; first | (rw [if_pos (by assumption)]; exact hl) | (rw [if_neg (by assumption), Int.add_zero]; exact hl)
                refine r_iinc F hl [(4, .int (I (j + 1))), (0, .ref (gY G 36)), (1, .int (I w)), (2, .int (I i)), (3, .int (I (ctI (bd (lfI r) N r w) (j + 1))))] 4 rfl (by decide) rfl dX5_bad_66 (fun ls hl => ?_)
                refine r_goto F 36 (by decide) dX5_bad_69 ?_
                exact ih36 (j + 1) _ _ _ (by omega) (by omega) (by intro j9 j0 j1; rcases (show j9 < j ∨ j9 = j by omega) with z | z <;> first | exact hno j9 j0 z | (rw [z]; show (_ && _) = false; rw [Bool.and_eq_false_iff]; first | (left; simpa using ‹¬ bd (lfI r) N r w j = true›) | (right; exact decide_eq_false (by assumption)))) X (lv_sub hl [1, 2, 3, 4, 0] rfl)
              · skip
                refine r_iload_n F hl 3 rfl rfl dX5_bad_55 ?_
                refine r_iload_n F hl 2 rfl rfl dX5_bad_56 ?_
                refine r_icmp_ne F 63 (by decide) (by omega) (by omega) dX5_bad_57 (fun c7 => ?_) (fun c7 => ?_)
                · skip
                  refine r_iinc F hl [(3, .int (I ((ctI (bd (lfI r) N r w) j) + 1))), (0, .ref (gY G 36)), (1, .int (I w)), (2, .int (I i)), (4, .int (I j))] 3 rfl (by decide) rfl dX5_bad_63 (fun ls hl => ?_)
                  have hl : lv_has ls 5 [(3, .int (I (ctI (bd (lfI r) N r w) (j + 1)))), (0, .ref (gY G 36)), (1, .int (I w)), (2, .int (I i)), (4, .int (I j))] := by rw [ctI_succ _ (by omega)]; first | (rw [if_pos (by assumption)]; exact hl) | (rw [if_neg (by assumption), Int.add_zero]; exact hl)
                  refine r_iinc F hl [(4, .int (I (j + 1))), (3, .int (I (ctI (bd (lfI r) N r w) (j + 1)))), (0, .ref (gY G 36)), (1, .int (I w)), (2, .int (I i))] 4 rfl (by decide) rfl dX5_bad_66 (fun ls hl => ?_)
                  refine r_goto F 36 (by decide) dX5_bad_69 ?_
                  exact ih36 (j + 1) _ _ _ (by omega) (by omega) (by intro j9 j0 j1; rcases (show j9 < j ∨ j9 = j by omega) with z | z <;> first | exact hno j9 j0 z | (rw [z]; show (_ && _) = false; rw [Bool.and_eq_false_iff]; first | (left; simpa using ‹¬ bd (lfI r) N r w j = true›) | (right; exact decide_eq_false (by assumption)))) X (lv_sub hl [2, 3, 4, 1, 0] rfl)
                · skip
                  refine r_iload F hl 4 rfl dX5_bad_60 ?_
                  exact r_iret F X hr hk dX5_bad_62 (⟨by unfold qBad; rw [if_pos (by assumption), if_pos (by omega), if_neg (by omega)]; exact (ffI_some (by omega) (by omega) (by show (_ && _) = true; rw [Bool.and_eq_true]; exact ⟨by assumption, decide_eq_true (by assumption)⟩) hno).symm, hM2.1, hM2.2.1, hM2.2.2⟩)
        exact loop36 (((N - 0 : Int) + 1).toNat) 0 _ _ _ (by omega) (by omega) (by intro j9 j0 j1; omega) X (lv_sub hl [2, 3, 4, 1, 0] rfl)
      · skip
        refine r_iconst F dX5_bad_29 ?_
        exact r_iret F X hr hk dX5_bad_30 (by first | exact ⟨by unfold qBad; grind, hM2.1, hM2.2.1, hM2.2.2⟩ | exact ⟨by unfold qBad; grind, hM1.1, hM1.2.1, hM1.2.2⟩)
theorem c_X5_top (l : Launch) (G : GT) (σ : St) (N : Int) (r : Int → Int) (n : Int) (hs : Int → Int → Int) (w : Int) (hM : MX σ N r n hs) (hW : WF N r) (hw : -2147483648 ≤ w ∧ w < 2147483648) : Ct l yX5_top cX5_top 7 (some .int) 6 G [.ref (gY G 36), .int (I w)] σ (QI G (fun x9 τ9 => x9 = qTop N r w ∧ MX τ9 N r n hs ∧ KY σ τ9 ∧ τ9 36 0 = 0)) := by
  refine mt (own := RX5) (plainFor_of_name rfl) rfl (Nat.le_of_ble_eq_true rfl) ?_
  intro p e s m args below meth c ls F hr hk X hl
  have hl : lv_has ls 7 [(0, .ref (gY G 36)), (1, .int (I w))] := hl
  have hw := hW.num
  have hro := hM.2.1
  have hN := hM.1
  refine r_aload_n F hl 0 rfl rfl dX5_top_0 ?_
  refine r_iconst F dX5_top_1 ?_
  refine r_put F X 36 (by decide) (upI (σ 36) 0 0) (eK_36 G _) rfl gl_RX5 tyX5 tyX5_ok nmX5 0 (by decide) rfl gf_RX5_1 rfl (tyX5_ok 0 (by decide)) rfl rfl (Nat.le_of_ble_eq_true rfl) (eK_36 G _) dX5_top_2 (fun H locs X => ?_)
  obtain ⟨σ1, eσ1⟩ : ∃ x9 : St, x9 = up σ 36 (upI (σ 36) 0 0) := ⟨_, rfl⟩
  rw [← eσ1] at X
  have hrσ1 : σ1 37 = r := by rw [eσ1, up_ne (by omega)]; exact hro
  have hNσ1 : σ1 36 1 = N := by rw [eσ1, up_eq, upI_ne (by omega)]; exact hN
  have hM1 := hM.th (v := 0) eσ1
  refine r_iload_n F hl 1 rfl rfl dX5_top_5 ?_
  refine r_i2l F (by omega) dX5_top_6 ?_
  refine r_lconst F 0 (by decide +kernel) dX5_top_7 ?_
  refine r_ldc2 F 5 gk_RX5_180 (by decide +kernel) dX5_top_8 ?_
  refine d_cSI F X (c_X5_within l G σ1 w 0 5 (by omega) (by omega) (by omega)) gv_RX5_39 nd_X5_within rfl (rest := []) rfl (Nat.le_of_ble_eq_true rfl) ⟨Nat.le_of_ble_eq_true rfl, Nat.le_of_ble_eq_true rfl⟩ ⟨Nat.zero_le _, Nat.zero_le _⟩ hl.1 dX5_top_11 (fun H locs X => ?_)
  refine r_bz_eq F 24 (0 ≤ w ∧ w ≤ 5) rfl (by decide) dX5_top_14 (fun c1 => ?_) (fun c1 => ?_)
  · skip
    refine r_iconst F dX5_top_24 ?_
    exact r_iret F X hr hk dX5_top_25 (by first | exact ⟨by unfold qTop; grind, hM2.1, hM2.2.1, hM2.2.2⟩ | exact ⟨by unfold qTop; grind, hM1.1, hM1.2.1, hM1.2.2⟩)
  · skip
    refine r_aload_n F hl 0 rfl rfl dX5_top_17 ?_
    refine r_cVI F X 36 (by decide) (eK_36 G _) rfl (c_X5_isLaid l G σ1 N r hrσ1 hNσ1 hW) gv_RX5_128 rfl nd_X5_isLaid rfl (rest := []) rfl (Nat.le_of_ble_eq_true rfl) ⟨Nat.le_of_ble_eq_true rfl, Nat.le_of_ble_eq_true rfl⟩ ⟨Nat.zero_le _, Nat.zero_le _⟩ hl.1 dX5_top_18 (fun x1 τ1 H locs hI X => ?_)
    obtain ⟨hx1, hfr1, hE1⟩ := hI
    have hM2 := MX.laid hM1 hfr1
    have hr2 := hM2.1.2.1
    have hN2 := hM2.1.1
    refine r_eqI (b := if whl N r = true then 1 else 0) (hx1) ?_
    refine r_bz_ne F 26 (whl N r = true) rfl (by decide) dX5_top_21 (fun c2 => ?_) (fun c2 => ?_)
    · skip
      have hE2 := hE1 (by assumption)
      have hL := lfI_LR hW (by assumption)
      refine r_iconst F dX5_top_26 ?_
      refine r_istore_n F hl [(2, .int (I 0)), (0, .ref (gY G 36)), (1, .int (I w))] rfl (by decide) rfl dX5_top_27 (fun ls hl => ?_)
      refine r_iconst F dX5_top_28 ?_
      refine r_istore_n F hl [(3, .int (I 0)), (2, .int (I 0)), (0, .ref (gY G 36)), (1, .int (I w))] rfl (by decide) rfl dX5_top_29 (fun ls hl => ?_)
      refine r_iconst F dX5_top_30 ?_
      refine r_istore F hl [(4, .int (I 0)), (3, .int (I 0)), (2, .int (I 0)), (0, .ref (gY G 36)), (1, .int (I w))] (by decide) rfl dX5_top_31 (fun ls hl => ?_)
      refine r_iconst F dX5_top_33 ?_
      refine r_istore F hl [(5, .int (I 0)), (4, .int (I 0)), (3, .int (I 0)), (2, .int (I 0)), (0, .ref (gY G 36)), (1, .int (I w))] (by decide) rfl dX5_top_34 (fun ls hl => ?_)
      refine r_iconst F dX5_top_36 ?_
      refine r_istore F hl [(6, .int (I 0)), (5, .int (I 0)), (4, .int (I 0)), (3, .int (I 0)), (2, .int (I 0)), (0, .ref (gY G 36)), (1, .int (I w))] (by decide) rfl dX5_top_37 (fun ls hl => ?_)
      have loop39 : ∀ (n_ : Nat) (i : Int) (ls : Array Slot) (H : Heap) (locs : List Loc) (hn_ : N - i < n_) (hi : 0 ≤ i ∧ i ≤ N) (X : HX G τ1 s H locs) (hl : lv_has ls 7 [(0, .ref (gY G 36)), (1, .int (I w)), (2, .int (I (amI (fun x y => decide (pr (lfI r) N r y < pr (lfI r) N r x)) i))), (3, .int (I (amI (fun x y => decide (fo (lfI r) N r x < fo (lfI r) N r y)) i))), (4, .int (I (amI (fun x y => decide (lw (lfI r) N y < lw (lfI r) N x)) i))), (5, .int (I (smI (fun j => lw (lfI r) N j) i))), (6, .int (I i))]), W p l e (rmd 6) s m args below meth c H locs 0 0 (MQ below (QI G (fun x9 τ9 => x9 = qTop N r w ∧ MX τ9 N r n hs ∧ KY σ τ9 ∧ τ9 36 0 = 0)) args s 0 0 (gA G)) (F0 m 39 ls []) := by
        intro n_
        induction n_ with
        | zero => intro i ls H locs hn_ hi X hl; omega
        | succ n_ ih39 =>
          intro i ls H locs hn_ hi X hl
          have ha1 := am_in (fun x y => decide (pr (lfI r) N r y < pr (lfI r) N r x)) hi.1
          have ha2 := am_in (fun x y => decide (fo (lfI r) N r x < fo (lfI r) N r y)) hi.1
          have ha3 := am_in (fun x y => decide (lw (lfI r) N y < lw (lfI r) N x)) hi.1
          have hsr := smI_rg (g := (fun j => lw (lfI r) N j)) hi.1 (fun j _ _ => hL.w (by omega) j)
          have hpr1 := pr_rg hW hL i
          have hpr2 := pr_rg hW hL (amI (fun x y => decide (pr (lfI r) N r y < pr (lfI r) N r x)) i)
          have hfo1 := (fo_rg hW hL i).2.2
          have hfo2 := (fo_rg hW hL (amI (fun x y => decide (fo (lfI r) N r x < fo (lfI r) N r y)) i)).2.2
          have hlf1 : i < N → 0 ≤ lfI r i ∧ lfI r i ≤ 999 := fun h9 => hL i hi.1 h9
          have hlf2 := hL (amI (fun x y => decide (lw (lfI r) N y < lw (lfI r) N x)) i) (by omega) (by omega)
          refine r_iload F hl 6 rfl dX5_top_39 ?_
          refine r_aload_n F hl 0 rfl rfl dX5_top_41 ?_
          refine r_get F X 36 (by decide) (eK_36 G _) rfl gl_RX5 1 (by decide) rfl gf_RX5_13 rfl dX5_top_42 ?_
          refine r_eqI (b := N) (hN2) ?_
          refine r_icmp_ge F 135 (by decide) (by omega) (by omega) dX5_top_45 (fun c3 => ?_) (fun c3 => ?_)
          · skip
            refine r_iload_n F hl 1 rfl rfl dX5_top_135 ?_
            rcases (show w = 0 ∨ w = 1 ∨ w = 2 ∨ w = 3 ∨ w = 4 ∨ (w < 0 ∨ 4 < w) by omega) with q1 | q1 | q1 | q1 | q1 | q1
            · skip
              refine r_tabIn F 0 172 q1 (by decide) (by decide) (by decide) rfl (by decide) dX5_top_136 ?_
              refine r_aload_n F hl 0 rfl rfl dX5_top_172 ?_
              refine r_iload_n F hl 2 rfl rfl dX5_top_173 ?_
              refine d_cVI F X 36 (by decide) (eK_36 G _) rfl (c_X5_pressAt l G τ1 N r (lfI r) (amI (fun x y => decide (pr (lfI r) N r y < pr (lfI r) N r x)) i) hr2 hN2 hW hE2 hL (by omega)) gv_RX5_170 rfl nd_X5_pressAt rfl (rest := []) rfl (Nat.le_of_ble_eq_true rfl) ⟨Nat.le_of_ble_eq_true rfl, Nat.le_of_ble_eq_true rfl⟩ ⟨Nat.zero_le _, Nat.zero_le _⟩ hl.1 dX5_top_174 (fun H locs X => ?_)
              exact r_iret F X hr hk dX5_top_177 (⟨by have hie : i = N := (by omega); (try rw [hie]); unfold qTop; rw [if_pos (by assumption)]; first | (rw [if_pos (by omega)] <;> rfl) | (rw [if_neg (by omega), if_pos (by omega)] <;> rfl) | (rw [if_neg (by omega), if_neg (by omega), if_pos (by omega)] <;> rfl) | (rw [if_neg (by omega), if_neg (by omega), if_neg (by omega), if_pos (by omega)]; exact (lwi (amI_rg _ (by omega))).symm) | (rw [if_neg (by omega), if_neg (by omega), if_neg (by omega), if_neg (by omega), if_pos (by omega)] <;> rfl) | (rw [if_neg (by omega), if_neg (by omega), if_neg (by omega), if_neg (by omega), if_neg (by omega), if_pos (by omega)]), hM2.1, hM2.2.1, hM2.2.2⟩)
            · skip
              refine r_tabIn F 1 178 q1 (by decide) (by decide) (by decide) rfl (by decide) dX5_top_136 ?_
              refine r_iload_n F hl 2 rfl rfl dX5_top_178 ?_
              exact r_iret F X hr hk dX5_top_179 (⟨by have hie : i = N := (by omega); (try rw [hie]); unfold qTop; rw [if_pos (by assumption)]; first | (rw [if_pos (by omega)] <;> rfl) | (rw [if_neg (by omega), if_pos (by omega)] <;> rfl) | (rw [if_neg (by omega), if_neg (by omega), if_pos (by omega)] <;> rfl) | (rw [if_neg (by omega), if_neg (by omega), if_neg (by omega), if_pos (by omega)]; exact (lwi (amI_rg _ (by omega))).symm) | (rw [if_neg (by omega), if_neg (by omega), if_neg (by omega), if_neg (by omega), if_pos (by omega)] <;> rfl) | (rw [if_neg (by omega), if_neg (by omega), if_neg (by omega), if_neg (by omega), if_neg (by omega), if_pos (by omega)]), hM2.1, hM2.2.1, hM2.2.2⟩)
            · skip
              refine r_tabIn F 2 180 q1 (by decide) (by decide) (by decide) rfl (by decide) dX5_top_136 ?_
              refine r_iload_n F hl 3 rfl rfl dX5_top_180 ?_
              exact r_iret F X hr hk dX5_top_181 (⟨by have hie : i = N := (by omega); (try rw [hie]); unfold qTop; rw [if_pos (by assumption)]; first | (rw [if_pos (by omega)] <;> rfl) | (rw [if_neg (by omega), if_pos (by omega)] <;> rfl) | (rw [if_neg (by omega), if_neg (by omega), if_pos (by omega)] <;> rfl) | (rw [if_neg (by omega), if_neg (by omega), if_neg (by omega), if_pos (by omega)]; exact (lwi (amI_rg _ (by omega))).symm) | (rw [if_neg (by omega), if_neg (by omega), if_neg (by omega), if_neg (by omega), if_pos (by omega)] <;> rfl) | (rw [if_neg (by omega), if_neg (by omega), if_neg (by omega), if_neg (by omega), if_neg (by omega), if_pos (by omega)]), hM2.1, hM2.2.1, hM2.2.2⟩)
            · skip
              refine r_tabIn F 3 182 q1 (by decide) (by decide) (by decide) rfl (by decide) dX5_top_136 ?_
              refine r_aload_n F hl 0 rfl rfl dX5_top_182 ?_
              refine r_get F X 36 (by decide) (eK_36 G _) rfl gl_RX5 5 (by decide) rfl gf_RX5_23 rfl dX5_top_183 ?_
              refine r_iload F hl 4 rfl dX5_top_186 ?_
              refine r_iald F X 39 (by decide) (eK_39 G) (by omega) (by decide) dX5_top_188 ?_
              refine r_eqI (b := (lfI r) (amI (fun x y => decide (lw (lfI r) N y < lw (lfI r) N x)) i)) (hE2 _ (by omega) (by omega)) ?_
              exact r_iret F X hr hk dX5_top_189 (⟨by have hie : i = N := (by omega); (try rw [hie]); unfold qTop; rw [if_pos (by assumption)]; first | (rw [if_pos (by omega)] <;> rfl) | (rw [if_neg (by omega), if_pos (by omega)] <;> rfl) | (rw [if_neg (by omega), if_neg (by omega), if_pos (by omega)] <;> rfl) | (rw [if_neg (by omega), if_neg (by omega), if_neg (by omega), if_pos (by omega)]; exact (lwi (amI_rg _ (by omega))).symm) | (rw [if_neg (by omega), if_neg (by omega), if_neg (by omega), if_neg (by omega), if_pos (by omega)] <;> rfl) | (rw [if_neg (by omega), if_neg (by omega), if_neg (by omega), if_neg (by omega), if_neg (by omega), if_pos (by omega)]), hM2.1, hM2.2.1, hM2.2.2⟩)
            · skip
              refine r_tabIn F 4 190 q1 (by decide) (by decide) (by decide) rfl (by decide) dX5_top_136 ?_
              refine r_iload F hl 4 rfl dX5_top_190 ?_
              exact r_iret F X hr hk dX5_top_192 (⟨by have hie : i = N := (by omega); (try rw [hie]); unfold qTop; rw [if_pos (by assumption)]; first | (rw [if_pos (by omega)] <;> rfl) | (rw [if_neg (by omega), if_pos (by omega)] <;> rfl) | (rw [if_neg (by omega), if_neg (by omega), if_pos (by omega)] <;> rfl) | (rw [if_neg (by omega), if_neg (by omega), if_neg (by omega), if_pos (by omega)]; exact (lwi (amI_rg _ (by omega))).symm) | (rw [if_neg (by omega), if_neg (by omega), if_neg (by omega), if_neg (by omega), if_pos (by omega)] <;> rfl) | (rw [if_neg (by omega), if_neg (by omega), if_neg (by omega), if_neg (by omega), if_neg (by omega), if_pos (by omega)]), hM2.1, hM2.2.1, hM2.2.2⟩)
            · skip
              refine r_tabOut F 193 (by omega) q1 (by decide) dX5_top_136 ?_
              refine r_iload F hl 5 rfl dX5_top_193 ?_
              exact r_iret F X hr hk dX5_top_195 (⟨by have hie : i = N := (by omega); (try rw [hie]); unfold qTop; rw [if_pos (by assumption)]; first | (rw [if_pos (by omega)] <;> rfl) | (rw [if_neg (by omega), if_pos (by omega)] <;> rfl) | (rw [if_neg (by omega), if_neg (by omega), if_pos (by omega)] <;> rfl) | (rw [if_neg (by omega), if_neg (by omega), if_neg (by omega), if_pos (by omega)]; exact (lwi (amI_rg _ (by omega))).symm) | (rw [if_neg (by omega), if_neg (by omega), if_neg (by omega), if_neg (by omega), if_pos (by omega)] <;> rfl) | (rw [if_neg (by omega), if_neg (by omega), if_neg (by omega), if_neg (by omega), if_neg (by omega), if_pos (by omega)]), hM2.1, hM2.2.1, hM2.2.2⟩)
          · skip
            refine r_aload_n F hl 0 rfl rfl dX5_top_48 ?_
            refine r_iload F hl 6 rfl dX5_top_49 ?_
            refine d_cVI F X 36 (by decide) (eK_36 G _) rfl (c_X5_pressAt l G τ1 N r (lfI r) i hr2 hN2 hW hE2 hL (by omega)) gv_RX5_170 rfl nd_X5_pressAt rfl (rest := []) rfl (Nat.le_of_ble_eq_true rfl) ⟨Nat.le_of_ble_eq_true rfl, Nat.le_of_ble_eq_true rfl⟩ ⟨Nat.zero_le _, Nat.zero_le _⟩ hl.1 dX5_top_51 (fun H locs X => ?_)
            refine r_aload_n F hl 0 rfl rfl dX5_top_54 ?_
            refine r_iload_n F hl 2 rfl rfl dX5_top_55 ?_
            refine d_cVI F X 36 (by decide) (eK_36 G _) rfl (c_X5_pressAt l G τ1 N r (lfI r) (amI (fun x y => decide (pr (lfI r) N r y < pr (lfI r) N r x)) i) hr2 hN2 hW hE2 hL (by omega)) gv_RX5_170 rfl nd_X5_pressAt rfl (rest := [.int (I (pr (lfI r) N r i))]) rfl (Nat.le_of_ble_eq_true rfl) ⟨Nat.le_of_ble_eq_true rfl, Nat.le_of_ble_eq_true rfl⟩ ⟨Nat.zero_le _, Nat.zero_le _⟩ hl.1 dX5_top_56 (fun H locs X => ?_)
            refine r_icmp_le F 67 (by decide) (by omega) (by omega) dX5_top_59 (fun c4 => ?_) (fun c4 => ?_)
            · skip
              refine r_iload_n F hl 2 rfl rfl dX5_top_67 ?_
              refine r_eqI (b := amI (fun x y => decide (pr (lfI r) N r y < pr (lfI r) N r x)) (i + 1)) (by rw [amI_succ (fun x y => decide (pr (lfI r) N r y < pr (lfI r) N r x)) hi.1]; first | rw [if_pos (decide_eq_true (by omega))] | rw [if_neg (fun z => absurd (of_decide_eq_true z) (by omega))]) ?_
              refine r_istore_n F hl [(2, .int (I (amI (fun x y => decide (pr (lfI r) N r y < pr (lfI r) N r x)) (i + 1)))), (0, .ref (gY G 36)), (1, .int (I w)), (3, .int (I (amI (fun x y => decide (fo (lfI r) N r x < fo (lfI r) N r y)) i))), (4, .int (I (amI (fun x y => decide (lw (lfI r) N y < lw (lfI r) N x)) i))), (5, .int (I (smI (fun j => lw (lfI r) N j) i))), (6, .int (I i))] rfl (by decide) rfl dX5_top_68 (fun ls hl => ?_)
              refine r_aload_n F hl 1 rfl rfl dX5_top_69 ?_
              refine r_iload F hl 6 rfl dX5_top_70 ?_
              refine d_cVJ F X 36 (by decide) (eK_36 G _) rfl (c_X5_forceAt l G τ1 N r (lfI r) i hr2 hN2 hW hE2 hL (by omega)) gv_RX5_173 rfl nd_X5_forceAt rfl (rest := []) rfl (Nat.le_of_ble_eq_true rfl) ⟨Nat.le_of_ble_eq_true rfl, Nat.le_of_ble_eq_true rfl⟩ ⟨Nat.zero_le _, Nat.zero_le _⟩ hl.1 dX5_top_72 (fun H locs X => ?_)
              refine r_aload_n F hl 1 rfl rfl dX5_top_75 ?_
              refine r_iload_n F hl 3 rfl rfl dX5_top_76 ?_
              refine d_cVJ F X 36 (by decide) (eK_36 G _) rfl (c_X5_forceAt l G τ1 N r (lfI r) (amI (fun x y => decide (fo (lfI r) N r x < fo (lfI r) N r y)) i) hr2 hN2 hW hE2 hL (by omega)) gv_RX5_173 rfl nd_X5_forceAt rfl (rest := [.long (J (fo (lfI r) N r i))]) rfl (Nat.le_of_ble_eq_true rfl) ⟨Nat.le_of_ble_eq_true rfl, Nat.le_of_ble_eq_true rfl⟩ ⟨Nat.zero_le _, Nat.zero_le _⟩ hl.1 dX5_top_77 (fun H locs X => ?_)
              refine r_lcmp_ge F 89 (by decide) (by omega) (by omega) dX5_top_80 dX5_top_81 (fun c5 => ?_) (fun c5 => ?_)
              · skip
                refine r_iload_n F hl 3 rfl rfl dX5_top_89 ?_
                refine r_eqI (b := amI (fun x y => decide (fo (lfI r) N r x < fo (lfI r) N r y)) (i + 1)) (by rw [amI_succ (fun x y => decide (fo (lfI r) N r x < fo (lfI r) N r y)) hi.1]; first | rw [if_pos (decide_eq_true (by omega))] | rw [if_neg (fun z => absurd (of_decide_eq_true z) (by omega))]) ?_
                refine r_istore_n F hl [(3, .int (I (amI (fun x y => decide (fo (lfI r) N r x < fo (lfI r) N r y)) (i + 1)))), (2, .int (I (amI (fun x y => decide (pr (lfI r) N r y < pr (lfI r) N r x)) (i + 1)))), (0, .ref (gY G 36)), (1, .int (I w)), (4, .int (I (amI (fun x y => decide (lw (lfI r) N y < lw (lfI r) N x)) i))), (5, .int (I (smI (fun j => lw (lfI r) N j) i))), (6, .int (I i))] rfl (by decide) rfl dX5_top_90 (fun ls hl => ?_)
                refine r_aload_n F hl 2 rfl rfl dX5_top_91 ?_
                refine r_get F X 36 (by decide) (eK_36 G _) rfl gl_RX5 5 (by decide) rfl gf_RX5_23 rfl dX5_top_92 ?_
                refine r_iload F hl 6 rfl dX5_top_95 ?_
                refine r_iald F X 39 (by decide) (eK_39 G) (by omega) (by decide) dX5_top_97 ?_
                refine r_eqI (b := (lfI r) i) (hE2 _ (by omega) (by omega)) ?_
                refine r_aload_n F hl 2 rfl rfl dX5_top_98 ?_
                refine r_get F X 36 (by decide) (eK_36 G _) rfl gl_RX5 5 (by decide) rfl gf_RX5_23 rfl dX5_top_99 ?_
                refine r_iload F hl 4 rfl dX5_top_102 ?_
                refine r_iald F X 39 (by decide) (eK_39 G) (by omega) (by decide) dX5_top_104 ?_
                refine r_eqI (b := (lfI r) (amI (fun x y => decide (lw (lfI r) N y < lw (lfI r) N x)) i)) (hE2 _ (by omega) (by omega)) ?_
                refine r_icmp_le F 113 (by decide) (by omega) (by omega) dX5_top_105 (fun c6 => ?_) (fun c6 => ?_)
                · skip
                  refine r_iload F hl 4 rfl dX5_top_113 ?_
                  refine r_eqI (b := amI (fun x y => decide (lw (lfI r) N y < lw (lfI r) N x)) (i + 1)) (by rw [amI_succ (fun x y => decide (lw (lfI r) N y < lw (lfI r) N x)) hi.1]; first | rw [if_pos (decide_eq_true (by rw [lwi (by omega), lwi (by omega)]; omega))] | rw [if_neg (fun z => absurd (of_decide_eq_true z) (by rw [lwi (by omega), lwi (by omega)]; omega))]) ?_
                  refine r_istore F hl [(4, .int (I (amI (fun x y => decide (lw (lfI r) N y < lw (lfI r) N x)) (i + 1)))), (3, .int (I (amI (fun x y => decide (fo (lfI r) N r x < fo (lfI r) N r y)) (i + 1)))), (2, .int (I (amI (fun x y => decide (pr (lfI r) N r y < pr (lfI r) N r x)) (i + 1)))), (0, .ref (gY G 36)), (1, .int (I w)), (5, .int (I (smI (fun j => lw (lfI r) N j) i))), (6, .int (I i))] (by decide) rfl dX5_top_115 (fun ls hl => ?_)
                  refine r_iload F hl 5 rfl dX5_top_117 ?_
                  refine r_aload_n F hl 3 rfl rfl dX5_top_119 ?_
                  refine r_get F X 36 (by decide) (eK_36 G _) rfl gl_RX5 5 (by decide) rfl gf_RX5_23 rfl dX5_top_120 ?_
                  refine r_iload F hl 6 rfl dX5_top_123 ?_
                  refine r_iald F X 39 (by decide) (eK_39 G) (by omega) (by decide) dX5_top_125 ?_
                  refine r_eqI (b := (lfI r) i) (hE2 _ (by omega) (by omega)) ?_
                  refine r_iadd F dX5_top_126 ?_
                  refine r_eqI (b := smI (fun j => lw (lfI r) N j) (i + 1)) (by rw [smI_succ (fun j => lw (lfI r) N j) hi.1]; show _ + _ = _ + lw (lfI r) N i; rw [lwi (by omega)]) ?_
                  refine r_istore F hl [(5, .int (I (smI (fun j => lw (lfI r) N j) (i + 1)))), (4, .int (I (amI (fun x y => decide (lw (lfI r) N y < lw (lfI r) N x)) (i + 1)))), (3, .int (I (amI (fun x y => decide (fo (lfI r) N r x < fo (lfI r) N r y)) (i + 1)))), (2, .int (I (amI (fun x y => decide (pr (lfI r) N r y < pr (lfI r) N r x)) (i + 1)))), (0, .ref (gY G 36)), (1, .int (I w)), (6, .int (I i))] (by decide) rfl dX5_top_127 (fun ls hl => ?_)
                  refine r_iinc F hl [(6, .int (I (i + 1))), (5, .int (I (smI (fun j => lw (lfI r) N j) (i + 1)))), (4, .int (I (amI (fun x y => decide (lw (lfI r) N y < lw (lfI r) N x)) (i + 1)))), (3, .int (I (amI (fun x y => decide (fo (lfI r) N r x < fo (lfI r) N r y)) (i + 1)))), (2, .int (I (amI (fun x y => decide (pr (lfI r) N r y < pr (lfI r) N r x)) (i + 1)))), (0, .ref (gY G 36)), (1, .int (I w))] 6 rfl (by decide) rfl dX5_top_129 (fun ls hl => ?_)
                  refine r_goto F 39 (by decide) dX5_top_132 ?_
                  exact ih39 (i + 1) _ _ _ (by omega) (by omega) X (lv_sub hl [5, 6, 4, 3, 2, 1, 0] rfl)
                · skip
                  refine r_iload F hl 6 rfl dX5_top_108 ?_
                  refine r_goto F 115 (by decide) dX5_top_110 ?_
                  refine r_eqI (b := amI (fun x y => decide (lw (lfI r) N y < lw (lfI r) N x)) (i + 1)) (by rw [amI_succ (fun x y => decide (lw (lfI r) N y < lw (lfI r) N x)) hi.1]; first | rw [if_pos (decide_eq_true (by rw [lwi (by omega), lwi (by omega)]; omega))] | rw [if_neg (fun z => absurd (of_decide_eq_true z) (by rw [lwi (by omega), lwi (by omega)]; omega))]) ?_
                  refine r_istore F hl [(4, .int (I (amI (fun x y => decide (lw (lfI r) N y < lw (lfI r) N x)) (i + 1)))), (3, .int (I (amI (fun x y => decide (fo (lfI r) N r x < fo (lfI r) N r y)) (i + 1)))), (2, .int (I (amI (fun x y => decide (pr (lfI r) N r y < pr (lfI r) N r x)) (i + 1)))), (0, .ref (gY G 36)), (1, .int (I w)), (5, .int (I (smI (fun j => lw (lfI r) N j) i))), (6, .int (I i))] (by decide) rfl dX5_top_115 (fun ls hl => ?_)
                  refine r_iload F hl 5 rfl dX5_top_117 ?_
                  refine r_aload_n F hl 3 rfl rfl dX5_top_119 ?_
                  refine r_get F X 36 (by decide) (eK_36 G _) rfl gl_RX5 5 (by decide) rfl gf_RX5_23 rfl dX5_top_120 ?_
                  refine r_iload F hl 6 rfl dX5_top_123 ?_
                  refine r_iald F X 39 (by decide) (eK_39 G) (by omega) (by decide) dX5_top_125 ?_
                  refine r_eqI (b := (lfI r) i) (hE2 _ (by omega) (by omega)) ?_
                  refine r_iadd F dX5_top_126 ?_
                  refine r_eqI (b := smI (fun j => lw (lfI r) N j) (i + 1)) (by rw [smI_succ (fun j => lw (lfI r) N j) hi.1]; show _ + _ = _ + lw (lfI r) N i; rw [lwi (by omega)]) ?_
                  refine r_istore F hl [(5, .int (I (smI (fun j => lw (lfI r) N j) (i + 1)))), (4, .int (I (amI (fun x y => decide (lw (lfI r) N y < lw (lfI r) N x)) (i + 1)))), (3, .int (I (amI (fun x y => decide (fo (lfI r) N r x < fo (lfI r) N r y)) (i + 1)))), (2, .int (I (amI (fun x y => decide (pr (lfI r) N r y < pr (lfI r) N r x)) (i + 1)))), (0, .ref (gY G 36)), (1, .int (I w)), (6, .int (I i))] (by decide) rfl dX5_top_127 (fun ls hl => ?_)
                  refine r_iinc F hl [(6, .int (I (i + 1))), (5, .int (I (smI (fun j => lw (lfI r) N j) (i + 1)))), (4, .int (I (amI (fun x y => decide (lw (lfI r) N y < lw (lfI r) N x)) (i + 1)))), (3, .int (I (amI (fun x y => decide (fo (lfI r) N r x < fo (lfI r) N r y)) (i + 1)))), (2, .int (I (amI (fun x y => decide (pr (lfI r) N r y < pr (lfI r) N r x)) (i + 1)))), (0, .ref (gY G 36)), (1, .int (I w))] 6 rfl (by decide) rfl dX5_top_129 (fun ls hl => ?_)
                  refine r_goto F 39 (by decide) dX5_top_132 ?_
                  exact ih39 (i + 1) _ _ _ (by omega) (by omega) X (lv_sub hl [5, 6, 4, 3, 2, 1, 0] rfl)
              · skip
                refine r_iload F hl 6 rfl dX5_top_84 ?_
                refine r_goto F 90 (by decide) dX5_top_86 ?_
                refine r_eqI (b := amI (fun x y => decide (fo (lfI r) N r x < fo (lfI r) N r y)) (i + 1)) (by rw [amI_succ (fun x y => decide (fo (lfI r) N r x < fo (lfI r) N r y)) hi.1]; first | rw [if_pos (decide_eq_true (by omega))] | rw [if_neg (fun z => absurd (of_decide_eq_true z) (by omega))]) ?_
                refine r_istore_n F hl [(3, .int (I (amI (fun x y => decide (fo (lfI r) N r x < fo (lfI r) N r y)) (i + 1)))), (2, .int (I (amI (fun x y => decide (pr (lfI r) N r y < pr (lfI r) N r x)) (i + 1)))), (0, .ref (gY G 36)), (1, .int (I w)), (4, .int (I (amI (fun x y => decide (lw (lfI r) N y < lw (lfI r) N x)) i))), (5, .int (I (smI (fun j => lw (lfI r) N j) i))), (6, .int (I i))] rfl (by decide) rfl dX5_top_90 (fun ls hl => ?_)
                refine r_aload_n F hl 2 rfl rfl dX5_top_91 ?_
                refine r_get F X 36 (by decide) (eK_36 G _) rfl gl_RX5 5 (by decide) rfl gf_RX5_23 rfl dX5_top_92 ?_
                refine r_iload F hl 6 rfl dX5_top_95 ?_
                refine r_iald F X 39 (by decide) (eK_39 G) (by omega) (by decide) dX5_top_97 ?_
                refine r_eqI (b := (lfI r) i) (hE2 _ (by omega) (by omega)) ?_
                refine r_aload_n F hl 2 rfl rfl dX5_top_98 ?_
                refine r_get F X 36 (by decide) (eK_36 G _) rfl gl_RX5 5 (by decide) rfl gf_RX5_23 rfl dX5_top_99 ?_
                refine r_iload F hl 4 rfl dX5_top_102 ?_
                refine r_iald F X 39 (by decide) (eK_39 G) (by omega) (by decide) dX5_top_104 ?_
                refine r_eqI (b := (lfI r) (amI (fun x y => decide (lw (lfI r) N y < lw (lfI r) N x)) i)) (hE2 _ (by omega) (by omega)) ?_
                refine r_icmp_le F 113 (by decide) (by omega) (by omega) dX5_top_105 (fun c7 => ?_) (fun c7 => ?_)
                · skip
                  refine r_iload F hl 4 rfl dX5_top_113 ?_
                  refine r_eqI (b := amI (fun x y => decide (lw (lfI r) N y < lw (lfI r) N x)) (i + 1)) (by rw [amI_succ (fun x y => decide (lw (lfI r) N y < lw (lfI r) N x)) hi.1]; first | rw [if_pos (decide_eq_true (by rw [lwi (by omega), lwi (by omega)]; omega))] | rw [if_neg (fun z => absurd (of_decide_eq_true z) (by rw [lwi (by omega), lwi (by omega)]; omega))]) ?_
                  refine r_istore F hl [(4, .int (I (amI (fun x y => decide (lw (lfI r) N y < lw (lfI r) N x)) (i + 1)))), (3, .int (I (amI (fun x y => decide (fo (lfI r) N r x < fo (lfI r) N r y)) (i + 1)))), (2, .int (I (amI (fun x y => decide (pr (lfI r) N r y < pr (lfI r) N r x)) (i + 1)))), (0, .ref (gY G 36)), (1, .int (I w)), (5, .int (I (smI (fun j => lw (lfI r) N j) i))), (6, .int (I i))] (by decide) rfl dX5_top_115 (fun ls hl => ?_)
                  refine r_iload F hl 5 rfl dX5_top_117 ?_
                  refine r_aload_n F hl 3 rfl rfl dX5_top_119 ?_
                  refine r_get F X 36 (by decide) (eK_36 G _) rfl gl_RX5 5 (by decide) rfl gf_RX5_23 rfl dX5_top_120 ?_
                  refine r_iload F hl 6 rfl dX5_top_123 ?_
                  refine r_iald F X 39 (by decide) (eK_39 G) (by omega) (by decide) dX5_top_125 ?_
                  refine r_eqI (b := (lfI r) i) (hE2 _ (by omega) (by omega)) ?_
                  refine r_iadd F dX5_top_126 ?_
                  refine r_eqI (b := smI (fun j => lw (lfI r) N j) (i + 1)) (by rw [smI_succ (fun j => lw (lfI r) N j) hi.1]; show _ + _ = _ + lw (lfI r) N i; rw [lwi (by omega)]) ?_
                  refine r_istore F hl [(5, .int (I (smI (fun j => lw (lfI r) N j) (i + 1)))), (4, .int (I (amI (fun x y => decide (lw (lfI r) N y < lw (lfI r) N x)) (i + 1)))), (3, .int (I (amI (fun x y => decide (fo (lfI r) N r x < fo (lfI r) N r y)) (i + 1)))), (2, .int (I (amI (fun x y => decide (pr (lfI r) N r y < pr (lfI r) N r x)) (i + 1)))), (0, .ref (gY G 36)), (1, .int (I w)), (6, .int (I i))] (by decide) rfl dX5_top_127 (fun ls hl => ?_)
                  refine r_iinc F hl [(6, .int (I (i + 1))), (5, .int (I (smI (fun j => lw (lfI r) N j) (i + 1)))), (4, .int (I (amI (fun x y => decide (lw (lfI r) N y < lw (lfI r) N x)) (i + 1)))), (3, .int (I (amI (fun x y => decide (fo (lfI r) N r x < fo (lfI r) N r y)) (i + 1)))), (2, .int (I (amI (fun x y => decide (pr (lfI r) N r y < pr (lfI r) N r x)) (i + 1)))), (0, .ref (gY G 36)), (1, .int (I w))] 6 rfl (by decide) rfl dX5_top_129 (fun ls hl => ?_)
                  refine r_goto F 39 (by decide) dX5_top_132 ?_
                  exact ih39 (i + 1) _ _ _ (by omega) (by omega) X (lv_sub hl [5, 6, 4, 3, 2, 1, 0] rfl)
                · skip
                  refine r_iload F hl 6 rfl dX5_top_108 ?_
                  refine r_goto F 115 (by decide) dX5_top_110 ?_
                  refine r_eqI (b := amI (fun x y => decide (lw (lfI r) N y < lw (lfI r) N x)) (i + 1)) (by rw [amI_succ (fun x y => decide (lw (lfI r) N y < lw (lfI r) N x)) hi.1]; first | rw [if_pos (decide_eq_true (by rw [lwi (by omega), lwi (by omega)]; omega))] | rw [if_neg (fun z => absurd (of_decide_eq_true z) (by rw [lwi (by omega), lwi (by omega)]; omega))]) ?_
                  refine r_istore F hl [(4, .int (I (amI (fun x y => decide (lw (lfI r) N y < lw (lfI r) N x)) (i + 1)))), (3, .int (I (amI (fun x y => decide (fo (lfI r) N r x < fo (lfI r) N r y)) (i + 1)))), (2, .int (I (amI (fun x y => decide (pr (lfI r) N r y < pr (lfI r) N r x)) (i + 1)))), (0, .ref (gY G 36)), (1, .int (I w)), (5, .int (I (smI (fun j => lw (lfI r) N j) i))), (6, .int (I i))] (by decide) rfl dX5_top_115 (fun ls hl => ?_)
                  refine r_iload F hl 5 rfl dX5_top_117 ?_
                  refine r_aload_n F hl 3 rfl rfl dX5_top_119 ?_
                  refine r_get F X 36 (by decide) (eK_36 G _) rfl gl_RX5 5 (by decide) rfl gf_RX5_23 rfl dX5_top_120 ?_
                  refine r_iload F hl 6 rfl dX5_top_123 ?_
                  refine r_iald F X 39 (by decide) (eK_39 G) (by omega) (by decide) dX5_top_125 ?_
                  refine r_eqI (b := (lfI r) i) (hE2 _ (by omega) (by omega)) ?_
                  refine r_iadd F dX5_top_126 ?_
                  refine r_eqI (b := smI (fun j => lw (lfI r) N j) (i + 1)) (by rw [smI_succ (fun j => lw (lfI r) N j) hi.1]; show _ + _ = _ + lw (lfI r) N i; rw [lwi (by omega)]) ?_
                  refine r_istore F hl [(5, .int (I (smI (fun j => lw (lfI r) N j) (i + 1)))), (4, .int (I (amI (fun x y => decide (lw (lfI r) N y < lw (lfI r) N x)) (i + 1)))), (3, .int (I (amI (fun x y => decide (fo (lfI r) N r x < fo (lfI r) N r y)) (i + 1)))), (2, .int (I (amI (fun x y => decide (pr (lfI r) N r y < pr (lfI r) N r x)) (i + 1)))), (0, .ref (gY G 36)), (1, .int (I w)), (6, .int (I i))] (by decide) rfl dX5_top_127 (fun ls hl => ?_)
                  refine r_iinc F hl [(6, .int (I (i + 1))), (5, .int (I (smI (fun j => lw (lfI r) N j) (i + 1)))), (4, .int (I (amI (fun x y => decide (lw (lfI r) N y < lw (lfI r) N x)) (i + 1)))), (3, .int (I (amI (fun x y => decide (fo (lfI r) N r x < fo (lfI r) N r y)) (i + 1)))), (2, .int (I (amI (fun x y => decide (pr (lfI r) N r y < pr (lfI r) N r x)) (i + 1)))), (0, .ref (gY G 36)), (1, .int (I w))] 6 rfl (by decide) rfl dX5_top_129 (fun ls hl => ?_)
                  refine r_goto F 39 (by decide) dX5_top_132 ?_
                  exact ih39 (i + 1) _ _ _ (by omega) (by omega) X (lv_sub hl [5, 6, 4, 3, 2, 1, 0] rfl)
            · skip
              refine r_iload F hl 6 rfl dX5_top_62 ?_
              refine r_goto F 68 (by decide) dX5_top_64 ?_
              refine r_eqI (b := amI (fun x y => decide (pr (lfI r) N r y < pr (lfI r) N r x)) (i + 1)) (by rw [amI_succ (fun x y => decide (pr (lfI r) N r y < pr (lfI r) N r x)) hi.1]; first | rw [if_pos (decide_eq_true (by omega))] | rw [if_neg (fun z => absurd (of_decide_eq_true z) (by omega))]) ?_
              refine r_istore_n F hl [(2, .int (I (amI (fun x y => decide (pr (lfI r) N r y < pr (lfI r) N r x)) (i + 1)))), (0, .ref (gY G 36)), (1, .int (I w)), (3, .int (I (amI (fun x y => decide (fo (lfI r) N r x < fo (lfI r) N r y)) i))), (4, .int (I (amI (fun x y => decide (lw (lfI r) N y < lw (lfI r) N x)) i))), (5, .int (I (smI (fun j => lw (lfI r) N j) i))), (6, .int (I i))] rfl (by decide) rfl dX5_top_68 (fun ls hl => ?_)
              refine r_aload_n F hl 1 rfl rfl dX5_top_69 ?_
              refine r_iload F hl 6 rfl dX5_top_70 ?_
              refine d_cVJ F X 36 (by decide) (eK_36 G _) rfl (c_X5_forceAt l G τ1 N r (lfI r) i hr2 hN2 hW hE2 hL (by omega)) gv_RX5_173 rfl nd_X5_forceAt rfl (rest := []) rfl (Nat.le_of_ble_eq_true rfl) ⟨Nat.le_of_ble_eq_true rfl, Nat.le_of_ble_eq_true rfl⟩ ⟨Nat.zero_le _, Nat.zero_le _⟩ hl.1 dX5_top_72 (fun H locs X => ?_)
              refine r_aload_n F hl 1 rfl rfl dX5_top_75 ?_
              refine r_iload_n F hl 3 rfl rfl dX5_top_76 ?_
              refine d_cVJ F X 36 (by decide) (eK_36 G _) rfl (c_X5_forceAt l G τ1 N r (lfI r) (amI (fun x y => decide (fo (lfI r) N r x < fo (lfI r) N r y)) i) hr2 hN2 hW hE2 hL (by omega)) gv_RX5_173 rfl nd_X5_forceAt rfl (rest := [.long (J (fo (lfI r) N r i))]) rfl (Nat.le_of_ble_eq_true rfl) ⟨Nat.le_of_ble_eq_true rfl, Nat.le_of_ble_eq_true rfl⟩ ⟨Nat.zero_le _, Nat.zero_le _⟩ hl.1 dX5_top_77 (fun H locs X => ?_)
              refine r_lcmp_ge F 89 (by decide) (by omega) (by omega) dX5_top_80 dX5_top_81 (fun c8 => ?_) (fun c8 => ?_)
              · skip
                refine r_iload_n F hl 3 rfl rfl dX5_top_89 ?_
                refine r_eqI (b := amI (fun x y => decide (fo (lfI r) N r x < fo (lfI r) N r y)) (i + 1)) (by rw [amI_succ (fun x y => decide (fo (lfI r) N r x < fo (lfI r) N r y)) hi.1]; first | rw [if_pos (decide_eq_true (by omega))] | rw [if_neg (fun z => absurd (of_decide_eq_true z) (by omega))]) ?_
                refine r_istore_n F hl [(3, .int (I (amI (fun x y => decide (fo (lfI r) N r x < fo (lfI r) N r y)) (i + 1)))), (2, .int (I (amI (fun x y => decide (pr (lfI r) N r y < pr (lfI r) N r x)) (i + 1)))), (0, .ref (gY G 36)), (1, .int (I w)), (4, .int (I (amI (fun x y => decide (lw (lfI r) N y < lw (lfI r) N x)) i))), (5, .int (I (smI (fun j => lw (lfI r) N j) i))), (6, .int (I i))] rfl (by decide) rfl dX5_top_90 (fun ls hl => ?_)
                refine r_aload_n F hl 2 rfl rfl dX5_top_91 ?_
                refine r_get F X 36 (by decide) (eK_36 G _) rfl gl_RX5 5 (by decide) rfl gf_RX5_23 rfl dX5_top_92 ?_
                refine r_iload F hl 6 rfl dX5_top_95 ?_
                refine r_iald F X 39 (by decide) (eK_39 G) (by omega) (by decide) dX5_top_97 ?_
                refine r_eqI (b := (lfI r) i) (hE2 _ (by omega) (by omega)) ?_
                refine r_aload_n F hl 2 rfl rfl dX5_top_98 ?_
                refine r_get F X 36 (by decide) (eK_36 G _) rfl gl_RX5 5 (by decide) rfl gf_RX5_23 rfl dX5_top_99 ?_
                refine r_iload F hl 4 rfl dX5_top_102 ?_
                refine r_iald F X 39 (by decide) (eK_39 G) (by omega) (by decide) dX5_top_104 ?_
                refine r_eqI (b := (lfI r) (amI (fun x y => decide (lw (lfI r) N y < lw (lfI r) N x)) i)) (hE2 _ (by omega) (by omega)) ?_
                refine r_icmp_le F 113 (by decide) (by omega) (by omega) dX5_top_105 (fun c9 => ?_) (fun c9 => ?_)
                · skip
                  refine r_iload F hl 4 rfl dX5_top_113 ?_
                  refine r_eqI (b := amI (fun x y => decide (lw (lfI r) N y < lw (lfI r) N x)) (i + 1)) (by rw [amI_succ (fun x y => decide (lw (lfI r) N y < lw (lfI r) N x)) hi.1]; first | rw [if_pos (decide_eq_true (by rw [lwi (by omega), lwi (by omega)]; omega))] | rw [if_neg (fun z => absurd (of_decide_eq_true z) (by rw [lwi (by omega), lwi (by omega)]; omega))]) ?_
                  refine r_istore F hl [(4, .int (I (amI (fun x y => decide (lw (lfI r) N y < lw (lfI r) N x)) (i + 1)))), (3, .int (I (amI (fun x y => decide (fo (lfI r) N r x < fo (lfI r) N r y)) (i + 1)))), (2, .int (I (amI (fun x y => decide (pr (lfI r) N r y < pr (lfI r) N r x)) (i + 1)))), (0, .ref (gY G 36)), (1, .int (I w)), (5, .int (I (smI (fun j => lw (lfI r) N j) i))), (6, .int (I i))] (by decide) rfl dX5_top_115 (fun ls hl => ?_)
                  refine r_iload F hl 5 rfl dX5_top_117 ?_
                  refine r_aload_n F hl 3 rfl rfl dX5_top_119 ?_
                  refine r_get F X 36 (by decide) (eK_36 G _) rfl gl_RX5 5 (by decide) rfl gf_RX5_23 rfl dX5_top_120 ?_
                  refine r_iload F hl 6 rfl dX5_top_123 ?_
                  refine r_iald F X 39 (by decide) (eK_39 G) (by omega) (by decide) dX5_top_125 ?_
                  refine r_eqI (b := (lfI r) i) (hE2 _ (by omega) (by omega)) ?_
                  refine r_iadd F dX5_top_126 ?_
                  refine r_eqI (b := smI (fun j => lw (lfI r) N j) (i + 1)) (by rw [smI_succ (fun j => lw (lfI r) N j) hi.1]; show _ + _ = _ + lw (lfI r) N i; rw [lwi (by omega)]) ?_
                  refine r_istore F hl [(5, .int (I (smI (fun j => lw (lfI r) N j) (i + 1)))), (4, .int (I (amI (fun x y => decide (lw (lfI r) N y < lw (lfI r) N x)) (i + 1)))), (3, .int (I (amI (fun x y => decide (fo (lfI r) N r x < fo (lfI r) N r y)) (i + 1)))), (2, .int (I (amI (fun x y => decide (pr (lfI r) N r y < pr (lfI r) N r x)) (i + 1)))), (0, .ref (gY G 36)), (1, .int (I w)), (6, .int (I i))] (by decide) rfl dX5_top_127 (fun ls hl => ?_)
                  refine r_iinc F hl [(6, .int (I (i + 1))), (5, .int (I (smI (fun j => lw (lfI r) N j) (i + 1)))), (4, .int (I (amI (fun x y => decide (lw (lfI r) N y < lw (lfI r) N x)) (i + 1)))), (3, .int (I (amI (fun x y => decide (fo (lfI r) N r x < fo (lfI r) N r y)) (i + 1)))), (2, .int (I (amI (fun x y => decide (pr (lfI r) N r y < pr (lfI r) N r x)) (i + 1)))), (0, .ref (gY G 36)), (1, .int (I w))] 6 rfl (by decide) rfl dX5_top_129 (fun ls hl => ?_)
                  refine r_goto F 39 (by decide) dX5_top_132 ?_
                  exact ih39 (i + 1) _ _ _ (by omega) (by omega) X (lv_sub hl [5, 6, 4, 3, 2, 1, 0] rfl)
                · skip
                  refine r_iload F hl 6 rfl dX5_top_108 ?_
                  refine r_goto F 115 (by decide) dX5_top_110 ?_
                  refine r_eqI (b := amI (fun x y => decide (lw (lfI r) N y < lw (lfI r) N x)) (i + 1)) (by rw [amI_succ (fun x y => decide (lw (lfI r) N y < lw (lfI r) N x)) hi.1]; first | rw [if_pos (decide_eq_true (by rw [lwi (by omega), lwi (by omega)]; omega))] | rw [if_neg (fun z => absurd (of_decide_eq_true z) (by rw [lwi (by omega), lwi (by omega)]; omega))]) ?_
                  refine r_istore F hl [(4, .int (I (amI (fun x y => decide (lw (lfI r) N y < lw (lfI r) N x)) (i + 1)))), (3, .int (I (amI (fun x y => decide (fo (lfI r) N r x < fo (lfI r) N r y)) (i + 1)))), (2, .int (I (amI (fun x y => decide (pr (lfI r) N r y < pr (lfI r) N r x)) (i + 1)))), (0, .ref (gY G 36)), (1, .int (I w)), (5, .int (I (smI (fun j => lw (lfI r) N j) i))), (6, .int (I i))] (by decide) rfl dX5_top_115 (fun ls hl => ?_)
                  refine r_iload F hl 5 rfl dX5_top_117 ?_
                  refine r_aload_n F hl 3 rfl rfl dX5_top_119 ?_
                  refine r_get F X 36 (by decide) (eK_36 G _) rfl gl_RX5 5 (by decide) rfl gf_RX5_23 rfl dX5_top_120 ?_
                  refine r_iload F hl 6 rfl dX5_top_123 ?_
                  refine r_iald F X 39 (by decide) (eK_39 G) (by omega) (by decide) dX5_top_125 ?_
                  refine r_eqI (b := (lfI r) i) (hE2 _ (by omega) (by omega)) ?_
                  refine r_iadd F dX5_top_126 ?_
                  refine r_eqI (b := smI (fun j => lw (lfI r) N j) (i + 1)) (by rw [smI_succ (fun j => lw (lfI r) N j) hi.1]; show _ + _ = _ + lw (lfI r) N i; rw [lwi (by omega)]) ?_
                  refine r_istore F hl [(5, .int (I (smI (fun j => lw (lfI r) N j) (i + 1)))), (4, .int (I (amI (fun x y => decide (lw (lfI r) N y < lw (lfI r) N x)) (i + 1)))), (3, .int (I (amI (fun x y => decide (fo (lfI r) N r x < fo (lfI r) N r y)) (i + 1)))), (2, .int (I (amI (fun x y => decide (pr (lfI r) N r y < pr (lfI r) N r x)) (i + 1)))), (0, .ref (gY G 36)), (1, .int (I w)), (6, .int (I i))] (by decide) rfl dX5_top_127 (fun ls hl => ?_)
                  refine r_iinc F hl [(6, .int (I (i + 1))), (5, .int (I (smI (fun j => lw (lfI r) N j) (i + 1)))), (4, .int (I (amI (fun x y => decide (lw (lfI r) N y < lw (lfI r) N x)) (i + 1)))), (3, .int (I (amI (fun x y => decide (fo (lfI r) N r x < fo (lfI r) N r y)) (i + 1)))), (2, .int (I (amI (fun x y => decide (pr (lfI r) N r y < pr (lfI r) N r x)) (i + 1)))), (0, .ref (gY G 36)), (1, .int (I w))] 6 rfl (by decide) rfl dX5_top_129 (fun ls hl => ?_)
                  refine r_goto F 39 (by decide) dX5_top_132 ?_
                  exact ih39 (i + 1) _ _ _ (by omega) (by omega) X (lv_sub hl [5, 6, 4, 3, 2, 1, 0] rfl)
              · skip
                refine r_iload F hl 6 rfl dX5_top_84 ?_
                refine r_goto F 90 (by decide) dX5_top_86 ?_
                refine r_eqI (b := amI (fun x y => decide (fo (lfI r) N r x < fo (lfI r) N r y)) (i + 1)) (by rw [amI_succ (fun x y => decide (fo (lfI r) N r x < fo (lfI r) N r y)) hi.1]; first | rw [if_pos (decide_eq_true (by omega))] | rw [if_neg (fun z => absurd (of_decide_eq_true z) (by omega))]) ?_
                refine r_istore_n F hl [(3, .int (I (amI (fun x y => decide (fo (lfI r) N r x < fo (lfI r) N r y)) (i + 1)))), (2, .int (I (amI (fun x y => decide (pr (lfI r) N r y < pr (lfI r) N r x)) (i + 1)))), (0, .ref (gY G 36)), (1, .int (I w)), (4, .int (I (amI (fun x y => decide (lw (lfI r) N y < lw (lfI r) N x)) i))), (5, .int (I (smI (fun j => lw (lfI r) N j) i))), (6, .int (I i))] rfl (by decide) rfl dX5_top_90 (fun ls hl => ?_)
                refine r_aload_n F hl 2 rfl rfl dX5_top_91 ?_
                refine r_get F X 36 (by decide) (eK_36 G _) rfl gl_RX5 5 (by decide) rfl gf_RX5_23 rfl dX5_top_92 ?_
                refine r_iload F hl 6 rfl dX5_top_95 ?_
                refine r_iald F X 39 (by decide) (eK_39 G) (by omega) (by decide) dX5_top_97 ?_
                refine r_eqI (b := (lfI r) i) (hE2 _ (by omega) (by omega)) ?_
                refine r_aload_n F hl 2 rfl rfl dX5_top_98 ?_
                refine r_get F X 36 (by decide) (eK_36 G _) rfl gl_RX5 5 (by decide) rfl gf_RX5_23 rfl dX5_top_99 ?_
                refine r_iload F hl 4 rfl dX5_top_102 ?_
                refine r_iald F X 39 (by decide) (eK_39 G) (by omega) (by decide) dX5_top_104 ?_
                refine r_eqI (b := (lfI r) (amI (fun x y => decide (lw (lfI r) N y < lw (lfI r) N x)) i)) (hE2 _ (by omega) (by omega)) ?_
                refine r_icmp_le F 113 (by decide) (by omega) (by omega) dX5_top_105 (fun c10 => ?_) (fun c10 => ?_)
                · skip
                  refine r_iload F hl 4 rfl dX5_top_113 ?_
                  refine r_eqI (b := amI (fun x y => decide (lw (lfI r) N y < lw (lfI r) N x)) (i + 1)) (by rw [amI_succ (fun x y => decide (lw (lfI r) N y < lw (lfI r) N x)) hi.1]; first | rw [if_pos (decide_eq_true (by rw [lwi (by omega), lwi (by omega)]; omega))] | rw [if_neg (fun z => absurd (of_decide_eq_true z) (by rw [lwi (by omega), lwi (by omega)]; omega))]) ?_
                  refine r_istore F hl [(4, .int (I (amI (fun x y => decide (lw (lfI r) N y < lw (lfI r) N x)) (i + 1)))), (3, .int (I (amI (fun x y => decide (fo (lfI r) N r x < fo (lfI r) N r y)) (i + 1)))), (2, .int (I (amI (fun x y => decide (pr (lfI r) N r y < pr (lfI r) N r x)) (i + 1)))), (0, .ref (gY G 36)), (1, .int (I w)), (5, .int (I (smI (fun j => lw (lfI r) N j) i))), (6, .int (I i))] (by decide) rfl dX5_top_115 (fun ls hl => ?_)
                  refine r_iload F hl 5 rfl dX5_top_117 ?_
                  refine r_aload_n F hl 3 rfl rfl dX5_top_119 ?_
                  refine r_get F X 36 (by decide) (eK_36 G _) rfl gl_RX5 5 (by decide) rfl gf_RX5_23 rfl dX5_top_120 ?_
                  refine r_iload F hl 6 rfl dX5_top_123 ?_
                  refine r_iald F X 39 (by decide) (eK_39 G) (by omega) (by decide) dX5_top_125 ?_
                  refine r_eqI (b := (lfI r) i) (hE2 _ (by omega) (by omega)) ?_
                  refine r_iadd F dX5_top_126 ?_
                  refine r_eqI (b := smI (fun j => lw (lfI r) N j) (i + 1)) (by rw [smI_succ (fun j => lw (lfI r) N j) hi.1]; show _ + _ = _ + lw (lfI r) N i; rw [lwi (by omega)]) ?_
                  refine r_istore F hl [(5, .int (I (smI (fun j => lw (lfI r) N j) (i + 1)))), (4, .int (I (amI (fun x y => decide (lw (lfI r) N y < lw (lfI r) N x)) (i + 1)))), (3, .int (I (amI (fun x y => decide (fo (lfI r) N r x < fo (lfI r) N r y)) (i + 1)))), (2, .int (I (amI (fun x y => decide (pr (lfI r) N r y < pr (lfI r) N r x)) (i + 1)))), (0, .ref (gY G 36)), (1, .int (I w)), (6, .int (I i))] (by decide) rfl dX5_top_127 (fun ls hl => ?_)
                  refine r_iinc F hl [(6, .int (I (i + 1))), (5, .int (I (smI (fun j => lw (lfI r) N j) (i + 1)))), (4, .int (I (amI (fun x y => decide (lw (lfI r) N y < lw (lfI r) N x)) (i + 1)))), (3, .int (I (amI (fun x y => decide (fo (lfI r) N r x < fo (lfI r) N r y)) (i + 1)))), (2, .int (I (amI (fun x y => decide (pr (lfI r) N r y < pr (lfI r) N r x)) (i + 1)))), (0, .ref (gY G 36)), (1, .int (I w))] 6 rfl (by decide) rfl dX5_top_129 (fun ls hl => ?_)
                  refine r_goto F 39 (by decide) dX5_top_132 ?_
                  exact ih39 (i + 1) _ _ _ (by omega) (by omega) X (lv_sub hl [5, 6, 4, 3, 2, 1, 0] rfl)
                · skip
                  refine r_iload F hl 6 rfl dX5_top_108 ?_
                  refine r_goto F 115 (by decide) dX5_top_110 ?_
                  refine r_eqI (b := amI (fun x y => decide (lw (lfI r) N y < lw (lfI r) N x)) (i + 1)) (by rw [amI_succ (fun x y => decide (lw (lfI r) N y < lw (lfI r) N x)) hi.1]; first | rw [if_pos (decide_eq_true (by rw [lwi (by omega), lwi (by omega)]; omega))] | rw [if_neg (fun z => absurd (of_decide_eq_true z) (by rw [lwi (by omega), lwi (by omega)]; omega))]) ?_
                  refine r_istore F hl [(4, .int (I (amI (fun x y => decide (lw (lfI r) N y < lw (lfI r) N x)) (i + 1)))), (3, .int (I (amI (fun x y => decide (fo (lfI r) N r x < fo (lfI r) N r y)) (i + 1)))), (2, .int (I (amI (fun x y => decide (pr (lfI r) N r y < pr (lfI r) N r x)) (i + 1)))), (0, .ref (gY G 36)), (1, .int (I w)), (5, .int (I (smI (fun j => lw (lfI r) N j) i))), (6, .int (I i))] (by decide) rfl dX5_top_115 (fun ls hl => ?_)
                  refine r_iload F hl 5 rfl dX5_top_117 ?_
                  refine r_aload_n F hl 3 rfl rfl dX5_top_119 ?_
                  refine r_get F X 36 (by decide) (eK_36 G _) rfl gl_RX5 5 (by decide) rfl gf_RX5_23 rfl dX5_top_120 ?_
                  refine r_iload F hl 6 rfl dX5_top_123 ?_
                  refine r_iald F X 39 (by decide) (eK_39 G) (by omega) (by decide) dX5_top_125 ?_
                  refine r_eqI (b := (lfI r) i) (hE2 _ (by omega) (by omega)) ?_
                  refine r_iadd F dX5_top_126 ?_
                  refine r_eqI (b := smI (fun j => lw (lfI r) N j) (i + 1)) (by rw [smI_succ (fun j => lw (lfI r) N j) hi.1]; show _ + _ = _ + lw (lfI r) N i; rw [lwi (by omega)]) ?_
                  refine r_istore F hl [(5, .int (I (smI (fun j => lw (lfI r) N j) (i + 1)))), (4, .int (I (amI (fun x y => decide (lw (lfI r) N y < lw (lfI r) N x)) (i + 1)))), (3, .int (I (amI (fun x y => decide (fo (lfI r) N r x < fo (lfI r) N r y)) (i + 1)))), (2, .int (I (amI (fun x y => decide (pr (lfI r) N r y < pr (lfI r) N r x)) (i + 1)))), (0, .ref (gY G 36)), (1, .int (I w)), (6, .int (I i))] (by decide) rfl dX5_top_127 (fun ls hl => ?_)
                  refine r_iinc F hl [(6, .int (I (i + 1))), (5, .int (I (smI (fun j => lw (lfI r) N j) (i + 1)))), (4, .int (I (amI (fun x y => decide (lw (lfI r) N y < lw (lfI r) N x)) (i + 1)))), (3, .int (I (amI (fun x y => decide (fo (lfI r) N r x < fo (lfI r) N r y)) (i + 1)))), (2, .int (I (amI (fun x y => decide (pr (lfI r) N r y < pr (lfI r) N r x)) (i + 1)))), (0, .ref (gY G 36)), (1, .int (I w))] 6 rfl (by decide) rfl dX5_top_129 (fun ls hl => ?_)
                  refine r_goto F 39 (by decide) dX5_top_132 ?_
                  exact ih39 (i + 1) _ _ _ (by omega) (by omega) X (lv_sub hl [5, 6, 4, 3, 2, 1, 0] rfl)
      exact loop39 (((N - 0 : Int) + 1).toNat) 0 _ _ _ (by omega) (by omega) X (lv_sub hl [5, 6, 4, 3, 2, 1, 0] rfl)
    · skip
      refine r_iconst F dX5_top_24 ?_
      exact r_iret F X hr hk dX5_top_25 (by first | exact ⟨by unfold qTop; grind, hM2.1, hM2.2.1, hM2.2.2⟩ | exact ⟨by unfold qTop; grind, hM1.1, hM1.2.1, hM1.2.2⟩)
