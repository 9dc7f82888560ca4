theorem MX.th3 {σ ρ τ : St} {N : Int} {r : Int → Int} {n v0 v : Int} {hs : Int → Int → Int} (h : MX ρ N r n hs ∧ KY σ ρ ∧ ρ 36 0 = v0) (e : τ = up ρ 36 (upI (ρ 36) 0 v)) : MX τ N r n hs ∧ KY σ τ ∧ τ 36 0 = v := by
  have h2 := h.1.th e
  exact ⟨h2.1, fun k a => (h2.2.1 k a).trans (h.2.1 k a), h2.2.2⟩
theorem MX.best {σ τ : St} {N : Int} {r : Int → Int} {n : Int} {hs : Int → Int → Int} (h : MX σ N r n hs) (e : ∀ c : Nat, c ≠ 36 → c ≠ 37 → c ≠ 39 → c ≠ 40 → c ≠ 41 → τ c = σ c) (e37 : τ 37 = r) (e36 : ∀ i : Int, i < 8 → τ 36 i = σ 36 i) (hb : MBR τ) : MX τ N r n hs := by
  obtain ⟨h1, h2, h3, h4, h5, h6⟩ := h
  refine ⟨by rw [e36 1 (by omega)]; exact h1, e37, by rw [e36 4 (by omega)]; exact h3, h4, hb, fun j a b p => ?_⟩
  rw [h6 j a b p, e 38 (by omega) (by omega) (by omega) (by omega) (by omega)]
theorem lbI_10 (f : Int → Int) (N : Int) (r : Int → Int) (n : Int) : 10 ≤ lbI f N r n := (lbI_le.mp (Int.le_refl _)).1
theorem gqI_0 {f : Int → Int} {N : Int} {r : Int → Int} (hW : WF N r) (hL : LR f N) (n : Int) : 0 ≤ gqI f N r n := by
  refine gqI_ge.mpr ⟨by decide, fun i _ _ hp => ?_⟩
  have := (fo_rg hW hL i).1
  exact Int.ediv_nonneg (by omega) (by omega)
theorem c_X5_limit (l : Launch) (G : GT) (σ : St) (N : Int) (r : Int → Int) (n : Int) (hs : Int → Int → Int) (w : Int) (hM : MX σ N r n hs) (hW : WF N r) (hw : -2147483648 ≤ w ∧ w < 2147483648) : Ct l yX5_limit cX5_limit 3 (some .int) 10 G [.ref (gY G 36), .int (I w)] σ (QI G (fun x9 τ9 => x9 = qLimit N r w ∧ MX τ9 N r n hs ∧ KY σ τ9 ∧ τ9 36 0 = 0)) := by
  refine mt (own := RX5) (plainFor_of_name rfl) rfl (Nat.le_of_ble_eq_true rfl) ?_
  intro p e s m args below meth c ls F hr hk X hl
  have hl : lv_has ls 3 [(0, .ref (gY G 36)), (1, .int (I w))] := hl
  have hw := hW.num
  have hro := hM.2.1
  have hN := hM.1
  refine r_aload_n F hl 0 rfl rfl dX5_limit_0 ?_
  refine r_iconst F dX5_limit_1 ?_
  refine r_put F X 36 (by decide) (upI (σ 36) 0 0) (eK_36 G _) rfl gl_RX5 tyX5 tyX5_ok nmX5 0 (by decide) rfl gf_RX5_1 rfl (tyX5_ok 0 (by decide)) rfl rfl (Nat.le_of_ble_eq_true rfl) (eK_36 G _) dX5_limit_2 (fun H locs X => ?_)
  obtain ⟨σ1, eσ1⟩ : ∃ x9 : St, x9 = up σ 36 (upI (σ 36) 0 0) := ⟨_, rfl⟩
  rw [← eσ1] at X
  have hrσ1 : σ1 37 = r := by rw [eσ1, up_ne (by omega)]; exact hro
  have hNσ1 : σ1 36 1 = N := by rw [eσ1, up_eq, upI_ne (by omega)]; exact hN
  have hM1 := hM.th (v := 0) eσ1
  refine r_iload_n F hl 1 rfl rfl dX5_limit_5 ?_
  refine r_i2l F (by omega) dX5_limit_6 ?_
  refine r_lconst F 0 (by decide +kernel) dX5_limit_7 ?_
  refine r_ldc2 F 2 gk_RX5_84 (by decide +kernel) dX5_limit_8 ?_
  refine d_cSI F X (c_X5_within l G σ1 w 0 2 (by omega) (by omega) (by omega)) gv_RX5_39 nd_X5_within rfl (rest := []) rfl (Nat.le_of_ble_eq_true rfl) ⟨Nat.le_of_ble_eq_true rfl, Nat.le_of_ble_eq_true rfl⟩ ⟨Nat.zero_le _, Nat.zero_le _⟩ hl.1 dX5_limit_11 (fun H locs X => ?_)
  refine r_bz_eq F 24 (0 ≤ w ∧ w ≤ 2) rfl (by decide) dX5_limit_14 (fun c1 => ?_) (fun c1 => ?_)
  · skip
    refine r_iconst F dX5_limit_24 ?_
    exact r_iret F X hr hk dX5_limit_25 (by first | exact ⟨by unfold qLimit; grind, hM2.1, hM2.2.1, hM2.2.2⟩ | exact ⟨by unfold qLimit; grind, hM1.1, hM1.2.1, hM1.2.2⟩)
  · skip
    refine r_aload_n F hl 0 rfl rfl dX5_limit_17 ?_
    refine r_cVI F X 36 (by decide) (eK_36 G _) rfl (c_X5_isLaid l G σ1 N r hrσ1 hNσ1 hW) gv_RX5_128 rfl nd_X5_isLaid rfl (rest := []) rfl (Nat.le_of_ble_eq_true rfl) ⟨Nat.le_of_ble_eq_true rfl, Nat.le_of_ble_eq_true rfl⟩ ⟨Nat.zero_le _, Nat.zero_le _⟩ hl.1 dX5_limit_18 (fun x1 τ1 H locs hI X => ?_)
    obtain ⟨hx1, hfr1, hE1⟩ := hI
    have hM2 := MX.laid hM1 hfr1
    have hr2 := hM2.1.2.1
    have hN2 := hM2.1.1
    refine r_eqI (b := if whl N r = true then 1 else 0) (hx1) ?_
    refine r_bz_ne F 26 (whl N r = true) rfl (by decide) dX5_limit_21 (fun c2 => ?_) (fun c2 => ?_)
    · skip
      have hE2 := hE1 (by assumption)
      have hL := lfI_LR hW (by assumption)
      have hlb := lbI_10 (lfI r) N r N
      have hgq := gqI_0 hW hL N
      refine r_iconst F dX5_limit_26 ?_
      refine r_istore_n F hl [(2, .int (I 0)), (0, .ref (gY G 36)), (1, .int (I w))] rfl (by decide) rfl dX5_limit_27 (fun ls hl => ?_)
      refine r_iload_n F hl 2 rfl rfl dX5_limit_28 ?_
      refine r_if_ne F 60 (by decide) (by omega) dX5_limit_29 (fun c3 => ?_) (fun c3 => ?_)
      · skip
        refine r_iload_n F hl 2 rfl rfl dX5_limit_60 ?_
        refine r_iconst F dX5_limit_61 ?_
        refine r_icmp_ne F 105 (by decide) (by omega) (by omega) dX5_limit_62 (fun c4 => ?_) (fun c4 => ?_)
        · skip
          refine r_sipush F (by decide) dX5_limit_105 ?_
          refine r_istore_n F hl [(2, .int (I 9999)), (0, .ref (gY G 36)), (1, .int (I w))] rfl (by decide) rfl dX5_limit_108 (fun ls hl => ?_)
          have loop109 : ∀ (n_ : Nat) (v : Int) (ls : Array Slot) (H : Heap) (locs : List Loc) (hn_ : v < n_) (hv : 0 ≤ v ∧ v ≤ 9999) (hp : v = 9999 ∨ ¬ (v + 1) * (v + 1) ≤ gqI (lfI r) N r N) (X : HX G τ1 s H locs) (hl : lv_has ls 3 [(0, .ref (gY G 36)), (1, .int (I w)), (2, .int (I v))]), W p l e (rmd 10) s m args below meth c H locs 0 0 (MQ below (QI G (fun x9 τ9 => x9 = qLimit N r w ∧ MX τ9 N r n hs ∧ KY σ τ9 ∧ τ9 36 0 = 0)) args s 0 0 (gA G)) (F0 m 109 ls []) := by
            intro n_
            induction n_ with
            | zero => intro v ls H locs hn_ hv hp X hl; omega
            | succ n_ ih109 =>
              intro v ls H locs hn_ hv hp X hl
              refine r_iload_n F hl 2 rfl rfl dX5_limit_109 ?_
              refine r_if_lt F 130 (by decide) (by omega) dX5_limit_110 (fun c5 => ?_) (fun c5 => ?_)
              · omega
              · skip
                refine r_aload_n F hl 0 rfl rfl dX5_limit_113 ?_
                refine r_bipush F (by decide) dX5_limit_114 ?_
                refine r_iload_n F hl 2 rfl rfl dX5_limit_116 ?_
                refine r_iconst F dX5_limit_117 ?_
                refine d_cVI F X 36 (by decide) (eK_36 G _) rfl (c_X5_isFree l G τ1 N r (lfI r) 68 v 3 hr2 hN2 hW hE2 hL (by omega) (by omega)) gv_RX5_218 rfl nd_X5_isFree rfl (rest := []) rfl (Nat.le_of_ble_eq_true rfl) ⟨Nat.le_of_ble_eq_true rfl, Nat.le_of_ble_eq_true rfl⟩ ⟨Nat.zero_le _, Nat.zero_le _⟩ hl.1 dX5_limit_118 (fun H locs X => ?_)
                refine r_bz_ne F 130 (alI (fr (lfI r) N (upI r 68 v) 3) N = true) rfl (by decide) dX5_limit_121 (fun c6 => ?_) (fun c6 => ?_)
                · skip
                  refine r_iload_n F hl 2 rfl rfl dX5_limit_130 ?_
                  exact r_iret F X hr hk dX5_limit_131 (⟨by unfold qLimit; rw [if_pos (by assumption), if_neg (by omega), if_neg (by omega), if_pos (by omega)]; have z9 := (gq_fo hW hL (v := v) (by omega)).mp (by assumption); exact pfI_mono (by omega) hv.1 hv.2 (fun _ => decide_eq_true z9) (fun j a b _ => decide_eq_true (Int.le_trans (Int.mul_le_mul b b (by omega) (by omega)) z9)) (hp.imp id (fun y => decide_eq_false y)), hM2.1, hM2.2.1, hM2.2.2⟩)
                · skip
                  refine r_iinc F hl [(2, .int (I (v + (-1)))), (0, .ref (gY G 36)), (1, .int (I w))] 2 rfl (by decide) rfl dX5_limit_124 (fun ls hl => ?_)
                  refine r_goto F 109 (by decide) dX5_limit_127 ?_
                  exact ih109 (v + (-1)) _ _ _ (by omega) (by rcases (show v = 0 ∨ 0 < v by omega) with z | z; (exfalso; have z9 := mt' (gq_fo hW hL (v := v) (by omega)).mpr (by assumption); rw [z] at z9; omega); omega) (by right; have z9 := mt' (gq_fo hW hL (v := v) (by omega)).mpr (by assumption); rw [show v + (-1) + 1 = v by omega]; exact z9) X (lv_sub hl [1, 2, 0] rfl)
          exact loop109 (((9999 : Int) + 1).toNat) 9999 _ _ _ (by omega) (by omega) (by left; rfl) X (lv_sub hl [1, 2, 0] rfl)
        · skip
          refine r_bipush F (by decide) dX5_limit_65 ?_
          refine r_istore_n F hl [(2, .int (I 10)), (0, .ref (gY G 36)), (1, .int (I w))] rfl (by decide) rfl dX5_limit_67 (fun ls hl => ?_)
          have loop68 : ∀ (n_ : Nat) (v : Int) (ls : Array Slot) (H : Heap) (locs : List Loc) (hn_ : 10000 - v < n_) (hv : 10 ≤ v ∧ v ≤ 10000) (hp : v ≤ lbI (lfI r) N r N) (X : HX G τ1 s H locs) (hl : lv_has ls 3 [(0, .ref (gY G 36)), (1, .int (I w)), (2, .int (I v))]), W p l e (rmd 10) s m args below meth c H locs 0 0 (MQ below (QI G (fun x9 τ9 => x9 = qLimit N r w ∧ MX τ9 N r n hs ∧ KY σ τ9 ∧ τ9 36 0 = 0)) args s 0 0 (gA G)) (F0 m 68 ls []) := by
            intro n_
            induction n_ with
            | zero => intro v ls H locs hn_ hv hp X hl; omega
            | succ n_ ih68 =>
              intro v ls H locs hn_ hv hp X hl
              refine r_iload_n F hl 2 rfl rfl dX5_limit_68 ?_
              refine r_sipush F (by decide) dX5_limit_69 ?_
              refine r_icmp_gt F 92 (by decide) (by omega) (by omega) dX5_limit_72 (fun c7 => ?_) (fun c7 => ?_)
              · skip
                refine r_iload_n F hl 2 rfl rfl dX5_limit_92 ?_
                refine r_sipush F (by decide) dX5_limit_93 ?_
                refine r_icmp_le F 103 (by decide) (by omega) (by omega) dX5_limit_96 (fun c8 => ?_) (fun c8 => ?_)
                · skip
                  refine r_iload_n F hl 2 rfl rfl dX5_limit_103 ?_
                  exact r_iret F X hr hk dX5_limit_104 (⟨by unfold qLimit; rw [if_pos (by assumption), if_neg (by omega), if_pos (by omega)]; first | (exfalso; omega) | (rw [if_neg (by omega)]) | (have z9 := (lb_pr hW hL (v := v) (by omega)).mp (by assumption); rw [if_pos (by omega)]; omega), hM2.1, hM2.2.1, hM2.2.2⟩)
                · skip
                  refine r_iconst F dX5_limit_99 ?_
                  refine r_goto F 104 (by decide) dX5_limit_100 ?_
                  exact r_iret F X hr hk dX5_limit_104 (⟨by unfold qLimit; rw [if_pos (by assumption), if_neg (by omega), if_pos (by omega)]; first | (exfalso; omega) | (rw [if_neg (by omega)]) | (have z9 := (lb_pr hW hL (v := v) (by omega)).mp (by assumption); rw [if_pos (by omega)]; omega), hM2.1, hM2.2.1, hM2.2.2⟩)
              · skip
                refine r_aload_n F hl 0 rfl rfl dX5_limit_75 ?_
                refine r_bipush F (by decide) dX5_limit_76 ?_
                refine r_iload_n F hl 2 rfl rfl dX5_limit_78 ?_
                refine r_iconst F dX5_limit_79 ?_
                refine d_cVI F X 36 (by decide) (eK_36 G _) rfl (c_X5_isFree l G τ1 N r (lfI r) 63 v 2 hr2 hN2 hW hE2 hL (by omega) (by omega)) gv_RX5_218 rfl nd_X5_isFree rfl (rest := []) rfl (Nat.le_of_ble_eq_true rfl) ⟨Nat.le_of_ble_eq_true rfl, Nat.le_of_ble_eq_true rfl⟩ ⟨Nat.zero_le _, Nat.zero_le _⟩ hl.1 dX5_limit_80 (fun H locs X => ?_)
                refine r_bz_ne F 92 (alI (fr (lfI r) N (upI r 63 v) 2) N = true) rfl (by decide) dX5_limit_83 (fun c9 => ?_) (fun c9 => ?_)
                · skip
                  refine r_iload_n F hl 2 rfl rfl dX5_limit_92 ?_
                  refine r_sipush F (by decide) dX5_limit_93 ?_
                  refine r_icmp_le F 103 (by decide) (by omega) (by omega) dX5_limit_96 (fun c10 => ?_) (fun c10 => ?_)
                  · skip
                    refine r_iload_n F hl 2 rfl rfl dX5_limit_103 ?_
                    exact r_iret F X hr hk dX5_limit_104 (⟨by unfold qLimit; rw [if_pos (by assumption), if_neg (by omega), if_pos (by omega)]; first | (exfalso; omega) | (rw [if_neg (by omega)]) | (have z9 := (lb_pr hW hL (v := v) (by omega)).mp (by assumption); rw [if_pos (by omega)]; omega), hM2.1, hM2.2.1, hM2.2.2⟩)
                  · skip
                    refine r_iconst F dX5_limit_99 ?_
                    refine r_goto F 104 (by decide) dX5_limit_100 ?_
                    exact r_iret F X hr hk dX5_limit_104 (⟨by unfold qLimit; rw [if_pos (by assumption), if_neg (by omega), if_pos (by omega)]; first | (exfalso; omega) | (rw [if_neg (by omega)]) | (have z9 := (lb_pr hW hL (v := v) (by omega)).mp (by assumption); rw [if_pos (by omega)]; omega), hM2.1, hM2.2.1, hM2.2.2⟩)
                · skip
                  refine r_iinc F hl [(2, .int (I (v + 1))), (0, .ref (gY G 36)), (1, .int (I w))] 2 rfl (by decide) rfl dX5_limit_86 (fun ls hl => ?_)
                  refine r_goto F 68 (by decide) dX5_limit_89 ?_
                  exact ih68 (v + 1) _ _ _ (by omega) (by omega) (by have z9 := mt' (lb_pr hW hL (v := v) (by omega)).mpr (by assumption); omega) X (lv_sub hl [1, 2, 0] rfl)
          exact loop68 (((10000 - 10 : Int) + 1).toNat) 10 _ _ _ (by omega) (by omega) (by omega) X (lv_sub hl [1, 2, 0] rfl)
      · skip
        have loop32 : ∀ (n_ : Nat) (v : Int) (ls : Array Slot) (H : Heap) (locs : List Loc) (hn_ : 9999 - v < n_) (hv : 0 ≤ v ∧ v ≤ 9999) (hp : ∀ j : Int, 1 ≤ j → j ≤ v → acl (lfI r) N r j = true) (X : HX G τ1 s H locs) (hl : lv_has ls 3 [(0, .ref (gY G 36)), (1, .int (I w)), (2, .int (I v))]), W p l e (rmd 10) s m args below meth c H locs 0 0 (MQ below (QI G (fun x9 τ9 => x9 = qLimit N r w ∧ MX τ9 N r n hs ∧ KY σ τ9 ∧ τ9 36 0 = 0)) args s 0 0 (gA G)) (F0 m 32 ls []) := by
          intro n_
          induction n_ with
          | zero => intro v ls H locs hn_ hv hp X hl; omega
          | succ n_ ih32 =>
            intro v ls H locs hn_ hv hp X hl
            refine r_iload_n F hl 2 rfl rfl dX5_limit_32 ?_
            refine r_sipush F (by decide) dX5_limit_33 ?_
            refine r_icmp_ge F 58 (by decide) (by omega) (by omega) dX5_limit_36 (fun c11 => ?_) (fun c11 => ?_)
            · skip
              refine r_iload_n F hl 2 rfl rfl dX5_limit_58 ?_
              exact r_iret F X hr hk dX5_limit_59 (⟨by unfold qLimit; rw [if_pos (by assumption), if_pos (by omega)]; exact (pfI_eq hv.1 hv.2 hp (by first | (left; omega) | (right; rw [← cl_fr]; simpa using ‹¬ alI (fr (lfI r) N (upI r 64 (v + 1)) 0) N = true›))).symm, hM2.1, hM2.2.1, hM2.2.2⟩)
            · skip
              refine r_aload_n F hl 0 rfl rfl dX5_limit_39 ?_
              refine r_bipush F (by decide) dX5_limit_40 ?_
              refine r_iload_n F hl 2 rfl rfl dX5_limit_42 ?_
              refine r_iconst F dX5_limit_43 ?_
              refine r_iadd F dX5_limit_44 ?_
              refine r_iconst F dX5_limit_45 ?_
              refine d_cVI F X 36 (by decide) (eK_36 G _) rfl (c_X5_isFree l G τ1 N r (lfI r) 64 (v + 1) 0 hr2 hN2 hW hE2 hL (by omega) (by omega)) gv_RX5_218 rfl nd_X5_isFree rfl (rest := []) rfl (Nat.le_of_ble_eq_true rfl) ⟨Nat.le_of_ble_eq_true rfl, Nat.le_of_ble_eq_true rfl⟩ ⟨Nat.zero_le _, Nat.zero_le _⟩ hl.1 dX5_limit_46 (fun H locs X => ?_)
              refine r_bz_eq F 58 (alI (fr (lfI r) N (upI r 64 (v + 1)) 0) N = true) rfl (by decide) dX5_limit_49 (fun c12 => ?_) (fun c12 => ?_)
              · skip
                refine r_iload_n F hl 2 rfl rfl dX5_limit_58 ?_
                exact r_iret F X hr hk dX5_limit_59 (⟨by unfold qLimit; rw [if_pos (by assumption), if_pos (by omega)]; exact (pfI_eq hv.1 hv.2 hp (by first | (left; omega) | (right; rw [← cl_fr]; simpa using ‹¬ alI (fr (lfI r) N (upI r 64 (v + 1)) 0) N = true›))).symm, hM2.1, hM2.2.1, hM2.2.2⟩)
              · skip
                refine r_iinc F hl [(2, .int (I (v + 1))), (0, .ref (gY G 36)), (1, .int (I w))] 2 rfl (by decide) rfl dX5_limit_52 (fun ls hl => ?_)
                refine r_goto F 32 (by decide) dX5_limit_55 ?_
                exact ih32 (v + 1) _ _ _ (by omega) (by omega) (by intro j a b; rcases (show j ≤ v ∨ j = v + 1 by omega) with z | z; (exact hp j a z); (rw [z, ← cl_fr]; assumption)) X (lv_sub hl [1, 2, 0] rfl)
        exact loop32 (((9999 - 0 : Int) + 1).toNat) 0 _ _ _ (by omega) (by omega) (by intro j a b; omega) X (lv_sub hl [1, 2, 0] rfl)
    · skip
      refine r_iconst F dX5_limit_24 ?_
      exact r_iret F X hr hk dX5_limit_25 (by first | exact ⟨by unfold qLimit; grind, hM2.1, hM2.2.1, hM2.2.2⟩ | exact ⟨by unfold qLimit; grind, hM1.1, hM1.2.1, hM1.2.2⟩)
theorem c_X5_count (l : Launch) (G : GT) (σ : St) (N : Int) (r : Int → Int) (n : Int) (hs : Int → Int → Int) (w : Int) (hM : MX σ N r n hs) (hW : WF N r) (hw : -2147483648 ≤ w ∧ w < 2147483648) : Ct l yX5_count cX5_count 2 (some .int) 9 G [.ref (gY G 36), .int (I w)] σ (QI G (fun x9 τ9 => x9 = qCount N r n w ∧ MX τ9 N r n hs ∧ KY σ τ9 ∧ τ9 36 0 = 0)) := by
  refine mt (own := RX5) (plainFor_of_name rfl) rfl (Nat.le_of_ble_eq_true rfl) ?_
  intro p e s m args below meth c ls F hr hk X hl
  have hl : lv_has ls 2 [(0, .ref (gY G 36)), (1, .int (I w))] := hl
  have hw := hW.num
  have hro := hM.2.1
  have hN := hM.1
  refine r_aload_n F hl 0 rfl rfl dX5_count_0 ?_
  refine r_iconst F dX5_count_1 ?_
  refine r_put F X 36 (by decide) (upI (σ 36) 0 0) (eK_36 G _) rfl gl_RX5 tyX5 tyX5_ok nmX5 0 (by decide) rfl gf_RX5_1 rfl (tyX5_ok 0 (by decide)) rfl rfl (Nat.le_of_ble_eq_true rfl) (eK_36 G _) dX5_count_2 (fun H locs X => ?_)
  obtain ⟨σ1, eσ1⟩ : ∃ x9 : St, x9 = up σ 36 (upI (σ 36) 0 0) := ⟨_, rfl⟩
  rw [← eσ1] at X
  have hrσ1 : σ1 37 = r := by rw [eσ1, up_ne (by omega)]; exact hro
  have hNσ1 : σ1 36 1 = N := by rw [eσ1, up_eq, upI_ne (by omega)]; exact hN
  have hM1 := hM.th (v := 0) eσ1
  refine r_iload_n F hl 1 rfl rfl dX5_count_5 ?_
  rcases (show w = 0 ∨ w = 1 ∨ w = 2 ∨ w = 3 ∨ w = 4 ∨ w = 5 ∨ w = 6 ∨ w = 7 ∨ w = 8 ∨ w = 9 ∨ w = 10 ∨ w = 11 ∨ w = 12 ∨ w = 13 ∨ w = 14 ∨ w = 15 ∨ (w < 0 ∨ 15 < w) by omega) with q1 | q1 | q1 | q1 | q1 | q1 | q1 | q1 | q1 | q1 | q1 | q1 | q1 | q1 | q1 | q1 | q1
  · skip
    refine r_tabIn F 0 84 q1 (by decide) (by decide) (by decide) rfl (by decide) dX5_count_6 ?_
    refine r_aload_n F hl 0 rfl rfl dX5_count_84 ?_
    refine r_get F X 36 (by decide) (eK_36 G _) rfl gl_RX5 1 (by decide) rfl gf_RX5_13 rfl dX5_count_85 ?_
    refine r_eqI (b := N) (hNσ1) ?_
    exact r_iret F X hr hk dX5_count_88 (by first | exact ⟨by unfold qCount; first | (subst q1; simp; done) | (subst q1; grind) | grind, hM2.1, hM2.2.1, hM2.2.2⟩ | exact ⟨by unfold qCount; first | (subst q1; simp; done) | (subst q1; grind) | grind, hM1.1, hM1.2.1, hM1.2.2⟩)
  · skip
    refine r_tabIn F 1 89 q1 (by decide) (by decide) (by decide) rfl (by decide) dX5_count_6 ?_
    refine r_aload_n F hl 0 rfl rfl dX5_count_89 ?_
    refine r_get F X 36 (by decide) (eK_36 G _) rfl gl_RX5 2 (by decide) rfl gf_RX5_16 rfl dX5_count_90 ?_
    refine r_bipush F (by decide) dX5_count_93 ?_
    refine r_iald F X 37 (by decide) (eK_37 G) (by omega) (by decide) dX5_count_95 ?_
    refine r_eqI (b := r 60) (by rw [hrσ1]) ?_
    exact r_iret F X hr hk dX5_count_96 (by first | exact ⟨by unfold qCount; first | (subst q1; simp; done) | (subst q1; grind) | grind, hM2.1, hM2.2.1, hM2.2.2⟩ | exact ⟨by unfold qCount; first | (subst q1; simp; done) | (subst q1; grind) | grind, hM1.1, hM1.2.1, hM1.2.2⟩)
  · skip
    refine r_tabIn F 2 97 q1 (by decide) (by decide) (by decide) rfl (by decide) dX5_count_6 ?_
    refine r_aload_n F hl 0 rfl rfl dX5_count_97 ?_
    refine r_get F X 36 (by decide) (eK_36 G _) rfl gl_RX5 2 (by decide) rfl gf_RX5_16 rfl dX5_count_98 ?_
    refine r_bipush F (by decide) dX5_count_101 ?_
    refine r_iald F X 37 (by decide) (eK_37 G) (by omega) (by decide) dX5_count_103 ?_
    refine r_eqI (b := r 62) (by rw [hrσ1]) ?_
    exact r_iret F X hr hk dX5_count_104 (by first | exact ⟨by unfold qCount; first | (subst q1; simp; done) | (subst q1; grind) | grind, hM2.1, hM2.2.1, hM2.2.2⟩ | exact ⟨by unfold qCount; first | (subst q1; simp; done) | (subst q1; grind) | grind, hM1.1, hM1.2.1, hM1.2.2⟩)
  · skip
    refine r_tabIn F 3 105 q1 (by decide) (by decide) (by decide) rfl (by decide) dX5_count_6 ?_
    refine r_aload_n F hl 0 rfl rfl dX5_count_105 ?_
    refine r_get F X 36 (by decide) (eK_36 G _) rfl gl_RX5 2 (by decide) rfl gf_RX5_16 rfl dX5_count_106 ?_
    refine r_bipush F (by decide) dX5_count_109 ?_
    refine r_iald F X 37 (by decide) (eK_37 G) (by omega) (by decide) dX5_count_111 ?_
    refine r_eqI (b := r 63) (by rw [hrσ1]) ?_
    exact r_iret F X hr hk dX5_count_112 (by first | exact ⟨by unfold qCount; first | (subst q1; simp; done) | (subst q1; grind) | grind, hM2.1, hM2.2.1, hM2.2.2⟩ | exact ⟨by unfold qCount; first | (subst q1; simp; done) | (subst q1; grind) | grind, hM1.1, hM1.2.1, hM1.2.2⟩)
  · skip
    refine r_tabIn F 4 113 q1 (by decide) (by decide) (by decide) rfl (by decide) dX5_count_6 ?_
    refine r_aload_n F hl 0 rfl rfl dX5_count_113 ?_
    refine r_get F X 36 (by decide) (eK_36 G _) rfl gl_RX5 2 (by decide) rfl gf_RX5_16 rfl dX5_count_114 ?_
    refine r_bipush F (by decide) dX5_count_117 ?_
    refine r_iald F X 37 (by decide) (eK_37 G) (by omega) (by decide) dX5_count_119 ?_
    refine r_eqI (b := r 64) (by rw [hrσ1]) ?_
    exact r_iret F X hr hk dX5_count_120 (by first | exact ⟨by unfold qCount; first | (subst q1; simp; done) | (subst q1; grind) | grind, hM2.1, hM2.2.1, hM2.2.2⟩ | exact ⟨by unfold qCount; first | (subst q1; simp; done) | (subst q1; grind) | grind, hM1.1, hM1.2.1, hM1.2.2⟩)
  · skip
    refine r_tabIn F 5 121 q1 (by decide) (by decide) (by decide) rfl (by decide) dX5_count_6 ?_
    refine r_aload_n F hl 0 rfl rfl dX5_count_121 ?_
    refine r_get F X 36 (by decide) (eK_36 G _) rfl gl_RX5 2 (by decide) rfl gf_RX5_16 rfl dX5_count_122 ?_
    refine r_bipush F (by decide) dX5_count_125 ?_
    refine r_iald F X 37 (by decide) (eK_37 G) (by omega) (by decide) dX5_count_127 ?_
    refine r_eqI (b := r 65) (by rw [hrσ1]) ?_
    exact r_iret F X hr hk dX5_count_128 (by first | exact ⟨by unfold qCount; first | (subst q1; simp; done) | (subst q1; grind) | grind, hM2.1, hM2.2.1, hM2.2.2⟩ | exact ⟨by unfold qCount; first | (subst q1; simp; done) | (subst q1; grind) | grind, hM1.1, hM1.2.1, hM1.2.2⟩)
  · skip
    refine r_tabIn F 6 129 q1 (by decide) (by decide) (by decide) rfl (by decide) dX5_count_6 ?_
    refine r_aload_n F hl 0 rfl rfl dX5_count_129 ?_
    refine r_get F X 36 (by decide) (eK_36 G _) rfl gl_RX5 2 (by decide) rfl gf_RX5_16 rfl dX5_count_130 ?_
    refine r_bipush F (by decide) dX5_count_133 ?_
    refine r_iald F X 37 (by decide) (eK_37 G) (by omega) (by decide) dX5_count_135 ?_
    refine r_eqI (b := r 66) (by rw [hrσ1]) ?_
    exact r_iret F X hr hk dX5_count_136 (by first | exact ⟨by unfold qCount; first | (subst q1; simp; done) | (subst q1; grind) | grind, hM2.1, hM2.2.1, hM2.2.2⟩ | exact ⟨by unfold qCount; first | (subst q1; simp; done) | (subst q1; grind) | grind, hM1.1, hM1.2.1, hM1.2.2⟩)
  · skip
    refine r_tabIn F 7 137 q1 (by decide) (by decide) (by decide) rfl (by decide) dX5_count_6 ?_
    refine r_aload_n F hl 0 rfl rfl dX5_count_137 ?_
    refine r_get F X 36 (by decide) (eK_36 G _) rfl gl_RX5 2 (by decide) rfl gf_RX5_16 rfl dX5_count_138 ?_
    refine r_bipush F (by decide) dX5_count_141 ?_
    refine r_iald F X 37 (by decide) (eK_37 G) (by omega) (by decide) dX5_count_143 ?_
    refine r_eqI (b := r 67) (by rw [hrσ1]) ?_
    exact r_iret F X hr hk dX5_count_144 (by first | exact ⟨by unfold qCount; first | (subst q1; simp; done) | (subst q1; grind) | grind, hM2.1, hM2.2.1, hM2.2.2⟩ | exact ⟨by unfold qCount; first | (subst q1; simp; done) | (subst q1; grind) | grind, hM1.1, hM1.2.1, hM1.2.2⟩)
  · skip
    refine r_tabIn F 8 145 q1 (by decide) (by decide) (by decide) rfl (by decide) dX5_count_6 ?_
    refine r_aload_n F hl 0 rfl rfl dX5_count_145 ?_
    refine r_get F X 36 (by decide) (eK_36 G _) rfl gl_RX5 2 (by decide) rfl gf_RX5_16 rfl dX5_count_146 ?_
    refine r_bipush F (by decide) dX5_count_149 ?_
    refine r_iald F X 37 (by decide) (eK_37 G) (by omega) (by decide) dX5_count_151 ?_
    refine r_eqI (b := r 68) (by rw [hrσ1]) ?_
    exact r_iret F X hr hk dX5_count_152 (by first | exact ⟨by unfold qCount; first | (subst q1; simp; done) | (subst q1; grind) | grind, hM2.1, hM2.2.1, hM2.2.2⟩ | exact ⟨by unfold qCount; first | (subst q1; simp; done) | (subst q1; grind) | grind, hM1.1, hM1.2.1, hM1.2.2⟩)
  · skip
    refine r_tabIn F 9 153 q1 (by decide) (by decide) (by decide) rfl (by decide) dX5_count_6 ?_
    refine r_aload_n F hl 0 rfl rfl dX5_count_153 ?_
    refine r_get F X 36 (by decide) (eK_36 G _) rfl gl_RX5 2 (by decide) rfl gf_RX5_16 rfl dX5_count_154 ?_
    refine r_bipush F (by decide) dX5_count_157 ?_
    refine r_iald F X 37 (by decide) (eK_37 G) (by omega) (by decide) dX5_count_159 ?_
    refine r_eqI (b := r 69) (by rw [hrσ1]) ?_
    exact r_iret F X hr hk dX5_count_160 (by first | exact ⟨by unfold qCount; first | (subst q1; simp; done) | (subst q1; grind) | grind, hM2.1, hM2.2.1, hM2.2.2⟩ | exact ⟨by unfold qCount; first | (subst q1; simp; done) | (subst q1; grind) | grind, hM1.1, hM1.2.1, hM1.2.2⟩)
  · skip
    refine r_tabIn F 10 161 q1 (by decide) (by decide) (by decide) rfl (by decide) dX5_count_6 ?_
    refine r_aload_n F hl 0 rfl rfl dX5_count_161 ?_
    refine r_get F X 36 (by decide) (eK_36 G _) rfl gl_RX5 2 (by decide) rfl gf_RX5_16 rfl dX5_count_162 ?_
    refine r_bipush F (by decide) dX5_count_165 ?_
    refine r_iald F X 37 (by decide) (eK_37 G) (by omega) (by decide) dX5_count_167 ?_
    refine r_eqI (b := r 70) (by rw [hrσ1]) ?_
    exact r_iret F X hr hk dX5_count_168 (by first | exact ⟨by unfold qCount; first | (subst q1; simp; done) | (subst q1; grind) | grind, hM2.1, hM2.2.1, hM2.2.2⟩ | exact ⟨by unfold qCount; first | (subst q1; simp; done) | (subst q1; grind) | grind, hM1.1, hM1.2.1, hM1.2.2⟩)
  · skip
    refine r_tabIn F 11 169 q1 (by decide) (by decide) (by decide) rfl (by decide) dX5_count_6 ?_
    refine r_aload_n F hl 0 rfl rfl dX5_count_169 ?_
    refine r_get F X 36 (by decide) (eK_36 G _) rfl gl_RX5 2 (by decide) rfl gf_RX5_16 rfl dX5_count_170 ?_
    refine r_bipush F (by decide) dX5_count_173 ?_
    refine r_iald F X 37 (by decide) (eK_37 G) (by omega) (by decide) dX5_count_175 ?_
    refine r_eqI (b := r 61) (by rw [hrσ1]) ?_
    exact r_iret F X hr hk dX5_count_176 (by first | exact ⟨by unfold qCount; first | (subst q1; simp; done) | (subst q1; grind) | grind, hM2.1, hM2.2.1, hM2.2.2⟩ | exact ⟨by unfold qCount; first | (subst q1; simp; done) | (subst q1; grind) | grind, hM1.1, hM1.2.1, hM1.2.2⟩)
  · skip
    refine r_tabIn F 12 177 q1 (by decide) (by decide) (by decide) rfl (by decide) dX5_count_6 ?_
    refine r_aload_n F hl 0 rfl rfl dX5_count_177 ?_
    refine d_cVI F X 36 (by decide) (eK_36 G _) rfl (c_X5_isWhole l G σ1 N r hrσ1 hNσ1 hW) gv_RX5_114 rfl nd_X5_isWhole rfl (rest := []) rfl (Nat.le_of_ble_eq_true rfl) ⟨Nat.le_of_ble_eq_true rfl, Nat.le_of_ble_eq_true rfl⟩ ⟨Nat.zero_le _, Nat.zero_le _⟩ hl.1 dX5_count_178 (fun H locs X => ?_)
    refine r_bz_eq F 188 (whl N r = true) rfl (by decide) dX5_count_181 (fun c1 => ?_) (fun c1 => ?_)
    · skip
      refine r_iconst F dX5_count_188 ?_
      exact r_iret F X hr hk dX5_count_189 (by first | exact ⟨by unfold qCount; first | (subst q1; simp; done) | (subst q1; grind) | grind, hM2.1, hM2.2.1, hM2.2.2⟩ | exact ⟨by unfold qCount; first | (subst q1; simp; done) | (subst q1; grind) | grind, hM1.1, hM1.2.1, hM1.2.2⟩)
    · skip
      refine r_iconst F dX5_count_184 ?_
      refine r_goto F 189 (by decide) dX5_count_185 ?_
      exact r_iret F X hr hk dX5_count_189 (by first | exact ⟨by unfold qCount; first | (subst q1; simp; done) | (subst q1; grind) | grind, hM2.1, hM2.2.1, hM2.2.2⟩ | exact ⟨by unfold qCount; first | (subst q1; simp; done) | (subst q1; grind) | grind, hM1.1, hM1.2.1, hM1.2.2⟩)
  · skip
    refine r_tabIn F 13 190 q1 (by decide) (by decide) (by decide) rfl (by decide) dX5_count_6 ?_
    refine r_aload_n F hl 0 rfl rfl dX5_count_190 ?_
    refine r_cVI F X 36 (by decide) (eK_36 G _) rfl (c_X5_isLaid l G σ1 N r hrσ1 hNσ1 hW) gv_RX5_128 rfl nd_X5_isLaid rfl (rest := []) rfl (Nat.le_of_ble_eq_true rfl) ⟨Nat.le_of_ble_eq_true rfl, Nat.le_of_ble_eq_true rfl⟩ ⟨Nat.zero_le _, Nat.zero_le _⟩ hl.1 dX5_count_191 (fun x1 τ1 H locs hI X => ?_)
    obtain ⟨hx1, hfr1, hE1⟩ := hI
    have hM2 := MX.laid hM1 hfr1
    have hr2 := hM2.1.2.1
    have hN2 := hM2.1.1
    refine r_eqI (b := if whl N r = true then 1 else 0) (hx1) ?_
    refine r_bz_eq F 208 (whl N r = true) rfl (by decide) dX5_count_194 (fun c2 => ?_) (fun c2 => ?_)
    · skip
      refine r_iconst F dX5_count_208 ?_
      exact r_iret F X hr hk dX5_count_209 (by first | exact ⟨by unfold qCount; first | (subst q1; simp; done) | (subst q1; grind) | grind, hM2.1, hM2.2.1, hM2.2.2⟩ | exact ⟨by unfold qCount; first | (subst q1; simp; done) | (subst q1; grind) | grind, hM1.1, hM1.2.1, hM1.2.2⟩)
    · skip
      have hE2 := hE1 (by assumption)
      have hL := lfI_LR hW (by assumption)
      refine r_aload_n F hl 0 rfl rfl dX5_count_197 ?_
      refine d_cVI F X 36 (by decide) (eK_36 G _) rfl (c_X5_isGood l G τ1 N r (lfI r) hr2 hN2 hW hE2 hL) gv_RX5_193 rfl nd_X5_isGood rfl (rest := []) rfl (Nat.le_of_ble_eq_true rfl) ⟨Nat.le_of_ble_eq_true rfl, Nat.le_of_ble_eq_true rfl⟩ ⟨Nat.zero_le _, Nat.zero_le _⟩ hl.1 dX5_count_198 (fun H locs X => ?_)
      refine r_bz_eq F 208 (gd (lfI r) N r = true) rfl (by decide) dX5_count_201 (fun c3 => ?_) (fun c3 => ?_)
      · skip
        refine r_iconst F dX5_count_208 ?_
        exact r_iret F X hr hk dX5_count_209 (by first | exact ⟨by unfold qCount; first | (subst q1; simp; done) | (subst q1; grind) | grind, hM2.1, hM2.2.1, hM2.2.2⟩ | exact ⟨by unfold qCount; first | (subst q1; simp; done) | (subst q1; grind) | grind, hM1.1, hM1.2.1, hM1.2.2⟩)
      · skip
        refine r_iconst F dX5_count_204 ?_
        refine r_goto F 209 (by decide) dX5_count_205 ?_
        exact r_iret F X hr hk dX5_count_209 (by first | exact ⟨by unfold qCount; first | (subst q1; simp; done) | (subst q1; grind) | grind, hM2.1, hM2.2.1, hM2.2.2⟩ | exact ⟨by unfold qCount; first | (subst q1; simp; done) | (subst q1; grind) | grind, hM1.1, hM1.2.1, hM1.2.2⟩)
  · skip
    refine r_tabIn F 14 210 q1 (by decide) (by decide) (by decide) rfl (by decide) dX5_count_6 ?_
    refine r_aload_n F hl 0 rfl rfl dX5_count_210 ?_
    refine r_get F X 36 (by decide) (eK_36 G _) rfl gl_RX5 4 (by decide) rfl gf_RX5_32 rfl dX5_count_211 ?_
    refine r_eqI (b := n) (hM1.1.2.2.1) ?_
    exact r_iret F X hr hk dX5_count_214 (by first | exact ⟨by unfold qCount; first | (subst q1; simp; done) | (subst q1; grind) | grind, hM2.1, hM2.2.1, hM2.2.2⟩ | exact ⟨by unfold qCount; first | (subst q1; simp; done) | (subst q1; grind) | grind, hM1.1, hM1.2.1, hM1.2.2⟩)
  · skip
    refine r_tabIn F 15 215 q1 (by decide) (by decide) (by decide) rfl (by decide) dX5_count_6 ?_
    refine r_aload_n F hl 0 rfl rfl dX5_count_215 ?_
    refine r_aload_n F hl 0 rfl rfl dX5_count_216 ?_
    refine r_get F X 36 (by decide) (eK_36 G _) rfl gl_RX5 2 (by decide) rfl gf_RX5_16 rfl dX5_count_217 ?_
    refine r_bipush F (by decide) dX5_count_220 ?_
    refine r_iald F X 37 (by decide) (eK_37 G) (by omega) (by decide) dX5_count_222 ?_
    refine r_eqI (b := r 60) (by rw [hrσ1]) ?_
    refine d_cVI F X 36 (by decide) (eK_36 G _) rfl (c_X5_begins l G σ1 N r (r 60) hrσ1 hNσ1 hW (by omega)) gv_RX5_78 rfl nd_X5_begins rfl (rest := []) rfl (Nat.le_of_ble_eq_true rfl) ⟨Nat.le_of_ble_eq_true rfl, Nat.le_of_ble_eq_true rfl⟩ ⟨Nat.zero_le _, Nat.zero_le _⟩ hl.1 dX5_count_223 (fun H locs X => ?_)
    exact r_iret F X hr hk dX5_count_226 (by first | exact ⟨by unfold qCount; first | (subst q1; simp; done) | (subst q1; grind) | grind, hM2.1, hM2.2.1, hM2.2.2⟩ | exact ⟨by unfold qCount; first | (subst q1; simp; done) | (subst q1; grind) | grind, hM1.1, hM1.2.1, hM1.2.2⟩)
  · skip
    refine r_tabOut F 227 (by omega) q1 (by decide) dX5_count_6 ?_
    refine r_iconst F dX5_count_227 ?_
    exact r_iret F X hr hk dX5_count_228 (by first | exact ⟨by unfold qCount; first | (subst q1; simp; done) | (subst q1; grind) | grind, hM2.1, hM2.2.1, hM2.2.2⟩ | exact ⟨by unfold qCount; first | (subst q1; simp; done) | (subst q1; grind) | grind, hM1.1, hM1.2.1, hM1.2.2⟩)
theorem c_X5_best (l : Launch) (G : GT) (σ : St) (N : Int) (r : Int → Int) (n : Int) (hs : Int → Int → Int) (w : Int) (hM : MX σ N r n hs) (hW : WF N r) (hw : -2147483648 ≤ w ∧ w < 2147483648) : Ct l yX5_best cX5_best 2 (some .int) 10 G [.ref (gY G 36), .int (I w)] σ (QI G (fun x9 τ9 => x9 = qBest N r w ∧ MX τ9 N r n hs ∧ KY σ τ9 ∧ τ9 36 0 = 0)) := by
  refine mt (own := RX5) (plainFor_of_name rfl) rfl (Nat.le_of_ble_eq_true rfl) ?_
  intro p e s m args below meth c ls F hr hk X hl
  have hl : lv_has ls 2 [(0, .ref (gY G 36)), (1, .int (I w))] := hl
  have hw := hW.num
  have hro := hM.2.1
  have hN := hM.1
  have hmr := mvI_rg r (s := r 60) (by omega)
  refine r_aload_n F hl 0 rfl rfl dX5_best_0 ?_
  refine r_iconst F dX5_best_1 ?_
  refine r_put F X 36 (by decide) (upI (σ 36) 0 0) (eK_36 G _) rfl gl_RX5 tyX5 tyX5_ok nmX5 0 (by decide) rfl gf_RX5_1 rfl (tyX5_ok 0 (by decide)) rfl rfl (Nat.le_of_ble_eq_true rfl) (eK_36 G _) dX5_best_2 (fun H locs X => ?_)
  obtain ⟨σ1, eσ1⟩ : ∃ x9 : St, x9 = up σ 36 (upI (σ 36) 0 0) := ⟨_, rfl⟩
  rw [← eσ1] at X
  have hrσ1 : σ1 37 = r := by rw [eσ1, up_ne (by omega)]; exact hro
  have hNσ1 : σ1 36 1 = N := by rw [eσ1, up_eq, upI_ne (by omega)]; exact hN
  have hM1 := hM.th (v := 0) eσ1
  refine r_iload_n F hl 1 rfl rfl dX5_best_5 ?_
  refine r_i2l F (by omega) dX5_best_6 ?_
  refine r_lconst F 0 (by decide +kernel) dX5_best_7 ?_
  refine r_ldc2 F 14 gk_RX5_209 (by decide +kernel) dX5_best_8 ?_
  refine d_cSI F X (c_X5_within l G σ1 w 0 14 (by omega) (by omega) (by omega)) gv_RX5_39 nd_X5_within rfl (rest := []) rfl (Nat.le_of_ble_eq_true rfl) ⟨Nat.le_of_ble_eq_true rfl, Nat.le_of_ble_eq_true rfl⟩ ⟨Nat.zero_le _, Nat.zero_le _⟩ hl.1 dX5_best_11 (fun H locs X => ?_)
  refine r_bz_eq F 47 (0 ≤ w ∧ w ≤ 14) rfl (by decide) dX5_best_14 (fun c1 => ?_) (fun c1 => ?_)
  · skip
    refine r_iconst F dX5_best_47 ?_
    exact r_iret F X hr hk dX5_best_48 (⟨by unfold qBest; grind, hM1.1, hM1.2.1, hM1.2.2⟩)
  · skip
    refine r_aload_n F hl 0 rfl rfl dX5_best_17 ?_
    refine d_cVI F X 36 (by decide) (eK_36 G _) rfl (c_X5_isWhole l G σ1 N r hrσ1 hNσ1 hW) gv_RX5_114 rfl nd_X5_isWhole rfl (rest := []) rfl (Nat.le_of_ble_eq_true rfl) ⟨Nat.le_of_ble_eq_true rfl, Nat.le_of_ble_eq_true rfl⟩ ⟨Nat.zero_le _, Nat.zero_le _⟩ hl.1 dX5_best_18 (fun H locs X => ?_)
    refine r_bz_eq F 47 (whl N r = true) rfl (by decide) dX5_best_21 (fun c2 => ?_) (fun c2 => ?_)
    · skip
      refine r_iconst F dX5_best_47 ?_
      exact r_iret F X hr hk dX5_best_48 (⟨by unfold qBest; grind, hM1.1, hM1.2.1, hM1.2.2⟩)
    · skip
      refine r_aload_n F hl 0 rfl rfl dX5_best_24 ?_
      refine d_cVI F X 36 (by decide) (eK_36 G _) rfl (c_X5_turned l G σ1 N r hrσ1 hNσ1 hW) gv_RX5_211 rfl nd_X5_turned rfl (rest := []) rfl (Nat.le_of_ble_eq_true rfl) ⟨Nat.le_of_ble_eq_true rfl, Nat.le_of_ble_eq_true rfl⟩ ⟨Nat.zero_le _, Nat.zero_le _⟩ hl.1 dX5_best_25 (fun H locs X => ?_)
      refine r_bipush F (by decide) dX5_best_28 ?_
      refine r_icmp_gt F 47 (by decide) (by omega) (by omega) dX5_best_30 (fun c3 => ?_) (fun c3 => ?_)
      · skip
        refine r_iconst F dX5_best_47 ?_
        exact r_iret F X hr hk dX5_best_48 (⟨by unfold qBest; grind, hM1.1, hM1.2.1, hM1.2.2⟩)
      · skip
        refine r_iload_n F hl 1 rfl rfl dX5_best_33 ?_
        refine r_bipush F (by decide) dX5_best_34 ?_
        refine r_icmp_ge F 49 (by decide) (by omega) (by omega) dX5_best_36 (fun c4 => ?_) (fun c4 => ?_)
        · skip
          refine r_aload_n F hl 0 rfl rfl dX5_best_49 ?_
          refine r_aload_n F hl 0 rfl rfl dX5_best_50 ?_
          refine d_cVI F X 36 (by decide) (eK_36 G _) rfl (c_X5_turned l G σ1 N r hrσ1 hNσ1 hW) gv_RX5_211 rfl nd_X5_turned rfl (rest := [.ref (gY G 36)]) rfl (Nat.le_of_ble_eq_true rfl) ⟨Nat.le_of_ble_eq_true rfl, Nat.le_of_ble_eq_true rfl⟩ ⟨Nat.zero_le _, Nat.zero_le _⟩ hl.1 dX5_best_51 (fun H locs X => ?_)
          refine r_cVV F X 36 (by decide) (eK_36 G _) rfl (c_X5_laysBest l G σ1 N r (mvI r (r 60)) hrσ1 hNσ1 hW (by assumption) (⟨rfl, by omega⟩) (hM1.1.2.2.2.2.1)) gv_RX5_214 rfl nd_X5_laysBest rfl (rest := []) rfl (Nat.le_of_ble_eq_true rfl) ⟨Nat.le_of_ble_eq_true rfl, Nat.le_of_ble_eq_true rfl⟩ ⟨Nat.zero_le _, Nat.zero_le _⟩ hl.1 dX5_best_54 (fun τ1 H locs hB X => ?_)
          obtain ⟨b1, b2, b3, b4, b5⟩ := hB
          have hM2 : MX τ1 N r n hs ∧ KY σ τ1 ∧ τ1 36 0 = 0 := ⟨hM1.1.best b1 b2 b3 b4, fun k9 q9 => (by rw [b1 k9 (by omega) (by omega) (by omega) (by omega) (by omega)]; exact hM1.2.1 k9 q9), (by rw [b3 0 (by omega)]; exact hM1.2.2)⟩
          have hr2 := hM2.1.2.1
          have hN2 := hM2.1.1
          refine r_iload_n F hl 1 rfl rfl dX5_best_57 ?_
          refine r_bipush F (by decide) dX5_best_58 ?_
          refine r_icmp_ne F 70 (by decide) (by omega) (by omega) dX5_best_60 (fun c5 => ?_) (fun c5 => ?_)
          · skip
            refine r_iload_n F hl 1 rfl rfl dX5_best_70 ?_
            refine r_bipush F (by decide) dX5_best_71 ?_
            refine r_icmp_ne F 83 (by decide) (by omega) (by omega) dX5_best_73 (fun c6 => ?_) (fun c6 => ?_)
            · skip
              refine r_iload_n F hl 1 rfl rfl dX5_best_83 ?_
              refine r_bipush F (by decide) dX5_best_84 ?_
              refine r_icmp_ne F 104 (by decide) (by omega) (by omega) dX5_best_86 (fun c7 => ?_) (fun c7 => ?_)
              · skip
                refine r_aload_n F hl 0 rfl rfl dX5_best_104 ?_
                refine r_get F X 36 (by decide) (eK_36 G _) rfl gl_RX5 7 (by decide) rfl gf_RX5_29 rfl dX5_best_105 ?_
                refine r_iload_n F hl 1 rfl rfl dX5_best_108 ?_
                refine r_iald F X 41 (by decide) (eK_41 G) (by omega) (by decide) dX5_best_109 ?_
                exact r_iret F X hr hk dX5_best_110 (by first | exact ⟨by unfold qBest; grind, hM2.1, hM2.2.1, hM2.2.2⟩ | exact ⟨by unfold qBest; rw [if_pos ⟨by assumption, by omega⟩, if_pos (by omega), if_pos (by omega)]; exact b5.2.2.2 w (by omega) (by omega), hM2.1, hM2.2.1, hM2.2.2⟩)
              · skip
                refine r_aload_n F hl 0 rfl rfl dX5_best_89 ?_
                refine r_get F X 36 (by decide) (eK_36 G _) rfl gl_RX5 8 (by decide) rfl gf_RX5_202 rfl dX5_best_90 ?_
                refine r_eqI (b := if wG N r (bW N r) = true then 1 else 0) (b5.2.2.1) ?_
                refine r_bz_eq F 100 (wG N r (bW N r) = true) rfl (by decide) dX5_best_93 (fun c8 => ?_) (fun c8 => ?_)
                · skip
                  refine r_iconst F dX5_best_100 ?_
                  refine r_goto F 110 (by decide) dX5_best_101 ?_
                  exact r_iret F X hr hk dX5_best_110 (by first | exact ⟨by unfold qBest; grind, hM2.1, hM2.2.1, hM2.2.2⟩ | exact ⟨by unfold qBest; rw [if_pos ⟨by assumption, by omega⟩, if_pos (by omega), if_pos (by omega)]; exact b5.2.2.2 w (by omega) (by omega), hM2.1, hM2.2.1, hM2.2.2⟩)
                · skip
                  refine r_iconst F dX5_best_96 ?_
                  refine r_goto F 110 (by decide) dX5_best_97 ?_
                  exact r_iret F X hr hk dX5_best_110 (by first | exact ⟨by unfold qBest; grind, hM2.1, hM2.2.1, hM2.2.2⟩ | exact ⟨by unfold qBest; rw [if_pos ⟨by assumption, by omega⟩, if_pos (by omega), if_pos (by omega)]; exact b5.2.2.2 w (by omega) (by omega), hM2.1, hM2.2.1, hM2.2.2⟩)
            · skip
              refine r_aload_n F hl 0 rfl rfl dX5_best_76 ?_
              refine r_get F X 36 (by decide) (eK_36 G _) rfl gl_RX5 10 (by decide) rfl gf_RX5_199 rfl dX5_best_77 ?_
              refine r_eqI (b := wT N r (bW N r)) (b5.2.1) ?_
              refine r_goto F 110 (by decide) dX5_best_80 ?_
              exact r_iret F X hr hk dX5_best_110 (by first | exact ⟨by unfold qBest; grind, hM2.1, hM2.2.1, hM2.2.2⟩ | exact ⟨by unfold qBest; rw [if_pos ⟨by assumption, by omega⟩, if_pos (by omega), if_pos (by omega)]; exact b5.2.2.2 w (by omega) (by omega), hM2.1, hM2.2.1, hM2.2.2⟩)
          · skip
            refine r_aload_n F hl 0 rfl rfl dX5_best_63 ?_
            refine r_get F X 36 (by decide) (eK_36 G _) rfl gl_RX5 9 (by decide) rfl gf_RX5_196 rfl dX5_best_64 ?_
            refine r_eqI (b := wS N r (bW N r)) (b5.1) ?_
            refine r_goto F 110 (by decide) dX5_best_67 ?_
            exact r_iret F X hr hk dX5_best_110 (by first | exact ⟨by unfold qBest; grind, hM2.1, hM2.2.1, hM2.2.2⟩ | exact ⟨by unfold qBest; rw [if_pos ⟨by assumption, by omega⟩, if_pos (by omega), if_pos (by omega)]; exact b5.2.2.2 w (by omega) (by omega), hM2.1, hM2.2.1, hM2.2.2⟩)
        · skip
          refine r_aload_n F hl 0 rfl rfl dX5_best_39 ?_
          refine r_iload_n F hl 1 rfl rfl dX5_best_40 ?_
          refine d_cVI F X 36 (by decide) (eK_36 G _) rfl (c_X5_isSegment l G σ1 N r w hrσ1 hNσ1 hW (by omega)) gv_RX5_52 rfl nd_X5_isSegment rfl (rest := []) rfl (Nat.le_of_ble_eq_true rfl) ⟨Nat.le_of_ble_eq_true rfl, Nat.le_of_ble_eq_true rfl⟩ ⟨Nat.zero_le _, Nat.zero_le _⟩ hl.1 dX5_best_41 (fun H locs X => ?_)
          refine r_bz_ne F 49 (0 ≤ w ∧ w < r 60) rfl (by decide) dX5_best_44 (fun c9 => ?_) (fun c9 => ?_)
          · skip
            refine r_aload_n F hl 0 rfl rfl dX5_best_49 ?_
            refine r_aload_n F hl 0 rfl rfl dX5_best_50 ?_
            refine d_cVI F X 36 (by decide) (eK_36 G _) rfl (c_X5_turned l G σ1 N r hrσ1 hNσ1 hW) gv_RX5_211 rfl nd_X5_turned rfl (rest := [.ref (gY G 36)]) rfl (Nat.le_of_ble_eq_true rfl) ⟨Nat.le_of_ble_eq_true rfl, Nat.le_of_ble_eq_true rfl⟩ ⟨Nat.zero_le _, Nat.zero_le _⟩ hl.1 dX5_best_51 (fun H locs X => ?_)
            refine r_cVV F X 36 (by decide) (eK_36 G _) rfl (c_X5_laysBest l G σ1 N r (mvI r (r 60)) hrσ1 hNσ1 hW (by assumption) (⟨rfl, by omega⟩) (hM1.1.2.2.2.2.1)) gv_RX5_214 rfl nd_X5_laysBest rfl (rest := []) rfl (Nat.le_of_ble_eq_true rfl) ⟨Nat.le_of_ble_eq_true rfl, Nat.le_of_ble_eq_true rfl⟩ ⟨Nat.zero_le _, Nat.zero_le _⟩ hl.1 dX5_best_54 (fun τ1 H locs hB X => ?_)
            obtain ⟨b1, b2, b3, b4, b5⟩ := hB
            have hM2 : MX τ1 N r n hs ∧ KY σ τ1 ∧ τ1 36 0 = 0 := ⟨hM1.1.best b1 b2 b3 b4, fun k9 q9 => (by rw [b1 k9 (by omega) (by omega) (by omega) (by omega) (by omega)]; exact hM1.2.1 k9 q9), (by rw [b3 0 (by omega)]; exact hM1.2.2)⟩
            have hr2 := hM2.1.2.1
            have hN2 := hM2.1.1
            refine r_iload_n F hl 1 rfl rfl dX5_best_57 ?_
            refine r_bipush F (by decide) dX5_best_58 ?_
            refine r_icmp_ne F 70 (by decide) (by omega) (by omega) dX5_best_60 (fun c10 => ?_) (fun c10 => ?_)
            · skip
              refine r_iload_n F hl 1 rfl rfl dX5_best_70 ?_
              refine r_bipush F (by decide) dX5_best_71 ?_
              refine r_icmp_ne F 83 (by decide) (by omega) (by omega) dX5_best_73 (fun c11 => ?_) (fun c11 => ?_)
              · skip
                refine r_iload_n F hl 1 rfl rfl dX5_best_83 ?_
                refine r_bipush F (by decide) dX5_best_84 ?_
                refine r_icmp_ne F 104 (by decide) (by omega) (by omega) dX5_best_86 (fun c12 => ?_) (fun c12 => ?_)
                · skip
                  refine r_aload_n F hl 0 rfl rfl dX5_best_104 ?_
                  refine r_get F X 36 (by decide) (eK_36 G _) rfl gl_RX5 7 (by decide) rfl gf_RX5_29 rfl dX5_best_105 ?_
                  refine r_iload_n F hl 1 rfl rfl dX5_best_108 ?_
                  refine r_iald F X 41 (by decide) (eK_41 G) (by omega) (by decide) dX5_best_109 ?_
                  exact r_iret F X hr hk dX5_best_110 (by first | exact ⟨by unfold qBest; grind, hM2.1, hM2.2.1, hM2.2.2⟩ | exact ⟨by unfold qBest; rw [if_pos ⟨by assumption, by omega⟩, if_pos (by omega), if_pos (by omega)]; exact b5.2.2.2 w (by omega) (by omega), hM2.1, hM2.2.1, hM2.2.2⟩)
                · skip
                  refine r_aload_n F hl 0 rfl rfl dX5_best_89 ?_
                  refine r_get F X 36 (by decide) (eK_36 G _) rfl gl_RX5 8 (by decide) rfl gf_RX5_202 rfl dX5_best_90 ?_
                  refine r_eqI (b := if wG N r (bW N r) = true then 1 else 0) (b5.2.2.1) ?_
                  refine r_bz_eq F 100 (wG N r (bW N r) = true) rfl (by decide) dX5_best_93 (fun c13 => ?_) (fun c13 => ?_)
                  · skip
                    refine r_iconst F dX5_best_100 ?_
                    refine r_goto F 110 (by decide) dX5_best_101 ?_
                    exact r_iret F X hr hk dX5_best_110 (by first | exact ⟨by unfold qBest; grind, hM2.1, hM2.2.1, hM2.2.2⟩ | exact ⟨by unfold qBest; rw [if_pos ⟨by assumption, by omega⟩, if_pos (by omega), if_pos (by omega)]; exact b5.2.2.2 w (by omega) (by omega), hM2.1, hM2.2.1, hM2.2.2⟩)
                  · skip
                    refine r_iconst F dX5_best_96 ?_
                    refine r_goto F 110 (by decide) dX5_best_97 ?_
                    exact r_iret F X hr hk dX5_best_110 (by first | exact ⟨by unfold qBest; grind, hM2.1, hM2.2.1, hM2.2.2⟩ | exact ⟨by unfold qBest; rw [if_pos ⟨by assumption, by omega⟩, if_pos (by omega), if_pos (by omega)]; exact b5.2.2.2 w (by omega) (by omega), hM2.1, hM2.2.1, hM2.2.2⟩)
              · skip
                refine r_aload_n F hl 0 rfl rfl dX5_best_76 ?_
                refine r_get F X 36 (by decide) (eK_36 G _) rfl gl_RX5 10 (by decide) rfl gf_RX5_199 rfl dX5_best_77 ?_
                refine r_eqI (b := wT N r (bW N r)) (b5.2.1) ?_
                refine r_goto F 110 (by decide) dX5_best_80 ?_
                exact r_iret F X hr hk dX5_best_110 (by first | exact ⟨by unfold qBest; grind, hM2.1, hM2.2.1, hM2.2.2⟩ | exact ⟨by unfold qBest; rw [if_pos ⟨by assumption, by omega⟩, if_pos (by omega), if_pos (by omega)]; exact b5.2.2.2 w (by omega) (by omega), hM2.1, hM2.2.1, hM2.2.2⟩)
            · skip
              refine r_aload_n F hl 0 rfl rfl dX5_best_63 ?_
              refine r_get F X 36 (by decide) (eK_36 G _) rfl gl_RX5 9 (by decide) rfl gf_RX5_196 rfl dX5_best_64 ?_
              refine r_eqI (b := wS N r (bW N r)) (b5.1) ?_
              refine r_goto F 110 (by decide) dX5_best_67 ?_
              exact r_iret F X hr hk dX5_best_110 (by first | exact ⟨by unfold qBest; grind, hM2.1, hM2.2.1, hM2.2.2⟩ | exact ⟨by unfold qBest; rw [if_pos ⟨by assumption, by omega⟩, if_pos (by omega), if_pos (by omega)]; exact b5.2.2.2 w (by omega) (by omega), hM2.1, hM2.2.1, hM2.2.2⟩)
          · skip
            refine r_iconst F dX5_best_47 ?_
            exact r_iret F X hr hk dX5_best_48 (⟨by unfold qBest; grind, hM1.1, hM1.2.1, hM1.2.2⟩)
theorem c_X5_diff (l : Launch) (G : GT) (σ : St) (N : Int) (r : Int → Int) (n : Int) (hs : Int → Int → Int) (i : Int) (w : Int) (hM : MX σ N r n hs) (hW : WF N r) (hi : -2147483648 ≤ i ∧ i < 2147483648) (hw : -2147483648 ≤ w ∧ w < 2147483648) : Ct l yX5_diff cX5_diff 3 (some .int) 5 G [.ref (gY G 36), .int (I i), .int (I w)] σ (QI G (fun x9 τ9 => MX τ9 N r n hs ∧ KY σ τ9 ∧ τ9 36 0 = (if (whl N r = true ∧ 0 ≤ i ∧ i < N ∧ 1 ≤ w ∧ w ≤ 3) then 0 else 1) ∧ ((whl N r = true ∧ 0 ≤ i ∧ i < N ∧ 1 ≤ w ∧ w ≤ 3) → x9 = mval (lfI r) N r i w.toNat))) := by
  refine mt (own := RX5) (plainFor_of_name rfl) rfl (Nat.le_of_ble_eq_true rfl) ?_
  intro p e s m args below meth c ls F hr hk X hl
  have hl : lv_has ls 3 [(0, .ref (gY G 36)), (1, .int (I i)), (2, .int (I w))] := hl
  have hw := hW.num
  have hro := hM.2.1
  have hN := hM.1
  have hM1 : MX σ N r n hs ∧ KY σ σ ∧ σ 36 0 = σ 36 0 := ⟨hM, fun _ _ => rfl, rfl⟩
  refine r_aload_n F hl 0 rfl rfl dX5_diff_0 ?_
  refine r_aload_n F hl 0 rfl rfl dX5_diff_1 ?_
  refine r_iload_n F hl 1 rfl rfl dX5_diff_2 ?_
  refine d_cVI F X 36 (by decide) (eK_36 G _) rfl (c_X5_isStep l G σ N r i hro hN hW (by omega)) gv_RX5_68 rfl nd_X5_isStep rfl (rest := [.ref (gY G 36)]) rfl (Nat.le_of_ble_eq_true rfl) ⟨Nat.le_of_ble_eq_true rfl, Nat.le_of_ble_eq_true rfl⟩ ⟨Nat.zero_le _, Nat.zero_le _⟩ hl.1 dX5_diff_3 (fun H locs X => ?_)
  refine r_bz_eq F 32 (0 ≤ i ∧ i < N) rfl (by decide) dX5_diff_6 (fun c1 => ?_) (fun c1 => ?_)
  · skip
    refine r_iconst F dX5_diff_32 ?_
    refine r_put F X 36 (by decide) (upI (σ 36) 0 1) (eK_36 G _) rfl gl_RX5 tyX5 tyX5_ok nmX5 0 (by decide) rfl gf_RX5_1 rfl (tyX5_ok 0 (by decide)) rfl rfl (Nat.le_of_ble_eq_true rfl) (eK_36 G _) dX5_diff_33 (fun H locs X => ?_)
    obtain ⟨σ1, eσ1⟩ : ∃ x9 : St, x9 = up σ 36 (upI (σ 36) 0 1) := ⟨_, rfl⟩
    rw [← eσ1] at X
    have hrσ1 : σ1 37 = r := by rw [eσ1, up_ne (by omega)]; exact hro
    have hNσ1 : σ1 36 1 = N := by rw [eσ1, up_eq, upI_ne (by omega)]; exact hN
    have hT : MX σ1 N r n hs ∧ KY σ σ1 ∧ σ1 36 0 = 1 := by first | exact MX.th3 hM2 eσ1 | exact MX.th3 hM1 eσ1
    refine r_aload_n F hl 0 rfl rfl dX5_diff_36 ?_
    refine r_get F X 36 (by decide) (eK_36 G _) rfl gl_RX5 0 (by decide) rfl gf_RX5_1 rfl dX5_diff_37 ?_
    refine r_eqI (b := 1) (hT.2.2) ?_
    refine r_if_le F 47 (by decide) (by omega) dX5_diff_40 (fun c2 => ?_) (fun c2 => ?_)
    · omega
    · skip
      refine r_iconst F dX5_diff_43 ?_
      refine r_goto F 53 (by decide) dX5_diff_44 ?_
      exact r_iret F X hr hk dX5_diff_53 (by first | exact ⟨hT.1, hT.2.1, by rw [hT.2.2, if_pos ⟨by assumption, by omega⟩], fun hc => by rfl⟩ | exact ⟨hT.1, hT.2.1, by rw [hT.2.2, if_neg (fun z => by first | exact absurd z.1 (by assumption) | omega)], fun z => by exfalso; first | exact absurd z.1 (by assumption) | omega⟩)
  · skip
    refine r_iload_n F hl 2 rfl rfl dX5_diff_9 ?_
    refine r_i2l F (by omega) dX5_diff_10 ?_
    refine r_lconst F 1 (by decide +kernel) dX5_diff_11 ?_
    refine r_ldc2 F 3 gk_RX5_47 (by decide +kernel) dX5_diff_12 ?_
    refine d_cSI F X (c_X5_within l G σ w 1 3 (by omega) (by omega) (by omega)) gv_RX5_39 nd_X5_within rfl (rest := [.ref (gY G 36)]) rfl (Nat.le_of_ble_eq_true rfl) ⟨Nat.le_of_ble_eq_true rfl, Nat.le_of_ble_eq_true rfl⟩ ⟨Nat.zero_le _, Nat.zero_le _⟩ hl.1 dX5_diff_15 (fun H locs X => ?_)
    refine r_bz_eq F 32 (1 ≤ w ∧ w ≤ 3) rfl (by decide) dX5_diff_18 (fun c3 => ?_) (fun c3 => ?_)
    · skip
      refine r_iconst F dX5_diff_32 ?_
      refine r_put F X 36 (by decide) (upI (σ 36) 0 1) (eK_36 G _) rfl gl_RX5 tyX5 tyX5_ok nmX5 0 (by decide) rfl gf_RX5_1 rfl (tyX5_ok 0 (by decide)) rfl rfl (Nat.le_of_ble_eq_true rfl) (eK_36 G _) dX5_diff_33 (fun H locs X => ?_)
      obtain ⟨σ2, eσ2⟩ : ∃ x9 : St, x9 = up σ 36 (upI (σ 36) 0 1) := ⟨_, rfl⟩
      rw [← eσ2] at X
      have hrσ2 : σ2 37 = r := by rw [eσ2, up_ne (by omega)]; exact hro
      have hNσ2 : σ2 36 1 = N := by rw [eσ2, up_eq, upI_ne (by omega)]; exact hN
      have hT : MX σ2 N r n hs ∧ KY σ σ2 ∧ σ2 36 0 = 1 := by first | exact MX.th3 hM2 eσ2 | exact MX.th3 hM1 eσ2
      refine r_aload_n F hl 0 rfl rfl dX5_diff_36 ?_
      refine r_get F X 36 (by decide) (eK_36 G _) rfl gl_RX5 0 (by decide) rfl gf_RX5_1 rfl dX5_diff_37 ?_
      refine r_eqI (b := 1) (hT.2.2) ?_
      refine r_if_le F 47 (by decide) (by omega) dX5_diff_40 (fun c4 => ?_) (fun c4 => ?_)
      · omega
      · skip
        refine r_iconst F dX5_diff_43 ?_
        refine r_goto F 53 (by decide) dX5_diff_44 ?_
        exact r_iret F X hr hk dX5_diff_53 (by first | exact ⟨hT.1, hT.2.1, by rw [hT.2.2, if_pos ⟨by assumption, by omega⟩], fun hc => by rfl⟩ | exact ⟨hT.1, hT.2.1, by rw [hT.2.2, if_neg (fun z => by first | exact absurd z.1 (by assumption) | omega)], fun z => by exfalso; first | exact absurd z.1 (by assumption) | omega⟩)
    · skip
      refine r_aload_n F hl 0 rfl rfl dX5_diff_21 ?_
      refine r_cVI F X 36 (by decide) (eK_36 G _) rfl (c_X5_isLaid l G σ N r hro hN hW) gv_RX5_128 rfl nd_X5_isLaid rfl (rest := [.ref (gY G 36)]) rfl (Nat.le_of_ble_eq_true rfl) ⟨Nat.le_of_ble_eq_true rfl, Nat.le_of_ble_eq_true rfl⟩ ⟨Nat.zero_le _, Nat.zero_le _⟩ hl.1 dX5_diff_22 (fun x1 τ1 H locs hI X => ?_)
      obtain ⟨hx1, hfr1, hE1⟩ := hI
      have hM2 := MX.laid hM1 hfr1
      have hr2 := hM2.1.2.1
      have hN2 := hM2.1.1
      refine r_eqI (b := if whl N r = true then 1 else 0) (hx1) ?_
      refine r_bz_eq F 32 (whl N r = true) rfl (by decide) dX5_diff_25 (fun c5 => ?_) (fun c5 => ?_)
      · skip
        refine r_iconst F dX5_diff_32 ?_
        refine r_put F X 36 (by decide) (upI (τ1 36) 0 1) (eK_36 G _) rfl gl_RX5 tyX5 tyX5_ok nmX5 0 (by decide) rfl gf_RX5_1 rfl (tyX5_ok 0 (by decide)) rfl rfl (Nat.le_of_ble_eq_true rfl) (eK_36 G _) dX5_diff_33 (fun H locs X => ?_)
        obtain ⟨σ3, eσ3⟩ : ∃ x9 : St, x9 = up τ1 36 (upI (τ1 36) 0 1) := ⟨_, rfl⟩
        rw [← eσ3] at X
        have hrσ3 : σ3 37 = r := by rw [eσ3, up_ne (by omega)]; exact hr2
        have hNσ3 : σ3 36 1 = N := by rw [eσ3, up_eq, upI_ne (by omega)]; exact hN2
        have hT : MX σ3 N r n hs ∧ KY σ σ3 ∧ σ3 36 0 = 1 := by first | exact MX.th3 hM2 eσ3 | exact MX.th3 hM1 eσ3
        refine r_aload_n F hl 0 rfl rfl dX5_diff_36 ?_
        refine r_get F X 36 (by decide) (eK_36 G _) rfl gl_RX5 0 (by decide) rfl gf_RX5_1 rfl dX5_diff_37 ?_
        refine r_eqI (b := 1) (hT.2.2) ?_
        refine r_if_le F 47 (by decide) (by omega) dX5_diff_40 (fun c6 => ?_) (fun c6 => ?_)
        · omega
        · skip
          refine r_iconst F dX5_diff_43 ?_
          refine r_goto F 53 (by decide) dX5_diff_44 ?_
          exact r_iret F X hr hk dX5_diff_53 (by first | exact ⟨hT.1, hT.2.1, by rw [hT.2.2, if_pos ⟨by assumption, by omega⟩], fun hc => by rfl⟩ | exact ⟨hT.1, hT.2.1, by rw [hT.2.2, if_neg (fun z => by first | exact absurd z.1 (by assumption) | omega)], fun z => by exfalso; first | exact absurd z.1 (by assumption) | omega⟩)
      · skip
        have hE2 := hE1 (by assumption)
        have hL := lfI_LR hW (by assumption)
        obtain ⟨k9, ek9⟩ : ∃ k9 : Nat, w = (k9 : Int) := ⟨w.toNat, by omega⟩
        subst ek9
        refine r_iconst F dX5_diff_28 ?_
        refine r_goto F 33 (by decide) dX5_diff_29 ?_
        refine r_put F X 36 (by decide) (upI (τ1 36) 0 0) (eK_36 G _) rfl gl_RX5 tyX5 tyX5_ok nmX5 0 (by decide) rfl gf_RX5_1 rfl (tyX5_ok 0 (by decide)) rfl rfl (Nat.le_of_ble_eq_true rfl) (eK_36 G _) dX5_diff_33 (fun H locs X => ?_)
        obtain ⟨σ4, eσ4⟩ : ∃ x9 : St, x9 = up τ1 36 (upI (τ1 36) 0 0) := ⟨_, rfl⟩
        rw [← eσ4] at X
        have hrσ4 : σ4 37 = r := by rw [eσ4, up_ne (by omega)]; exact hr2
        have hNσ4 : σ4 36 1 = N := by rw [eσ4, up_eq, upI_ne (by omega)]; exact hN2
        have hEσ4 : EQN (σ4 39) (lfI r) N := by rw [eσ4, up_ne (by omega)]; exact hE2
        have hT : MX σ4 N r n hs ∧ KY σ σ4 ∧ σ4 36 0 = 0 := by first | exact MX.th3 hM2 eσ4 | exact MX.th3 hM1 eσ4
        refine r_aload_n F hl 0 rfl rfl dX5_diff_36 ?_
        refine r_get F X 36 (by decide) (eK_36 G _) rfl gl_RX5 0 (by decide) rfl gf_RX5_1 rfl dX5_diff_37 ?_
        refine r_eqI (b := 0) (hT.2.2) ?_
        refine r_if_le F 47 (by decide) (by omega) dX5_diff_40 (fun c7 => ?_) (fun c7 => ?_)
        · skip
          refine r_aload_n F hl 0 rfl rfl dX5_diff_47 ?_
          refine r_iload_n F hl 1 rfl rfl dX5_diff_48 ?_
          refine r_iload_n F hl 2 rfl rfl dX5_diff_49 ?_
          refine d_cVI F X 36 (by decide) (eK_36 G _) rfl (c_X5_diffAt l G σ4 N r (lfI r) i k9 hrσ4 hNσ4 hW hEσ4 hL (by omega) (by omega)) gv_RX5_124 rfl nd_X5_diffAt rfl (rest := []) rfl (Nat.le_of_ble_eq_true rfl) ⟨Nat.le_of_ble_eq_true rfl, Nat.le_of_ble_eq_true rfl⟩ ⟨Nat.zero_le _, Nat.zero_le _⟩ hl.1 dX5_diff_50 (fun H locs X => ?_)
          exact r_iret F X hr hk dX5_diff_53 (by first | exact ⟨hT.1, hT.2.1, by rw [hT.2.2, if_pos ⟨by assumption, by omega⟩], fun hc => by rfl⟩ | exact ⟨hT.1, hT.2.1, by rw [hT.2.2, if_neg (fun z => by first | exact absurd z.1 (by assumption) | omega)], fun z => by exfalso; first | exact absurd z.1 (by assumption) | omega⟩)
        · omega
theorem c_X5_shape (l : Launch) (G : GT) (σ : St) (N : Int) (r : Int → Int) (n : Int) (hs : Int → Int → Int) (i : Int) (w : Int) (hM : MX σ N r n hs) (hW : WF N r) (hi : -2147483648 ≤ i ∧ i < 2147483648) (hw : -2147483648 ≤ w ∧ w < 2147483648) : Ct l yX5_shape cX5_shape 3 (some .long) 6 G [.ref (gY G 36), .int (I i), .int (I w)] σ (QJ G (fun x9 τ9 => MX τ9 N r n hs ∧ KY σ τ9 ∧ τ9 36 0 = (if (whl N r = true ∧ 0 ≤ i ∧ i < N ∧ 0 ≤ w ∧ w ≤ 3) then 0 else 1) ∧ ((whl N r = true ∧ 0 ≤ i ∧ i < N ∧ 0 ≤ w ∧ w ≤ 3) → x9 = mval (lfI r) N r i (4 + w).toNat))) := by
  refine mt (own := RX5) (plainFor_of_name rfl) rfl (Nat.le_of_ble_eq_true rfl) ?_
  intro p e s m args below meth c ls F hr hk X hl
  have hl : lv_has ls 3 [(0, .ref (gY G 36)), (1, .int (I i)), (2, .int (I w))] := hl
  have hw := hW.num
  have hro := hM.2.1
  have hN := hM.1
  have hM1 : MX σ N r n hs ∧ KY σ σ ∧ σ 36 0 = σ 36 0 := ⟨hM, fun _ _ => rfl, rfl⟩
  refine r_aload_n F hl 0 rfl rfl dX5_shape_0 ?_
  refine r_aload_n F hl 0 rfl rfl dX5_shape_1 ?_
  refine r_iload_n F hl 1 rfl rfl dX5_shape_2 ?_
  refine d_cVI F X 36 (by decide) (eK_36 G _) rfl (c_X5_isStep l G σ N r i hro hN hW (by omega)) gv_RX5_68 rfl nd_X5_isStep rfl (rest := [.ref (gY G 36)]) rfl (Nat.le_of_ble_eq_true rfl) ⟨Nat.le_of_ble_eq_true rfl, Nat.le_of_ble_eq_true rfl⟩ ⟨Nat.zero_le _, Nat.zero_le _⟩ hl.1 dX5_shape_3 (fun H locs X => ?_)
  refine r_bz_eq F 32 (0 ≤ i ∧ i < N) rfl (by decide) dX5_shape_6 (fun c1 => ?_) (fun c1 => ?_)
  · skip
    refine r_iconst F dX5_shape_32 ?_
    refine r_put F X 36 (by decide) (upI (σ 36) 0 1) (eK_36 G _) rfl gl_RX5 tyX5 tyX5_ok nmX5 0 (by decide) rfl gf_RX5_1 rfl (tyX5_ok 0 (by decide)) rfl rfl (Nat.le_of_ble_eq_true rfl) (eK_36 G _) dX5_shape_33 (fun H locs X => ?_)
    obtain ⟨σ1, eσ1⟩ : ∃ x9 : St, x9 = up σ 36 (upI (σ 36) 0 1) := ⟨_, rfl⟩
    rw [← eσ1] at X
    have hrσ1 : σ1 37 = r := by rw [eσ1, up_ne (by omega)]; exact hro
    have hNσ1 : σ1 36 1 = N := by rw [eσ1, up_eq, upI_ne (by omega)]; exact hN
    have hT : MX σ1 N r n hs ∧ KY σ σ1 ∧ σ1 36 0 = 1 := by first | exact MX.th3 hM2 eσ1 | exact MX.th3 hM1 eσ1
    refine r_aload_n F hl 0 rfl rfl dX5_shape_36 ?_
    refine r_get F X 36 (by decide) (eK_36 G _) rfl gl_RX5 0 (by decide) rfl gf_RX5_1 rfl dX5_shape_37 ?_
    refine r_eqI (b := 1) (hT.2.2) ?_
    refine r_if_le F 45 (by decide) (by omega) dX5_shape_40 (fun c2 => ?_) (fun c2 => ?_)
    · omega
    · skip
      refine r_lconst F 0 (by decide +kernel) dX5_shape_43 ?_
      exact r_lret F X hr hk dX5_shape_44 (by first | exact ⟨hT.1, hT.2.1, by rw [hT.2.2, if_pos ⟨by assumption, by omega⟩], fun hc => by rcases (show w = 0 ∨ w = 1 ∨ w = 2 ∨ w = 3 by omega) with h9 | h9 | h9 | h9 <;> first | (exfalso; omega) | (rw [h9]; rfl)⟩ | exact ⟨hT.1, hT.2.1, by rw [hT.2.2, if_neg (fun z => by first | exact absurd z.1 (by assumption) | omega)], fun z => by exfalso; first | exact absurd z.1 (by assumption) | omega⟩)
  · skip
    refine r_iload_n F hl 2 rfl rfl dX5_shape_9 ?_
    refine r_i2l F (by omega) dX5_shape_10 ?_
    refine r_lconst F 0 (by decide +kernel) dX5_shape_11 ?_
    refine r_ldc2 F 3 gk_RX5_47 (by decide +kernel) dX5_shape_12 ?_
    refine d_cSI F X (c_X5_within l G σ w 0 3 (by omega) (by omega) (by omega)) gv_RX5_39 nd_X5_within rfl (rest := [.ref (gY G 36)]) rfl (Nat.le_of_ble_eq_true rfl) ⟨Nat.le_of_ble_eq_true rfl, Nat.le_of_ble_eq_true rfl⟩ ⟨Nat.zero_le _, Nat.zero_le _⟩ hl.1 dX5_shape_15 (fun H locs X => ?_)
    refine r_bz_eq F 32 (0 ≤ w ∧ w ≤ 3) rfl (by decide) dX5_shape_18 (fun c3 => ?_) (fun c3 => ?_)
    · skip
      refine r_iconst F dX5_shape_32 ?_
      refine r_put F X 36 (by decide) (upI (σ 36) 0 1) (eK_36 G _) rfl gl_RX5 tyX5 tyX5_ok nmX5 0 (by decide) rfl gf_RX5_1 rfl (tyX5_ok 0 (by decide)) rfl rfl (Nat.le_of_ble_eq_true rfl) (eK_36 G _) dX5_shape_33 (fun H locs X => ?_)
      obtain ⟨σ2, eσ2⟩ : ∃ x9 : St, x9 = up σ 36 (upI (σ 36) 0 1) := ⟨_, rfl⟩
      rw [← eσ2] at X
      have hrσ2 : σ2 37 = r := by rw [eσ2, up_ne (by omega)]; exact hro
      have hNσ2 : σ2 36 1 = N := by rw [eσ2, up_eq, upI_ne (by omega)]; exact hN
      have hT : MX σ2 N r n hs ∧ KY σ σ2 ∧ σ2 36 0 = 1 := by first | exact MX.th3 hM2 eσ2 | exact MX.th3 hM1 eσ2
      refine r_aload_n F hl 0 rfl rfl dX5_shape_36 ?_
      refine r_get F X 36 (by decide) (eK_36 G _) rfl gl_RX5 0 (by decide) rfl gf_RX5_1 rfl dX5_shape_37 ?_
      refine r_eqI (b := 1) (hT.2.2) ?_
      refine r_if_le F 45 (by decide) (by omega) dX5_shape_40 (fun c4 => ?_) (fun c4 => ?_)
      · omega
      · skip
        refine r_lconst F 0 (by decide +kernel) dX5_shape_43 ?_
        exact r_lret F X hr hk dX5_shape_44 (by first | exact ⟨hT.1, hT.2.1, by rw [hT.2.2, if_pos ⟨by assumption, by omega⟩], fun hc => by rcases (show w = 0 ∨ w = 1 ∨ w = 2 ∨ w = 3 by omega) with h9 | h9 | h9 | h9 <;> first | (exfalso; omega) | (rw [h9]; rfl)⟩ | exact ⟨hT.1, hT.2.1, by rw [hT.2.2, if_neg (fun z => by first | exact absurd z.1 (by assumption) | omega)], fun z => by exfalso; first | exact absurd z.1 (by assumption) | omega⟩)
    · skip
      refine r_aload_n F hl 0 rfl rfl dX5_shape_21 ?_
      refine r_cVI F X 36 (by decide) (eK_36 G _) rfl (c_X5_isLaid l G σ N r hro hN hW) gv_RX5_128 rfl nd_X5_isLaid rfl (rest := [.ref (gY G 36)]) rfl (Nat.le_of_ble_eq_true rfl) ⟨Nat.le_of_ble_eq_true rfl, Nat.le_of_ble_eq_true rfl⟩ ⟨Nat.zero_le _, Nat.zero_le _⟩ hl.1 dX5_shape_22 (fun x1 τ1 H locs hI X => ?_)
      obtain ⟨hx1, hfr1, hE1⟩ := hI
      have hM2 := MX.laid hM1 hfr1
      have hr2 := hM2.1.2.1
      have hN2 := hM2.1.1
      refine r_eqI (b := if whl N r = true then 1 else 0) (hx1) ?_
      refine r_bz_eq F 32 (whl N r = true) rfl (by decide) dX5_shape_25 (fun c5 => ?_) (fun c5 => ?_)
      · skip
        refine r_iconst F dX5_shape_32 ?_
        refine r_put F X 36 (by decide) (upI (τ1 36) 0 1) (eK_36 G _) rfl gl_RX5 tyX5 tyX5_ok nmX5 0 (by decide) rfl gf_RX5_1 rfl (tyX5_ok 0 (by decide)) rfl rfl (Nat.le_of_ble_eq_true rfl) (eK_36 G _) dX5_shape_33 (fun H locs X => ?_)
        obtain ⟨σ3, eσ3⟩ : ∃ x9 : St, x9 = up τ1 36 (upI (τ1 36) 0 1) := ⟨_, rfl⟩
        rw [← eσ3] at X
        have hrσ3 : σ3 37 = r := by rw [eσ3, up_ne (by omega)]; exact hr2
        have hNσ3 : σ3 36 1 = N := by rw [eσ3, up_eq, upI_ne (by omega)]; exact hN2
        have hT : MX σ3 N r n hs ∧ KY σ σ3 ∧ σ3 36 0 = 1 := by first | exact MX.th3 hM2 eσ3 | exact MX.th3 hM1 eσ3
        refine r_aload_n F hl 0 rfl rfl dX5_shape_36 ?_
        refine r_get F X 36 (by decide) (eK_36 G _) rfl gl_RX5 0 (by decide) rfl gf_RX5_1 rfl dX5_shape_37 ?_
        refine r_eqI (b := 1) (hT.2.2) ?_
        refine r_if_le F 45 (by decide) (by omega) dX5_shape_40 (fun c6 => ?_) (fun c6 => ?_)
        · omega
        · skip
          refine r_lconst F 0 (by decide +kernel) dX5_shape_43 ?_
          exact r_lret F X hr hk dX5_shape_44 (by first | exact ⟨hT.1, hT.2.1, by rw [hT.2.2, if_pos ⟨by assumption, by omega⟩], fun hc => by rcases (show w = 0 ∨ w = 1 ∨ w = 2 ∨ w = 3 by omega) with h9 | h9 | h9 | h9 <;> first | (exfalso; omega) | (rw [h9]; rfl)⟩ | exact ⟨hT.1, hT.2.1, by rw [hT.2.2, if_neg (fun z => by first | exact absurd z.1 (by assumption) | omega)], fun z => by exfalso; first | exact absurd z.1 (by assumption) | omega⟩)
      · skip
        have hE2 := hE1 (by assumption)
        have hL := lfI_LR hW (by assumption)
        refine r_iconst F dX5_shape_28 ?_
        refine r_goto F 33 (by decide) dX5_shape_29 ?_
        refine r_put F X 36 (by decide) (upI (τ1 36) 0 0) (eK_36 G _) rfl gl_RX5 tyX5 tyX5_ok nmX5 0 (by decide) rfl gf_RX5_1 rfl (tyX5_ok 0 (by decide)) rfl rfl (Nat.le_of_ble_eq_true rfl) (eK_36 G _) dX5_shape_33 (fun H locs X => ?_)
        obtain ⟨σ4, eσ4⟩ : ∃ x9 : St, x9 = up τ1 36 (upI (τ1 36) 0 0) := ⟨_, rfl⟩
        rw [← eσ4] at X
        have hrσ4 : σ4 37 = r := by rw [eσ4, up_ne (by omega)]; exact hr2
        have hNσ4 : σ4 36 1 = N := by rw [eσ4, up_eq, upI_ne (by omega)]; exact hN2
        have hEσ4 : EQN (σ4 39) (lfI r) N := by rw [eσ4, up_ne (by omega)]; exact hE2
        have hT : MX σ4 N r n hs ∧ KY σ σ4 ∧ σ4 36 0 = 0 := by first | exact MX.th3 hM2 eσ4 | exact MX.th3 hM1 eσ4
        refine r_aload_n F hl 0 rfl rfl dX5_shape_36 ?_
        refine r_get F X 36 (by decide) (eK_36 G _) rfl gl_RX5 0 (by decide) rfl gf_RX5_1 rfl dX5_shape_37 ?_
        refine r_eqI (b := 0) (hT.2.2) ?_
        refine r_if_le F 45 (by decide) (by omega) dX5_shape_40 (fun c7 => ?_) (fun c7 => ?_)
        · skip
          refine r_iload_n F hl 2 rfl rfl dX5_shape_45 ?_
          refine r_if_ne F 57 (by decide) (by omega) dX5_shape_46 (fun c8 => ?_) (fun c8 => ?_)
          · skip
            refine r_iload_n F hl 2 rfl rfl dX5_shape_57 ?_
            refine r_iconst F dX5_shape_58 ?_
            refine r_icmp_ne F 70 (by decide) (by omega) (by omega) dX5_shape_59 (fun c9 => ?_) (fun c9 => ?_)
            · skip
              refine r_iload_n F hl 2 rfl rfl dX5_shape_70 ?_
              refine r_iconst F dX5_shape_71 ?_
              refine r_icmp_ne F 83 (by decide) (by omega) (by omega) dX5_shape_72 (fun c10 => ?_) (fun c10 => ?_)
              · skip
                refine r_aload_n F hl 0 rfl rfl dX5_shape_83 ?_
                refine r_iload_n F hl 1 rfl rfl dX5_shape_84 ?_
                refine d_cVJ F X 36 (by decide) (eK_36 G _) rfl (c_X5_bend l G σ4 N r (lfI r) i hrσ4 hNσ4 hW hEσ4 hL (by omega)) gv_RX5_155 rfl nd_X5_bend rfl (rest := []) rfl (Nat.le_of_ble_eq_true rfl) ⟨Nat.le_of_ble_eq_true rfl, Nat.le_of_ble_eq_true rfl⟩ ⟨Nat.zero_le _, Nat.zero_le _⟩ hl.1 dX5_shape_85 (fun H locs X => ?_)
                exact r_lret F X hr hk dX5_shape_88 (by first | exact ⟨hT.1, hT.2.1, by rw [hT.2.2, if_pos ⟨by assumption, by omega⟩], fun hc => by rcases (show w = 0 ∨ w = 1 ∨ w = 2 ∨ w = 3 by omega) with h9 | h9 | h9 | h9 <;> first | (exfalso; omega) | (rw [h9]; rfl)⟩ | exact ⟨hT.1, hT.2.1, by rw [hT.2.2, if_neg (fun z => by first | exact absurd z.1 (by assumption) | omega)], fun z => by exfalso; first | exact absurd z.1 (by assumption) | omega⟩)
              · skip
                refine r_aload_n F hl 0 rfl rfl dX5_shape_75 ?_
                refine r_iload_n F hl 1 rfl rfl dX5_shape_76 ?_
                refine d_cVJ F X 36 (by decide) (eK_36 G _) rfl (c_X5_bent l G σ4 N r (lfI r) i hrσ4 hNσ4 hW hEσ4 hL (by omega)) gv_RX5_152 rfl nd_X5_bent rfl (rest := []) rfl (Nat.le_of_ble_eq_true rfl) ⟨Nat.le_of_ble_eq_true rfl, Nat.le_of_ble_eq_true rfl⟩ ⟨Nat.zero_le _, Nat.zero_le _⟩ hl.1 dX5_shape_77 (fun H locs X => ?_)
                refine r_goto F 88 (by decide) dX5_shape_80 ?_
                exact r_lret F X hr hk dX5_shape_88 (by first | exact ⟨hT.1, hT.2.1, by rw [hT.2.2, if_pos ⟨by assumption, by omega⟩], fun hc => by rcases (show w = 0 ∨ w = 1 ∨ w = 2 ∨ w = 3 by omega) with h9 | h9 | h9 | h9 <;> first | (exfalso; omega) | (rw [h9]; rfl)⟩ | exact ⟨hT.1, hT.2.1, by rw [hT.2.2, if_neg (fun z => by first | exact absurd z.1 (by assumption) | omega)], fun z => by exfalso; first | exact absurd z.1 (by assumption) | omega⟩)
            · skip
              refine r_aload_n F hl 0 rfl rfl dX5_shape_62 ?_
              refine r_iload_n F hl 1 rfl rfl dX5_shape_63 ?_
              refine d_cVJ F X 36 (by decide) (eK_36 G _) rfl (c_X5_quick l G σ4 N r (lfI r) i hrσ4 hNσ4 hW hEσ4 hL (by omega)) gv_RX5_149 rfl nd_X5_quick rfl (rest := []) rfl (Nat.le_of_ble_eq_true rfl) ⟨Nat.le_of_ble_eq_true rfl, Nat.le_of_ble_eq_true rfl⟩ ⟨Nat.zero_le _, Nat.zero_le _⟩ hl.1 dX5_shape_64 (fun H locs X => ?_)
              refine r_goto F 88 (by decide) dX5_shape_67 ?_
              exact r_lret F X hr hk dX5_shape_88 (by first | exact ⟨hT.1, hT.2.1, by rw [hT.2.2, if_pos ⟨by assumption, by omega⟩], fun hc => by rcases (show w = 0 ∨ w = 1 ∨ w = 2 ∨ w = 3 by omega) with h9 | h9 | h9 | h9 <;> first | (exfalso; omega) | (rw [h9]; rfl)⟩ | exact ⟨hT.1, hT.2.1, by rw [hT.2.2, if_neg (fun z => by first | exact absurd z.1 (by assumption) | omega)], fun z => by exfalso; first | exact absurd z.1 (by assumption) | omega⟩)
          · skip
            refine r_aload_n F hl 0 rfl rfl dX5_shape_49 ?_
            refine r_iload_n F hl 1 rfl rfl dX5_shape_50 ?_
            refine d_cVJ F X 36 (by decide) (eK_36 G _) rfl (c_X5_farOf l G σ4 N r (lfI r) i hrσ4 hNσ4 hW hEσ4 hL (by omega)) gv_RX5_145 rfl nd_X5_farOf rfl (rest := []) rfl (Nat.le_of_ble_eq_true rfl) ⟨Nat.le_of_ble_eq_true rfl, Nat.le_of_ble_eq_true rfl⟩ ⟨Nat.zero_le _, Nat.zero_le _⟩ hl.1 dX5_shape_51 (fun H locs X => ?_)
            refine r_goto F 88 (by decide) dX5_shape_54 ?_
            exact r_lret F X hr hk dX5_shape_88 (by first | exact ⟨hT.1, hT.2.1, by rw [hT.2.2, if_pos ⟨by assumption, by omega⟩], fun hc => by rcases (show w = 0 ∨ w = 1 ∨ w = 2 ∨ w = 3 by omega) with h9 | h9 | h9 | h9 <;> first | (exfalso; omega) | (rw [h9]; rfl)⟩ | exact ⟨hT.1, hT.2.1, by rw [hT.2.2, if_neg (fun z => by first | exact absurd z.1 (by assumption) | omega)], fun z => by exfalso; first | exact absurd z.1 (by assumption) | omega⟩)
        · omega
theorem c_X5_force (l : Launch) (G : GT) (σ : St) (N : Int) (r : Int → Int) (n : Int) (hs : Int → Int → Int) (i : Int) (hM : MX σ N r n hs) (hW : WF N r) (hi : -2147483648 ≤ i ∧ i < 2147483648) : Ct l yX5_force cX5_force 2 (some .long) 5 G [.ref (gY G 36), .int (I i)] σ (QJ G (fun x9 τ9 => MX τ9 N r n hs ∧ KY σ τ9 ∧ τ9 36 0 = (if (whl N r = true ∧ 0 ≤ i ∧ i < N) then 0 else 1) ∧ ((whl N r = true ∧ 0 ≤ i ∧ i < N) → x9 = fo (lfI r) N r i))) := by
  refine mt (own := RX5) (plainFor_of_name rfl) rfl (Nat.le_of_ble_eq_true rfl) ?_
  intro p e s m args below meth c ls F hr hk X hl
  have hl : lv_has ls 2 [(0, .ref (gY G 36)), (1, .int (I i))] := hl
  have hw := hW.num
  have hro := hM.2.1
  have hN := hM.1
  have hM1 : MX σ N r n hs ∧ KY σ σ ∧ σ 36 0 = σ 36 0 := ⟨hM, fun _ _ => rfl, rfl⟩
  refine r_aload_n F hl 0 rfl rfl dX5_force_0 ?_
  refine r_aload_n F hl 0 rfl rfl dX5_force_1 ?_
  refine r_iload_n F hl 1 rfl rfl dX5_force_2 ?_
  refine d_cVI F X 36 (by decide) (eK_36 G _) rfl (c_X5_isStep l G σ N r i hro hN hW (by omega)) gv_RX5_68 rfl nd_X5_isStep rfl (rest := [.ref (gY G 36)]) rfl (Nat.le_of_ble_eq_true rfl) ⟨Nat.le_of_ble_eq_true rfl, Nat.le_of_ble_eq_true rfl⟩ ⟨Nat.zero_le _, Nat.zero_le _⟩ hl.1 dX5_force_3 (fun H locs X => ?_)
  refine r_bz_eq F 20 (0 ≤ i ∧ i < N) rfl (by decide) dX5_force_6 (fun c1 => ?_) (fun c1 => ?_)
  · skip
    refine r_iconst F dX5_force_20 ?_
    refine r_put F X 36 (by decide) (upI (σ 36) 0 1) (eK_36 G _) rfl gl_RX5 tyX5 tyX5_ok nmX5 0 (by decide) rfl gf_RX5_1 rfl (tyX5_ok 0 (by decide)) rfl rfl (Nat.le_of_ble_eq_true rfl) (eK_36 G _) dX5_force_21 (fun H locs X => ?_)
    obtain ⟨σ1, eσ1⟩ : ∃ x9 : St, x9 = up σ 36 (upI (σ 36) 0 1) := ⟨_, rfl⟩
    rw [← eσ1] at X
    have hrσ1 : σ1 37 = r := by rw [eσ1, up_ne (by omega)]; exact hro
    have hNσ1 : σ1 36 1 = N := by rw [eσ1, up_eq, upI_ne (by omega)]; exact hN
    have hT : MX σ1 N r n hs ∧ KY σ σ1 ∧ σ1 36 0 = 1 := by first | exact MX.th3 hM2 eσ1 | exact MX.th3 hM1 eσ1
    refine r_aload_n F hl 0 rfl rfl dX5_force_24 ?_
    refine r_get F X 36 (by decide) (eK_36 G _) rfl gl_RX5 0 (by decide) rfl gf_RX5_1 rfl dX5_force_25 ?_
    refine r_eqI (b := 1) (hT.2.2) ?_
    refine r_if_le F 35 (by decide) (by omega) dX5_force_28 (fun c2 => ?_) (fun c2 => ?_)
    · omega
    · skip
      refine r_lconst F 0 (by decide +kernel) dX5_force_31 ?_
      refine r_goto F 40 (by decide) dX5_force_32 ?_
      exact r_lret F X hr hk dX5_force_40 (by first | exact ⟨hT.1, hT.2.1, by rw [hT.2.2, if_pos ⟨by assumption, by omega⟩], fun hc => by rfl⟩ | exact ⟨hT.1, hT.2.1, by rw [hT.2.2, if_neg (fun z => by first | exact absurd z.1 (by assumption) | omega)], fun z => by exfalso; first | exact absurd z.1 (by assumption) | omega⟩)
  · skip
    refine r_aload_n F hl 0 rfl rfl dX5_force_9 ?_
    refine r_cVI F X 36 (by decide) (eK_36 G _) rfl (c_X5_isLaid l G σ N r hro hN hW) gv_RX5_128 rfl nd_X5_isLaid rfl (rest := [.ref (gY G 36)]) rfl (Nat.le_of_ble_eq_true rfl) ⟨Nat.le_of_ble_eq_true rfl, Nat.le_of_ble_eq_true rfl⟩ ⟨Nat.zero_le _, Nat.zero_le _⟩ hl.1 dX5_force_10 (fun x1 τ1 H locs hI X => ?_)
    obtain ⟨hx1, hfr1, hE1⟩ := hI
    have hM2 := MX.laid hM1 hfr1
    have hr2 := hM2.1.2.1
    have hN2 := hM2.1.1
    refine r_eqI (b := if whl N r = true then 1 else 0) (hx1) ?_
    refine r_bz_eq F 20 (whl N r = true) rfl (by decide) dX5_force_13 (fun c3 => ?_) (fun c3 => ?_)
    · skip
      refine r_iconst F dX5_force_20 ?_
      refine r_put F X 36 (by decide) (upI (τ1 36) 0 1) (eK_36 G _) rfl gl_RX5 tyX5 tyX5_ok nmX5 0 (by decide) rfl gf_RX5_1 rfl (tyX5_ok 0 (by decide)) rfl rfl (Nat.le_of_ble_eq_true rfl) (eK_36 G _) dX5_force_21 (fun H locs X => ?_)
      obtain ⟨σ2, eσ2⟩ : ∃ x9 : St, x9 = up τ1 36 (upI (τ1 36) 0 1) := ⟨_, rfl⟩
      rw [← eσ2] at X
      have hrσ2 : σ2 37 = r := by rw [eσ2, up_ne (by omega)]; exact hr2
      have hNσ2 : σ2 36 1 = N := by rw [eσ2, up_eq, upI_ne (by omega)]; exact hN2
      have hT : MX σ2 N r n hs ∧ KY σ σ2 ∧ σ2 36 0 = 1 := by first | exact MX.th3 hM2 eσ2 | exact MX.th3 hM1 eσ2
      refine r_aload_n F hl 0 rfl rfl dX5_force_24 ?_
      refine r_get F X 36 (by decide) (eK_36 G _) rfl gl_RX5 0 (by decide) rfl gf_RX5_1 rfl dX5_force_25 ?_
      refine r_eqI (b := 1) (hT.2.2) ?_
      refine r_if_le F 35 (by decide) (by omega) dX5_force_28 (fun c4 => ?_) (fun c4 => ?_)
      · omega
      · skip
        refine r_lconst F 0 (by decide +kernel) dX5_force_31 ?_
        refine r_goto F 40 (by decide) dX5_force_32 ?_
        exact r_lret F X hr hk dX5_force_40 (by first | exact ⟨hT.1, hT.2.1, by rw [hT.2.2, if_pos ⟨by assumption, by omega⟩], fun hc => by rfl⟩ | exact ⟨hT.1, hT.2.1, by rw [hT.2.2, if_neg (fun z => by first | exact absurd z.1 (by assumption) | omega)], fun z => by exfalso; first | exact absurd z.1 (by assumption) | omega⟩)
    · skip
      have hE2 := hE1 (by assumption)
      have hL := lfI_LR hW (by assumption)
      refine r_iconst F dX5_force_16 ?_
      refine r_goto F 21 (by decide) dX5_force_17 ?_
      refine r_put F X 36 (by decide) (upI (τ1 36) 0 0) (eK_36 G _) rfl gl_RX5 tyX5 tyX5_ok nmX5 0 (by decide) rfl gf_RX5_1 rfl (tyX5_ok 0 (by decide)) rfl rfl (Nat.le_of_ble_eq_true rfl) (eK_36 G _) dX5_force_21 (fun H locs X => ?_)
      obtain ⟨σ3, eσ3⟩ : ∃ x9 : St, x9 = up τ1 36 (upI (τ1 36) 0 0) := ⟨_, rfl⟩
      rw [← eσ3] at X
      have hrσ3 : σ3 37 = r := by rw [eσ3, up_ne (by omega)]; exact hr2
      have hNσ3 : σ3 36 1 = N := by rw [eσ3, up_eq, upI_ne (by omega)]; exact hN2
      have hEσ3 : EQN (σ3 39) (lfI r) N := by rw [eσ3, up_ne (by omega)]; exact hE2
      have hT : MX σ3 N r n hs ∧ KY σ σ3 ∧ σ3 36 0 = 0 := by first | exact MX.th3 hM2 eσ3 | exact MX.th3 hM1 eσ3
      refine r_aload_n F hl 0 rfl rfl dX5_force_24 ?_
      refine r_get F X 36 (by decide) (eK_36 G _) rfl gl_RX5 0 (by decide) rfl gf_RX5_1 rfl dX5_force_25 ?_
      refine r_eqI (b := 0) (hT.2.2) ?_
      refine r_if_le F 35 (by decide) (by omega) dX5_force_28 (fun c5 => ?_) (fun c5 => ?_)
      · skip
        refine r_aload_n F hl 0 rfl rfl dX5_force_35 ?_
        refine r_iload_n F hl 1 rfl rfl dX5_force_36 ?_
        refine d_cVJ F X 36 (by decide) (eK_36 G _) rfl (c_X5_forceAt l G σ3 N r (lfI r) i hrσ3 hNσ3 hW hEσ3 hL (by omega)) gv_RX5_173 rfl nd_X5_forceAt rfl (rest := []) rfl (Nat.le_of_ble_eq_true rfl) ⟨Nat.le_of_ble_eq_true rfl, Nat.le_of_ble_eq_true rfl⟩ ⟨Nat.zero_le _, Nat.zero_le _⟩ hl.1 dX5_force_37 (fun H locs X => ?_)
        exact r_lret F X hr hk dX5_force_40 (by first | exact ⟨hT.1, hT.2.1, by rw [hT.2.2, if_pos ⟨by assumption, by omega⟩], fun hc => by rfl⟩ | exact ⟨hT.1, hT.2.1, by rw [hT.2.2, if_neg (fun z => by first | exact absurd z.1 (by assumption) | omega)], fun z => by exfalso; first | exact absurd z.1 (by assumption) | omega⟩)
      · omega
