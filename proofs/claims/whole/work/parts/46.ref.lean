theorem pfI_mono {p : Int → Bool} {n v : Int} (hn : 0 ≤ n) (h0 : 0 ≤ v) (h1 : v ≤ n) (hp : 1 ≤ v → p v = true) (hm : ∀ j : Int, 1 ≤ j → j ≤ v → p v = true → p j = true) (hv : v = n ∨ p (v + 1) = false) : v = pfI p n := by
  refine (pfI_eq h0 h1 (fun j a b => ?_) hv).symm
  exact hm j a b (hp (by omega))
theorem ffI_rg (p : Int → Bool) {n : Int} (h : 0 ≤ n) : -1 ≤ ffI p n ∧ ffI p n < n := by
  have key : ∀ k : Nat, -1 ≤ ff p k ∧ ff p k < (k : Int) := by
    intro k
    induction k with
    | zero => exact ⟨Int.le_refl _, by show (-1 : Int) < 0; decide⟩
    | succ k ih =>
      show -1 ≤ (if ff p k < 0 then (if p (k : Int) = true then (k : Int) else -1) else ff p k) ∧ (if ff p k < 0 then (if p (k : Int) = true then (k : Int) else -1) else ff p k) < ((k + 1 : Nat) : Int)
      split
      · split <;> omega
      · omega
  have := key n.toNat
  unfold ffI
  omega
theorem evn_n {b1 b2 b3 : Bool} {n : Int} (h0 : 0 ≤ n ∧ n ≤ 3) (hl : (1 ≤ n → b1 = true) ∧ (2 ≤ n → b2 = true) ∧ (3 ≤ n → b3 = true)) (hs : (n = 0 → b1 = false) ∧ (n = 1 → b2 = false) ∧ (n = 2 → b3 = false)) : n = evn b1 b2 b3 := by
  unfold evn
  rcases (show n = 0 ∨ n = 1 ∨ n = 2 ∨ n = 3 by omega) with q | q | q | q <;> subst q
  · rw [hs.1 rfl]; rfl
  · rw [hl.1 (by omega), hs.2.1 rfl]; rfl
  · rw [hl.1 (by omega), hl.2.1 (by omega), hs.2.2 rfl]; rfl
  · rw [hl.1 (by omega), hl.2.1 (by omega), hl.2.2 (by omega)]; rfl
theorem c_X5_of (l : Launch) (G : GT) (σ : St) (N : Int) (r : Int → Int) (n : Int) (hs : Int → Int → Int) (s2 : Int) (w : Int) (hM : MX σ N r n hs) (hW : WF N r) (hs2 : -2147483648 ≤ s2 ∧ s2 < 2147483648) (hw : -2147483648 ≤ w ∧ w < 2147483648) : Ct l yX5_of cX5_of 3 (some .int) 3 G [.ref (gY G 36), .int (I s2), .int (I w)] σ (QI G (fun x9 τ9 => x9 = qOf r s2 w ∧ MX τ9 N r n hs ∧ KY σ τ9 ∧ τ9 36 0 = 0)) := by
  refine mt (own := RX5) (plainFor_of_name rfl) rfl (Nat.le_of_ble_eq_true rfl) ?_
  intro p e s m args below meth c ls F hr hk X hl
  have hl : lv_has ls 3 [(0, .ref (gY G 36)), (1, .int (I s2)), (2, .int (I w))] := hl
  have hw := hW.num
  have hro := hM.2.1
  have hN := hM.1
  refine r_aload_n F hl 0 rfl rfl dX5_of_0 ?_
  refine r_iconst F dX5_of_1 ?_
  refine r_put F X 36 (by decide) (upI (σ 36) 0 0) (eK_36 G _) rfl gl_RX5 tyX5 tyX5_ok nmX5 0 (by decide) rfl gf_RX5_1 rfl (tyX5_ok 0 (by decide)) rfl rfl (Nat.le_of_ble_eq_true rfl) (eK_36 G _) dX5_of_2 (fun H locs X => ?_)
  obtain ⟨σ1, eσ1⟩ : ∃ x9 : St, x9 = up σ 36 (upI (σ 36) 0 0) := ⟨_, rfl⟩
  rw [← eσ1] at X
  have hrσ1 : σ1 37 = r := by rw [eσ1, up_ne (by omega)]; exact hro
  have hNσ1 : σ1 36 1 = N := by rw [eσ1, up_eq, upI_ne (by omega)]; exact hN
  have hM1 := hM.th (v := 0) eσ1
  refine r_aload_n F hl 0 rfl rfl dX5_of_5 ?_
  refine r_iload_n F hl 1 rfl rfl dX5_of_6 ?_
  refine d_cVI F X 36 (by decide) (eK_36 G _) rfl (c_X5_isSegment l G σ1 N r s2 hrσ1 hNσ1 hW (by omega)) gv_RX5_52 rfl nd_X5_isSegment rfl (rest := []) rfl (Nat.le_of_ble_eq_true rfl) ⟨Nat.le_of_ble_eq_true rfl, Nat.le_of_ble_eq_true rfl⟩ ⟨Nat.zero_le _, Nat.zero_le _⟩ hl.1 dX5_of_7 (fun H locs X => ?_)
  refine r_bz_ne F 15 (0 ≤ s2 ∧ s2 < r 60) rfl (by decide) dX5_of_10 (fun c1 => ?_) (fun c1 => ?_)
  · skip
    refine r_iload_n F hl 2 rfl rfl dX5_of_15 ?_
    rcases (show w = 0 ∨ w = 1 ∨ w = 2 ∨ w = 3 ∨ w = 4 ∨ w = 5 ∨ (w < 0 ∨ 5 < w) by omega) with q1 | q1 | q1 | q1 | q1 | q1 | q1
    · skip
      refine r_tabIn F 0 56 q1 (by decide) (by decide) (by decide) rfl (by decide) dX5_of_16 ?_
      refine r_aload_n F hl 0 rfl rfl dX5_of_56 ?_
      refine r_get F X 36 (by decide) (eK_36 G _) rfl gl_RX5 2 (by decide) rfl gf_RX5_16 rfl dX5_of_57 ?_
      refine r_iconst F dX5_of_60 ?_
      refine r_iload_n F hl 1 rfl rfl dX5_of_61 ?_
      refine r_iadd F dX5_of_62 ?_
      refine r_iald F X 37 (by decide) (eK_37 G) (by omega) (by decide) dX5_of_63 ?_
      refine r_eqI (b := r (0 + s2)) (by rw [hrσ1]) ?_
      refine r_eqI (b := r s2) (by rw [Int.zero_add]) ?_
      exact r_iret F X hr hk dX5_of_64 (⟨by unfold qOf; grind, hM1.1, hM1.2.1, hM1.2.2⟩)
    · skip
      refine r_tabIn F 1 65 q1 (by decide) (by decide) (by decide) rfl (by decide) dX5_of_16 ?_
      refine r_aload_n F hl 0 rfl rfl dX5_of_65 ?_
      refine r_get F X 36 (by decide) (eK_36 G _) rfl gl_RX5 2 (by decide) rfl gf_RX5_16 rfl dX5_of_66 ?_
      refine r_bipush F (by decide) dX5_of_69 ?_
      refine r_iload_n F hl 1 rfl rfl dX5_of_71 ?_
      refine r_iadd F dX5_of_72 ?_
      refine r_iald F X 37 (by decide) (eK_37 G) (by omega) (by decide) dX5_of_73 ?_
      refine r_eqI (b := r (12 + s2)) (by rw [hrσ1]) ?_
      exact r_iret F X hr hk dX5_of_74 (⟨by unfold qOf; grind, hM1.1, hM1.2.1, hM1.2.2⟩)
    · skip
      refine r_tabIn F 2 75 q1 (by decide) (by decide) (by decide) rfl (by decide) dX5_of_16 ?_
      refine r_aload_n F hl 0 rfl rfl dX5_of_75 ?_
      refine r_get F X 36 (by decide) (eK_36 G _) rfl gl_RX5 2 (by decide) rfl gf_RX5_16 rfl dX5_of_76 ?_
      refine r_bipush F (by decide) dX5_of_79 ?_
      refine r_iload_n F hl 1 rfl rfl dX5_of_81 ?_
      refine r_iadd F dX5_of_82 ?_
      refine r_iald F X 37 (by decide) (eK_37 G) (by omega) (by decide) dX5_of_83 ?_
      refine r_eqI (b := r (24 + s2)) (by rw [hrσ1]) ?_
      exact r_iret F X hr hk dX5_of_84 (⟨by unfold qOf; grind, hM1.1, hM1.2.1, hM1.2.2⟩)
    · skip
      refine r_tabIn F 3 85 q1 (by decide) (by decide) (by decide) rfl (by decide) dX5_of_16 ?_
      refine r_aload_n F hl 0 rfl rfl dX5_of_85 ?_
      refine r_iload_n F hl 1 rfl rfl dX5_of_86 ?_
      refine d_cVI F X 36 (by decide) (eK_36 G _) rfl (c_X5_comesFrom l G σ1 N r s2 hrσ1 hNσ1 hW (by omega)) gv_RX5_74 rfl nd_X5_comesFrom rfl (rest := []) rfl (Nat.le_of_ble_eq_true rfl) ⟨Nat.le_of_ble_eq_true rfl, Nat.le_of_ble_eq_true rfl⟩ ⟨Nat.zero_le _, Nat.zero_le _⟩ hl.1 dX5_of_87 (fun H locs X => ?_)
      exact r_iret F X hr hk dX5_of_90 (⟨by unfold qOf; grind, hM1.1, hM1.2.1, hM1.2.2⟩)
    · skip
      refine r_tabIn F 4 91 q1 (by decide) (by decide) (by decide) rfl (by decide) dX5_of_16 ?_
      refine r_aload_n F hl 0 rfl rfl dX5_of_91 ?_
      refine r_iload_n F hl 1 rfl rfl dX5_of_92 ?_
      refine d_cVI F X 36 (by decide) (eK_36 G _) rfl (c_X5_begins l G σ1 N r s2 hrσ1 hNσ1 hW (by omega)) gv_RX5_78 rfl nd_X5_begins rfl (rest := []) rfl (Nat.le_of_ble_eq_true rfl) ⟨Nat.le_of_ble_eq_true rfl, Nat.le_of_ble_eq_true rfl⟩ ⟨Nat.zero_le _, Nat.zero_le _⟩ hl.1 dX5_of_93 (fun H locs X => ?_)
      exact r_iret F X hr hk dX5_of_96 (⟨by unfold qOf; grind, hM1.1, hM1.2.1, hM1.2.2⟩)
    · skip
      refine r_tabIn F 5 97 q1 (by decide) (by decide) (by decide) rfl (by decide) dX5_of_16 ?_
      refine r_aload_n F hl 0 rfl rfl dX5_of_97 ?_
      refine r_iload_n F hl 1 rfl rfl dX5_of_98 ?_
      refine d_cVI F X 36 (by decide) (eK_36 G _) rfl (c_X5_isDwell l G σ1 N r s2 hrσ1 hNσ1 hW (by omega)) gv_RX5_81 rfl nd_X5_isDwell rfl (rest := []) rfl (Nat.le_of_ble_eq_true rfl) ⟨Nat.le_of_ble_eq_true rfl, Nat.le_of_ble_eq_true rfl⟩ ⟨Nat.zero_le _, Nat.zero_le _⟩ hl.1 dX5_of_99 (fun H locs X => ?_)
      refine r_bz_eq F 109 (dwl r s2 = true) rfl (by decide) dX5_of_102 (fun c2 => ?_) (fun c2 => ?_)
      · skip
        refine r_iconst F dX5_of_109 ?_
        exact r_iret F X hr hk dX5_of_110 (⟨by unfold qOf; grind, hM1.1, hM1.2.1, hM1.2.2⟩)
      · skip
        refine r_iconst F dX5_of_105 ?_
        refine r_goto F 110 (by decide) dX5_of_106 ?_
        exact r_iret F X hr hk dX5_of_110 (⟨by unfold qOf; grind, hM1.1, hM1.2.1, hM1.2.2⟩)
    · skip
      refine r_tabOut F 111 (by omega) q1 (by decide) dX5_of_16 ?_
      refine r_iconst F dX5_of_111 ?_
      exact r_iret F X hr hk dX5_of_112 (⟨by unfold qOf; grind, hM1.1, hM1.2.1, hM1.2.2⟩)
  · skip
    refine r_iconst F dX5_of_13 ?_
    exact r_iret F X hr hk dX5_of_14 (⟨by unfold qOf; grind, hM1.1, hM1.2.1, hM1.2.2⟩)
theorem c_X5_lift (l : Launch) (G : GT) (σ : St) (N : Int) (r : Int → Int) (n : Int) (hs : Int → Int → Int) (i : Int) (hM : MX σ N r n hs) (hW : WF N r) (hi : -2147483648 ≤ i ∧ i < 2147483648) : Ct l yX5_lift cX5_lift 2 (some .int) 5 G [.ref (gY G 36), .int (I i)] σ (QI G (fun x9 τ9 => x9 = qLift N r i ∧ MX τ9 N r n hs ∧ KY σ τ9 ∧ τ9 36 0 = 0)) := by
  refine mt (own := RX5) (plainFor_of_name rfl) rfl (Nat.le_of_ble_eq_true rfl) ?_
  intro p e s m args below meth c ls F hr hk X hl
  have hl : lv_has ls 2 [(0, .ref (gY G 36)), (1, .int (I i))] := hl
  have hw := hW.num
  have hro := hM.2.1
  have hN := hM.1
  refine r_aload_n F hl 0 rfl rfl dX5_lift_0 ?_
  refine r_iconst F dX5_lift_1 ?_
  refine r_put F X 36 (by decide) (upI (σ 36) 0 0) (eK_36 G _) rfl gl_RX5 tyX5 tyX5_ok nmX5 0 (by decide) rfl gf_RX5_1 rfl (tyX5_ok 0 (by decide)) rfl rfl (Nat.le_of_ble_eq_true rfl) (eK_36 G _) dX5_lift_2 (fun H locs X => ?_)
  obtain ⟨σ1, eσ1⟩ : ∃ x9 : St, x9 = up σ 36 (upI (σ 36) 0 0) := ⟨_, rfl⟩
  rw [← eσ1] at X
  have hrσ1 : σ1 37 = r := by rw [eσ1, up_ne (by omega)]; exact hro
  have hNσ1 : σ1 36 1 = N := by rw [eσ1, up_eq, upI_ne (by omega)]; exact hN
  have hM1 := hM.th (v := 0) eσ1
  refine r_aload_n F hl 0 rfl rfl dX5_lift_5 ?_
  refine r_iload_n F hl 1 rfl rfl dX5_lift_6 ?_
  refine d_cVI F X 36 (by decide) (eK_36 G _) rfl (c_X5_isStep l G σ1 N r i hrσ1 hNσ1 hW (by omega)) gv_RX5_68 rfl nd_X5_isStep rfl (rest := []) rfl (Nat.le_of_ble_eq_true rfl) ⟨Nat.le_of_ble_eq_true rfl, Nat.le_of_ble_eq_true rfl⟩ ⟨Nat.zero_le _, Nat.zero_le _⟩ hl.1 dX5_lift_7 (fun H locs X => ?_)
  refine r_bz_eq F 29 (0 ≤ i ∧ i < N) rfl (by decide) dX5_lift_10 (fun c1 => ?_) (fun c1 => ?_)
  · skip
    refine r_iconst F dX5_lift_29 ?_
    exact r_iret F X hr hk dX5_lift_30 (by first | exact ⟨by unfold qLift; grind, hM2.1, hM2.2.1, hM2.2.2⟩ | exact ⟨by unfold qLift; grind, hM1.1, hM1.2.1, hM1.2.2⟩)
  · skip
    refine r_aload_n F hl 0 rfl rfl dX5_lift_13 ?_
    refine r_cVI F X 36 (by decide) (eK_36 G _) rfl (c_X5_isLaid l G σ1 N r hrσ1 hNσ1 hW) gv_RX5_128 rfl nd_X5_isLaid rfl (rest := []) rfl (Nat.le_of_ble_eq_true rfl) ⟨Nat.le_of_ble_eq_true rfl, Nat.le_of_ble_eq_true rfl⟩ ⟨Nat.zero_le _, Nat.zero_le _⟩ hl.1 dX5_lift_14 (fun x1 τ1 H locs hI X => ?_)
    obtain ⟨hx1, hfr1, hE1⟩ := hI
    have hM2 := MX.laid hM1 hfr1
    have hr2 := hM2.1.2.1
    have hN2 := hM2.1.1
    refine r_eqI (b := if whl N r = true then 1 else 0) (hx1) ?_
    refine r_bz_eq F 29 (whl N r = true) rfl (by decide) dX5_lift_17 (fun c2 => ?_) (fun c2 => ?_)
    · skip
      refine r_iconst F dX5_lift_29 ?_
      exact r_iret F X hr hk dX5_lift_30 (by first | exact ⟨by unfold qLift; grind, hM2.1, hM2.2.1, hM2.2.2⟩ | exact ⟨by unfold qLift; grind, hM1.1, hM1.2.1, hM1.2.2⟩)
    · skip
      have hE2 := hE1 (by assumption)
      have hL := lfI_LR hW (by assumption)
      refine r_aload_n F hl 0 rfl rfl dX5_lift_20 ?_
      refine r_get F X 36 (by decide) (eK_36 G _) rfl gl_RX5 5 (by decide) rfl gf_RX5_23 rfl dX5_lift_21 ?_
      refine r_iload_n F hl 1 rfl rfl dX5_lift_24 ?_
      refine r_iald F X 39 (by decide) (eK_39 G) (by omega) (by decide) dX5_lift_25 ?_
      refine r_eqI (b := (lfI r) i) (hE2 _ (by omega) (by omega)) ?_
      refine r_goto F 30 (by decide) dX5_lift_26 ?_
      exact r_iret F X hr hk dX5_lift_30 (by first | exact ⟨by unfold qLift; grind, hM2.1, hM2.2.1, hM2.2.2⟩ | exact ⟨by unfold qLift; grind, hM1.1, hM1.2.1, hM1.2.2⟩)
theorem c_X5_undercut (l : Launch) (G : GT) (σ : St) (N : Int) (r : Int → Int) (n : Int) (hs : Int → Int → Int) (i : Int) (hM : MX σ N r n hs) (hW : WF N r) (hi : -2147483648 ≤ i ∧ i < 2147483648) : Ct l yX5_undercut cX5_undercut 2 (some .int) 7 G [.ref (gY G 36), .int (I i)] σ (QI G (fun x9 τ9 => x9 = qUnder N r i ∧ MX τ9 N r n hs ∧ KY σ τ9 ∧ τ9 36 0 = 0)) := by
  refine mt (own := RX5) (plainFor_of_name rfl) rfl (Nat.le_of_ble_eq_true rfl) ?_
  intro p e s m args below meth c ls F hr hk X hl
  have hl : lv_has ls 2 [(0, .ref (gY G 36)), (1, .int (I i))] := hl
  have hw := hW.num
  have hro := hM.2.1
  have hN := hM.1
  refine r_aload_n F hl 0 rfl rfl dX5_undercut_0 ?_
  refine r_iconst F dX5_undercut_1 ?_
  refine r_put F X 36 (by decide) (upI (σ 36) 0 0) (eK_36 G _) rfl gl_RX5 tyX5 tyX5_ok nmX5 0 (by decide) rfl gf_RX5_1 rfl (tyX5_ok 0 (by decide)) rfl rfl (Nat.le_of_ble_eq_true rfl) (eK_36 G _) dX5_undercut_2 (fun H locs X => ?_)
  obtain ⟨σ1, eσ1⟩ : ∃ x9 : St, x9 = up σ 36 (upI (σ 36) 0 0) := ⟨_, rfl⟩
  rw [← eσ1] at X
  have hrσ1 : σ1 37 = r := by rw [eσ1, up_ne (by omega)]; exact hro
  have hNσ1 : σ1 36 1 = N := by rw [eσ1, up_eq, upI_ne (by omega)]; exact hN
  have hM1 := hM.th (v := 0) eσ1
  refine r_aload_n F hl 0 rfl rfl dX5_undercut_5 ?_
  refine r_iload_n F hl 1 rfl rfl dX5_undercut_6 ?_
  refine d_cVI F X 36 (by decide) (eK_36 G _) rfl (c_X5_isStep l G σ1 N r i hrσ1 hNσ1 hW (by omega)) gv_RX5_68 rfl nd_X5_isStep rfl (rest := []) rfl (Nat.le_of_ble_eq_true rfl) ⟨Nat.le_of_ble_eq_true rfl, Nat.le_of_ble_eq_true rfl⟩ ⟨Nat.zero_le _, Nat.zero_le _⟩ hl.1 dX5_undercut_7 (fun H locs X => ?_)
  refine r_bz_eq F 28 (0 ≤ i ∧ i < N) rfl (by decide) dX5_undercut_10 (fun c1 => ?_) (fun c1 => ?_)
  · skip
    refine r_iconst F dX5_undercut_28 ?_
    exact r_iret F X hr hk dX5_undercut_29 (by first | exact ⟨by unfold qUnder; grind, hM2.1, hM2.2.1, hM2.2.2⟩ | exact ⟨by unfold qUnder; grind, hM1.1, hM1.2.1, hM1.2.2⟩)
  · skip
    refine r_aload_n F hl 0 rfl rfl dX5_undercut_13 ?_
    refine r_cVI F X 36 (by decide) (eK_36 G _) rfl (c_X5_isLaid l G σ1 N r hrσ1 hNσ1 hW) gv_RX5_128 rfl nd_X5_isLaid rfl (rest := []) rfl (Nat.le_of_ble_eq_true rfl) ⟨Nat.le_of_ble_eq_true rfl, Nat.le_of_ble_eq_true rfl⟩ ⟨Nat.zero_le _, Nat.zero_le _⟩ hl.1 dX5_undercut_14 (fun x1 τ1 H locs hI X => ?_)
    obtain ⟨hx1, hfr1, hE1⟩ := hI
    have hM2 := MX.laid hM1 hfr1
    have hr2 := hM2.1.2.1
    have hN2 := hM2.1.1
    refine r_eqI (b := if whl N r = true then 1 else 0) (hx1) ?_
    refine r_bz_eq F 28 (whl N r = true) rfl (by decide) dX5_undercut_17 (fun c2 => ?_) (fun c2 => ?_)
    · skip
      refine r_iconst F dX5_undercut_28 ?_
      exact r_iret F X hr hk dX5_undercut_29 (by first | exact ⟨by unfold qUnder; grind, hM2.1, hM2.2.1, hM2.2.2⟩ | exact ⟨by unfold qUnder; grind, hM1.1, hM1.2.1, hM1.2.2⟩)
    · skip
      have hE2 := hE1 (by assumption)
      have hL := lfI_LR hW (by assumption)
      refine r_aload_n F hl 0 rfl rfl dX5_undercut_20 ?_
      refine r_iload_n F hl 1 rfl rfl dX5_undercut_21 ?_
      refine d_cVI F X 36 (by decide) (eK_36 G _) rfl (c_X5_undercutAt l G τ1 N r (lfI r) i hr2 hN2 hW hE2 hL (by omega)) gv_RX5_167 rfl nd_X5_undercutAt rfl (rest := []) rfl (Nat.le_of_ble_eq_true rfl) ⟨Nat.le_of_ble_eq_true rfl, Nat.le_of_ble_eq_true rfl⟩ ⟨Nat.zero_le _, Nat.zero_le _⟩ hl.1 dX5_undercut_22 (fun H locs X => ?_)
      refine r_goto F 29 (by decide) dX5_undercut_25 ?_
      exact r_iret F X hr hk dX5_undercut_29 (by first | exact ⟨by unfold qUnder; grind, hM2.1, hM2.2.1, hM2.2.2⟩ | exact ⟨by unfold qUnder; grind, hM1.1, hM1.2.1, hM1.2.2⟩)
theorem c_X5_press (l : Launch) (G : GT) (σ : St) (N : Int) (r : Int → Int) (n : Int) (hs : Int → Int → Int) (i : Int) (hM : MX σ N r n hs) (hW : WF N r) (hi : -2147483648 ≤ i ∧ i < 2147483648) : Ct l yX5_press cX5_press 2 (some .int) 5 G [.ref (gY G 36), .int (I i)] σ (QI G (fun x9 τ9 => x9 = qPress N r i ∧ MX τ9 N r n hs ∧ KY σ τ9 ∧ τ9 36 0 = 0)) := by
  refine mt (own := RX5) (plainFor_of_name rfl) rfl (Nat.le_of_ble_eq_true rfl) ?_
  intro p e s m args below meth c ls F hr hk X hl
  have hl : lv_has ls 2 [(0, .ref (gY G 36)), (1, .int (I i))] := hl
  have hw := hW.num
  have hro := hM.2.1
  have hN := hM.1
  refine r_aload_n F hl 0 rfl rfl dX5_press_0 ?_
  refine r_iconst F dX5_press_1 ?_
  refine r_put F X 36 (by decide) (upI (σ 36) 0 0) (eK_36 G _) rfl gl_RX5 tyX5 tyX5_ok nmX5 0 (by decide) rfl gf_RX5_1 rfl (tyX5_ok 0 (by decide)) rfl rfl (Nat.le_of_ble_eq_true rfl) (eK_36 G _) dX5_press_2 (fun H locs X => ?_)
  obtain ⟨σ1, eσ1⟩ : ∃ x9 : St, x9 = up σ 36 (upI (σ 36) 0 0) := ⟨_, rfl⟩
  rw [← eσ1] at X
  have hrσ1 : σ1 37 = r := by rw [eσ1, up_ne (by omega)]; exact hro
  have hNσ1 : σ1 36 1 = N := by rw [eσ1, up_eq, upI_ne (by omega)]; exact hN
  have hM1 := hM.th (v := 0) eσ1
  refine r_aload_n F hl 0 rfl rfl dX5_press_5 ?_
  refine r_iload_n F hl 1 rfl rfl dX5_press_6 ?_
  refine d_cVI F X 36 (by decide) (eK_36 G _) rfl (c_X5_isStep l G σ1 N r i hrσ1 hNσ1 hW (by omega)) gv_RX5_68 rfl nd_X5_isStep rfl (rest := []) rfl (Nat.le_of_ble_eq_true rfl) ⟨Nat.le_of_ble_eq_true rfl, Nat.le_of_ble_eq_true rfl⟩ ⟨Nat.zero_le _, Nat.zero_le _⟩ hl.1 dX5_press_7 (fun H locs X => ?_)
  refine r_bz_eq F 28 (0 ≤ i ∧ i < N) rfl (by decide) dX5_press_10 (fun c1 => ?_) (fun c1 => ?_)
  · skip
    refine r_iconst F dX5_press_28 ?_
    exact r_iret F X hr hk dX5_press_29 (by first | exact ⟨by unfold qPress; grind, hM2.1, hM2.2.1, hM2.2.2⟩ | exact ⟨by unfold qPress; grind, hM1.1, hM1.2.1, hM1.2.2⟩)
  · skip
    refine r_aload_n F hl 0 rfl rfl dX5_press_13 ?_
    refine r_cVI F X 36 (by decide) (eK_36 G _) rfl (c_X5_isLaid l G σ1 N r hrσ1 hNσ1 hW) gv_RX5_128 rfl nd_X5_isLaid rfl (rest := []) rfl (Nat.le_of_ble_eq_true rfl) ⟨Nat.le_of_ble_eq_true rfl, Nat.le_of_ble_eq_true rfl⟩ ⟨Nat.zero_le _, Nat.zero_le _⟩ hl.1 dX5_press_14 (fun x1 τ1 H locs hI X => ?_)
    obtain ⟨hx1, hfr1, hE1⟩ := hI
    have hM2 := MX.laid hM1 hfr1
    have hr2 := hM2.1.2.1
    have hN2 := hM2.1.1
    refine r_eqI (b := if whl N r = true then 1 else 0) (hx1) ?_
    refine r_bz_eq F 28 (whl N r = true) rfl (by decide) dX5_press_17 (fun c2 => ?_) (fun c2 => ?_)
    · skip
      refine r_iconst F dX5_press_28 ?_
      exact r_iret F X hr hk dX5_press_29 (by first | exact ⟨by unfold qPress; grind, hM2.1, hM2.2.1, hM2.2.2⟩ | exact ⟨by unfold qPress; grind, hM1.1, hM1.2.1, hM1.2.2⟩)
    · skip
      have hE2 := hE1 (by assumption)
      have hL := lfI_LR hW (by assumption)
      refine r_aload_n F hl 0 rfl rfl dX5_press_20 ?_
      refine r_iload_n F hl 1 rfl rfl dX5_press_21 ?_
      refine d_cVI F X 36 (by decide) (eK_36 G _) rfl (c_X5_pressAt l G τ1 N r (lfI r) i hr2 hN2 hW hE2 hL (by omega)) gv_RX5_170 rfl nd_X5_pressAt rfl (rest := []) rfl (Nat.le_of_ble_eq_true rfl) ⟨Nat.le_of_ble_eq_true rfl, Nat.le_of_ble_eq_true rfl⟩ ⟨Nat.zero_le _, Nat.zero_le _⟩ hl.1 dX5_press_22 (fun H locs X => ?_)
      refine r_goto F 29 (by decide) dX5_press_25 ?_
      exact r_iret F X hr hk dX5_press_29 (by first | exact ⟨by unfold qPress; grind, hM2.1, hM2.2.1, hM2.2.2⟩ | exact ⟨by unfold qPress; grind, hM1.1, hM1.2.1, hM1.2.2⟩)
theorem c_X5_met (l : Launch) (G : GT) (σ : St) (N : Int) (r : Int → Int) (n : Int) (hs : Int → Int → Int) (hM : MX σ N r n hs) (hW : WF N r) : Ct l yX5_met cX5_met 1 (some .int) 5 G [.ref (gY G 36)] σ (QI G (fun x9 τ9 => x9 = qMet N r ∧ MX τ9 N r n hs ∧ KY σ τ9 ∧ τ9 36 0 = 0)) := by
  refine mt (own := RX5) (plainFor_of_name rfl) rfl (Nat.le_of_ble_eq_true rfl) ?_
  intro p e s m args below meth c ls F hr hk X hl
  have hl : lv_has ls 1 [(0, .ref (gY G 36))] := hl
  have hw := hW.num
  have hro := hM.2.1
  have hN := hM.1
  refine r_aload_n F hl 0 rfl rfl dX5_met_0 ?_
  refine r_iconst F dX5_met_1 ?_
  refine r_put F X 36 (by decide) (upI (σ 36) 0 0) (eK_36 G _) rfl gl_RX5 tyX5 tyX5_ok nmX5 0 (by decide) rfl gf_RX5_1 rfl (tyX5_ok 0 (by decide)) rfl rfl (Nat.le_of_ble_eq_true rfl) (eK_36 G _) dX5_met_2 (fun H locs X => ?_)
  obtain ⟨σ1, eσ1⟩ : ∃ x9 : St, x9 = up σ 36 (upI (σ 36) 0 0) := ⟨_, rfl⟩
  rw [← eσ1] at X
  have hrσ1 : σ1 37 = r := by rw [eσ1, up_ne (by omega)]; exact hro
  have hNσ1 : σ1 36 1 = N := by rw [eσ1, up_eq, upI_ne (by omega)]; exact hN
  have hM1 := hM.th (v := 0) eσ1
  refine r_aload_n F hl 0 rfl rfl dX5_met_5 ?_
  refine r_cVI F X 36 (by decide) (eK_36 G _) rfl (c_X5_isLaid l G σ1 N r hrσ1 hNσ1 hW) gv_RX5_128 rfl nd_X5_isLaid rfl (rest := []) rfl (Nat.le_of_ble_eq_true rfl) ⟨Nat.le_of_ble_eq_true rfl, Nat.le_of_ble_eq_true rfl⟩ ⟨Nat.zero_le _, Nat.zero_le _⟩ hl.1 dX5_met_6 (fun x1 τ1 H locs hI X => ?_)
  obtain ⟨hx1, hfr1, hE1⟩ := hI
  have hM2 := MX.laid hM1 hfr1
  have hr2 := hM2.1.2.1
  have hN2 := hM2.1.1
  refine r_eqI (b := if whl N r = true then 1 else 0) (hx1) ?_
  refine r_bz_eq F 19 (whl N r = true) rfl (by decide) dX5_met_9 (fun c1 => ?_) (fun c1 => ?_)
  · skip
    refine r_iconst F dX5_met_19 ?_
    exact r_iret F X hr hk dX5_met_20 (by first | exact ⟨by unfold qMet; grind, hM2.1, hM2.2.1, hM2.2.2⟩ | exact ⟨by unfold qMet; grind, hM1.1, hM1.2.1, hM1.2.2⟩)
  · skip
    have hE2 := hE1 (by assumption)
    have hL := lfI_LR hW (by assumption)
    refine r_aload_n F hl 0 rfl rfl dX5_met_12 ?_
    refine d_cVI F X 36 (by decide) (eK_36 G _) rfl (c_X5_metNow l G τ1 N r (lfI r) hr2 hN2 hW hE2 hL) gv_RX5_185 rfl nd_X5_metNow rfl (rest := []) rfl (Nat.le_of_ble_eq_true rfl) ⟨Nat.le_of_ble_eq_true rfl, Nat.le_of_ble_eq_true rfl⟩ ⟨Nat.zero_le _, Nat.zero_le _⟩ hl.1 dX5_met_13 (fun H locs X => ?_)
    refine r_goto F 20 (by decide) dX5_met_16 ?_
    exact r_iret F X hr hk dX5_met_20 (by first | exact ⟨by unfold qMet; grind, hM2.1, hM2.2.1, hM2.2.2⟩ | exact ⟨by unfold qMet; grind, hM1.1, hM1.2.1, hM1.2.2⟩)
theorem c_X5_marked (l : Launch) (G : GT) (σ : St) (N : Int) (r : Int → Int) (n : Int) (hs : Int → Int → Int) (q : Int) (w : Int) (hM : MX σ N r n hs) (hW : WF N r) (hq : -2147483648 ≤ q ∧ q < 2147483648) (hw : -2147483648 ≤ w ∧ w < 2147483648) : Ct l yX5_marked cX5_marked 3 (some .int) 5 G [.ref (gY G 36), .int (I q), .int (I w)] σ (QI G (fun x9 τ9 => x9 = qMarked N r q w ∧ MX τ9 N r n hs ∧ KY σ τ9 ∧ τ9 36 0 = 0)) := by
  refine mt (own := RX5) (plainFor_of_name rfl) rfl (Nat.le_of_ble_eq_true rfl) ?_
  intro p e s m args below meth c ls F hr hk X hl
  have hl : lv_has ls 3 [(0, .ref (gY G 36)), (1, .int (I q)), (2, .int (I w))] := hl
  have hw := hW.num
  have hro := hM.2.1
  have hN := hM.1
  refine r_aload_n F hl 0 rfl rfl dX5_marked_0 ?_
  refine r_iconst F dX5_marked_1 ?_
  refine r_put F X 36 (by decide) (upI (σ 36) 0 0) (eK_36 G _) rfl gl_RX5 tyX5 tyX5_ok nmX5 0 (by decide) rfl gf_RX5_1 rfl (tyX5_ok 0 (by decide)) rfl rfl (Nat.le_of_ble_eq_true rfl) (eK_36 G _) dX5_marked_2 (fun H locs X => ?_)
  obtain ⟨σ1, eσ1⟩ : ∃ x9 : St, x9 = up σ 36 (upI (σ 36) 0 0) := ⟨_, rfl⟩
  rw [← eσ1] at X
  have hrσ1 : σ1 37 = r := by rw [eσ1, up_ne (by omega)]; exact hro
  have hNσ1 : σ1 36 1 = N := by rw [eσ1, up_eq, upI_ne (by omega)]; exact hN
  have hM1 := hM.th (v := 0) eσ1
  refine r_aload_n F hl 0 rfl rfl dX5_marked_5 ?_
  refine r_iload_n F hl 1 rfl rfl dX5_marked_6 ?_
  refine d_cVI F X 36 (by decide) (eK_36 G _) rfl (c_X5_isMark l G σ1 N r q hrσ1 hNσ1 hW (by omega)) gv_RX5_71 rfl nd_X5_isMark rfl (rest := []) rfl (Nat.le_of_ble_eq_true rfl) ⟨Nat.le_of_ble_eq_true rfl, Nat.le_of_ble_eq_true rfl⟩ ⟨Nat.zero_le _, Nat.zero_le _⟩ hl.1 dX5_marked_7 (fun H locs X => ?_)
  refine r_bz_ne F 15 (0 ≤ q ∧ q < r 61) rfl (by decide) dX5_marked_10 (fun c1 => ?_) (fun c1 => ?_)
  · skip
    refine r_iload_n F hl 2 rfl rfl dX5_marked_15 ?_
    rcases (show w = 0 ∨ w = 1 ∨ w = 2 ∨ w = 3 ∨ (w < 0 ∨ 3 < w) by omega) with q1 | q1 | q1 | q1 | q1
    · skip
      refine r_tabIn F 0 48 q1 (by decide) (by decide) (by decide) rfl (by decide) dX5_marked_16 ?_
      refine r_aload_n F hl 0 rfl rfl dX5_marked_48 ?_
      refine r_get F X 36 (by decide) (eK_36 G _) rfl gl_RX5 2 (by decide) rfl gf_RX5_16 rfl dX5_marked_49 ?_
      refine r_bipush F (by decide) dX5_marked_52 ?_
      refine r_iload_n F hl 1 rfl rfl dX5_marked_54 ?_
      refine r_iadd F dX5_marked_55 ?_
      refine r_iald F X 37 (by decide) (eK_37 G) (by omega) (by decide) dX5_marked_56 ?_
      refine r_eqI (b := r (36 + q)) (by rw [hrσ1]) ?_
      exact r_iret F X hr hk dX5_marked_57 (by first | exact ⟨by unfold qMarked; grind, hM2.1, hM2.2.1, hM2.2.2⟩ | exact ⟨by unfold qMarked; grind, hM1.1, hM1.2.1, hM1.2.2⟩)
    · skip
      refine r_tabIn F 1 58 q1 (by decide) (by decide) (by decide) rfl (by decide) dX5_marked_16 ?_
      refine r_aload_n F hl 0 rfl rfl dX5_marked_58 ?_
      refine r_get F X 36 (by decide) (eK_36 G _) rfl gl_RX5 2 (by decide) rfl gf_RX5_16 rfl dX5_marked_59 ?_
      refine r_bipush F (by decide) dX5_marked_62 ?_
      refine r_iload_n F hl 1 rfl rfl dX5_marked_64 ?_
      refine r_iadd F dX5_marked_65 ?_
      refine r_iald F X 37 (by decide) (eK_37 G) (by omega) (by decide) dX5_marked_66 ?_
      refine r_eqI (b := r (44 + q)) (by rw [hrσ1]) ?_
      exact r_iret F X hr hk dX5_marked_67 (by first | exact ⟨by unfold qMarked; grind, hM2.1, hM2.2.1, hM2.2.2⟩ | exact ⟨by unfold qMarked; grind, hM1.1, hM1.2.1, hM1.2.2⟩)
    · skip
      refine r_tabIn F 2 68 q1 (by decide) (by decide) (by decide) rfl (by decide) dX5_marked_16 ?_
      refine r_aload_n F hl 0 rfl rfl dX5_marked_68 ?_
      refine r_get F X 36 (by decide) (eK_36 G _) rfl gl_RX5 2 (by decide) rfl gf_RX5_16 rfl dX5_marked_69 ?_
      refine r_bipush F (by decide) dX5_marked_72 ?_
      refine r_iload_n F hl 1 rfl rfl dX5_marked_74 ?_
      refine r_iadd F dX5_marked_75 ?_
      refine r_iald F X 37 (by decide) (eK_37 G) (by omega) (by decide) dX5_marked_76 ?_
      refine r_eqI (b := r (52 + q)) (by rw [hrσ1]) ?_
      exact r_iret F X hr hk dX5_marked_77 (by first | exact ⟨by unfold qMarked; grind, hM2.1, hM2.2.1, hM2.2.2⟩ | exact ⟨by unfold qMarked; grind, hM1.1, hM1.2.1, hM1.2.2⟩)
    · skip
      refine r_tabIn F 3 78 q1 (by decide) (by decide) (by decide) rfl (by decide) dX5_marked_16 ?_
      refine r_aload_n F hl 0 rfl rfl dX5_marked_78 ?_
      refine r_cVI F X 36 (by decide) (eK_36 G _) rfl (c_X5_isLaid l G σ1 N r hrσ1 hNσ1 hW) gv_RX5_128 rfl nd_X5_isLaid rfl (rest := []) rfl (Nat.le_of_ble_eq_true rfl) ⟨Nat.le_of_ble_eq_true rfl, Nat.le_of_ble_eq_true rfl⟩ ⟨Nat.zero_le _, Nat.zero_le _⟩ hl.1 dX5_marked_79 (fun x1 τ1 H locs hI X => ?_)
      obtain ⟨hx1, hfr1, hE1⟩ := hI
      have hM2 := MX.laid hM1 hfr1
      have hr2 := hM2.1.2.1
      have hN2 := hM2.1.1
      refine r_eqI (b := if whl N r = true then 1 else 0) (hx1) ?_
      refine r_bz_eq F 93 (whl N r = true) rfl (by decide) dX5_marked_82 (fun c2 => ?_) (fun c2 => ?_)
      · skip
        refine r_iconst F dX5_marked_93 ?_
        exact r_iret F X hr hk dX5_marked_94 (by first | exact ⟨by unfold qMarked; grind, hM2.1, hM2.2.1, hM2.2.2⟩ | exact ⟨by unfold qMarked; grind, hM1.1, hM1.2.1, hM1.2.2⟩)
      · skip
        have hE2 := hE1 (by assumption)
        have hL := lfI_LR hW (by assumption)
        refine r_aload_n F hl 0 rfl rfl dX5_marked_85 ?_
        refine r_iload_n F hl 1 rfl rfl dX5_marked_86 ?_
        refine d_cVI F X 36 (by decide) (eK_36 G _) rfl (c_X5_offAt l G τ1 N r (lfI r) q hr2 hN2 hW hE2 hL (by omega)) gv_RX5_182 rfl nd_X5_offAt rfl (rest := []) rfl (Nat.le_of_ble_eq_true rfl) ⟨Nat.le_of_ble_eq_true rfl, Nat.le_of_ble_eq_true rfl⟩ ⟨Nat.zero_le _, Nat.zero_le _⟩ hl.1 dX5_marked_87 (fun H locs X => ?_)
        refine r_goto F 94 (by decide) dX5_marked_90 ?_
        exact r_iret F X hr hk dX5_marked_94 (by first | exact ⟨by unfold qMarked; grind, hM2.1, hM2.2.1, hM2.2.2⟩ | exact ⟨by unfold qMarked; grind, hM1.1, hM1.2.1, hM1.2.2⟩)
    · skip
      refine r_tabOut F 95 (by omega) q1 (by decide) dX5_marked_16 ?_
      refine r_iconst F dX5_marked_95 ?_
      exact r_iret F X hr hk dX5_marked_96 (by first | exact ⟨by unfold qMarked; grind, hM2.1, hM2.2.1, hM2.2.2⟩ | exact ⟨by unfold qMarked; grind, hM1.1, hM1.2.1, hM1.2.2⟩)
  · skip
    refine r_iconst F dX5_marked_13 ?_
    exact r_iret F X hr hk dX5_marked_14 (by first | exact ⟨by unfold qMarked; grind, hM2.1, hM2.2.1, hM2.2.2⟩ | exact ⟨by unfold qMarked; grind, hM1.1, hM1.2.1, hM1.2.2⟩)
theorem c_X5_most (l : Launch) (G : GT) (σ : St) (N : Int) (r : Int → Int) (n : Int) (hs : Int → Int → Int) (k2 : Int) (w : Int) (hM : MX σ N r n hs) (hW : WF N r) (hk2 : -2147483648 ≤ k2 ∧ k2 < 2147483648) (hw : -2147483648 ≤ w ∧ w < 2147483648) : Ct l yX5_most cX5_most 7 (some .int) 6 G [.ref (gY G 36), .int (I k2), .int (I w)] σ (QI G (fun x9 τ9 => x9 = qMost N r k2 w ∧ MX τ9 N r n hs ∧ KY σ τ9 ∧ τ9 36 0 = 0)) := by
  refine mt (own := RX5) (plainFor_of_name rfl) rfl (Nat.le_of_ble_eq_true rfl) ?_
  intro p e s m args below meth c ls F hr hk X hl
  have hl : lv_has ls 7 [(0, .ref (gY G 36)), (1, .int (I k2)), (2, .int (I w))] := hl
  have hw := hW.num
  have hro := hM.2.1
  have hN := hM.1
  refine r_aload_n F hl 0 rfl rfl dX5_most_0 ?_
  refine r_iconst F dX5_most_1 ?_
  refine r_put F X 36 (by decide) (upI (σ 36) 0 0) (eK_36 G _) rfl gl_RX5 tyX5 tyX5_ok nmX5 0 (by decide) rfl gf_RX5_1 rfl (tyX5_ok 0 (by decide)) rfl rfl (Nat.le_of_ble_eq_true rfl) (eK_36 G _) dX5_most_2 (fun H locs X => ?_)
  obtain ⟨σ1, eσ1⟩ : ∃ x9 : St, x9 = up σ 36 (upI (σ 36) 0 0) := ⟨_, rfl⟩
  rw [← eσ1] at X
  have hrσ1 : σ1 37 = r := by rw [eσ1, up_ne (by omega)]; exact hro
  have hNσ1 : σ1 36 1 = N := by rw [eσ1, up_eq, upI_ne (by omega)]; exact hN
  have hM1 := hM.th (v := 0) eσ1
  refine r_iload_n F hl 1 rfl rfl dX5_most_5 ?_
  refine r_i2l F (by omega) dX5_most_6 ?_
  refine r_lconst F 1 (by decide +kernel) dX5_most_7 ?_
  refine r_ldc2 F 3 gk_RX5_47 (by decide +kernel) dX5_most_8 ?_
  refine d_cSI F X (c_X5_within l G σ1 k2 1 3 (by omega) (by omega) (by omega)) gv_RX5_39 nd_X5_within rfl (rest := []) rfl (Nat.le_of_ble_eq_true rfl) ⟨Nat.le_of_ble_eq_true rfl, Nat.le_of_ble_eq_true rfl⟩ ⟨Nat.zero_le _, Nat.zero_le _⟩ hl.1 dX5_most_11 (fun H locs X => ?_)
  refine r_bz_eq F 36 (1 ≤ k2 ∧ k2 ≤ 3) rfl (by decide) dX5_most_14 (fun c1 => ?_) (fun c1 => ?_)
  · skip
    refine r_iconst F dX5_most_36 ?_
    exact r_iret F X hr hk dX5_most_37 (by first | exact ⟨by unfold qMost; grind, hM2.1, hM2.2.1, hM2.2.2⟩ | exact ⟨by unfold qMost; grind, hM1.1, hM1.2.1, hM1.2.2⟩)
  · skip
    refine r_iload_n F hl 2 rfl rfl dX5_most_17 ?_
    refine r_i2l F (by omega) dX5_most_18 ?_
    refine r_lconst F 0 (by decide +kernel) dX5_most_19 ?_
    refine r_ldc2 F 2 gk_RX5_84 (by decide +kernel) dX5_most_20 ?_
    refine d_cSI F X (c_X5_within l G σ1 w 0 2 (by omega) (by omega) (by omega)) gv_RX5_39 nd_X5_within rfl (rest := []) rfl (Nat.le_of_ble_eq_true rfl) ⟨Nat.le_of_ble_eq_true rfl, Nat.le_of_ble_eq_true rfl⟩ ⟨Nat.zero_le _, Nat.zero_le _⟩ hl.1 dX5_most_23 (fun H locs X => ?_)
    refine r_bz_eq F 36 (0 ≤ w ∧ w ≤ 2) rfl (by decide) dX5_most_26 (fun c2 => ?_) (fun c2 => ?_)
    · skip
      refine r_iconst F dX5_most_36 ?_
      exact r_iret F X hr hk dX5_most_37 (by first | exact ⟨by unfold qMost; grind, hM2.1, hM2.2.1, hM2.2.2⟩ | exact ⟨by unfold qMost; grind, hM1.1, hM1.2.1, hM1.2.2⟩)
    · skip
      refine r_aload_n F hl 0 rfl rfl dX5_most_29 ?_
      refine r_cVI F X 36 (by decide) (eK_36 G _) rfl (c_X5_isLaid l G σ1 N r hrσ1 hNσ1 hW) gv_RX5_128 rfl nd_X5_isLaid rfl (rest := []) rfl (Nat.le_of_ble_eq_true rfl) ⟨Nat.le_of_ble_eq_true rfl, Nat.le_of_ble_eq_true rfl⟩ ⟨Nat.zero_le _, Nat.zero_le _⟩ hl.1 dX5_most_30 (fun x1 τ1 H locs hI X => ?_)
      obtain ⟨hx1, hfr1, hE1⟩ := hI
      have hM2 := MX.laid hM1 hfr1
      have hr2 := hM2.1.2.1
      have hN2 := hM2.1.1
      refine r_eqI (b := if whl N r = true then 1 else 0) (hx1) ?_
      refine r_bz_ne F 38 (whl N r = true) rfl (by decide) dX5_most_33 (fun c3 => ?_) (fun c3 => ?_)
      · skip
        have hE2 := hE1 (by assumption)
        have hL := lfI_LR hW (by assumption)
        obtain ⟨k9, ek9⟩ : ∃ k9 : Nat, k2 = (k9 : Int) := ⟨k2.toNat, by omega⟩
        subst ek9
        have hgs : 0 ≤ gS N r (k9 : Int) ∧ gS N r (k9 : Int) ≤ 3996 := mxI_rg (by omega) (fun j => mval_rg hL (by omega) j (by omega))
        refine r_aload_n F hl 0 rfl rfl dX5_most_38 ?_
        refine r_iload_n F hl 1 rfl rfl dX5_most_39 ?_
        refine d_cVI F X 36 (by decide) (eK_36 G _) rfl (c_X5_greatest l G τ1 N r (lfI r) k9 hr2 hN2 hW hE2 hL (by omega)) gv_RX5_134 rfl nd_X5_greatest rfl (rest := []) rfl (Nat.le_of_ble_eq_true rfl) ⟨Nat.le_of_ble_eq_true rfl, Nat.le_of_ble_eq_true rfl⟩ ⟨Nat.zero_le _, Nat.zero_le _⟩ hl.1 dX5_most_40 (fun H locs X => ?_)
        refine r_eqI (b := gS N r (k9 : Int)) (rfl) ?_
        refine r_istore_n F hl [(3, .int (I (gS N r (k9 : Int)))), (0, .ref (gY G 36)), (1, .int (I (k9 : Int))), (2, .int (I w))] rfl (by decide) rfl dX5_most_43 (fun ls hl => ?_)
        refine r_iconst F dX5_most_44 ?_
        refine r_istore F hl [(4, .int (I (-1))), (3, .int (I (gS N r (k9 : Int)))), (0, .ref (gY G 36)), (1, .int (I (k9 : Int))), (2, .int (I w))] (by decide) rfl dX5_most_45 (fun ls hl => ?_)
        refine r_iconst F dX5_most_47 ?_
        refine r_istore F hl [(5, .int (I 0)), (4, .int (I (-1))), (3, .int (I (gS N r (k9 : Int)))), (0, .ref (gY G 36)), (1, .int (I (k9 : Int))), (2, .int (I w))] (by decide) rfl dX5_most_48 (fun ls hl => ?_)
        refine r_iconst F dX5_most_50 ?_
        refine r_istore F hl [(6, .int (I 0)), (5, .int (I 0)), (4, .int (I (-1))), (3, .int (I (gS N r (k9 : Int)))), (0, .ref (gY G 36)), (1, .int (I (k9 : Int))), (2, .int (I w))] (by decide) rfl dX5_most_51 (fun ls hl => ?_)
        have loop53 : ∀ (n_ : Nat) (i : Int) (ls : Array Slot) (H : Heap) (locs : List Loc) (hn_ : N - i < n_) (hi : 0 ≤ i ∧ i ≤ N) (X : HX G τ1 s H locs) (hl : lv_has ls 7 [(0, .ref (gY G 36)), (1, .int (I (k9 : Int))), (2, .int (I w)), (3, .int (I (gS N r (k9 : Int)))), (4, .int (I (ffI (fun j => decide (ab (mval (lfI r) N r j k9) = gS N r (k9 : Int))) i))), (5, .int (I (ctI (fun j => decide (ab (mval (lfI r) N r j k9) = gS N r (k9 : Int))) i))), (6, .int (I i))]), W p l e (rmd 6) s m args below meth c H locs 0 0 (MQ below (QI G (fun x9 τ9 => x9 = qMost N r (k9 : Int) w ∧ MX τ9 N r n hs ∧ KY σ τ9 ∧ τ9 36 0 = 0)) args s 0 0 (gA G)) (F0 m 53 ls []) := by
          intro n_
          induction n_ with
          | zero => intro i ls H locs hn_ hi X hl; omega
          | succ n_ ih53 =>
            intro i ls H locs hn_ hi X hl
            have hq8 := mval_rg (r := r) hL (show 0 < N by omega) i (k := k9) (by omega)
            have hq7 := ab_nn (mval (lfI r) N r i k9)
            have hff : ffI (fun j => decide (ab (mval (lfI r) N r j k9) = gS N r (k9 : Int))) (i + 1) = (if ffI (fun j => decide (ab (mval (lfI r) N r j k9) = gS N r (k9 : Int))) i < 0 then (if decide (ab (mval (lfI r) N r i k9) = gS N r (k9 : Int)) = true then i else -1) else ffI (fun j => decide (ab (mval (lfI r) N r j k9) = gS N r (k9 : Int))) i) := ffI_succ _ hi.1
            have hct : ctI (fun j => decide (ab (mval (lfI r) N r j k9) = gS N r (k9 : Int))) (i + 1) = ctI (fun j => decide (ab (mval (lfI r) N r j k9) = gS N r (k9 : Int))) i + (if decide (ab (mval (lfI r) N r i k9) = gS N r (k9 : Int)) = true then 1 else 0) := ctI_succ _ hi.1
            have hfr9 := ffI_rg (fun j => decide (ab (mval (lfI r) N r j k9) = gS N r (k9 : Int))) hi.1
            have hcr9 := ctI_rg (fun j => decide (ab (mval (lfI r) N r j k9) = gS N r (k9 : Int))) hi.1
            refine r_iload F hl 6 rfl dX5_most_53 ?_
            refine r_aload_n F hl 0 rfl rfl dX5_most_55 ?_
            refine r_get F X 36 (by decide) (eK_36 G _) rfl gl_RX5 1 (by decide) rfl gf_RX5_13 rfl dX5_most_56 ?_
            refine r_eqI (b := N) (hN2) ?_
            refine r_icmp_ge F 99 (by decide) (by omega) (by omega) dX5_most_59 (fun c4 => ?_) (fun c4 => ?_)
            · skip
              refine r_iload_n F hl 2 rfl rfl dX5_most_99 ?_
              refine r_if_ne F 107 (by decide) (by omega) dX5_most_100 (fun c5 => ?_) (fun c5 => ?_)
              · skip
                refine r_iload_n F hl 2 rfl rfl dX5_most_107 ?_
                refine r_iconst F dX5_most_108 ?_
                refine r_icmp_ne F 117 (by decide) (by omega) (by omega) dX5_most_109 (fun c6 => ?_) (fun c6 => ?_)
                · skip
                  refine r_iload F hl 5 rfl dX5_most_117 ?_
                  exact r_iret F X hr hk dX5_most_119 (⟨by have hie : i = N := (by omega); (try rw [hie]); unfold qMost; rw [if_pos (by assumption), if_pos (by omega)]; simp only [Int.toNat_natCast]; first | rw [if_pos (by omega)] | rw [if_neg (by omega), if_pos (by omega)] | rw [if_neg (by omega), if_neg (by omega), if_pos (by omega)], hM2.1, hM2.2.1, hM2.2.2⟩)
                · skip
                  refine r_iload F hl 4 rfl dX5_most_112 ?_
                  refine r_goto F 119 (by decide) dX5_most_114 ?_
                  exact r_iret F X hr hk dX5_most_119 (⟨by have hie : i = N := (by omega); (try rw [hie]); unfold qMost; rw [if_pos (by assumption), if_pos (by omega)]; simp only [Int.toNat_natCast]; first | rw [if_pos (by omega)] | rw [if_neg (by omega), if_pos (by omega)] | rw [if_neg (by omega), if_neg (by omega), if_pos (by omega)], hM2.1, hM2.2.1, hM2.2.2⟩)
              · skip
                refine r_iload_n F hl 3 rfl rfl dX5_most_103 ?_
                refine r_goto F 119 (by decide) dX5_most_104 ?_
                exact r_iret F X hr hk dX5_most_119 (⟨by have hie : i = N := (by omega); (try rw [hie]); unfold qMost; rw [if_pos (by assumption), if_pos (by omega)]; simp only [Int.toNat_natCast]; first | rw [if_pos (by omega)] | rw [if_neg (by omega), if_pos (by omega)] | rw [if_neg (by omega), if_neg (by omega), if_pos (by omega)], hM2.1, hM2.2.1, hM2.2.2⟩)
            · skip
              refine r_aload_n F hl 0 rfl rfl dX5_most_62 ?_
              refine r_iload F hl 6 rfl dX5_most_63 ?_
              refine r_iload_n F hl 1 rfl rfl dX5_most_65 ?_
              refine d_cVI F X 36 (by decide) (eK_36 G _) rfl (c_X5_diffAt l G τ1 N r (lfI r) i k9 hr2 hN2 hW hE2 hL (by omega) (by omega)) gv_RX5_124 rfl nd_X5_diffAt rfl (rest := []) rfl (Nat.le_of_ble_eq_true rfl) ⟨Nat.le_of_ble_eq_true rfl, Nat.le_of_ble_eq_true rfl⟩ ⟨Nat.zero_le _, Nat.zero_le _⟩ hl.1 dX5_most_66 (fun H locs X => ?_)
              refine d_cSI F X (c_X5_size l G τ1 (mval (lfI r) N r i k9) (by omega)) gv_RX5_131 nd_X5_size rfl (rest := []) rfl (Nat.le_of_ble_eq_true rfl) ⟨Nat.le_of_ble_eq_true rfl, Nat.le_of_ble_eq_true rfl⟩ ⟨Nat.zero_le _, Nat.zero_le _⟩ hl.1 dX5_most_69 (fun H locs X => ?_)
              refine r_iload_n F hl 3 rfl rfl dX5_most_72 ?_
              refine r_icmp_ne F 93 (by decide) (by omega) (by omega) dX5_most_73 (fun c7 => ?_) (fun c7 => ?_)
              · skip
                have hl : lv_has ls 7 [(0, .ref (gY G 36)), (1, .int (I (k9 : Int))), (2, .int (I w)), (3, .int (I (gS N r (k9 : Int)))), (4, .int (I (ffI (fun j => decide (ab (mval (lfI r) N r j k9) = gS N r (k9 : Int))) (i + 1)))), (5, .int (I (ctI (fun j => decide (ab (mval (lfI r) N r j k9) = gS N r (k9 : Int))) (i + 1)))), (6, .int (I i))] := by rw [hff, hct]; first | (rw [if_pos (decide_eq_true (by omega)), if_pos (by omega), if_pos (decide_eq_true (by omega))]; exact lv_sub hl [0, 1, 2, 3, 4, 5, 6] rfl) | (rw [if_neg (by omega), if_pos (decide_eq_true (by omega))]; exact lv_sub hl [0, 1, 2, 3, 4, 5, 6] rfl) | (rw [if_neg (fun z => absurd (of_decide_eq_true z) (by omega)), if_neg (fun z => absurd (of_decide_eq_true z) (by omega)), Int.add_zero]; by_cases z : ffI (fun j => decide (ab (mval (lfI r) N r j k9) = gS N r (k9 : Int))) i < 0; (rw [if_pos z, show (-1 : Int) = ffI (fun j => decide (ab (mval (lfI r) N r j k9) = gS N r (k9 : Int))) i by omega]; exact lv_sub hl [0, 1, 2, 3, 4, 5, 6] rfl); (rw [if_neg z]; exact lv_sub hl [0, 1, 2, 3, 4, 5, 6] rfl))
                refine r_iinc F hl [(6, .int (I (i + 1))), (0, .ref (gY G 36)), (1, .int (I (k9 : Int))), (2, .int (I w)), (3, .int (I (gS N r (k9 : Int)))), (4, .int (I (ffI (fun j => decide (ab (mval (lfI r) N r j k9) = gS N r (k9 : Int))) (i + 1)))), (5, .int (I (ctI (fun j => decide (ab (mval (lfI r) N r j k9) = gS N r (k9 : Int))) (i + 1))))] 6 rfl (by decide) rfl dX5_most_93 (fun ls hl => ?_)
                refine r_goto F 53 (by decide) dX5_most_96 ?_
                exact ih53 (i + 1) _ _ _ (by omega) (by omega) X (lv_sub hl [1, 2, 3, 4, 5, 6, 0] rfl)
              · skip
                refine r_iload F hl 4 rfl dX5_most_76 ?_
                refine r_if_ge F 86 (by decide) (by omega) dX5_most_78 (fun c8 => ?_) (fun c8 => ?_)
                · skip
                  refine r_iload F hl 4 rfl dX5_most_86 ?_
                  refine r_istore F hl [(4, .int (I (ffI (fun j => decide (ab (mval (lfI r) N r j k9) = gS N r (k9 : Int))) i))), (0, .ref (gY G 36)), (1, .int (I (k9 : Int))), (2, .int (I w)), (3, .int (I (gS N r (k9 : Int)))), (5, .int (I (ctI (fun j => decide (ab (mval (lfI r) N r j k9) = gS N r (k9 : Int))) i))), (6, .int (I i))] (by decide) rfl dX5_most_88 (fun ls hl => ?_)
                  refine r_iinc F hl [(5, .int (I ((ctI (fun j => decide (ab (mval (lfI r) N r j k9) = gS N r (k9 : Int))) i) + 1))), (4, .int (I (ffI (fun j => decide (ab (mval (lfI r) N r j k9) = gS N r (k9 : Int))) i))), (0, .ref (gY G 36)), (1, .int (I (k9 : Int))), (2, .int (I w)), (3, .int (I (gS N r (k9 : Int)))), (6, .int (I i))] 5 rfl (by decide) rfl dX5_most_90 (fun ls hl => ?_)
                  have hl : lv_has ls 7 [(0, .ref (gY G 36)), (1, .int (I (k9 : Int))), (2, .int (I w)), (3, .int (I (gS N r (k9 : Int)))), (4, .int (I (ffI (fun j => decide (ab (mval (lfI r) N r j k9) = gS N r (k9 : Int))) (i + 1)))), (5, .int (I (ctI (fun j => decide (ab (mval (lfI r) N r j k9) = gS N r (k9 : Int))) (i + 1)))), (6, .int (I i))] := by rw [hff, hct]; first | (rw [if_pos (decide_eq_true (by omega)), if_pos (by omega), if_pos (decide_eq_true (by omega))]; exact lv_sub hl [2, 3, 4, 5, 1, 0, 6] rfl) | (rw [if_neg (by omega), if_pos (decide_eq_true (by omega))]; exact lv_sub hl [2, 3, 4, 5, 1, 0, 6] rfl) | (rw [if_neg (fun z => absurd (of_decide_eq_true z) (by omega)), if_neg (fun z => absurd (of_decide_eq_true z) (by omega)), Int.add_zero]; by_cases z : ffI (fun j => decide (ab (mval (lfI r) N r j k9) = gS N r (k9 : Int))) i < 0; (rw [if_pos z, show (-1 : Int) = ffI (fun j => decide (ab (mval (lfI r) N r j k9) = gS N r (k9 : Int))) i by omega]; exact lv_sub hl [2, 3, 4, 5, 1, 0, 6] rfl); (rw [if_neg z]; exact lv_sub hl [2, 3, 4, 5, 1, 0, 6] rfl))
                  refine r_iinc F hl [(6, .int (I (i + 1))), (0, .ref (gY G 36)), (1, .int (I (k9 : Int))), (2, .int (I w)), (3, .int (I (gS N r (k9 : Int)))), (4, .int (I (ffI (fun j => decide (ab (mval (lfI r) N r j k9) = gS N r (k9 : Int))) (i + 1)))), (5, .int (I (ctI (fun j => decide (ab (mval (lfI r) N r j k9) = gS N r (k9 : Int))) (i + 1))))] 6 rfl (by decide) rfl dX5_most_93 (fun ls hl => ?_)
                  refine r_goto F 53 (by decide) dX5_most_96 ?_
                  exact ih53 (i + 1) _ _ _ (by omega) (by omega) X (lv_sub hl [1, 2, 3, 4, 5, 6, 0] rfl)
                · skip
                  refine r_iload F hl 6 rfl dX5_most_81 ?_
                  refine r_goto F 88 (by decide) dX5_most_83 ?_
                  refine r_istore F hl [(4, .int (I i)), (0, .ref (gY G 36)), (1, .int (I (k9 : Int))), (2, .int (I w)), (3, .int (I (gS N r (k9 : Int)))), (5, .int (I (ctI (fun j => decide (ab (mval (lfI r) N r j k9) = gS N r (k9 : Int))) i))), (6, .int (I i))] (by decide) rfl dX5_most_88 (fun ls hl => ?_)
                  refine r_iinc F hl [(5, .int (I ((ctI (fun j => decide (ab (mval (lfI r) N r j k9) = gS N r (k9 : Int))) i) + 1))), (4, .int (I i)), (0, .ref (gY G 36)), (1, .int (I (k9 : Int))), (2, .int (I w)), (3, .int (I (gS N r (k9 : Int)))), (6, .int (I i))] 5 rfl (by decide) rfl dX5_most_90 (fun ls hl => ?_)
                  have hl : lv_has ls 7 [(0, .ref (gY G 36)), (1, .int (I (k9 : Int))), (2, .int (I w)), (3, .int (I (gS N r (k9 : Int)))), (4, .int (I (ffI (fun j => decide (ab (mval (lfI r) N r j k9) = gS N r (k9 : Int))) (i + 1)))), (5, .int (I (ctI (fun j => decide (ab (mval (lfI r) N r j k9) = gS N r (k9 : Int))) (i + 1)))), (6, .int (I i))] := by rw [hff, hct]; first | (rw [if_pos (decide_eq_true (by omega)), if_pos (by omega), if_pos (decide_eq_true (by omega))]; exact lv_sub hl [2, 3, 4, 5, 1, 0, 6] rfl) | (rw [if_neg (by omega), if_pos (decide_eq_true (by omega))]; exact lv_sub hl [2, 3, 4, 5, 1, 0, 6] rfl) | (rw [if_neg (fun z => absurd (of_decide_eq_true z) (by omega)), if_neg (fun z => absurd (of_decide_eq_true z) (by omega)), Int.add_zero]; by_cases z : ffI (fun j => decide (ab (mval (lfI r) N r j k9) = gS N r (k9 : Int))) i < 0; (rw [if_pos z, show (-1 : Int) = ffI (fun j => decide (ab (mval (lfI r) N r j k9) = gS N r (k9 : Int))) i by omega]; exact lv_sub hl [2, 3, 4, 5, 1, 0, 6] rfl); (rw [if_neg z]; exact lv_sub hl [2, 3, 4, 5, 1, 0, 6] rfl))
                  refine r_iinc F hl [(6, .int (I (i + 1))), (0, .ref (gY G 36)), (1, .int (I (k9 : Int))), (2, .int (I w)), (3, .int (I (gS N r (k9 : Int)))), (4, .int (I (ffI (fun j => decide (ab (mval (lfI r) N r j k9) = gS N r (k9 : Int))) (i + 1)))), (5, .int (I (ctI (fun j => decide (ab (mval (lfI r) N r j k9) = gS N r (k9 : Int))) (i + 1))))] 6 rfl (by decide) rfl dX5_most_93 (fun ls hl => ?_)
                  refine r_goto F 53 (by decide) dX5_most_96 ?_
                  exact ih53 (i + 1) _ _ _ (by omega) (by omega) X (lv_sub hl [1, 2, 3, 4, 5, 6, 0] rfl)
        exact loop53 (((N - 0 : Int) + 1).toNat) 0 _ _ _ (by omega) (by omega) X (lv_sub hl [4, 5, 6, 3, 2, 1, 0] rfl)
      · skip
        refine r_iconst F dX5_most_36 ?_
        exact r_iret F X hr hk dX5_most_37 (by first | exact ⟨by unfold qMost; grind, hM2.1, hM2.2.1, hM2.2.2⟩ | exact ⟨by unfold qMost; grind, hM1.1, hM1.2.1, hM1.2.2⟩)
