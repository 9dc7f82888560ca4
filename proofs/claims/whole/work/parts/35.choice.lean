theorem cb_le {N : Int} {r : Int → Int} (hm : mvI r (r 60) ≤ 6) (hn : 0 ≤ r 60) : cc (bnt r) (r 60).toNat ≤ 6 := by
  rw [mvI_cc r hn] at hm
  have key : ∀ n : Nat, cc (bnt r) n ≤ cc (mvb r) n := by
    intro n
    induction n with
    | zero => exact Nat.le_refl _
    | succ n ih =>
      rw [cc_s, cc_s]
      by_cases q : bnt r (n : Int) = true
      · rw [if_pos q, if_pos (bnt_mvb r _ q)]; omega
      · rw [if_neg q]; omega
  have := key (r 60).toNat
  omega
def FB (r bt : Int → Int) (K i : Int) : Prop := K = (cc (bnt r) i.toNat : Int) ∧ (∀ s : Int, 0 ≤ s → s < i → bnt r s = true → bt (cc (bnt r) s.toNat : Int) = s) ∧ ∀ j : Int, 0 ≤ j → j < K → 0 ≤ bt j ∧ bt j < i ∧ bnt r (bt j) = true ∧ (cc (bnt r) (bt j).toNat : Int) = j
theorem cc_sI (c : Int → Bool) {i : Int} (h : 0 ≤ i) : (cc c (i + 1).toNat : Int) = cc c i.toNat + (if c i = true then 1 else 0) := by
  rw [show (i + 1).toNat = i.toNat + 1 by omega, cc_s, show ((i.toNat : Nat) : Int) = i by omega]
  split <;> omega
theorem FB.no {r bt : Int → Int} {K i : Int} (h : FB r bt K i) (h0 : 0 ≤ i) (hb : ¬ bnt r i = true) : FB r bt K (i + 1) := by
  refine ⟨by rw [cc_sI _ h0, if_neg hb]; rw [h.1]; omega, fun s a b c => ?_, fun j a b => ?_⟩
  · rcases (show s < i ∨ s = i by omega) with q | q
    · exact h.2.1 s a q c
    · rw [q] at c; exact absurd c hb
  · have := h.2.2 j a b; exact ⟨this.1, by omega, this.2.2⟩
theorem FB.yes {r bt : Int → Int} {K i : Int} (h : FB r bt K i) (h0 : 0 ≤ i) (hb : bnt r i = true) : FB r (upI bt K i) (K + 1) (i + 1) := by
  refine ⟨by rw [cc_sI _ h0, if_pos hb]; rw [h.1], fun s a b c => ?_, fun j a b => ?_⟩
  · rcases (show s < i ∨ s = i by omega) with q | q
    · rw [upI_ne]
      · exact h.2.1 s a q c
      · have m := cc_lt (bnt r) (show s.toNat < i.toNat by omega) (by rw [show ((s.toNat : Nat) : Int) = s by omega]; exact c)
        have := h.1
        omega
    · rw [q, ← h.1, upI_eq]
  · rcases (show j < K ∨ j = K by omega) with q | q
    · rw [upI_ne (by omega)]
      have := h.2.2 j a q; exact ⟨this.1, by omega, this.2.2⟩
    · rw [q, upI_eq]; exact ⟨h0, by omega, hb, h.1.symm⟩
theorem FB.bt {r bt : Int → Int} {K : Int} (h : FB r bt K (r 60)) : BT r bt K := h
theorem FB.zero (r bt : Int → Int) : FB r bt 0 0 := ⟨rfl, fun s a b => by omega, fun j a b => by omega⟩
theorem cc_lt6 {r : Int → Int} {i : Int} (h0 : 0 ≤ i) (h1 : i < r 60) (h6 : cc (bnt r) (r 60).toNat ≤ 6) (hb : bnt r i = true) : cc (bnt r) i.toNat < 6 := by
  have := cc_lt (bnt r) (show i.toNat < (r 60).toNat by omega) (by rw [show ((i.toNat : Nat) : Int) = i by omega]; exact hb)
  omega
theorem nx_rg {K j : Int} (hK : 0 < K) (h0 : 0 ≤ j) (h1 : j < K) : 0 ≤ nx K j ∧ nx K j < K := by unfold nx; split <;> omega
theorem c_X0_findBent (l : Launch) (G : GT) (σ : St) (N : Int) (r : Int → Int) (hP : PL σ N r) (hW : WF N r) (h6 : cc (bnt r) (r 60).toNat ≤ 6) : Ct l yX0_findBent cX0_findBent 2 none 5 G [.ref (gY G 31)] σ (QV G (fun τ9 => (∀ c : Nat, c ≠ 31 → c ≠ 32 → τ9 c = σ c) ∧ (∀ i : Int, i ≠ 6 → i ≠ 7 → τ9 31 i = σ 31 i) ∧ τ9 31 6 ≤ 6 ∧ τ9 31 7 = max 1 (τ9 31 6) ∧ BT r (τ9 32) (τ9 31 6))) := by
  refine mt (own := RX0) (plainFor_of_name rfl) rfl (Nat.le_of_ble_eq_true rfl) ?_
  intro p e s m args below meth c ls F hr hk X hl
  have hl : lv_has ls 2 [(0, .ref (gY G 31))] := hl
  have hw := hW.num
  refine r_aload_n F hl 0 rfl rfl dX0_findBent_0 ?_
  refine r_iconst F dX0_findBent_1 ?_
  refine r_put F X 31 (by decide) (upI (σ 31) 6 0) (eK_31 G _) rfl gl_RX0 tyX0 tyX0_ok nmX0 6 (by decide) rfl gf_RX0_79 rfl (tyX0_ok 6 (by decide)) rfl rfl (Nat.le_of_ble_eq_true rfl) (eK_31 G _) dX0_findBent_2 (fun H locs X => ?_)
  obtain ⟨σ1, eσ1⟩ : ∃ x : St, x = up σ 31 (upI (σ 31) 6 0) := ⟨_, rfl⟩
  rw [← eσ1] at X
  refine r_iconst F dX0_findBent_5 ?_
  refine r_istore_n F hl [(1, .int (I 0)), (0, .ref (gY G 31))] rfl (by decide) rfl dX0_findBent_6 (fun ls hl => ?_)
  have loop7 : ∀ (n : Nat) (i : Int) (τ : St) (ls : Array Slot) (H : Heap) (locs : List Loc) (hn : r 60 - i < n) (hi : 0 ≤ i ∧ i ≤ r 60) (hfm : ∀ c : Nat, c ≠ 31 → c ≠ 32 → τ c = σ c) (hf1 : ∀ j : Int, j ≠ 6 → τ 31 j = σ 31 j) (hFB : FB r (τ 32) (τ 31 6) i) (X : HX G τ s H locs) (hl : lv_has ls 2 [(0, .ref (gY G 31)), (1, .int (I i))]), W p l e (rmd 5) s m args below meth c H locs 0 0 (MQ below (QV G (fun τ9 => (∀ c : Nat, c ≠ 31 → c ≠ 32 → τ9 c = σ c) ∧ (∀ i : Int, i ≠ 6 → i ≠ 7 → τ9 31 i = σ 31 i) ∧ τ9 31 6 ≤ 6 ∧ τ9 31 7 = max 1 (τ9 31 6) ∧ BT r (τ9 32) (τ9 31 6))) args s 0 0 (gA G)) (F0 m 7 ls []) := by
    intro n
    induction n with
    | zero => intro i τ ls H locs hn hi hfm hf1 hFB X hl; omega
    | succ n ih7 =>
      intro i τ ls H locs hn hi hfm hf1 hFB X hl
      have hPt : PL τ N r := by unfold PL; rw [hfm 2 (by omega) (by omega)]; exact hP
      have hcm := cc_mono (bnt r) (show i.toNat ≤ (r 60).toNat by omega)
      have hF1 := hFB.1
      refine r_iload_n F hl 1 rfl rfl dX0_findBent_7 ?_
      refine r_aload_n F hl 0 rfl rfl dX0_findBent_8 ?_
      refine r_get F X 31 (by decide) (eK_31 G _) rfl gl_RX0 0 (by decide) rfl gf_RX0_25 rfl dX0_findBent_9 ?_
      refine r_iconst F dX0_findBent_12 ?_
      refine d_cVI F X 1 (by decide) (eK_1 G _) rfl (c_X2_get l G τ (r 60) 1 (by omega) (hPt.se)) gv_RX0_75 rfl nd_X2_get rfl (rest := [.int (I i)]) rfl (Nat.le_of_ble_eq_true rfl) ⟨Nat.le_of_ble_eq_true rfl, Nat.le_of_ble_eq_true rfl⟩ ⟨Nat.zero_le _, Nat.zero_le _⟩ hl.1 dX0_findBent_13 (fun H locs X => ?_)
      refine r_icmp_ge F 84 (by decide) (by omega) (by omega) dX0_findBent_16 (fun c1 => ?_) (fun c1 => ?_)
      · skip
        refine r_aload_n F hl 0 rfl rfl dX0_findBent_84 ?_
        refine r_iconst F dX0_findBent_85 ?_
        refine r_aload_n F hl 0 rfl rfl dX0_findBent_86 ?_
        refine r_get F X 31 (by decide) (eK_31 G _) rfl gl_RX0 6 (by decide) rfl gf_RX0_79 rfl dX0_findBent_87 ?_
        refine d_cSI F X (c_J9_maxI l G τ 1 (τ 31 6) (by omega) (by omega)) gv_RX0_88 nd_J9_max_7cf53 rfl (rest := [.ref (gY G 31)]) rfl (Nat.le_of_ble_eq_true rfl) ⟨Nat.le_of_ble_eq_true rfl, Nat.le_of_ble_eq_true rfl⟩ ⟨Nat.zero_le _, Nat.zero_le _⟩ hl.1 dX0_findBent_90 (fun H locs X => ?_)
        refine r_put F X 31 (by decide) (upI (τ 31) 7 (max 1 (τ 31 6))) (eK_31 G _) rfl gl_RX0 tyX0 tyX0_ok nmX0 7 (by decide) rfl gf_RX0_45 rfl (tyX0_ok 7 (by decide)) rfl rfl (Nat.le_of_ble_eq_true rfl) (eK_31 G _) dX0_findBent_93 (fun H locs X => ?_)
        obtain ⟨σ2, eσ2⟩ : ∃ x : St, x = up τ 31 (upI (τ 31) 7 (max 1 (τ 31 6))) := ⟨_, rfl⟩
        rw [← eσ2] at X
        exact r_vret F X hr hk dX0_findBent_96 (by rw [eσ2]; refine ⟨fun c a b => (by rw [up_ne a]; exact hfm c a b), fun j a b => (by rw [up_eq, upI_ne b]; exact hf1 j a), ?_, ?_, ?_⟩; (rw [up_eq, upI_ne (by omega)]; rw [show i = r 60 by omega] at hF1; omega); (rw [up_eq, upI_eq, upI_ne (by omega)]); (rw [up_ne (by omega), up_eq, upI_ne (by omega)]; rw [show i = r 60 by omega] at hFB; exact hFB.bt))
      · skip
        refine r_aload_n F hl 0 rfl rfl dX0_findBent_19 ?_
        refine r_get F X 31 (by decide) (eK_31 G _) rfl gl_RX0 0 (by decide) rfl gf_RX0_25 rfl dX0_findBent_20 ?_
        refine r_iload_n F hl 1 rfl rfl dX0_findBent_23 ?_
        refine d_cVI F X 1 (by decide) (eK_1 G _) rfl (c_X2_dwells l G τ N r i (hPt) hW (by omega)) gv_RX0_65 rfl nd_X2_dwells rfl (rest := []) rfl (Nat.le_of_ble_eq_true rfl) ⟨Nat.le_of_ble_eq_true rfl, Nat.le_of_ble_eq_true rfl⟩ ⟨Nat.zero_le _, Nat.zero_le _⟩ hl.1 dX0_findBent_24 (fun H locs X => ?_)
        refine r_bz_ne F 78 (dwl r i = true) rfl (by decide) dX0_findBent_27 (fun c2 => ?_) (fun c2 => ?_)
        · skip
          refine r_iinc F hl [(1, .int (I (i + 1))), (0, .ref (gY G 31))] 1 rfl (by decide) rfl dX0_findBent_78 (fun ls hl => ?_)
          refine r_goto F 7 (by decide) dX0_findBent_81 ?_
          exact ih7 (i + 1) τ _ _ _ (by omega) (by omega) (by intro c a b; first | exact hfm c a b | (rw [eτ, up_ne a, eσσ, up_ne b]; exact hfm c a b)) (by intro j a; first | exact hf1 j a | (rw [eτ, up_eq, upI_ne a, eσσ, up_ne (by omega)]; exact hf1 j a)) (by first | exact hFB.no hi.1 (by rw [bnt_iff]; first | exact fun z => z.1 (by assumption) | exact fun z => by omega) | (rw [eτ, up_ne (by omega), up_eq, upI_eq, eσσ, up_eq]; exact hFB.yes hi.1 hbb)) X (lv_sub hl [1, 0] rfl)
        · skip
          refine r_aload_n F hl 0 rfl rfl dX0_findBent_30 ?_
          refine r_get F X 31 (by decide) (eK_31 G _) rfl gl_RX0 0 (by decide) rfl gf_RX0_25 rfl dX0_findBent_31 ?_
          refine r_iload_n F hl 1 rfl rfl dX0_findBent_34 ?_
          refine r_iconst F dX0_findBent_35 ?_
          refine d_cSI F X (c_X2_placeOf l G τ i 0) gv_RX0_71 nd_X2_placeOf rfl (rest := [.ref (gY G 1)]) rfl (Nat.le_of_ble_eq_true rfl) ⟨Nat.le_of_ble_eq_true rfl, Nat.le_of_ble_eq_true rfl⟩ ⟨Nat.zero_le _, Nat.zero_le _⟩ hl.1 dX0_findBent_36 (fun H locs X => ?_)
          refine d_cVI F X 1 (by decide) (eK_1 G _) rfl (c_X2_get l G τ (r i) (12 + 3 * i + 0) (by omega) (hPt.lo (by omega) (by omega))) gv_RX0_75 rfl nd_X2_get rfl (rest := []) rfl (Nat.le_of_ble_eq_true rfl) ⟨Nat.le_of_ble_eq_true rfl, Nat.le_of_ble_eq_true rfl⟩ ⟨Nat.zero_le _, Nat.zero_le _⟩ hl.1 dX0_findBent_39 (fun H locs X => ?_)
          refine r_iconst F dX0_findBent_42 ?_
          refine r_icmp_le F 78 (by decide) (by have := hW.lo (i := i) (by omega) (by omega); omega) (by have := hW.lo (i := i) (by omega) (by omega); omega) dX0_findBent_43 (fun c3 => ?_) (fun c3 => ?_)
          · skip
            refine r_iinc F hl [(1, .int (I (i + 1))), (0, .ref (gY G 31))] 1 rfl (by decide) rfl dX0_findBent_78 (fun ls hl => ?_)
            refine r_goto F 7 (by decide) dX0_findBent_81 ?_
            exact ih7 (i + 1) τ _ _ _ (by omega) (by omega) (by intro c a b; first | exact hfm c a b | (rw [eτ, up_ne a, eσσ, up_ne b]; exact hfm c a b)) (by intro j a; first | exact hf1 j a | (rw [eτ, up_eq, upI_ne a, eσσ, up_ne (by omega)]; exact hf1 j a)) (by first | exact hFB.no hi.1 (by rw [bnt_iff]; first | exact fun z => z.1 (by assumption) | exact fun z => by omega) | (rw [eτ, up_ne (by omega), up_eq, upI_eq, eσσ, up_eq]; exact hFB.yes hi.1 hbb)) X (lv_sub hl [1, 0] rfl)
          · skip
            have hbb : bnt r i = true := bnt_iff.mpr ⟨by assumption, by omega⟩
            have hc6 := cc_lt6 hi.1 (by omega) h6 hbb
            refine r_aload_n F hl 0 rfl rfl dX0_findBent_46 ?_
            refine r_get F X 31 (by decide) (eK_31 G _) rfl gl_RX0 6 (by decide) rfl gf_RX0_79 rfl dX0_findBent_47 ?_
            refine r_aload_n F hl 0 rfl rfl dX0_findBent_50 ?_
            refine r_get F X 31 (by decide) (eK_31 G _) rfl gl_RX0 2 (by decide) rfl gf_RX0_9 rfl dX0_findBent_51 ?_
            refine r_alen F X 32 (by decide) 0 (eK_32 G _) rfl 6 rfl dX0_findBent_54 ?_
            refine r_icmp_ge F 78 (by decide) (by omega) (by omega) dX0_findBent_55 (fun c4 => ?_) (fun c4 => ?_)
            · omega
            · skip
              refine r_aload_n F hl 0 rfl rfl dX0_findBent_58 ?_
              refine r_get F X 31 (by decide) (eK_31 G _) rfl gl_RX0 2 (by decide) rfl gf_RX0_9 rfl dX0_findBent_59 ?_
              refine r_aload_n F hl 0 rfl rfl dX0_findBent_62 ?_
              refine r_get F X 31 (by decide) (eK_31 G _) rfl gl_RX0 6 (by decide) rfl gf_RX0_79 rfl dX0_findBent_63 ?_
              refine r_iload_n F hl 1 rfl rfl dX0_findBent_66 ?_
              refine r_iast F X 32 (by decide) (eK_32 G) (by omega) (by decide) dX0_findBent_67 (fun H locs X => ?_)
              obtain ⟨σ3, eσ3⟩ : ∃ x : St, x = up τ 32 (upI (τ 32) (τ 31 6) i) := ⟨_, rfl⟩
              rw [← eσ3] at X
              refine r_aload_n F hl 0 rfl rfl dX0_findBent_68 ?_
              refine r_dup F rfl dX0_findBent_69 ?_
              refine r_get F X 31 (by decide) (eK_31 G _) rfl gl_RX0 6 (by decide) rfl gf_RX0_79 rfl dX0_findBent_70 ?_
              refine r_eqI (b := τ 31 6) (by rw [eσ3, up_ne (by omega)]) ?_
              refine r_iconst F dX0_findBent_73 ?_
              refine r_iadd F dX0_findBent_74 ?_
              refine r_put F X 31 (by decide) (upI (σ3 31) 6 ((τ 31 6) + 1)) (eK_31 G _) rfl gl_RX0 tyX0 tyX0_ok nmX0 6 (by decide) rfl gf_RX0_79 rfl (tyX0_ok 6 (by decide)) rfl rfl (Nat.le_of_ble_eq_true rfl) (eK_31 G _) dX0_findBent_75 (fun H locs X => ?_)
              obtain ⟨σ4, eσ4⟩ : ∃ x : St, x = up σ3 31 (upI (σ3 31) 6 ((τ 31 6) + 1)) := ⟨_, rfl⟩
              rw [← eσ4] at X
              refine r_iinc F hl [(1, .int (I (i + 1))), (0, .ref (gY G 31))] 1 rfl (by decide) rfl dX0_findBent_78 (fun ls hl => ?_)
              refine r_goto F 7 (by decide) dX0_findBent_81 ?_
              exact ih7 (i + 1) σ4 _ _ _ (by omega) (by omega) (by intro c a b; first | exact hfm c a b | (rw [eσ4, up_ne a, eσ3, up_ne b]; exact hfm c a b)) (by intro j a; first | exact hf1 j a | (rw [eσ4, up_eq, upI_ne a, eσ3, up_ne (by omega)]; exact hf1 j a)) (by first | exact hFB.no hi.1 (by rw [bnt_iff]; first | exact fun z => z.1 (by assumption) | exact fun z => by omega) | (rw [eσ4, up_ne (by omega), up_eq, upI_eq, eσ3, up_eq]; exact hFB.yes hi.1 hbb)) X (lv_sub hl [1, 0] rfl)
  exact loop7 (((r 60 - 0 : Int) + 1).toNat) 0 σ1 _ _ _ (by omega) (by omega) (by intro c a b; rw [eσ1, up_ne a]) (by intro j a; rw [eσ1, up_eq, upI_ne a]) (by rw [eσ1, up_ne (by omega), up_eq, upI_eq]; exact FB.zero _ _) X (lv_sub hl [1, 0] rfl)
theorem c_X0_measureLink (l : Launch) (G : GT) (σ : St) (N : Int) (r : Int → Int) (K : Int) (j : Int) (hP : PL σ N r) (hW : WF N r) (hwh : whl N r = true) (hN : σ 18 2 = N) (hK : σ 31 6 = K ∧ K ≤ 6) (hB : BT r (σ 32) K) (hj : 0 ≤ j ∧ j < max 1 K) (hT : ∃ w : Int → Int, LWS w ∧ EQN (σ (18 + 2 + 0)) (lfW r w) N) : Ct l yX0_measureLink cX0_measureLink 8 none 6 G [.ref (gY G 31), .int (I j)] σ (QV G (fun τ9 => (∀ c : Nat, (c < 20 ∨ 30 < c) → c ≠ 33 → c ≠ 34 → c ≠ 35 → τ9 c = σ c) ∧ (∃ w : Int → Int, LWS w ∧ EQN (τ9 (18 + 2 + 0)) (lfW r w) N) ∧ CE τ9 N r (σ 32) K j ∧ (∀ c : Nat, c = 33 ∨ c = 34 ∨ c = 35 → ∀ i : Int, (i < j * 16 ∨ j * 16 + 16 ≤ i) → τ9 c i = σ c i))) := by
  refine mt (own := RX0) (plainFor_of_name rfl) rfl (Nat.le_of_ble_eq_true rfl) ?_
  intro p e s m args below meth c ls F hr hk X hl
  have hl : lv_has ls 8 [(0, .ref (gY G 31)), (1, .int (I j))] := hl
  have hw := hW.num
  have hK0 := hB.K0
  obtain ⟨w0, hw0, hE0⟩ := hT
  have hL0 := hE0.LR (lfW_LR hW hwh hw0)
  have hlk := lnk_rg hB hW hwh hj.1 hj.2
  refine r_aload_n F hl 0 rfl rfl dX0_measureLink_0 ?_
  refine r_get F X 31 (by decide) (eK_31 G _) rfl gl_RX0 0 (by decide) rfl gf_RX0_25 rfl dX0_measureLink_1 ?_
  refine r_iconst F dX0_measureLink_4 ?_
  refine d_cVI F X 1 (by decide) (eK_1 G _) rfl (c_X2_get l G σ N 0 (by omega) (hP.st)) gv_RX0_75 rfl nd_X2_get rfl (rest := []) rfl (Nat.le_of_ble_eq_true rfl) ⟨Nat.le_of_ble_eq_true rfl, Nat.le_of_ble_eq_true rfl⟩ ⟨Nat.zero_le _, Nat.zero_le _⟩ hl.1 dX0_measureLink_5 (fun H locs X => ?_)
  refine r_istore_n F hl [(2, .int (I N)), (0, .ref (gY G 31)), (1, .int (I j))] rfl (by decide) rfl dX0_measureLink_8 (fun ls hl => ?_)
  refine r_aload_n F hl 1 rfl rfl dX0_measureLink_9 ?_
  refine r_get F X 31 (by decide) (eK_31 G _) rfl gl_RX0 6 (by decide) rfl gf_RX0_79 rfl dX0_measureLink_10 ?_
  refine r_eqI (b := K) (hK.1) ?_
  refine r_if_ne F 24 (by decide) (by omega) dX0_measureLink_13 (fun c1 => ?_) (fun c1 => ?_)
  · skip
    have hjn := nx_rg (K := K) (j := j) (by omega) hj.1 (by omega)
    have hbj := hB.2.2 j hj.1 (by omega)
    have hbn := hB.2.2 (nx K j) hjn.1 hjn.2
    have hgj := whl_bg hW hwh hbj.1 hbj.2.1
    have hgn := whl_bg hW hwh hbn.1 hbn.2.1
    have hlj := hW.lo (i := σ 32 j) hbj.1 (by omega)
    have hln := hW.lo (i := σ 32 (nx K j)) hbn.1 (by omega)
    have join42 : ∀ (ls : Array Slot) (H : Heap) (locs : List Loc) (X : HX G σ s H locs) (hl : lv_has ls 8 [(0, .ref (gY G 31)), (1, .int (I j)), (2, .int (I N)), (3, .int (I (nx K j)))]), W p l e (rmd 6) s m args below meth c H locs 0 0 (MQ below (QV G (fun τ9 => (∀ c : Nat, (c < 20 ∨ 30 < c) → c ≠ 33 → c ≠ 34 → c ≠ 35 → τ9 c = σ c) ∧ (∃ w : Int → Int, LWS w ∧ EQN (τ9 (18 + 2 + 0)) (lfW r w) N) ∧ CE τ9 N r (σ 32) K j ∧ (∀ c : Nat, c = 33 ∨ c = 34 ∨ c = 35 → ∀ i : Int, (i < j * 16 ∨ j * 16 + 16 ≤ i) → τ9 c i = σ c i))) args s 0 0 (gA G)) (F0 m 42 ls []) := by
      intro   ls H locs  X hl
      refine r_iload_n F hl 1 rfl rfl dX0_measureLink_42 ?_
      refine r_if_lt F 64 (by decide) (by omega) dX0_measureLink_43 (fun c2 => ?_) (fun c2 => ?_)
      · omega
      · skip
        refine r_iload_n F hl 1 rfl rfl dX0_measureLink_46 ?_
        refine r_aload_n F hl 0 rfl rfl dX0_measureLink_47 ?_
        refine r_get F X 31 (by decide) (eK_31 G _) rfl gl_RX0 2 (by decide) rfl gf_RX0_9 rfl dX0_measureLink_48 ?_
        refine r_alen F X 32 (by decide) 0 (eK_32 G _) rfl 6 rfl dX0_measureLink_51 ?_
        refine r_icmp_ge F 64 (by decide) (by omega) (by omega) dX0_measureLink_52 (fun c3 => ?_) (fun c3 => ?_)
        · omega
        · skip
          refine r_iload_n F hl 3 rfl rfl dX0_measureLink_55 ?_
          refine r_aload_n F hl 0 rfl rfl dX0_measureLink_56 ?_
          refine r_get F X 31 (by decide) (eK_31 G _) rfl gl_RX0 2 (by decide) rfl gf_RX0_9 rfl dX0_measureLink_57 ?_
          refine r_alen F X 32 (by decide) 0 (eK_32 G _) rfl 6 rfl dX0_measureLink_60 ?_
          refine r_icmp_lt F 65 (by decide) (by omega) (by omega) dX0_measureLink_61 (fun c4 => ?_) (fun c4 => ?_)
          · skip
            have hKn : K ≠ 0 := by omega
            refine r_aload_n F hl 0 rfl rfl dX0_measureLink_65 ?_
            refine r_get F X 31 (by decide) (eK_31 G _) rfl gl_RX0 0 (by decide) rfl gf_RX0_25 rfl dX0_measureLink_66 ?_
            refine r_aload_n F hl 0 rfl rfl dX0_measureLink_69 ?_
            refine r_get F X 31 (by decide) (eK_31 G _) rfl gl_RX0 2 (by decide) rfl gf_RX0_9 rfl dX0_measureLink_70 ?_
            refine r_iload_n F hl 1 rfl rfl dX0_measureLink_73 ?_
            refine r_iald F X 32 (by decide) (eK_32 G) (by omega) (by decide) dX0_measureLink_74 ?_
            refine d_cVI F X 1 (by decide) (eK_1 G _) rfl (c_X2_longAheadOf l G σ N r (σ 32 j) hP hW (by omega)) gv_RX0_97 rfl nd_X2_longAheadOf rfl (rest := []) rfl (Nat.le_of_ble_eq_true rfl) ⟨Nat.le_of_ble_eq_true rfl, Nat.le_of_ble_eq_true rfl⟩ ⟨Nat.zero_le _, Nat.zero_le _⟩ hl.1 dX0_measureLink_75 (fun H locs X => ?_)
            refine r_istore F hl [(4, .int (I (bgI r (σ 32 j)))), (0, .ref (gY G 31)), (1, .int (I j)), (2, .int (I N)), (3, .int (I (nx K j)))] (by decide) rfl dX0_measureLink_78 (fun ls hl => ?_)
            refine r_aload_n F hl 1 rfl rfl dX0_measureLink_80 ?_
            refine r_get F X 31 (by decide) (eK_31 G _) rfl gl_RX0 0 (by decide) rfl gf_RX0_25 rfl dX0_measureLink_81 ?_
            refine r_aload_n F hl 1 rfl rfl dX0_measureLink_84 ?_
            refine r_get F X 31 (by decide) (eK_31 G _) rfl gl_RX0 2 (by decide) rfl gf_RX0_9 rfl dX0_measureLink_85 ?_
            refine r_iload_n F hl 4 rfl rfl dX0_measureLink_88 ?_
            refine r_iald F X 32 (by decide) (eK_32 G) (by omega) (by decide) dX0_measureLink_89 ?_
            refine d_cVI F X 1 (by decide) (eK_1 G _) rfl (c_X2_longAheadOf l G σ N r (σ 32 (nx K j)) hP hW (by omega)) gv_RX0_97 rfl nd_X2_longAheadOf rfl (rest := []) rfl (Nat.le_of_ble_eq_true rfl) ⟨Nat.le_of_ble_eq_true rfl, Nat.le_of_ble_eq_true rfl⟩ ⟨Nat.zero_le _, Nat.zero_le _⟩ hl.1 dX0_measureLink_90 (fun H locs X => ?_)
            refine r_iload F hl 0 rfl dX0_measureLink_93 ?_
            refine r_isub F dX0_measureLink_95 ?_
            refine r_istore F hl [(5, .int (I ((bgI r (σ 32 (nx K j))) - (bgI r (σ 32 j))))), (4, .int (I (bgI r (σ 32 j)))), (0, .ref (gY G 31)), (1, .int (I j)), (2, .int (I N)), (3, .int (I (nx K j)))] (by decide) rfl dX0_measureLink_96 (fun ls hl => ?_)
            refine r_iconst F dX0_measureLink_98 ?_
            refine r_istore F hl [(6, .int (I 0)), (5, .int (I ((bgI r (σ 32 (nx K j))) - (bgI r (σ 32 j))))), (4, .int (I (bgI r (σ 32 j)))), (0, .ref (gY G 31)), (1, .int (I j)), (2, .int (I N)), (3, .int (I (nx K j)))] (by decide) rfl dX0_measureLink_99 (fun ls hl => ?_)
            have loop101 : ∀ (n : Nat) (pi : Int) (w : Int → Int) (τ : St) (ls : Array Slot) (H : Heap) (locs : List Loc) (hn : 4 - pi < n) (hp : 0 ≤ pi ∧ pi ≤ 4) (hfm : ∀ c : Nat, (c < 20 ∨ 30 < c) → c ≠ 33 → c ≠ 34 → c ≠ 35 → τ c = σ c) (hout : ∀ c : Nat, c = 33 ∨ c = 34 ∨ c = 35 → ∀ i9 : Int, (i9 < j * 16 ∨ j * 16 + 16 ≤ i9) → τ c i9 = σ c i9) (hw1 : LWS w) (hE : EQN (τ (18 + 2 + 0)) (lfW r w) N) (hdn : ∀ p9 q9 : Int, 0 ≤ p9 → 0 ≤ q9 → q9 < 4 → p9 < pi → CQ τ N r (σ 32) K j p9 q9) (X : HX G τ s H locs) (hl : lv_has ls 8 [(0, .ref (gY G 31)), (1, .int (I j)), (2, .int (I N)), (3, .int (I (nx K j))), (4, .int (I (bgI r (σ 32 j)))), (5, .int (I (bgI r (σ 32 (nx K j)) - bgI r (σ 32 j)))), (6, .int (I pi))]), W p l e (rmd 6) s m args below meth c H locs 0 0 (MQ below (QV G (fun τ9 => (∀ c : Nat, (c < 20 ∨ 30 < c) → c ≠ 33 → c ≠ 34 → c ≠ 35 → τ9 c = σ c) ∧ (∃ w : Int → Int, LWS w ∧ EQN (τ9 (18 + 2 + 0)) (lfW r w) N) ∧ CE τ9 N r (σ 32) K j ∧ (∀ c : Nat, c = 33 ∨ c = 34 ∨ c = 35 → ∀ i : Int, (i < j * 16 ∨ j * 16 + 16 ≤ i) → τ9 c i = σ c i))) args s 0 0 (gA G)) (F0 m 101 ls []) := by
              intro n
              induction n with
              | zero => intro pi w τ ls H locs hn hp hfm hout hw1 hE hdn X hl; omega
              | succ n ih101 =>
                intro pi w τ ls H locs hn hp hfm hout hw1 hE hdn X hl
                refine r_iload F hl 6 rfl dX0_measureLink_101 ?_
                refine r_iconst F dX0_measureLink_103 ?_
                refine r_icmp_ge F 190 (by decide) (by omega) (by omega) dX0_measureLink_104 (fun c5 => ?_) (fun c5 => ?_)
                · skip
                  exact r_vret F X hr hk dX0_measureLink_190 (⟨hfm, ⟨w, hw1, hE⟩, CE_of_CQ (fun p9 q9 a b c d => hdn p9 q9 a c d (by omega)), hout⟩)
                · skip
                  refine r_aload_n F hl 0 rfl rfl dX0_measureLink_107 ?_
                  refine r_get F X 31 (by decide) (eK_31 G _) rfl gl_RX0 1 (by decide) rfl gf_RX0_29 rfl dX0_measureLink_108 ?_
                  refine r_iload F hl 6 rfl dX0_measureLink_111 ?_
                  refine r_aload_n F hl 0 rfl rfl dX0_measureLink_113 ?_
                  refine r_get F X 31 (by decide) (eK_31 G _) rfl gl_RX0 2 (by decide) rfl gf_RX0_9 rfl dX0_measureLink_114 ?_
                  refine r_iload_n F hl 1 rfl rfl dX0_measureLink_117 ?_
                  refine r_iald F X 32 (by decide) (eK_32 G) (by omega) (by decide) dX0_measureLink_118 ?_
                  refine r_eqI (b := σ 32 j) (by rw [hfm 32 (by omega) (by omega) (by omega) (by omega)]) ?_
                  refine d_cVV F X 18 (by decide) (eK_P (Or.inr rfl : (18 : Nat) = 5 ∨ (18 : Nat) = 18) G _) rfl (c_X3_drawBy l G τ 18 N r pi (σ 32 j) (Or.inr rfl) (by unfold PL; rw [hfm 2 (by omega) (by omega) (by omega) (by omega)]; exact hP) hW hwh (⟨hbj.1, hbj.2.1⟩) (by omega)) gv_RX0_100 rfl nd_X3_drawBy rfl (rest := []) rfl (Nat.le_of_ble_eq_true rfl) ⟨Nat.le_of_ble_eq_true rfl, Nat.le_of_ble_eq_true rfl⟩ ⟨Nat.zero_le _, Nat.zero_le _⟩ hl.1 dX0_measureLink_119 (fun H locs X => ?_)
                  obtain ⟨σ1, eσ1⟩ : ∃ x : St, x = up τ (18 + 2 + 0) (drk (τ (18 + 2 + 0)) r pi (σ 32 j) (r (σ 32 j))) := ⟨_, rfl⟩
                  rw [← eσ1] at X
                  refine r_iconst F dX0_measureLink_122 ?_
                  refine r_istore F hl [(7, .int (I 0)), (0, .ref (gY G 31)), (1, .int (I j)), (2, .int (I N)), (3, .int (I (nx K j))), (4, .int (I (bgI r (σ 32 j)))), (5, .int (I (bgI r (σ 32 (nx K j)) - bgI r (σ 32 j)))), (6, .int (I pi))] (by decide) rfl dX0_measureLink_123 (fun ls hl => ?_)
                  have loop125 : ∀ (n : Nat) (qi : Int) (w : Int → Int) (τ : St) (ls : Array Slot) (H : Heap) (locs : List Loc) (hn : 4 - qi < n) (hq : 0 ≤ qi ∧ qi ≤ 4) (hfm : ∀ c : Nat, (c < 20 ∨ 30 < c) → c ≠ 33 → c ≠ 34 → c ≠ 35 → τ c = σ c) (hout : ∀ c : Nat, c = 33 ∨ c = 34 ∨ c = 35 → ∀ i9 : Int, (i9 < j * 16 ∨ j * 16 + 16 ≤ i9) → τ c i9 = σ c i9) (hw1 : LWS w) (hE : EQN (τ (18 + 2 + 0)) (lfW r w) N) (hwj : nx K j ≠ j → w (σ 32 j) = pi) (hdn : ∀ p9 q9 : Int, 0 ≤ p9 → 0 ≤ q9 → q9 < 4 → (p9 < pi ∨ p9 = pi ∧ q9 < qi) → CQ τ N r (σ 32) K j p9 q9) (X : HX G τ s H locs) (hl : lv_has ls 8 [(0, .ref (gY G 31)), (1, .int (I j)), (2, .int (I N)), (3, .int (I (nx K j))), (4, .int (I (bgI r (σ 32 j)))), (5, .int (I (bgI r (σ 32 (nx K j)) - bgI r (σ 32 j)))), (6, .int (I pi)), (7, .int (I qi))]), W p l e (rmd 6) s m args below meth c H locs 0 0 (MQ below (QV G (fun τ9 => (∀ c : Nat, (c < 20 ∨ 30 < c) → c ≠ 33 → c ≠ 34 → c ≠ 35 → τ9 c = σ c) ∧ (∃ w : Int → Int, LWS w ∧ EQN (τ9 (18 + 2 + 0)) (lfW r w) N) ∧ CE τ9 N r (σ 32) K j ∧ (∀ c : Nat, c = 33 ∨ c = 34 ∨ c = 35 → ∀ i : Int, (i < j * 16 ∨ j * 16 + 16 ≤ i) → τ9 c i = σ c i))) args s 0 0 (gA G)) (F0 m 125 ls []) := by
                    intro n
                    induction n with
                    | zero => intro qi w τ ls H locs hn hq hfm hout hw1 hE hwj hdn X hl; omega
                    | succ n ih125 =>
                      intro qi w τ ls H locs hn hq hfm hout hw1 hE hwj hdn X hl
                      refine r_iload F hl 7 rfl dX0_measureLink_125 ?_
                      refine r_iconst F dX0_measureLink_127 ?_
                      refine r_icmp_ge F 184 (by decide) (by omega) (by omega) dX0_measureLink_128 (fun c6 => ?_) (fun c6 => ?_)
                      · skip
                        refine r_iinc F hl [(6, .int (I (pi + 1))), (0, .ref (gY G 31)), (1, .int (I j)), (2, .int (I N)), (3, .int (I (nx K j))), (4, .int (I (bgI r (σ 32 j)))), (5, .int (I (bgI r (σ 32 (nx K j)) - bgI r (σ 32 j)))), (7, .int (I qi))] 6 rfl (by decide) rfl dX0_measureLink_184 (fun ls hl => ?_)
                        refine r_goto F 101 (by decide) dX0_measureLink_187 ?_
                        exact ih101 (pi + 1) w τ _ _ _ (by omega) (by omega) (by exact hfm) (by exact hout) (by exact hw1) (by exact hE) (by exact fun p9 q9 a b c d => hdn p9 q9 a b c (by omega)) X (lv_sub hl [1, 2, 3, 4, 5, 6, 0] rfl)
                      · skip
                        refine r_aload_n F hl 0 rfl rfl dX0_measureLink_131 ?_
                        refine r_get F X 31 (by decide) (eK_31 G _) rfl gl_RX0 1 (by decide) rfl gf_RX0_29 rfl dX0_measureLink_132 ?_
                        refine r_iload F hl 7 rfl dX0_measureLink_135 ?_
                        refine r_aload_n F hl 0 rfl rfl dX0_measureLink_137 ?_
                        refine r_get F X 31 (by decide) (eK_31 G _) rfl gl_RX0 2 (by decide) rfl gf_RX0_9 rfl dX0_measureLink_138 ?_
                        refine r_iload_n F hl 3 rfl rfl dX0_measureLink_141 ?_
                        refine r_iald F X 32 (by decide) (eK_32 G) (by omega) (by decide) dX0_measureLink_142 ?_
                        refine r_eqI (b := σ 32 (nx K j)) (by rw [hfm 32 (by omega) (by omega) (by omega) (by omega)]) ?_
                        refine d_cVV F X 18 (by decide) (eK_P (Or.inr rfl : (18 : Nat) = 5 ∨ (18 : Nat) = 18) G _) rfl (c_X3_drawBy l G τ 18 N r qi (σ 32 (nx K j)) (Or.inr rfl) (by unfold PL; rw [hfm 2 (by omega) (by omega) (by omega) (by omega)]; exact hP) hW hwh (⟨hbn.1, hbn.2.1⟩) (by omega)) gv_RX0_100 rfl nd_X3_drawBy rfl (rest := []) rfl (Nat.le_of_ble_eq_true rfl) ⟨Nat.le_of_ble_eq_true rfl, Nat.le_of_ble_eq_true rfl⟩ ⟨Nat.zero_le _, Nat.zero_le _⟩ hl.1 dX0_measureLink_143 (fun H locs X => ?_)
                        obtain ⟨σ2, eσ2⟩ : ∃ x : St, x = up τ (18 + 2 + 0) (drk (τ (18 + 2 + 0)) r qi (σ 32 (nx K j)) (r (σ 32 (nx K j)))) := ⟨_, rfl⟩
                        rw [← eσ2] at X
                        have hw2 := hw1.up (t := σ 32 (nx K j)) (v := qi) (by omega)
                        have hE2 : EQN (σ2 (18 + 2 + 0)) (lfW r (upI w (σ 32 (nx K j)) qi)) N := by rw [eσ2, up_eq]; exact drk_lf hW hwh hbn.1 hbn.2.1 hE
                        have hrest : ∀ c : Nat, c ≠ 20 → σ2 c = τ c := fun c a => by rw [eσ2, up_ne (by omega)]
                        have hfm2 : ∀ c : Nat, (c < 20 ∨ 30 < c) → c ≠ 33 → c ≠ 34 → c ≠ 35 → σ2 c = σ c := fun c a b d e => by rw [hrest c (by omega)]; exact hfm c a b d e
                        refine r_aload_n F hl 0 rfl rfl dX0_measureLink_146 ?_
                        refine r_iload_n F hl 1 rfl rfl dX0_measureLink_147 ?_
                        refine r_bipush F (by decide) dX0_measureLink_148 ?_
                        refine r_imul F dX0_measureLink_150 ?_
                        refine r_iload F hl 6 rfl dX0_measureLink_151 ?_
                        refine r_iconst F dX0_measureLink_153 ?_
                        refine r_imul F dX0_measureLink_154 ?_
                        refine r_iadd F dX0_measureLink_155 ?_
                        refine r_iload F hl 7 rfl dX0_measureLink_156 ?_
                        refine r_iadd F dX0_measureLink_158 ?_
                        refine r_iload F hl 4 rfl dX0_measureLink_159 ?_
                        refine r_iload F hl 5 rfl dX0_measureLink_161 ?_
                        refine r_if_le F 171 (by decide) (by omega) dX0_measureLink_163 (fun c7 => ?_) (fun c7 => ?_)
                        · skip
                          refine r_iload F hl 5 rfl dX0_measureLink_171 ?_
                          refine r_iload_n F hl 2 rfl rfl dX0_measureLink_173 ?_
                          refine r_iadd F dX0_measureLink_174 ?_
                          refine r_eqI (b := lsp N r (σ 32) K j) (by unfold lsp; rw [if_neg hKn]; first | exact (if_pos (by omega)).symm | exact (if_neg (by omega)).symm) ?_
                          refine r_cVV F X 31 (by decide) (eK_31 G _) rfl (c_X0_measurePair l G σ2 N r (((j * 16) + (pi * 4)) + qi) (bgI r (σ 32 j)) (lsp N r (σ 32) K j) (by unfold PL; rw [hfm2 2 (by omega) (by omega) (by omega) (by omega)]; exact hP) hW (by rw [hfm2 18 (by omega) (by omega) (by omega) (by omega)]; exact hN) (hE2.LR (lfW_LR hW hwh hw2)) (by omega) (by have := hlk; unfold lfr at this; rw [if_neg hKn] at this; omega) (by omega)) gv_RX0_93 rfl nd_X0_measurePair rfl (rest := []) rfl (Nat.le_of_ble_eq_true rfl) ⟨Nat.le_of_ble_eq_true rfl, Nat.le_of_ble_eq_true rfl⟩ ⟨Nat.zero_le _, Nat.zero_le _⟩ hl.1 dX0_measureLink_175 (fun τ2 H locs hM X => ?_)
                          have hE3 : EQN (τ2 (18 + 2 + 0)) (lfW r (upI w (σ 32 (nx K j)) qi)) N := by rw [hM.1 (18 + 2 + 0) (by omega) (by omega) (by omega) (by omega)]; exact hE2
                          have hwj2 : nx K j ≠ j → upI w (σ 32 (nx K j)) qi (σ 32 j) = pi := by
                            intro z
                            rw [upI_ne]
                            · exact hwj z
                            · intro y; have e1 := hbj.2.2.2; have e2 := hbn.2.2.2; rw [y] at e1; omega
                          have hcell : ∀ c : Nat, c = 33 ∨ c = 34 ∨ c = 35 → ∀ i9 : Int, i9 ≠ j * 16 + pi * 4 + qi → τ2 c i9 = τ c i9 := by
                            intro c a i9 b
                            rcases a with rfl | rfl | rfl
                            · rw [hM.2.1, upI_ne b, hrest 33 (by omega)]
                            · rw [hM.2.2.1, upI_ne b, hrest 34 (by omega)]
                            · rw [hM.2.2.2, upI_ne b, hrest 35 (by omega)]
                          have hout2 : ∀ c : Nat, c = 33 ∨ c = 34 ∨ c = 35 → ∀ i9 : Int, (i9 < j * 16 ∨ j * 16 + 16 ≤ i9) → τ2 c i9 = σ c i9 := fun c a i9 b => by rw [hcell c a i9 (by omega)]; exact hout c a i9 b
                          have hdn2 : ∀ p9 q9 : Int, 0 ≤ p9 → 0 ≤ q9 → q9 < 4 → (p9 < pi ∨ p9 = pi ∧ q9 < qi + 1) → CQ τ2 N r (σ 32) K j p9 q9 := by
                            intro p9 q9 a b c d
                            rcases (show (p9 < pi ∨ p9 = pi ∧ q9 < qi) ∨ (p9 = pi ∧ q9 = qi) by omega) with z | z
                            · exact (hdn p9 q9 a b c z).of (fun k k1 => hcell k k1 _ (by omega))
                            · obtain ⟨z1, z2⟩ := z
                              subst z1; subst z2
                              exact CQ.mk' (w' := upI w (σ 32 (nx K j)) q9) (fr := bgI r (σ 32 j)) (sp := lsp N r (σ 32) K j) hB hW hwh hw2 hE2 hj.1 hj.2 (by unfold lfr; rw [if_neg hKn]) rfl (fun _ => ⟨upI_eq, hwj2⟩) (by rw [hM.2.1, upI_eq]) (by rw [hM.2.2.1, upI_eq]) (by rw [hM.2.2.2, upI_eq])
                          refine r_iinc F hl [(7, .int (I (qi + 1))), (0, .ref (gY G 31)), (1, .int (I j)), (2, .int (I N)), (3, .int (I (nx K j))), (4, .int (I (bgI r (σ 32 j)))), (5, .int (I (bgI r (σ 32 (nx K j)) - bgI r (σ 32 j)))), (6, .int (I pi))] 7 rfl (by decide) rfl dX0_measureLink_178 (fun ls hl => ?_)
                          refine r_goto F 125 (by decide) dX0_measureLink_181 ?_
                          exact ih125 (qi + 1) (upI w (σ 32 (nx K j)) qi) τ2 _ _ _ (by omega) (by omega) (by intro c a b d e; rw [hM.1 c (by omega) b d e]; exact hfm2 c a b d e) (by exact hout2) (by exact hw1.up (by omega)) (by exact hE3) (by exact hwj2) (by exact hdn2) X (lv_sub hl [1, 2, 3, 4, 5, 6, 7, 0] rfl)
                        · skip
                          refine r_iload F hl 5 rfl dX0_measureLink_166 ?_
                          refine r_goto F 175 (by decide) dX0_measureLink_168 ?_
                          refine r_eqI (b := lsp N r (σ 32) K j) (by unfold lsp; rw [if_neg hKn]; first | exact (if_pos (by omega)).symm | exact (if_neg (by omega)).symm) ?_
                          refine r_cVV F X 31 (by decide) (eK_31 G _) rfl (c_X0_measurePair l G σ2 N r (((j * 16) + (pi * 4)) + qi) (bgI r (σ 32 j)) (lsp N r (σ 32) K j) (by unfold PL; rw [hfm2 2 (by omega) (by omega) (by omega) (by omega)]; exact hP) hW (by rw [hfm2 18 (by omega) (by omega) (by omega) (by omega)]; exact hN) (hE2.LR (lfW_LR hW hwh hw2)) (by omega) (by have := hlk; unfold lfr at this; rw [if_neg hKn] at this; omega) (by omega)) gv_RX0_93 rfl nd_X0_measurePair rfl (rest := []) rfl (Nat.le_of_ble_eq_true rfl) ⟨Nat.le_of_ble_eq_true rfl, Nat.le_of_ble_eq_true rfl⟩ ⟨Nat.zero_le _, Nat.zero_le _⟩ hl.1 dX0_measureLink_175 (fun τ2 H locs hM X => ?_)
                          have hE3 : EQN (τ2 (18 + 2 + 0)) (lfW r (upI w (σ 32 (nx K j)) qi)) N := by rw [hM.1 (18 + 2 + 0) (by omega) (by omega) (by omega) (by omega)]; exact hE2
                          have hwj2 : nx K j ≠ j → upI w (σ 32 (nx K j)) qi (σ 32 j) = pi := by
                            intro z
                            rw [upI_ne]
                            · exact hwj z
                            · intro y; have e1 := hbj.2.2.2; have e2 := hbn.2.2.2; rw [y] at e1; omega
                          have hcell : ∀ c : Nat, c = 33 ∨ c = 34 ∨ c = 35 → ∀ i9 : Int, i9 ≠ j * 16 + pi * 4 + qi → τ2 c i9 = τ c i9 := by
                            intro c a i9 b
                            rcases a with rfl | rfl | rfl
                            · rw [hM.2.1, upI_ne b, hrest 33 (by omega)]
                            · rw [hM.2.2.1, upI_ne b, hrest 34 (by omega)]
                            · rw [hM.2.2.2, upI_ne b, hrest 35 (by omega)]
                          have hout2 : ∀ c : Nat, c = 33 ∨ c = 34 ∨ c = 35 → ∀ i9 : Int, (i9 < j * 16 ∨ j * 16 + 16 ≤ i9) → τ2 c i9 = σ c i9 := fun c a i9 b => by rw [hcell c a i9 (by omega)]; exact hout c a i9 b
                          have hdn2 : ∀ p9 q9 : Int, 0 ≤ p9 → 0 ≤ q9 → q9 < 4 → (p9 < pi ∨ p9 = pi ∧ q9 < qi + 1) → CQ τ2 N r (σ 32) K j p9 q9 := by
                            intro p9 q9 a b c d
                            rcases (show (p9 < pi ∨ p9 = pi ∧ q9 < qi) ∨ (p9 = pi ∧ q9 = qi) by omega) with z | z
                            · exact (hdn p9 q9 a b c z).of (fun k k1 => hcell k k1 _ (by omega))
                            · obtain ⟨z1, z2⟩ := z
                              subst z1; subst z2
                              exact CQ.mk' (w' := upI w (σ 32 (nx K j)) q9) (fr := bgI r (σ 32 j)) (sp := lsp N r (σ 32) K j) hB hW hwh hw2 hE2 hj.1 hj.2 (by unfold lfr; rw [if_neg hKn]) rfl (fun _ => ⟨upI_eq, hwj2⟩) (by rw [hM.2.1, upI_eq]) (by rw [hM.2.2.1, upI_eq]) (by rw [hM.2.2.2, upI_eq])
                          refine r_iinc F hl [(7, .int (I (qi + 1))), (0, .ref (gY G 31)), (1, .int (I j)), (2, .int (I N)), (3, .int (I (nx K j))), (4, .int (I (bgI r (σ 32 j)))), (5, .int (I (bgI r (σ 32 (nx K j)) - bgI r (σ 32 j)))), (6, .int (I pi))] 7 rfl (by decide) rfl dX0_measureLink_178 (fun ls hl => ?_)
                          refine r_goto F 125 (by decide) dX0_measureLink_181 ?_
                          exact ih125 (qi + 1) (upI w (σ 32 (nx K j)) qi) τ2 _ _ _ (by omega) (by omega) (by intro c a b d e; rw [hM.1 c (by omega) b d e]; exact hfm2 c a b d e) (by exact hout2) (by exact hw1.up (by omega)) (by exact hE3) (by exact hwj2) (by exact hdn2) X (lv_sub hl [1, 2, 3, 4, 5, 6, 7, 0] rfl)
                  exact loop125 (((4 - 0 : Int) + 1).toNat) 0 (upI w (σ 32 j) pi) σ1 _ _ _ (by omega) (by omega) (by intro c a b d e; rw [eσ1, up_ne (by omega)]; exact hfm c a b d e) (by intro c a i9 b; rw [eσ1, up_ne (by omega)]; exact hout c a i9 b) (by exact hw1.up (by omega)) (by rw [eσ1, up_eq]; exact drk_lf hW hwh hbj.1 hbj.2.1 hE) (by exact fun _ => upI_eq) (by intro p9 q9 a b c d; exact (hdn p9 q9 a b c (by omega)).of (fun k k1 => by rw [eσ1, up_ne (by omega)])) X (lv_sub hl [1, 2, 3, 4, 5, 6, 7, 0] rfl)
            exact loop101 (((4 - 0 : Int) + 1).toNat) 0 w0 σ _ _ _ (by omega) (by omega) (by exact fun _ _ _ _ _ => rfl) (by exact fun _ _ _ _ => rfl) (by exact hw0) (by exact hE0) (by intro p9 q9 a b c d; omega) X (lv_sub hl [3, 4, 5, 6, 2, 1, 0] rfl)
          · omega
    refine r_iload_n F hl 2 rfl rfl dX0_measureLink_24 ?_
    refine r_iconst F dX0_measureLink_25 ?_
    refine r_iadd F dX0_measureLink_26 ?_
    refine r_aload_n F hl 1 rfl rfl dX0_measureLink_27 ?_
    refine r_get F X 31 (by decide) (eK_31 G _) rfl gl_RX0 6 (by decide) rfl gf_RX0_79 rfl dX0_measureLink_28 ?_
    refine r_eqI (b := K) (hK.1) ?_
    refine r_icmp_ge F 40 (by decide) (by omega) (by omega) dX0_measureLink_31 (fun c8 => ?_) (fun c8 => ?_)
    · skip
      refine r_iconst F dX0_measureLink_40 ?_
      refine r_eqI (b := nx K j) (by unfold nx; first | rw [if_pos (by omega)] | rw [if_neg (by omega)]) ?_
      refine r_istore_n F hl [(3, .int (I (nx K j))), (2, .int (I N)), (0, .ref (gY G 31)), (1, .int (I j))] rfl (by decide) rfl dX0_measureLink_41 (fun ls hl => ?_)
      exact join42   _ _ _  X (lv_sub hl [2, 3, 1, 0] rfl)
    · skip
      refine r_iload_n F hl 2 rfl rfl dX0_measureLink_34 ?_
      refine r_iconst F dX0_measureLink_35 ?_
      refine r_iadd F dX0_measureLink_36 ?_
      refine r_goto F 41 (by decide) dX0_measureLink_37 ?_
      refine r_eqI (b := nx K j) (by unfold nx; first | rw [if_pos (by omega)] | rw [if_neg (by omega)]) ?_
      refine r_istore_n F hl [(3, .int (I (nx K j))), (2, .int (I N)), (0, .ref (gY G 31)), (1, .int (I j))] rfl (by decide) rfl dX0_measureLink_41 (fun ls hl => ?_)
      exact join42   _ _ _  X (lv_sub hl [2, 3, 1, 0] rfl)
  · skip
    subst K
    have hj0 : j = 0 := by omega
    subst hj0
    refine r_aload_n F hl 1 rfl rfl dX0_measureLink_16 ?_
    refine r_iconst F dX0_measureLink_17 ?_
    refine r_iconst F dX0_measureLink_18 ?_
    refine r_iload_n F hl 0 rfl rfl dX0_measureLink_19 ?_
    refine r_cVV F X 31 (by decide) (eK_31 G _) rfl (c_X0_measurePair l G σ N r 0 0 N hP hW hN (hL0) (by omega) (by omega) (by omega)) gv_RX0_93 rfl nd_X0_measurePair rfl (rest := []) rfl (Nat.le_of_ble_eq_true rfl) ⟨Nat.le_of_ble_eq_true rfl, Nat.le_of_ble_eq_true rfl⟩ ⟨Nat.zero_le _, Nat.zero_le _⟩ hl.1 dX0_measureLink_20 (fun τ1 H locs hM X => ?_)
    have hret : (∀ c : Nat, (c < 20 ∨ 30 < c) → c ≠ 33 → c ≠ 34 → c ≠ 35 → τ1 c = σ c) ∧ (∃ w : Int → Int, LWS w ∧ EQN (τ1 (18 + 2 + 0)) (lfW r w) N) ∧ CE τ1 N r (σ 32) 0 0 ∧ (∀ c : Nat, c = 33 ∨ c = 34 ∨ c = 35 → ∀ i : Int, (i < 0 * 16 ∨ 0 * 16 + 16 ≤ i) → τ1 c i = σ c i) := by
      refine ⟨fun c a b d e => hM.1 c (by omega) b d e, ⟨w0, hw0, by rw [hM.1 (18 + 2 + 0) (by omega) (by omega) (by omega) (by omega)]; exact hE0⟩, CE_of_CQ (fun p9 q9 a b c d => ?_), fun c a i b => ?_⟩
      · intro w9 hw9 hk9 hz9
        obtain ⟨z1, z2⟩ := hz9 rfl
        subst z1; subst z2
        exact CQ.mk' (w' := w0) (f := σ (18 + 2 + 0)) (fr := 0) (sp := N) hB hW hwh hw0 hE0 (by omega) (by omega) (by unfold lfr; rw [if_pos rfl]) (by unfold lsp; rw [if_pos rfl]) (fun z => absurd rfl z) (by rw [hM.2.1]; exact upI_eq) (by rw [hM.2.2.1]; exact upI_eq) (by rw [hM.2.2.2]; exact upI_eq) w9 hw9 hk9 hz9
      · rcases a with rfl | rfl | rfl
        · rw [hM.2.1, upI_ne (by omega)]
        · rw [hM.2.2.1, upI_ne (by omega)]
        · rw [hM.2.2.2, upI_ne (by omega)]
    exact r_vret F X hr hk dX0_measureLink_23 (hret)
