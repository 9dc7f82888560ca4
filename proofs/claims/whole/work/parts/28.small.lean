theorem gac_l : Cond.methodLink RX2 18 arraycopyName ∈ BIG := bg_of 79 (by decide +kernel) rfl
theorem gac_n : Cond.native arraycopyName ∈ BIG := bg_of 81 (by decide +kernel) rfl
theorem gac_s : Cond.static arraycopyName ∈ BIG := bg_of 80 (by decide +kernel) rfl
theorem gac_i : Cond.initialized "java/lang/System" ∈ BIG := bg_of 53 (by decide +kernel) rfl
def RM (σ τ : St) (N : Int) (r : Int → Int) (n : Int) (hs : Int → Int → Int) : Prop := (∀ k : Nat, k ≠ 3 → k ≠ 4 → k ≠ 5 → k ≠ 31 → τ k = σ k) ∧ HC τ N (min (n + 1) 20) (hpush r hs) ∧ τ 5 3 = 0 ∧ τ 31 12 = 0
theorem told_fin {σ ρ τ : St} {N : Int} {r q : Int → Int} {n : Int} {hs : Int → Int → Int} (h : RM σ ρ N r n hs) (e : ∀ k : Nat, k ≠ 2 → τ k = ρ k) (h2 : PLf (τ 2) N q) (hq : WF N q) : KX σ τ ∧ CX τ N q (min (n + 1) 20) (hpush r hs) := by
  obtain ⟨h1, hH, h5, h31⟩ := h
  refine ⟨fun k hk => by rw [e k (by omega), h1 k (by omega) (by omega) (by omega) (by omega)], CX.told h2 hq (hH.of (e 3 (by omega)) (e 4 (by omega))) (by rw [e 5 (by omega)]; exact h5) (by rw [e 31 (by omega)]; exact h31)⟩
theorem RM.pl {σ ρ : St} {N : Int} {r : Int → Int} {n : Int} {hs : Int → Int → Int} (h : RM σ ρ N r n hs) (hP : PL σ N r) : PL ρ N r := by unfold PL; rw [h.1 2 (by omega) (by omega) (by omega) (by omega)]; exact hP
theorem KX.refl (σ : St) : KX σ σ := fun _ _ => rfl
theorem c_X2_copyTo (l : Launch) (G : GT) (σ : St) (fr : Int) (h : 0 ≤ fr ∧ fr ≤ 1368) : Ct l yX2_copyTo cX2_copyTo 3 none 1 G [.ref (gY G 1), .ref (gY G 4), .int (I fr)] σ (QV G (fun τ => τ = up σ 4 (cpyI (σ 2) (σ 4) 0 fr 72))) := by
  refine mt (own := RX2) (plainFor_of_name rfl) rfl (Nat.le_of_ble_eq_true rfl) ?_
  intro p e s m args below meth c ls F hr hk X hl
  have hl : lv_has ls 3 [(0, .ref (gY G 1)), (1, .ref (gY G 4)), (2, .int (I fr))] := hl
  refine r_iload_n F hl 2 rfl rfl dX2_copyTo_0 ?_
  refine r_if_lt F 25 (by decide) (by omega) dX2_copyTo_1 (fun c1 => ?_) (fun c1 => ?_)
  · omega
  · skip
    refine r_iload_n F hl 2 rfl rfl dX2_copyTo_4 ?_
    refine r_aload_n F hl 1 rfl rfl dX2_copyTo_5 ?_
    refine r_alen F X 4 (by decide) 0 (eK_4 G _) rfl 1440 rfl dX2_copyTo_6 ?_
    refine r_bipush F (by decide) dX2_copyTo_7 ?_
    refine r_isub F dX2_copyTo_9 ?_
    refine r_icmp_gt F 25 (by decide) (by omega) (by omega) dX2_copyTo_10 (fun c2 => ?_) (fun c2 => ?_)
    · omega
    · skip
      refine r_aload_n F hl 0 rfl rfl dX2_copyTo_13 ?_
      refine r_get F X 1 (by decide) (eK_1 G _) rfl gl_RX2 0 (by decide) rfl gf_RX2_9 rfl dX2_copyTo_14 ?_
      refine r_iconst F dX2_copyTo_17 ?_
      refine r_aload_n F hl 1 rfl rfl dX2_copyTo_18 ?_
      refine r_iload_n F hl 2 rfl rfl dX2_copyTo_19 ?_
      refine r_bipush F (by decide) dX2_copyTo_20 ?_
      refine r_copy F X (rest := []) 2 4 (by decide) (by decide) (eK_2 G) (eK_4 G) (by omega) (by omega) (by omega) (by omega) (by omega) (by decide) (by decide) hl.1 gac_l gac_n gac_s gac_i (Nat.le_of_ble_eq_true rfl) (Nat.le_of_ble_eq_true rfl) dX2_copyTo_22 (fun H locs X => ?_)
      obtain ⟨σ1, eσ1⟩ : ∃ x : St, x = up σ 4 (cpyI (σ 2) (σ 4) 0 fr 72) := ⟨_, rfl⟩
      rw [← eσ1] at X
      exact r_vret F X hr hk dX2_copyTo_25 (by rw [eσ1])
theorem c_X2_copyFrom (l : Launch) (G : GT) (σ : St) (fr : Int) (h : 0 ≤ fr ∧ fr ≤ 1368) : Ct l yX2_copyFrom cX2_copyFrom 3 none 1 G [.ref (gY G 1), .ref (gY G 4), .int (I fr)] σ (QV G (fun τ => τ = up σ 2 (cpyI (σ 4) (σ 2) fr 0 72))) := by
  refine mt (own := RX2) (plainFor_of_name rfl) rfl (Nat.le_of_ble_eq_true rfl) ?_
  intro p e s m args below meth c ls F hr hk X hl
  have hl : lv_has ls 3 [(0, .ref (gY G 1)), (1, .ref (gY G 4)), (2, .int (I fr))] := hl
  refine r_iload_n F hl 2 rfl rfl dX2_copyFrom_0 ?_
  refine r_if_lt F 25 (by decide) (by omega) dX2_copyFrom_1 (fun c1 => ?_) (fun c1 => ?_)
  · omega
  · skip
    refine r_iload_n F hl 2 rfl rfl dX2_copyFrom_4 ?_
    refine r_aload_n F hl 1 rfl rfl dX2_copyFrom_5 ?_
    refine r_alen F X 4 (by decide) 0 (eK_4 G _) rfl 1440 rfl dX2_copyFrom_6 ?_
    refine r_bipush F (by decide) dX2_copyFrom_7 ?_
    refine r_isub F dX2_copyFrom_9 ?_
    refine r_icmp_gt F 25 (by decide) (by omega) (by omega) dX2_copyFrom_10 (fun c2 => ?_) (fun c2 => ?_)
    · omega
    · skip
      refine r_aload_n F hl 1 rfl rfl dX2_copyFrom_13 ?_
      refine r_iload_n F hl 2 rfl rfl dX2_copyFrom_14 ?_
      refine r_aload_n F hl 0 rfl rfl dX2_copyFrom_15 ?_
      refine r_get F X 1 (by decide) (eK_1 G _) rfl gl_RX2 0 (by decide) rfl gf_RX2_9 rfl dX2_copyFrom_16 ?_
      refine r_iconst F dX2_copyFrom_19 ?_
      refine r_bipush F (by decide) dX2_copyFrom_20 ?_
      refine r_copy F X (rest := []) 4 2 (by decide) (by decide) (eK_4 G) (eK_2 G) (by omega) (by omega) (by omega) (by omega) (by omega) (by decide) (by decide) hl.1 gac_l gac_n gac_s gac_i (Nat.le_of_ble_eq_true rfl) (Nat.le_of_ble_eq_true rfl) dX2_copyFrom_22 (fun H locs X => ?_)
      obtain ⟨σ1, eσ1⟩ : ∃ x : St, x = up σ 2 (cpyI (σ 4) (σ 2) fr 0 72) := ⟨_, rfl⟩
      rw [← eσ1] at X
      exact r_vret F X hr hk dX2_copyFrom_25 (by rw [eσ1])
theorem c_X2_removeMark (l : Launch) (G : GT) (σ : St) (N : Int) (r : Int → Int) (q : Int) (hP : PL σ N r) (hW : WF N r) (hq : 0 ≤ q ∧ q < r 61) : Ct l yX2_removeMark cX2_removeMark 4 none 2 G [.ref (gY G 1), .int (I q)] σ (QV G (fun τ => τ = up σ 2 (upI (rmp (σ 2) q (48 + 3 * (r 61 - 1) + 0)) 11 (r 61 - 1)))) := by
  refine mt (own := RX2) (plainFor_of_name rfl) rfl (Nat.le_of_ble_eq_true rfl) ?_
  intro p e s m args below meth c ls F hr hk X hl
  have hl : lv_has ls 4 [(0, .ref (gY G 1)), (1, .int (I q))] := hl
  have hw := hW.num
  refine r_aload_n F hl 0 rfl rfl dX2_removeMark_0 ?_
  refine r_bipush F (by decide) dX2_removeMark_1 ?_
  refine d_cVI F X 1 (by decide) (eK_1 G _) rfl (c_X2_get l G σ (r 61) 11 (by omega) (hP.ma)) gv_RX2_24 rfl nd_X2_get rfl (rest := []) rfl (Nat.le_of_ble_eq_true rfl) ⟨Nat.le_of_ble_eq_true rfl, Nat.le_of_ble_eq_true rfl⟩ ⟨Nat.zero_le _, Nat.zero_le _⟩ hl.1 dX2_removeMark_3 (fun H locs X => ?_)
  refine r_iconst F dX2_removeMark_6 ?_
  refine r_isub F dX2_removeMark_7 ?_
  refine r_istore_n F hl [(2, .int (I ((r 61) - 1))), (0, .ref (gY G 1)), (1, .int (I q))] rfl (by decide) rfl dX2_removeMark_8 (fun ls hl => ?_)
  refine r_iload_n F hl 2 rfl rfl dX2_removeMark_9 ?_
  refine r_iconst F dX2_removeMark_10 ?_
  refine d_cSI F X (c_X2_placeOfMark l G σ q 0) gv_RX2_32 nd_X2_placeOfMark rfl (rest := []) rfl (Nat.le_of_ble_eq_true rfl) ⟨Nat.le_of_ble_eq_true rfl, Nat.le_of_ble_eq_true rfl⟩ ⟨Nat.zero_le _, Nat.zero_le _⟩ hl.1 dX2_removeMark_11 (fun H locs X => ?_)
  refine r_istore_n F hl [(3, .int (I (48 + 3 * q + 0))), (2, .int (I ((r 61) - 1))), (0, .ref (gY G 1)), (1, .int (I q))] rfl (by decide) rfl dX2_removeMark_14 (fun ls hl => ?_)
  have loop15 : ∀ (n : Nat) (k : Int) (τ : St) (ls : Array Slot) (H : Heap) (locs : List Loc) (hn : 48 + 3 * (r 61 - 1) + 0 - k < n) (hk2 : 48 + 3 * q ≤ k ∧ k ≤ 48 + 3 * (r 61 - 1) + 0) (hτ : τ = up σ 2 (rmp (σ 2) q k)) (X : HX G τ s H locs) (hl : lv_has ls 4 [(0, .ref (gY G 1)), (1, .int (I q)), (2, .int (I (r 61 - 1))), (3, .int (I k))]), W p l e (rmd 2) s m args below meth c H locs 0 0 (MQ below (QV G (fun τ => τ = up σ 2 (upI (rmp (σ 2) q (48 + 3 * (r 61 - 1) + 0)) 11 (r 61 - 1)))) args s 0 0 (gA G)) (F0 m 15 ls []) := by
    intro n
    induction n with
    | zero => intro k τ ls H locs hn hk2 hτ X hl; omega
    | succ n ih15 =>
      intro k τ ls H locs hn hk2 hτ X hl
      refine r_iload_n F hl 3 rfl rfl dX2_removeMark_15 ?_
      refine r_iload_n F hl 2 rfl rfl dX2_removeMark_16 ?_
      refine r_iconst F dX2_removeMark_17 ?_
      refine d_cSI F X (c_X2_placeOfMark l G τ (r 61 - 1) 0) gv_RX2_32 nd_X2_placeOfMark rfl (rest := [.int (I k)]) rfl (Nat.le_of_ble_eq_true rfl) ⟨Nat.le_of_ble_eq_true rfl, Nat.le_of_ble_eq_true rfl⟩ ⟨Nat.zero_le _, Nat.zero_le _⟩ hl.1 dX2_removeMark_18 (fun H locs X => ?_)
      refine r_icmp_ge F 42 (by decide) (by omega) (by omega) dX2_removeMark_21 (fun c1 => ?_) (fun c1 => ?_)
      · skip
        refine r_aload_n F hl 0 rfl rfl dX2_removeMark_42 ?_
        refine r_bipush F (by decide) dX2_removeMark_43 ?_
        refine r_iload_n F hl 2 rfl rfl dX2_removeMark_45 ?_
        refine d_cVV F X 1 (by decide) (eK_1 G _) rfl (c_X2_put l G τ 11 (r 61 - 1) (by omega)) gv_RX2_28 rfl nd_X2_put rfl (rest := []) rfl (Nat.le_of_ble_eq_true rfl) ⟨Nat.le_of_ble_eq_true rfl, Nat.le_of_ble_eq_true rfl⟩ ⟨Nat.zero_le _, Nat.zero_le _⟩ hl.1 dX2_removeMark_46 (fun H locs X => ?_)
        obtain ⟨σ1, eσ1⟩ : ∃ x : St, x = up τ 2 (upI (τ 2) 11 (r 61 - 1)) := ⟨_, rfl⟩
        rw [← eσ1] at X
        exact r_vret F X hr hk dX2_removeMark_49 (by rw [eσ1, hτ, up_eq, up_up, show k = 48 + 3 * (r 61 - 1) + 0 by omega])
      · skip
        refine r_aload_n F hl 0 rfl rfl dX2_removeMark_24 ?_
        refine r_iload_n F hl 3 rfl rfl dX2_removeMark_25 ?_
        refine r_aload_n F hl 0 rfl rfl dX2_removeMark_26 ?_
        refine r_iload_n F hl 3 rfl rfl dX2_removeMark_27 ?_
        refine r_iconst F dX2_removeMark_28 ?_
        refine r_iadd F dX2_removeMark_29 ?_
        refine d_cVI F X 1 (by decide) (eK_1 G _) rfl (c_X2_get l G τ (σ 2 (k + 3)) (k + 3) (by omega) (by rw [hτ, up_eq]; unfold rmp; rw [if_neg (by omega)])) gv_RX2_24 rfl nd_X2_get rfl (rest := [.int (I k), .ref (gY G 1)]) rfl (Nat.le_of_ble_eq_true rfl) ⟨Nat.le_of_ble_eq_true rfl, Nat.le_of_ble_eq_true rfl⟩ ⟨Nat.zero_le _, Nat.zero_le _⟩ hl.1 dX2_removeMark_30 (fun H locs X => ?_)
        refine d_cVV F X 1 (by decide) (eK_1 G _) rfl (c_X2_put l G τ k (σ 2 (k + 3)) (by omega)) gv_RX2_28 rfl nd_X2_put rfl (rest := []) rfl (Nat.le_of_ble_eq_true rfl) ⟨Nat.le_of_ble_eq_true rfl, Nat.le_of_ble_eq_true rfl⟩ ⟨Nat.zero_le _, Nat.zero_le _⟩ hl.1 dX2_removeMark_33 (fun H locs X => ?_)
        obtain ⟨σ2, eσ2⟩ : ∃ x : St, x = up τ 2 (upI (τ 2) k (σ 2 (k + 3))) := ⟨_, rfl⟩
        rw [← eσ2] at X
        refine r_iinc F hl [(3, .int (I (k + 1))), (0, .ref (gY G 1)), (1, .int (I q)), (2, .int (I (r 61 - 1)))] 3 rfl (by decide) rfl dX2_removeMark_36 (fun ls hl => ?_)
        refine r_goto F 15 (by decide) dX2_removeMark_39 ?_
        exact ih15 (k + 1) σ2 _ _ _ (by omega) (by omega) (by rw [eσ2, hτ, up_eq, up_up, rmp_succ _ (by omega)]) X (lv_sub hl [1, 2, 3, 0] rfl)
  exact loop15 (((48 + 3 * (r 61 - 1) + 0 - (48 + 3 * q + 0) : Int) + 1).toNat) (48 + 3 * q + 0) σ _ _ _ (by omega) (by omega) (by rw [rmp_0, up_self]) X (lv_sub hl [2, 3, 1, 0] rfl)
theorem c_X1_size (l : Launch) (G : GT) (σ : St) : Ct l yX1_size cX1_size 1 (some .int) 1 G [.ref (gY G 3)] σ (QI G (fun res9 τ => res9 = (σ 3 1) ∧ τ = σ)) := by
  refine mt (own := RX1) (plainFor_of_name rfl) rfl (Nat.le_of_ble_eq_true rfl) ?_
  intro p e s m args below meth c ls F hr hk X hl
  have hl : lv_has ls 1 [(0, .ref (gY G 3))] := hl
  refine r_aload_n F hl 0 rfl rfl dX1_size_0 ?_
  refine r_get F X 3 (by decide) (eK_3 G _) rfl gl_RX1 1 (by decide) rfl gf_RX1_15 rfl dX1_size_1 ?_
  exact r_iret F X hr hk dX1_size_4 (⟨rfl, rfl⟩)
theorem c_X1_forget (l : Launch) (G : GT) (σ : St) : Ct l yX1_forget cX1_forget 1 none 1 G [.ref (gY G 3)] σ (QV G (fun τ => τ = up σ 3 (upI (σ 3) 1 0))) := by
  refine mt (own := RX1) (plainFor_of_name rfl) rfl (Nat.le_of_ble_eq_true rfl) ?_
  intro p e s m args below meth c ls F hr hk X hl
  have hl : lv_has ls 1 [(0, .ref (gY G 3))] := hl
  refine r_aload_n F hl 0 rfl rfl dX1_forget_0 ?_
  refine r_iconst F dX1_forget_1 ?_
  refine r_put F X 3 (by decide) (upI (σ 3) 1 0) (eK_3 G _) rfl gl_RX1 tyX1 tyX1_ok nmX1 1 (by decide) rfl gf_RX1_15 rfl (tyX1_ok 1 (by decide)) rfl rfl (Nat.le_of_ble_eq_true rfl) (eK_3 G _) dX1_forget_2 (fun H locs X => ?_)
  obtain ⟨σ1, eσ1⟩ : ∃ x : St, x = up σ 3 (upI (σ 3) 1 0) := ⟨_, rfl⟩
  rw [← eσ1] at X
  exact r_vret F X hr hk dX1_forget_5 (by rw [eσ1])
theorem c_X1_keep (l : Launch) (G : GT) (σ : St) (h1 : 0 ≤ σ 3 1 ∧ σ 3 1 ≤ 20) (h2 : 0 ≤ σ 3 2 ∧ σ 3 2 < 20) : Ct l yX1_keep cX1_keep 2 none 2 G [.ref (gY G 3), .ref (gY G 1)] σ (QV G (fun τ9 => (∀ k : Nat, k ≠ 3 → k ≠ 4 → τ9 k = σ k) ∧ τ9 4 = cpyI (σ 2) (σ 4) 0 (σ 3 2 * 72) 72 ∧ τ9 3 2 = (if σ 3 2 + 1 < 20 then σ 3 2 + 1 else 0) ∧ τ9 3 1 = min (σ 3 1 + 1) 20)) := by
  refine mt (own := RX1) (plainFor_of_name rfl) rfl (Nat.le_of_ble_eq_true rfl) ?_
  intro p e s m args below meth c ls F hr hk X hl
  have hl : lv_has ls 2 [(0, .ref (gY G 3)), (1, .ref (gY G 1))] := hl
  refine r_aload_n F hl 1 rfl rfl dX1_keep_0 ?_
  refine r_aload_n F hl 0 rfl rfl dX1_keep_1 ?_
  refine r_get F X 3 (by decide) (eK_3 G _) rfl gl_RX1 0 (by decide) rfl gf_RX1_11 rfl dX1_keep_2 ?_
  refine r_aload_n F hl 0 rfl rfl dX1_keep_5 ?_
  refine r_get F X 3 (by decide) (eK_3 G _) rfl gl_RX1 2 (by decide) rfl gf_RX1_19 rfl dX1_keep_6 ?_
  refine r_bipush F (by decide) dX1_keep_9 ?_
  refine r_imul F dX1_keep_11 ?_
  refine d_cVV F X 1 (by decide) (eK_1 G _) rfl (c_X2_copyTo l G σ ((σ 3 2) * 72) (by omega)) gv_RX1_22 rfl nd_X2_copyTo rfl (rest := []) rfl (Nat.le_of_ble_eq_true rfl) ⟨Nat.le_of_ble_eq_true rfl, Nat.le_of_ble_eq_true rfl⟩ ⟨Nat.zero_le _, Nat.zero_le _⟩ hl.1 dX1_keep_12 (fun H locs X => ?_)
  obtain ⟨σ1, eσ1⟩ : ∃ x : St, x = up σ 4 (cpyI (σ 2) (σ 4) 0 ((σ 3 2) * 72) 72) := ⟨_, rfl⟩
  rw [← eσ1] at X
  refine r_aload_n F hl 0 rfl rfl dX1_keep_15 ?_
  refine r_aload_n F hl 0 rfl rfl dX1_keep_16 ?_
  refine r_get F X 3 (by decide) (eK_3 G _) rfl gl_RX1 2 (by decide) rfl gf_RX1_19 rfl dX1_keep_17 ?_
  refine r_eqI (b := σ 3 2) (by rw [eσ1, up_ne (by omega)]) ?_
  refine r_iconst F dX1_keep_20 ?_
  refine r_iadd F dX1_keep_21 ?_
  refine r_bipush F (by decide) dX1_keep_22 ?_
  refine r_icmp_ge F 36 (by decide) (by omega) (by omega) dX1_keep_24 (fun c1 => ?_) (fun c1 => ?_)
  · skip
    refine r_iconst F dX1_keep_36 ?_
    refine r_put F X 3 (by decide) (upI (σ1 3) 2 0) (eK_3 G _) rfl gl_RX1 tyX1 tyX1_ok nmX1 2 (by decide) rfl gf_RX1_19 rfl (tyX1_ok 2 (by decide)) rfl rfl (Nat.le_of_ble_eq_true rfl) (eK_3 G _) dX1_keep_37 (fun H locs X => ?_)
    obtain ⟨σ2, eσ2⟩ : ∃ x : St, x = up σ1 3 (upI (σ1 3) 2 0) := ⟨_, rfl⟩
    rw [← eσ2] at X
    refine r_aload_n F hl 0 rfl rfl dX1_keep_40 ?_
    refine r_aload_n F hl 0 rfl rfl dX1_keep_41 ?_
    refine r_get F X 3 (by decide) (eK_3 G _) rfl gl_RX1 1 (by decide) rfl gf_RX1_15 rfl dX1_keep_42 ?_
    refine r_eqI (b := σ 3 1) (by rw [eσ2, up_eq, upI_ne (by omega), eσ1, up_ne (by omega)]) ?_
    refine r_iconst F dX1_keep_45 ?_
    refine r_iadd F dX1_keep_46 ?_
    refine r_bipush F (by decide) dX1_keep_47 ?_
    refine d_cSI F X (c_J9_minI l G σ2 ((σ 3 1) + 1) 20 (by omega) (by omega)) gv_RX1_28 nd_J9_min_7cf53 rfl (rest := [.ref (gY G 3)]) rfl (Nat.le_of_ble_eq_true rfl) ⟨Nat.le_of_ble_eq_true rfl, Nat.le_of_ble_eq_true rfl⟩ ⟨Nat.zero_le _, Nat.zero_le _⟩ hl.1 dX1_keep_49 (fun H locs X => ?_)
    refine r_put F X 3 (by decide) (upI (σ2 3) 1 (min ((σ 3 1) + 1) 20)) (eK_3 G _) rfl gl_RX1 tyX1 tyX1_ok nmX1 1 (by decide) rfl gf_RX1_15 rfl (tyX1_ok 1 (by decide)) rfl rfl (Nat.le_of_ble_eq_true rfl) (eK_3 G _) dX1_keep_52 (fun H locs X => ?_)
    obtain ⟨σ3, eσ3⟩ : ∃ x : St, x = up σ2 3 (upI (σ2 3) 1 (min ((σ 3 1) + 1) 20)) := ⟨_, rfl⟩
    rw [← eσ3] at X
    exact r_vret F X hr hk dX1_keep_55 (by rw [eσ3, eσ2, eσ1]; refine ⟨fun k a b => ?_, ?_, ?_, ?_⟩; (rw [up_ne a, up_ne a, up_ne b]); (rw [up_ne (by omega), up_ne (by omega), up_eq]); (rw [up_eq, upI_ne (by omega), up_eq, upI_eq]; (try rw [up_ne (by omega)]); first | rw [if_pos (by omega)] | rw [if_neg (by omega)]); (rw [up_eq, upI_eq]))
  · skip
    refine r_aload_n F hl 0 rfl rfl dX1_keep_27 ?_
    refine r_get F X 3 (by decide) (eK_3 G _) rfl gl_RX1 2 (by decide) rfl gf_RX1_19 rfl dX1_keep_28 ?_
    refine r_iconst F dX1_keep_31 ?_
    refine r_iadd F dX1_keep_32 ?_
    refine r_goto F 37 (by decide) dX1_keep_33 ?_
    refine r_put F X 3 (by decide) (upI (σ1 3) 2 ((σ1 3 2) + 1)) (eK_3 G _) rfl gl_RX1 tyX1 tyX1_ok nmX1 2 (by decide) rfl gf_RX1_19 rfl (tyX1_ok 2 (by decide)) rfl rfl (Nat.le_of_ble_eq_true rfl) (eK_3 G _) dX1_keep_37 (fun H locs X => ?_)
    obtain ⟨σ4, eσ4⟩ : ∃ x : St, x = up σ1 3 (upI (σ1 3) 2 ((σ1 3 2) + 1)) := ⟨_, rfl⟩
    rw [← eσ4] at X
    refine r_aload_n F hl 0 rfl rfl dX1_keep_40 ?_
    refine r_aload_n F hl 0 rfl rfl dX1_keep_41 ?_
    refine r_get F X 3 (by decide) (eK_3 G _) rfl gl_RX1 1 (by decide) rfl gf_RX1_15 rfl dX1_keep_42 ?_
    refine r_eqI (b := σ 3 1) (by rw [eσ4, up_eq, upI_ne (by omega), eσ1, up_ne (by omega)]) ?_
    refine r_iconst F dX1_keep_45 ?_
    refine r_iadd F dX1_keep_46 ?_
    refine r_bipush F (by decide) dX1_keep_47 ?_
    refine d_cSI F X (c_J9_minI l G σ4 ((σ 3 1) + 1) 20 (by omega) (by omega)) gv_RX1_28 nd_J9_min_7cf53 rfl (rest := [.ref (gY G 3)]) rfl (Nat.le_of_ble_eq_true rfl) ⟨Nat.le_of_ble_eq_true rfl, Nat.le_of_ble_eq_true rfl⟩ ⟨Nat.zero_le _, Nat.zero_le _⟩ hl.1 dX1_keep_49 (fun H locs X => ?_)
    refine r_put F X 3 (by decide) (upI (σ4 3) 1 (min ((σ 3 1) + 1) 20)) (eK_3 G _) rfl gl_RX1 tyX1 tyX1_ok nmX1 1 (by decide) rfl gf_RX1_15 rfl (tyX1_ok 1 (by decide)) rfl rfl (Nat.le_of_ble_eq_true rfl) (eK_3 G _) dX1_keep_52 (fun H locs X => ?_)
    obtain ⟨σ5, eσ5⟩ : ∃ x : St, x = up σ4 3 (upI (σ4 3) 1 (min ((σ 3 1) + 1) 20)) := ⟨_, rfl⟩
    rw [← eσ5] at X
    exact r_vret F X hr hk dX1_keep_55 (by rw [eσ5, eσ4, eσ1]; refine ⟨fun k a b => ?_, ?_, ?_, ?_⟩; (rw [up_ne a, up_ne a, up_ne b]); (rw [up_ne (by omega), up_ne (by omega), up_eq]); (rw [up_eq, upI_ne (by omega), up_eq, upI_eq]; (try rw [up_ne (by omega)]); first | rw [if_pos (by omega)] | rw [if_neg (by omega)]); (rw [up_eq, upI_eq]))
theorem c_X1_restore (l : Launch) (G : GT) (σ : St) (h1 : 0 < σ 3 1 ∧ σ 3 1 ≤ 20) (h2 : 0 ≤ σ 3 2 ∧ σ 3 2 < 20) : Ct l yX1_restore cX1_restore 2 none 2 G [.ref (gY G 3), .ref (gY G 1)] σ (QV G (fun τ9 => (∀ k : Nat, k ≠ 3 → k ≠ 2 → τ9 k = σ k) ∧ τ9 3 2 = (if 0 < σ 3 2 then σ 3 2 - 1 else 19) ∧ τ9 3 1 = σ 3 1 - 1 ∧ τ9 2 = cpyI (σ 4) (σ 2) (τ9 3 2 * 72) 0 72)) := by
  refine mt (own := RX1) (plainFor_of_name rfl) rfl (Nat.le_of_ble_eq_true rfl) ?_
  intro p e s m args below meth c ls F hr hk X hl
  have hl : lv_has ls 2 [(0, .ref (gY G 3)), (1, .ref (gY G 1))] := hl
  refine r_aload_n F hl 0 rfl rfl dX1_restore_0 ?_
  refine r_get F X 3 (by decide) (eK_3 G _) rfl gl_RX1 1 (by decide) rfl gf_RX1_15 rfl dX1_restore_1 ?_
  refine r_if_le F 54 (by decide) (by omega) dX1_restore_4 (fun c1 => ?_) (fun c1 => ?_)
  · omega
  · skip
    refine r_aload_n F hl 0 rfl rfl dX1_restore_7 ?_
    refine r_aload_n F hl 0 rfl rfl dX1_restore_8 ?_
    refine r_get F X 3 (by decide) (eK_3 G _) rfl gl_RX1 2 (by decide) rfl gf_RX1_19 rfl dX1_restore_9 ?_
    refine r_if_le F 24 (by decide) (by omega) dX1_restore_12 (fun c2 => ?_) (fun c2 => ?_)
    · skip
      refine r_bipush F (by decide) dX1_restore_24 ?_
      refine r_put F X 3 (by decide) (upI (σ 3) 2 19) (eK_3 G _) rfl gl_RX1 tyX1 tyX1_ok nmX1 2 (by decide) rfl gf_RX1_19 rfl (tyX1_ok 2 (by decide)) rfl rfl (Nat.le_of_ble_eq_true rfl) (eK_3 G _) dX1_restore_26 (fun H locs X => ?_)
      obtain ⟨σ1, eσ1⟩ : ∃ x : St, x = up σ 3 (upI (σ 3) 2 19) := ⟨_, rfl⟩
      rw [← eσ1] at X
      refine r_aload_n F hl 0 rfl rfl dX1_restore_29 ?_
      refine r_dup F rfl dX1_restore_30 ?_
      refine r_get F X 3 (by decide) (eK_3 G _) rfl gl_RX1 1 (by decide) rfl gf_RX1_15 rfl dX1_restore_31 ?_
      refine r_eqI (b := σ 3 1) (by rw [eσ1, up_eq, upI_ne (by omega)]) ?_
      refine r_iconst F dX1_restore_34 ?_
      refine r_isub F dX1_restore_35 ?_
      refine r_put F X 3 (by decide) (upI (σ1 3) 1 ((σ 3 1) - 1)) (eK_3 G _) rfl gl_RX1 tyX1 tyX1_ok nmX1 1 (by decide) rfl gf_RX1_15 rfl (tyX1_ok 1 (by decide)) rfl rfl (Nat.le_of_ble_eq_true rfl) (eK_3 G _) dX1_restore_36 (fun H locs X => ?_)
      obtain ⟨σ2, eσ2⟩ : ∃ x : St, x = up σ1 3 (upI (σ1 3) 1 ((σ 3 1) - 1)) := ⟨_, rfl⟩
      rw [← eσ2] at X
      refine r_aload_n F hl 1 rfl rfl dX1_restore_39 ?_
      refine r_aload_n F hl 0 rfl rfl dX1_restore_40 ?_
      refine r_get F X 3 (by decide) (eK_3 G _) rfl gl_RX1 0 (by decide) rfl gf_RX1_11 rfl dX1_restore_41 ?_
      refine r_aload_n F hl 0 rfl rfl dX1_restore_44 ?_
      refine r_get F X 3 (by decide) (eK_3 G _) rfl gl_RX1 2 (by decide) rfl gf_RX1_19 rfl dX1_restore_45 ?_
      have hx9 : 0 ≤ σ2 3 2 ∧ σ2 3 2 < 20 := by rw [eσ2, up_eq, upI_ne (by omega), eσ1, up_eq, upI_eq]; omega
      refine r_bipush F (by decide) dX1_restore_48 ?_
      refine r_imul F dX1_restore_50 ?_
      refine d_cVV F X 1 (by decide) (eK_1 G _) rfl (c_X2_copyFrom l G σ2 ((σ2 3 2) * 72) (by omega)) gv_RX1_34 rfl nd_X2_copyFrom rfl (rest := []) rfl (Nat.le_of_ble_eq_true rfl) ⟨Nat.le_of_ble_eq_true rfl, Nat.le_of_ble_eq_true rfl⟩ ⟨Nat.zero_le _, Nat.zero_le _⟩ hl.1 dX1_restore_51 (fun H locs X => ?_)
      obtain ⟨σ3, eσ3⟩ : ∃ x : St, x = up σ2 2 (cpyI (σ2 4) (σ2 2) ((σ2 3 2) * 72) 0 72) := ⟨_, rfl⟩
      rw [← eσ3] at X
      exact r_vret F X hr hk dX1_restore_54 (by rw [eσ3, eσ2, eσ1]; refine ⟨fun k a b => ?_, ?_, ?_, ?_⟩; (rw [up_ne b, up_ne a, up_ne a]); (rw [up_ne (by omega), up_eq, upI_ne (by omega), up_eq, upI_eq]; first | rw [if_pos (by omega)] | rw [if_neg (by omega)]); (rw [up_ne (by omega), up_eq, upI_eq]); (rw [up_eq]; congr 1))
    · skip
      refine r_aload_n F hl 0 rfl rfl dX1_restore_15 ?_
      refine r_get F X 3 (by decide) (eK_3 G _) rfl gl_RX1 2 (by decide) rfl gf_RX1_19 rfl dX1_restore_16 ?_
      refine r_iconst F dX1_restore_19 ?_
      refine r_isub F dX1_restore_20 ?_
      refine r_goto F 26 (by decide) dX1_restore_21 ?_
      refine r_put F X 3 (by decide) (upI (σ 3) 2 ((σ 3 2) - 1)) (eK_3 G _) rfl gl_RX1 tyX1 tyX1_ok nmX1 2 (by decide) rfl gf_RX1_19 rfl (tyX1_ok 2 (by decide)) rfl rfl (Nat.le_of_ble_eq_true rfl) (eK_3 G _) dX1_restore_26 (fun H locs X => ?_)
      obtain ⟨σ4, eσ4⟩ : ∃ x : St, x = up σ 3 (upI (σ 3) 2 ((σ 3 2) - 1)) := ⟨_, rfl⟩
      rw [← eσ4] at X
      refine r_aload_n F hl 0 rfl rfl dX1_restore_29 ?_
      refine r_dup F rfl dX1_restore_30 ?_
      refine r_get F X 3 (by decide) (eK_3 G _) rfl gl_RX1 1 (by decide) rfl gf_RX1_15 rfl dX1_restore_31 ?_
      refine r_eqI (b := σ 3 1) (by rw [eσ4, up_eq, upI_ne (by omega)]) ?_
      refine r_iconst F dX1_restore_34 ?_
      refine r_isub F dX1_restore_35 ?_
      refine r_put F X 3 (by decide) (upI (σ4 3) 1 ((σ 3 1) - 1)) (eK_3 G _) rfl gl_RX1 tyX1 tyX1_ok nmX1 1 (by decide) rfl gf_RX1_15 rfl (tyX1_ok 1 (by decide)) rfl rfl (Nat.le_of_ble_eq_true rfl) (eK_3 G _) dX1_restore_36 (fun H locs X => ?_)
      obtain ⟨σ5, eσ5⟩ : ∃ x : St, x = up σ4 3 (upI (σ4 3) 1 ((σ 3 1) - 1)) := ⟨_, rfl⟩
      rw [← eσ5] at X
      refine r_aload_n F hl 1 rfl rfl dX1_restore_39 ?_
      refine r_aload_n F hl 0 rfl rfl dX1_restore_40 ?_
      refine r_get F X 3 (by decide) (eK_3 G _) rfl gl_RX1 0 (by decide) rfl gf_RX1_11 rfl dX1_restore_41 ?_
      refine r_aload_n F hl 0 rfl rfl dX1_restore_44 ?_
      refine r_get F X 3 (by decide) (eK_3 G _) rfl gl_RX1 2 (by decide) rfl gf_RX1_19 rfl dX1_restore_45 ?_
      have hx9 : 0 ≤ σ5 3 2 ∧ σ5 3 2 < 20 := by rw [eσ5, up_eq, upI_ne (by omega), eσ4, up_eq, upI_eq]; omega
      refine r_bipush F (by decide) dX1_restore_48 ?_
      refine r_imul F dX1_restore_50 ?_
      refine d_cVV F X 1 (by decide) (eK_1 G _) rfl (c_X2_copyFrom l G σ5 ((σ5 3 2) * 72) (by omega)) gv_RX1_34 rfl nd_X2_copyFrom rfl (rest := []) rfl (Nat.le_of_ble_eq_true rfl) ⟨Nat.le_of_ble_eq_true rfl, Nat.le_of_ble_eq_true rfl⟩ ⟨Nat.zero_le _, Nat.zero_le _⟩ hl.1 dX1_restore_51 (fun H locs X => ?_)
      obtain ⟨σ6, eσ6⟩ : ∃ x : St, x = up σ5 2 (cpyI (σ5 4) (σ5 2) ((σ5 3 2) * 72) 0 72) := ⟨_, rfl⟩
      rw [← eσ6] at X
      exact r_vret F X hr hk dX1_restore_54 (by rw [eσ6, eσ5, eσ4]; refine ⟨fun k a b => ?_, ?_, ?_, ?_⟩; (rw [up_ne b, up_ne a, up_ne a]); (rw [up_ne (by omega), up_eq, upI_ne (by omega), up_eq, upI_eq]; first | rw [if_pos (by omega)] | rw [if_neg (by omega)]); (rw [up_ne (by omega), up_eq, upI_eq]); (rw [up_eq]; congr 1))
theorem c_X4_lies1 (l : Launch) (G : GT) (σ : St) (v : Int) (k : Int) (hv : -2147483648 ≤ v ∧ v < 2147483648) (hk2 : -2147483648 ≤ k ∧ k < 2147483648) : Ct l yX4_lies cX4_lies 4 (some .boolean) 1 G [.int (I v), .int (I k), .ref (gT G 1), .ref (gT G 2)] σ (QI G (fun res9 τ => res9 = (if 0 ≤ k ∧ k < 12 ∧ stv 1 k ≤ v ∧ v ≤ stv 2 k then 1 else 0) ∧ τ = σ)) := by
  refine mt (own := RX4) (plainFor_of_name rfl) rfl (Nat.le_of_ble_eq_true rfl) ?_
  intro p e s m args below meth c ls F hr hk X hl
  have hl : lv_has ls 4 [(0, .int (I v)), (1, .int (I k)), (2, .ref (gT G 1)), (3, .ref (gT G 2))] := hl
  refine r_iload_n F hl 1 rfl rfl dX4_lies_0 ?_
  refine r_if_lt F 34 (by decide) (by omega) dX4_lies_1 (fun c1 => ?_) (fun c1 => ?_)
  · skip
    refine r_iconst F dX4_lies_34 ?_
    exact r_zret F X hr hk (by omega) dX4_lies_35 (⟨by first | omega | rw [if_pos (by omega)] | rw [if_neg (by omega)], rfl⟩)
  · skip
    refine r_iload_n F hl 1 rfl rfl dX4_lies_4 ?_
    refine r_aload_n F hl 2 rfl rfl dX4_lies_5 ?_
    refine r_tlen F X 1 (by decide) 12 rfl dX4_lies_6 ?_
    refine r_icmp_ge F 34 (by decide) (by omega) (by omega) dX4_lies_7 (fun c2 => ?_) (fun c2 => ?_)
    · skip
      refine r_iconst F dX4_lies_34 ?_
      exact r_zret F X hr hk (by omega) dX4_lies_35 (⟨by first | omega | rw [if_pos (by omega)] | rw [if_neg (by omega)], rfl⟩)
    · skip
      refine r_iload_n F hl 1 rfl rfl dX4_lies_10 ?_
      refine r_aload_n F hl 3 rfl rfl dX4_lies_11 ?_
      refine r_tlen F X 2 (by decide) 12 rfl dX4_lies_12 ?_
      refine r_icmp_ge F 34 (by decide) (by omega) (by omega) dX4_lies_13 (fun c3 => ?_) (fun c3 => ?_)
      · skip
        refine r_iconst F dX4_lies_34 ?_
        exact r_zret F X hr hk (by omega) dX4_lies_35 (⟨by first | omega | rw [if_pos (by omega)] | rw [if_neg (by omega)], rfl⟩)
      · skip
        have hs1 := stv_rg (i := 1) (by omega) (k := k) (by omega)
        have hs2 := stv_rg (i := 2) (by omega) (k := k) (by omega)
        refine r_iload_n F hl 0 rfl rfl dX4_lies_16 ?_
        refine r_aload_n F hl 2 rfl rfl dX4_lies_17 ?_
        refine r_iload_n F hl 1 rfl rfl dX4_lies_18 ?_
        refine r_tald F X 1 (by decide) (by exact ⟨by omega, by show k < 12; omega⟩) dX4_lies_19 ?_
        refine r_icmp_lt F 34 (by decide) (by omega) (by omega) dX4_lies_20 (fun c4 => ?_) (fun c4 => ?_)
        · skip
          refine r_iconst F dX4_lies_34 ?_
          exact r_zret F X hr hk (by omega) dX4_lies_35 (⟨by first | omega | rw [if_pos (by omega)] | rw [if_neg (by omega)], rfl⟩)
        · skip
          refine r_iload_n F hl 0 rfl rfl dX4_lies_23 ?_
          refine r_aload_n F hl 3 rfl rfl dX4_lies_24 ?_
          refine r_iload_n F hl 1 rfl rfl dX4_lies_25 ?_
          refine r_tald F X 2 (by decide) (by exact ⟨by omega, by show k < 12; omega⟩) dX4_lies_26 ?_
          refine r_icmp_gt F 34 (by decide) (by omega) (by omega) dX4_lies_27 (fun c5 => ?_) (fun c5 => ?_)
          · skip
            refine r_iconst F dX4_lies_34 ?_
            exact r_zret F X hr hk (by omega) dX4_lies_35 (⟨by first | omega | rw [if_pos (by omega)] | rw [if_neg (by omega)], rfl⟩)
          · skip
            refine r_iconst F dX4_lies_30 ?_
            refine r_goto F 35 (by decide) dX4_lies_31 ?_
            exact r_zret F X hr hk (by omega) dX4_lies_35 (⟨by first | omega | rw [if_pos (by omega)] | rw [if_neg (by omega)], rfl⟩)
theorem c_X4_lies3 (l : Launch) (G : GT) (σ : St) (v : Int) (k : Int) (hv : -2147483648 ≤ v ∧ v < 2147483648) (hk2 : -2147483648 ≤ k ∧ k < 2147483648) : Ct l yX4_lies cX4_lies 4 (some .boolean) 1 G [.int (I v), .int (I k), .ref (gT G 3), .ref (gT G 4)] σ (QI G (fun res9 τ => res9 = (if 0 ≤ k ∧ k < 3 ∧ stv 3 k ≤ v ∧ v ≤ stv 4 k then 1 else 0) ∧ τ = σ)) := by
  refine mt (own := RX4) (plainFor_of_name rfl) rfl (Nat.le_of_ble_eq_true rfl) ?_
  intro p e s m args below meth c ls F hr hk X hl
  have hl : lv_has ls 4 [(0, .int (I v)), (1, .int (I k)), (2, .ref (gT G 3)), (3, .ref (gT G 4))] := hl
  refine r_iload_n F hl 1 rfl rfl dX4_lies_0 ?_
  refine r_if_lt F 34 (by decide) (by omega) dX4_lies_1 (fun c1 => ?_) (fun c1 => ?_)
  · skip
    refine r_iconst F dX4_lies_34 ?_
    exact r_zret F X hr hk (by omega) dX4_lies_35 (⟨by first | omega | rw [if_pos (by omega)] | rw [if_neg (by omega)], rfl⟩)
  · skip
    refine r_iload_n F hl 1 rfl rfl dX4_lies_4 ?_
    refine r_aload_n F hl 2 rfl rfl dX4_lies_5 ?_
    refine r_tlen F X 3 (by decide) 3 rfl dX4_lies_6 ?_
    refine r_icmp_ge F 34 (by decide) (by omega) (by omega) dX4_lies_7 (fun c2 => ?_) (fun c2 => ?_)
    · skip
      refine r_iconst F dX4_lies_34 ?_
      exact r_zret F X hr hk (by omega) dX4_lies_35 (⟨by first | omega | rw [if_pos (by omega)] | rw [if_neg (by omega)], rfl⟩)
    · skip
      refine r_iload_n F hl 1 rfl rfl dX4_lies_10 ?_
      refine r_aload_n F hl 3 rfl rfl dX4_lies_11 ?_
      refine r_tlen F X 4 (by decide) 3 rfl dX4_lies_12 ?_
      refine r_icmp_ge F 34 (by decide) (by omega) (by omega) dX4_lies_13 (fun c3 => ?_) (fun c3 => ?_)
      · skip
        refine r_iconst F dX4_lies_34 ?_
        exact r_zret F X hr hk (by omega) dX4_lies_35 (⟨by first | omega | rw [if_pos (by omega)] | rw [if_neg (by omega)], rfl⟩)
      · skip
        have hs1 := stv_rg (i := 3) (by omega) (k := k) (by omega)
        have hs2 := stv_rg (i := 4) (by omega) (k := k) (by omega)
        refine r_iload_n F hl 0 rfl rfl dX4_lies_16 ?_
        refine r_aload_n F hl 2 rfl rfl dX4_lies_17 ?_
        refine r_iload_n F hl 1 rfl rfl dX4_lies_18 ?_
        refine r_tald F X 3 (by decide) (by exact ⟨by omega, by show k < 3; omega⟩) dX4_lies_19 ?_
        refine r_icmp_lt F 34 (by decide) (by omega) (by omega) dX4_lies_20 (fun c4 => ?_) (fun c4 => ?_)
        · skip
          refine r_iconst F dX4_lies_34 ?_
          exact r_zret F X hr hk (by omega) dX4_lies_35 (⟨by first | omega | rw [if_pos (by omega)] | rw [if_neg (by omega)], rfl⟩)
        · skip
          refine r_iload_n F hl 0 rfl rfl dX4_lies_23 ?_
          refine r_aload_n F hl 3 rfl rfl dX4_lies_24 ?_
          refine r_iload_n F hl 1 rfl rfl dX4_lies_25 ?_
          refine r_tald F X 4 (by decide) (by exact ⟨by omega, by show k < 3; omega⟩) dX4_lies_26 ?_
          refine r_icmp_gt F 34 (by decide) (by omega) (by omega) dX4_lies_27 (fun c5 => ?_) (fun c5 => ?_)
          · skip
            refine r_iconst F dX4_lies_34 ?_
            exact r_zret F X hr hk (by omega) dX4_lies_35 (⟨by first | omega | rw [if_pos (by omega)] | rw [if_neg (by omega)], rfl⟩)
          · skip
            refine r_iconst F dX4_lies_30 ?_
            refine r_goto F 35 (by decide) dX4_lies_31 ?_
            exact r_zret F X hr hk (by omega) dX4_lies_35 (⟨by first | omega | rw [if_pos (by omega)] | rw [if_neg (by omega)], rfl⟩)
theorem c_X4_fits (l : Launch) (G : GT) (σ : St) (k : Int) (v : Int) (hv : -2147483648 ≤ v ∧ v < 2147483648) (hk2 : -2147483648 ≤ k ∧ k < 2147483648) : Ct l yX4_fits cX4_fits 2 (some .boolean) 2 G [.int (I k), .int (I v)] σ (QI G (fun res9 τ => res9 = (if 0 ≤ k ∧ k < 12 ∧ stv 1 k ≤ v ∧ v ≤ stv 2 k then 1 else 0) ∧ τ = σ)) := by
  refine mt (own := RX4) (plainFor_of_name rfl) rfl (Nat.le_of_ble_eq_true rfl) ?_
  intro p e s m args below meth c ls F hr hk X hl
  have hl : lv_has ls 2 [(0, .int (I k)), (1, .int (I v))] := hl
  refine r_iload_n F hl 1 rfl rfl dX4_fits_0 ?_
  refine r_iload_n F hl 0 rfl rfl dX4_fits_1 ?_
  refine r_gets F X 1 (by decide) gf_RX4_192 dX4_fits_2 ?_
  refine r_gets F X 2 (by decide) gf_RX4_196 dX4_fits_5 ?_
  refine d_cSI F X (c_X4_lies1 l G σ v k (by omega) (by omega)) gv_RX4_199 nd_X4_lies rfl (rest := []) rfl (Nat.le_of_ble_eq_true rfl) ⟨Nat.le_of_ble_eq_true rfl, Nat.le_of_ble_eq_true rfl⟩ ⟨Nat.zero_le _, Nat.zero_le _⟩ hl.1 dX4_fits_8 (fun H locs X => ?_)
  exact r_zret F X hr hk (by split <;> omega) dX4_fits_11 (⟨rfl, rfl⟩)
theorem c_X4_fitsPart (l : Launch) (G : GT) (σ : St) (k : Int) (v : Int) (hv : -2147483648 ≤ v ∧ v < 2147483648) (hk2 : -2147483648 ≤ k ∧ k < 2147483648) : Ct l yX4_fitsPart cX4_fitsPart 2 (some .boolean) 2 G [.int (I k), .int (I v)] σ (QI G (fun res9 τ => res9 = (if 0 ≤ k ∧ k < 3 ∧ stv 3 k ≤ v ∧ v ≤ stv 4 k then 1 else 0) ∧ τ = σ)) := by
  refine mt (own := RX4) (plainFor_of_name rfl) rfl (Nat.le_of_ble_eq_true rfl) ?_
  intro p e s m args below meth c ls F hr hk X hl
  have hl : lv_has ls 2 [(0, .int (I k)), (1, .int (I v))] := hl
  refine r_iload_n F hl 1 rfl rfl dX4_fitsPart_0 ?_
  refine r_iload_n F hl 0 rfl rfl dX4_fitsPart_1 ?_
  refine r_gets F X 3 (by decide) gf_RX4_203 dX4_fitsPart_2 ?_
  refine r_gets F X 4 (by decide) gf_RX4_206 dX4_fitsPart_5 ?_
  refine d_cSI F X (c_X4_lies3 l G σ v k (by omega) (by omega)) gv_RX4_199 nd_X4_lies rfl (rest := []) rfl (Nat.le_of_ble_eq_true rfl) ⟨Nat.le_of_ble_eq_true rfl, Nat.le_of_ble_eq_true rfl⟩ ⟨Nat.zero_le _, Nat.zero_le _⟩ hl.1 dX4_fitsPart_8 (fun H locs X => ?_)
  exact r_zret F X hr hk (by split <;> omega) dX4_fitsPart_11 (⟨rfl, rfl⟩)
theorem c_X4_isDifference (l : Launch) (G : GT) (σ : St) (k : Int) (hk2 : -2147483648 ≤ k ∧ k < 2147483648) : Ct l yX4_isDifference cX4_isDifference 1 (some .boolean) 1 G [.int (I k)] σ (QI G (fun res9 τ => res9 = (if 1 ≤ k ∧ k ≤ 3 then 1 else 0) ∧ τ = σ)) := by
  refine mt (own := RX4) (plainFor_of_name rfl) rfl (Nat.le_of_ble_eq_true rfl) ?_
  intro p e s m args below meth c ls F hr hk X hl
  have hl : lv_has ls 1 [(0, .int (I k))] := hl
  refine r_iload_n F hl 0 rfl rfl dX4_isDifference_0 ?_
  refine r_iconst F dX4_isDifference_1 ?_
  refine r_icmp_lt F 14 (by decide) (by omega) (by omega) dX4_isDifference_2 (fun c1 => ?_) (fun c1 => ?_)
  · skip
    refine r_iconst F dX4_isDifference_14 ?_
    exact r_zret F X hr hk (by omega) dX4_isDifference_15 (⟨by first | rw [if_pos (by omega)] | rw [if_neg (by omega)], rfl⟩)
  · skip
    refine r_iload_n F hl 0 rfl rfl dX4_isDifference_5 ?_
    refine r_iconst F dX4_isDifference_6 ?_
    refine r_icmp_gt F 14 (by decide) (by omega) (by omega) dX4_isDifference_7 (fun c2 => ?_) (fun c2 => ?_)
    · skip
      refine r_iconst F dX4_isDifference_14 ?_
      exact r_zret F X hr hk (by omega) dX4_isDifference_15 (⟨by first | rw [if_pos (by omega)] | rw [if_neg (by omega)], rfl⟩)
    · skip
      refine r_iconst F dX4_isDifference_10 ?_
      refine r_goto F 15 (by decide) dX4_isDifference_11 ?_
      exact r_zret F X hr hk (by omega) dX4_isDifference_15 (⟨by first | rw [if_pos (by omega)] | rw [if_neg (by omega)], rfl⟩)
theorem c_X0_outdate (l : Launch) (G : GT) (σ : St) : Ct l yX0_outdate cX0_outdate 1 none 1 G [.ref (gY G 31)] σ (QV G (fun τ => τ = up σ 31 (upI (σ 31) 12 0))) := by
  refine mt (own := RX0) (plainFor_of_name rfl) rfl (Nat.le_of_ble_eq_true rfl) ?_
  intro p e s m args below meth c ls F hr hk X hl
  have hl : lv_has ls 1 [(0, .ref (gY G 31))] := hl
  refine r_aload_n F hl 0 rfl rfl dX0_outdate_0 ?_
  refine r_iconst F dX0_outdate_1 ?_
  refine r_put F X 31 (by decide) (upI (σ 31) 12 0) (eK_31 G _) rfl gl_RX0 tyX0 tyX0_ok nmX0 12 (by decide) rfl gf_RX0_33 rfl (tyX0_ok 12 (by decide)) (nzb (by omega)) (nzf (by omega)) (Nat.le_of_ble_eq_true rfl) (eK_31 G _) dX0_outdate_2 (fun H locs X => ?_)
  obtain ⟨σ1, eσ1⟩ : ∃ x : St, x = up σ 31 (upI (σ 31) 12 0) := ⟨_, rfl⟩
  rw [← eσ1] at X
  exact r_vret F X hr hk dX0_outdate_5 (by rw [eσ1])
theorem c_X4_outdate (l : Launch) (G : GT) (σ : St) : Ct l yX4_outdate cX4_outdate 1 none 2 G [.ref (gY G 0)] σ (QV G (fun τ => τ = up (up σ 5 (upI (σ 5) 3 0)) 31 (upI (σ 31) 12 0))) := by
  refine mt (own := RX4) (plainFor_of_name rfl) rfl (Nat.le_of_ble_eq_true rfl) ?_
  intro p e s m args below meth c ls F hr hk X hl
  have hl : lv_has ls 1 [(0, .ref (gY G 0))] := hl
  refine r_aload_n F hl 0 rfl rfl dX4_outdate_0 ?_
  refine r_get F X 0 (by decide) (eK_0 G _) rfl gl_RX4 2 (by decide) rfl gf_RX4_28 rfl dX4_outdate_1 ?_
  refine d_cVV F X 5 (by decide) (eK_P (Or.inl rfl : (5 : Nat) = 5 ∨ (5 : Nat) = 18) G _) rfl (c_X3_outdate l G σ 5 (Or.inl rfl)) gv_RX4_189 rfl nd_X3_outdate rfl (rest := []) rfl (Nat.le_of_ble_eq_true rfl) ⟨Nat.le_of_ble_eq_true rfl, Nat.le_of_ble_eq_true rfl⟩ ⟨Nat.zero_le _, Nat.zero_le _⟩ hl.1 dX4_outdate_4 (fun H locs X => ?_)
  obtain ⟨σ1, eσ1⟩ : ∃ x : St, x = up σ 5 (upI (σ 5) 3 0) := ⟨_, rfl⟩
  rw [← eσ1] at X
  refine r_aload_n F hl 0 rfl rfl dX4_outdate_7 ?_
  refine r_get F X 0 (by decide) (eK_0 G _) rfl gl_RX4 3 (by decide) rfl gf_RX4_37 rfl dX4_outdate_8 ?_
  refine d_cVV F X 31 (by decide) (eK_31 G _) rfl (c_X0_outdate l G σ1 ) gv_RX4_190 rfl nd_X0_outdate rfl (rest := []) rfl (Nat.le_of_ble_eq_true rfl) ⟨Nat.le_of_ble_eq_true rfl, Nat.le_of_ble_eq_true rfl⟩ ⟨Nat.zero_le _, Nat.zero_le _⟩ hl.1 dX4_outdate_11 (fun H locs X => ?_)
  obtain ⟨σ2, eσ2⟩ : ∃ x : St, x = up σ1 31 (upI (σ1 31) 12 0) := ⟨_, rfl⟩
  rw [← eσ2] at X
  exact r_vret F X hr hk dX4_outdate_14 (by rw [eσ2, eσ1, up_ne (by omega)])
theorem c_X4_remember (l : Launch) (G : GT) (σ : St) (N : Int) (r : Int → Int) (n : Int) (hs : Int → Int → Int) (hP : PL σ N r) (hW : WF N r) (hH : HC σ N n hs) : Ct l yX4_remember cX4_remember 1 none 3 G [.ref (gY G 0)] σ (QV G (fun τ9 => RM σ τ9 N r n hs)) := by
  refine mt (own := RX4) (plainFor_of_name rfl) rfl (Nat.le_of_ble_eq_true rfl) ?_
  intro p e s m args below meth c ls F hr hk X hl
  have hl : lv_has ls 1 [(0, .ref (gY G 0))] := hl
  obtain ⟨h1, h2, h3, h4, h5, h6⟩ := id hH
  refine r_aload_n F hl 0 rfl rfl dX4_remember_0 ?_
  refine r_get F X 0 (by decide) (eK_0 G _) rfl gl_RX4 1 (by decide) rfl gf_RX4_19 rfl dX4_remember_1 ?_
  refine r_aload_n F hl 0 rfl rfl dX4_remember_4 ?_
  refine r_get F X 0 (by decide) (eK_0 G _) rfl gl_RX4 0 (by decide) rfl gf_RX4_12 rfl dX4_remember_5 ?_
  refine r_cVV F X 3 (by decide) (eK_3 G _) rfl (c_X1_keep l G σ (by omega) (by omega)) gv_RX4_186 rfl nd_X1_keep rfl (rest := []) rfl (Nat.le_of_ble_eq_true rfl) ⟨Nat.le_of_ble_eq_true rfl, Nat.le_of_ble_eq_true rfl⟩ ⟨Nat.zero_le _, Nat.zero_le _⟩ hl.1 dX4_remember_8 (fun τ1 H locs hk1 X => ?_)
  refine r_aload_n F hl 0 rfl rfl dX4_remember_11 ?_
  refine d_cVV F X 0 (by decide) (eK_0 G _) rfl (c_X4_outdate l G τ1 ) gv_RX4_52 rfl nd_X4_outdate rfl (rest := []) rfl (Nat.le_of_ble_eq_true rfl) ⟨Nat.le_of_ble_eq_true rfl, Nat.le_of_ble_eq_true rfl⟩ ⟨Nat.zero_le _, Nat.zero_le _⟩ hl.1 dX4_remember_12 (fun H locs X => ?_)
  obtain ⟨σ1, eσ1⟩ : ∃ x : St, x = up (up τ1 5 (upI (τ1 5) 3 0)) 31 (upI (τ1 31) 12 0) := ⟨_, rfl⟩
  rw [← eσ1] at X
  exact r_vret F X hr hk dX4_remember_15 (by obtain ⟨k1, k2, k3, k4⟩ := hk1; rw [eσ1]; unfold RM; refine ⟨fun k a b c d => ?_, ?_, ?_, ?_⟩; (rw [up_ne d, up_ne c]; exact k1 k a b); (refine HC.of (hH.keep hP hW k2 k3 (by rw [k4, h1])) ?_ ?_ <;> rw [up_ne (by omega), up_ne (by omega)]); (rw [up_ne (by omega), up_eq, upI_eq]); (rw [up_eq, upI_eq]))
