theorem best_step {N : Int} {r : Int → Int} {x o n9 : Int} (h0 : 0 ≤ x) (ho : (x = 0 ∧ o = -1) ∨ (0 < x ∧ o = amI (lt9 N r) x)) (hn : n9 = (if 0 ≤ o ∧ ¬ lt9 N r x o = true then o else x)) : n9 = amI (lt9 N r) (x + 1) := by
  rcases ho with ⟨a, b⟩ | ⟨a, b⟩
  · rw [hn, if_neg (by omega), a]; exact (amI_1 _).symm
  · have g := amI_rg (lt9 N r) a
    rw [hn, amI_succ _ h0, b]
    by_cases q : lt9 N r x (amI (lt9 N r) x) = true
    · rw [if_neg (fun z => z.2 q), if_pos q]
    · rw [if_pos ⟨g.1, q⟩, if_neg q]
theorem c_X0_compareAll (l : Launch) (G : GT) (σ : St) (N : Int) (r : Int → Int) (K : Int) (hP : PL σ N r) (hW : WF N r) (hwh : whl N r = true) (hK : σ 31 6 = K ∧ K ≤ 6) (hB : BT r (σ 32) K) (h7 : σ 31 7 = max 1 K) (hCE : ∀ j : Int, 0 ≤ j → j < max 1 K → CE σ N r (σ 32) K j) : Ct l yX0_compareAll cX0_compareAll 2 none 5 G [.ref (gY G 31)] σ (QV G (fun τ9 => (∀ c : Nat, c ≠ 31 → τ9 c = σ c) ∧ (∀ i : Int, (i < 8 ∨ 11 < i) → τ9 31 i = σ 31 i) ∧ τ9 31 8 = amI (lt9 N r) (4 ^ K.toNat) ∧ BV τ9 N r)) := by
  refine mt (own := RX0) (plainFor_of_name rfl) rfl (Nat.le_of_ble_eq_true rfl) ?_
  intro p e s m args below meth c ls F hr hk X hl
  have hl : lv_has ls 2 [(0, .ref (gY G 31))] := hl
  have hw := hW.num
  have hK0 := hB.K0
  have hp4 := p4_rg ⟨hK0, hK.2⟩
  refine r_aload_n F hl 0 rfl rfl dX0_compareAll_0 ?_
  refine r_iconst F dX0_compareAll_1 ?_
  refine r_put F X 31 (by decide) (upI (σ 31) 8 (-1)) (eK_31 G _) rfl gl_RX0 tyX0 tyX0_ok nmX0 8 (by decide) rfl gf_RX0_82 rfl (tyX0_ok 8 (by decide)) rfl rfl (Nat.le_of_ble_eq_true rfl) (eK_31 G _) dX0_compareAll_2 (fun H locs X => ?_)
  obtain ⟨σ1, eσ1⟩ : ∃ x9 : St, x9 = up σ 31 (upI (σ 31) 8 (-1)) := ⟨_, rfl⟩
  rw [← eσ1] at X
  refine r_iconst F dX0_compareAll_5 ?_
  refine r_istore_n F hl [(1, .int (I 0)), (0, .ref (gY G 31))] rfl (by decide) rfl dX0_compareAll_6 (fun ls hl => ?_)
  have loop7 : ∀ (n : Nat) (x : Int) (τ : St) (ls : Array Slot) (H : Heap) (locs : List Loc) (hn : 4 ^ K.toNat - x < n) (hx : 0 ≤ x ∧ x ≤ 4 ^ K.toNat) (hfm : ∀ c : Nat, c ≠ 31 → τ c = σ c) (hf1 : ∀ i : Int, (i < 8 ∨ 11 < i) → τ 31 i = σ 31 i) (hs9 : (x = 0 ∧ τ 31 8 = -1) ∨ (0 < x ∧ τ 31 8 = amI (lt9 N r) x ∧ BV τ N r)) (X : HX G τ s H locs) (hl : lv_has ls 2 [(0, .ref (gY G 31)), (1, .int (I x))]), W p l e (rmd 5) s m args below meth c H locs 0 0 (MQ below (QV G (fun τ9 => (∀ c : Nat, c ≠ 31 → τ9 c = σ c) ∧ (∀ i : Int, (i < 8 ∨ 11 < i) → τ9 31 i = σ 31 i) ∧ τ9 31 8 = amI (lt9 N r) (4 ^ K.toNat) ∧ BV τ9 N r)) args s 0 0 (gA G)) (F0 m 7 ls []) := by
    intro n
    induction n with
    | zero => intro x τ ls H locs hn hx hfm hf1 hs9 X hl; omega
    | succ n ih7 =>
      intro x τ ls H locs hn hx hfm hf1 hs9 X hl
      refine r_iload_n F hl 1 rfl rfl dX0_compareAll_7 ?_
      refine r_iconst F dX0_compareAll_8 ?_
      refine r_iconst F dX0_compareAll_9 ?_
      refine r_aload_n F hl 0 rfl rfl dX0_compareAll_10 ?_
      refine r_get F X 31 (by decide) (eK_31 G _) rfl gl_RX0 6 (by decide) rfl gf_RX0_79 rfl dX0_compareAll_11 ?_
      refine r_eqI (b := K) (by rw [hf1 6 (by omega)]; exact hK.1) ?_
      refine r_imul F dX0_compareAll_14 ?_
      refine r_shl1 F (by omega) dX0_compareAll_15 ?_
      refine r_eqI (b := 4 ^ K.toNat) (two4 (by omega)) ?_
      refine r_icmp_ge F 30 (by decide) (by omega) (by omega) dX0_compareAll_16 (fun c1 => ?_) (fun c1 => ?_)
      · skip
        exact r_vret F X hr hk dX0_compareAll_30 (by have hxe : x = 4 ^ K.toNat := (by omega); rw [hxe] at hs9; have q := hs9.resolve_left (fun z => by omega); exact ⟨hfm, hf1, q.2.1, q.2.2⟩)
      · skip
        refine r_aload_n F hl 0 rfl rfl dX0_compareAll_19 ?_
        refine r_iload_n F hl 1 rfl rfl dX0_compareAll_20 ?_
        refine r_cVV F X 31 (by decide) (eK_31 G _) rfl (c_X0_compare l G τ N r K x (by unfold PL; rw [hfm 2 (by omega)]; exact hP) hW hwh (by rw [hf1 6 (by omega)]; exact hK) (by rw [(hfm 32 (by omega))]; exact hB) (by rw [hf1 7 (by omega)]; exact h7) (fun j9 a b => by rw [(hfm 32 (by omega))]; exact (hCE j9 a b).of (fun k k1 i a b => by rw [hfm k (by omega)])) (⟨hx.1, by omega⟩) (hs9.imp (fun q => q.2) (fun q => ⟨by rw [q.2.1]; exact (amI_rg _ q.1).1, by rw [q.2.1]; exact (amI_rg _ q.1).2, q.2.2⟩))) gv_RX0_121 rfl nd_X0_compare rfl (rest := []) rfl (Nat.le_of_ble_eq_true rfl) ⟨Nat.le_of_ble_eq_true rfl, Nat.le_of_ble_eq_true rfl⟩ ⟨Nat.zero_le _, Nat.zero_le _⟩ hl.1 dX0_compareAll_21 (fun τ1 H locs hM X => ?_)
        refine r_iinc F hl [(1, .int (I (x + 1))), (0, .ref (gY G 31))] 1 rfl (by decide) rfl dX0_compareAll_24 (fun ls hl => ?_)
        refine r_goto F 7 (by decide) dX0_compareAll_27 ?_
        exact ih7 (x + 1) τ1 _ _ _ (by omega) (by omega) (by intro c a; rw [hM.1 c a]; exact hfm c a) (by intro i a; rw [hM.2.1 i a]; exact hf1 i a) (by right; exact ⟨by omega, best_step hx.1 (hs9.imp id (fun q => ⟨q.1, q.2.1⟩)) hM.2.2.1, hM.2.2.2⟩) X (lv_sub hl [1, 0] rfl)
  exact loop7 (((4 ^ K.toNat - 0 : Int) + 1).toNat) 0 σ1 _ _ _ (by omega) (by omega) (by intro c a; rw [eσ1, up_ne a]) (by intro i a; rw [eσ1, up_eq, upI_ne (by omega)]) (by left; refine ⟨rfl, ?_⟩; rw [eσ1, up_eq, upI_eq]) X (lv_sub hl [1, 0] rfl)
theorem c_X0_refresh (l : Launch) (G : GT) (σ : St) (N : Int) (r : Int → Int) (hP : PL σ N r) (hW : WF N r) (hwh : whl N r = true) (hm : mvI r (r 60) ≤ 6) (hfr : σ 31 12 = 0 ∨ (σ 31 12 = 1 ∧ CD σ N r)) : Ct l yX0_refresh cX0_refresh 2 none 7 G [.ref (gY G 31)] σ (QV G (fun τ9 => (∀ c : Nat, (c < 18 ∨ 35 < c) → τ9 c = σ c) ∧ τ9 31 12 = 1 ∧ CD τ9 N r)) := by
  refine mt (own := RX0) (plainFor_of_name rfl) rfl (Nat.le_of_ble_eq_true rfl) ?_
  intro p e s m args below meth c ls F hr hk X hl
  have hl : lv_has ls 2 [(0, .ref (gY G 31))] := hl
  have hw := hW.num
  have h6 := cb_le (N := N) hm (by omega)
  refine r_aload_n F hl 0 rfl rfl dX0_refresh_0 ?_
  refine r_get F X 31 (by decide) (eK_31 G _) rfl gl_RX0 12 (by decide) rfl gf_RX0_33 rfl dX0_refresh_1 ?_
  refine r_if_ne F 48 (by decide) (by omega) dX0_refresh_4 (fun c1 => ?_) (fun c1 => ?_)
  · skip
    exact r_vret F X hr hk dX0_refresh_48 (by first | exact ⟨fun _ _ => rfl, (hfr.resolve_left (by assumption)).1, (hfr.resolve_left (by assumption)).2⟩ | exact ⟨fun c q => by rw [hA.1 c (by omega), hfm c (by omega) (by omega) (by omega) (by omega), hs2 c (by omega) (by omega), hF1 c (by omega) (by omega), eσ1, up_ne (by omega)], by rw [hA.2.1 12 (by omega), hfm 31 (by omega) (by omega) (by omega) (by omega), hs2 31 (by omega) (by omega), hF2 12 (by omega) (by omega), eσ1, up_eq, upI_eq], CD.make (K := K) hW hwh (by rw [hA.2.1 6 (by omega), hfm 31 (by omega) (by omega) (by omega) (by omega), hs2 31 (by omega) (by omega)]; exact hKe) hF3 (by rw [hA.1 32 (by omega), h32]; exact hB) hA.2.2.1 hA.2.2.2⟩)
  · skip
    refine r_aload_n F hl 0 rfl rfl dX0_refresh_7 ?_
    refine r_iconst F dX0_refresh_8 ?_
    refine r_put F X 31 (by decide) (upI (σ 31) 12 1) (eK_31 G _) rfl gl_RX0 tyX0 tyX0_ok nmX0 12 (by decide) rfl gf_RX0_33 rfl (tyX0_ok 12 (by decide)) (nzb (by omega)) (nzf (by omega)) (Nat.le_of_ble_eq_true rfl) (eK_31 G _) dX0_refresh_9 (fun H locs X => ?_)
    obtain ⟨σ1, eσ1⟩ : ∃ x9 : St, x9 = up σ 31 (upI (σ 31) 12 1) := ⟨_, rfl⟩
    rw [← eσ1] at X
    refine r_aload_n F hl 0 rfl rfl dX0_refresh_12 ?_
    refine r_cVV F X 31 (by decide) (eK_31 G _) rfl (c_X0_findBent l G σ1 N r (by rw [eσ1]; unfold PL; rw [up_ne (by omega)]; exact hP) hW h6) gv_RX0_37 rfl nd_X0_findBent rfl (rest := []) rfl (Nat.le_of_ble_eq_true rfl) ⟨Nat.le_of_ble_eq_true rfl, Nat.le_of_ble_eq_true rfl⟩ ⟨Nat.zero_le _, Nat.zero_le _⟩ hl.1 dX0_refresh_13 (fun τ1 H locs hF X => ?_)
    obtain ⟨hF1, hF2, hF3, hF4, hB⟩ := hF
    have hP1 : PL τ1 N r := by unfold PL; rw [hF1 2 (by omega) (by omega), eσ1, up_ne (by omega)]; exact hP
    obtain ⟨K, hKe⟩ : ∃ K : Int, τ1 31 6 = K := ⟨_, rfl⟩
    rw [hKe] at hF3 hF4 hB
    have hK0 := hB.K0
    refine r_aload_n F hl 0 rfl rfl dX0_refresh_16 ?_
    refine r_get F X 31 (by decide) (eK_31 G _) rfl gl_RX0 1 (by decide) rfl gf_RX0_29 rfl dX0_refresh_17 ?_
    refine d_cVV F X 18 (by decide) (eK_P (Or.inr rfl : (18 : Nat) = 5 ∨ (18 : Nat) = 18) G _) rfl (c_X3_draw l G τ1 18 N r (Or.inr rfl) (hP1) hW hwh) gv_RX0_40 rfl nd_X3_draw rfl (rest := []) rfl (Nat.le_of_ble_eq_true rfl) ⟨Nat.le_of_ble_eq_true rfl, Nat.le_of_ble_eq_true rfl⟩ ⟨Nat.zero_le _, Nat.zero_le _⟩ hl.1 dX0_refresh_20 (fun H locs X => ?_)
    obtain ⟨σ2, eσ2⟩ : ∃ x9 : St, x9 = up (up τ1 18 (upI (τ1 18) 2 N)) (18 + 2 + 0) (draI (τ1 (18 + 2 + 0)) r (rlw r) (r 60)) := ⟨_, rfl⟩
    rw [← eσ2] at X
    refine r_iconst F dX0_refresh_23 ?_
    refine r_istore_n F hl [(1, .int (I 0)), (0, .ref (gY G 31))] rfl (by decide) rfl dX0_refresh_24 (fun ls hl => ?_)
    have hs2 : ∀ c : Nat, c ≠ 18 → c ≠ 20 → σ2 c = τ1 c := fun c a b => by rw [eσ2, up_ne (by omega), up_ne (by omega)]
    have h18 : σ2 18 2 = N := by rw [eσ2, up_ne (by omega), up_eq, upI_eq]
    have loop25 : ∀ (n : Nat) (j : Int) (τ : St) (ls : Array Slot) (H : Heap) (locs : List Loc) (hn : max 1 K - j < n) (hj : 0 ≤ j ∧ j ≤ max 1 K) (hfm : ∀ c : Nat, (c < 20 ∨ 30 < c) → c ≠ 33 → c ≠ 34 → c ≠ 35 → τ c = σ2 c) (hT : ∃ w : Int → Int, LWS w ∧ EQN (τ (18 + 2 + 0)) (lfW r w) N) (hCE : ∀ j9 : Int, 0 ≤ j9 → j9 < j → CE τ N r (τ1 32) K j9) (X : HX G τ s H locs) (hl : lv_has ls 2 [(0, .ref (gY G 31)), (1, .int (I j))]), W p l e (rmd 7) s m args below meth c H locs 0 0 (MQ below (QV G (fun τ9 => (∀ c : Nat, (c < 18 ∨ 35 < c) → τ9 c = σ c) ∧ τ9 31 12 = 1 ∧ CD τ9 N r)) args s 0 0 (gA G)) (F0 m 25 ls []) := by
      intro n
      induction n with
      | zero => intro j τ ls H locs hn hj hfm hT hCE X hl; omega
      | succ n ih25 =>
        intro j τ ls H locs hn hj hfm hT hCE X hl
        have h32 : τ 32 = τ1 32 := by rw [hfm 32 (by omega) (by omega) (by omega) (by omega), hs2 32 (by omega) (by omega)]
        refine r_iload_n F hl 1 rfl rfl dX0_refresh_25 ?_
        refine r_aload_n F hl 0 rfl rfl dX0_refresh_26 ?_
        refine r_get F X 31 (by decide) (eK_31 G _) rfl gl_RX0 7 (by decide) rfl gf_RX0_45 rfl dX0_refresh_27 ?_
        refine r_eqI (b := max 1 K) (by rw [hfm 31 (by omega) (by omega) (by omega) (by omega), hs2 31 (by omega) (by omega)]; exact hF4) ?_
        refine r_icmp_ge F 44 (by decide) (by omega) (by omega) dX0_refresh_30 (fun c2 => ?_) (fun c2 => ?_)
        · skip
          refine r_aload_n F hl 0 rfl rfl dX0_refresh_44 ?_
          refine r_cVV F X 31 (by decide) (eK_31 G _) rfl (c_X0_compareAll l G τ N r K (by unfold PL; rw [hfm 2 (by omega) (by omega) (by omega) (by omega), hs2 2 (by omega) (by omega)]; exact hP1) hW hwh (by rw [hfm 31 (by omega) (by omega) (by omega) (by omega), hs2 31 (by omega) (by omega)]; exact ⟨hKe, hF3⟩) (by rw [h32]; exact hB) (by rw [hfm 31 (by omega) (by omega) (by omega) (by omega), hs2 31 (by omega) (by omega)]; exact hF4) (fun j9 a b => by rw [h32]; exact hCE j9 a (by omega))) gv_RX0_53 rfl nd_X0_compareAll rfl (rest := []) rfl (Nat.le_of_ble_eq_true rfl) ⟨Nat.le_of_ble_eq_true rfl, Nat.le_of_ble_eq_true rfl⟩ ⟨Nat.zero_le _, Nat.zero_le _⟩ hl.1 dX0_refresh_45 (fun τ3 H locs hA X => ?_)
          exact r_vret F X hr hk dX0_refresh_48 (by first | exact ⟨fun _ _ => rfl, (hfr.resolve_left (by assumption)).1, (hfr.resolve_left (by assumption)).2⟩ | exact ⟨fun c q => by rw [hA.1 c (by omega), hfm c (by omega) (by omega) (by omega) (by omega), hs2 c (by omega) (by omega), hF1 c (by omega) (by omega), eσ1, up_ne (by omega)], by rw [hA.2.1 12 (by omega), hfm 31 (by omega) (by omega) (by omega) (by omega), hs2 31 (by omega) (by omega), hF2 12 (by omega) (by omega), eσ1, up_eq, upI_eq], CD.make (K := K) hW hwh (by rw [hA.2.1 6 (by omega), hfm 31 (by omega) (by omega) (by omega) (by omega), hs2 31 (by omega) (by omega)]; exact hKe) hF3 (by rw [hA.1 32 (by omega), h32]; exact hB) hA.2.2.1 hA.2.2.2⟩)
        · skip
          refine r_aload_n F hl 0 rfl rfl dX0_refresh_33 ?_
          refine r_iload_n F hl 1 rfl rfl dX0_refresh_34 ?_
          refine r_cVV F X 31 (by decide) (eK_31 G _) rfl (c_X0_measureLink l G τ N r K j (by unfold PL; rw [hfm 2 (by omega) (by omega) (by omega) (by omega), hs2 2 (by omega) (by omega)]; exact hP1) hW hwh (by rw [hfm 18 (by omega) (by omega) (by omega) (by omega)]; exact h18) (by rw [hfm 31 (by omega) (by omega) (by omega) (by omega), hs2 31 (by omega) (by omega)]; exact ⟨hKe, hF3⟩) (by rw [h32]; exact hB) (by omega) hT) gv_RX0_49 rfl nd_X0_measureLink rfl (rest := []) rfl (Nat.le_of_ble_eq_true rfl) ⟨Nat.le_of_ble_eq_true rfl, Nat.le_of_ble_eq_true rfl⟩ ⟨Nat.zero_le _, Nat.zero_le _⟩ hl.1 dX0_refresh_35 (fun τ2 H locs hM X => ?_)
          refine r_iinc F hl [(1, .int (I (j + 1))), (0, .ref (gY G 31))] 1 rfl (by decide) rfl dX0_refresh_38 (fun ls hl => ?_)
          refine r_goto F 25 (by decide) dX0_refresh_41 ?_
          exact ih25 (j + 1) τ2 _ _ _ (by omega) (by omega) (by intro c a b d e; rw [hM.1 c a b d e]; exact hfm c a b d e) (by exact hM.2.1) (by intro j9 a b; rcases (show j9 < j ∨ j9 = j by omega) with z | z; exact (hCE j9 a z).of (fun k k1 i c d => hM.2.2.2 k k1 i (by omega)); (rw [z, ← h32]; exact hM.2.2.1)) X (lv_sub hl [1, 0] rfl)
    exact loop25 (((max 1 K - 0 : Int) + 1).toNat) 0 σ2 _ _ _ (by omega) (by omega) (by exact fun _ _ _ _ _ => rfl) (by exact ⟨rlw r, fun s a b => hW.la a b, fun i a b => by rw [eσ2, up_eq]; exact draI_lf _ hW hwh a b⟩) (by intro j9 a b; omega) X (lv_sub hl [1, 0] rfl)
theorem c_X0_lawOf (l : Launch) (G : GT) (σ : St) (N : Int) (r : Int → Int) (s2 : Int) (hP : PL σ N r) (hW : WF N r) (hs : 0 ≤ s2 ∧ s2 < r 60) (hD : CD σ N r) : Ct l yX0_lawOf cX0_lawOf 3 (some .int) 5 G [.ref (gY G 31), .int (I s2)] σ (QI G (fun res9 τ => res9 = (lo σ r s2) ∧ τ = σ)) := by
  refine mt (own := RX0) (plainFor_of_name rfl) rfl (Nat.le_of_ble_eq_true rfl) ?_
  intro p e s m args below meth c ls F hr hk X hl
  have hl : lv_has ls 3 [(0, .ref (gY G 31)), (1, .int (I s2))] := hl
  have hw := hW.num
  obtain ⟨d1, d2, d3, d4, d5, d6⟩ := hD
  refine r_aload_n F hl 0 rfl rfl dX0_lawOf_0 ?_
  refine r_get F X 31 (by decide) (eK_31 G _) rfl gl_RX0 0 (by decide) rfl gf_RX0_25 rfl dX0_lawOf_1 ?_
  refine r_iload_n F hl 1 rfl rfl dX0_lawOf_4 ?_
  refine d_cVI F X 1 (by decide) (eK_1 G _) rfl (c_X2_dwells l G σ N r s2 hP hW (by omega)) gv_RX0_65 rfl nd_X2_dwells rfl (rest := []) rfl (Nat.le_of_ble_eq_true rfl) ⟨Nat.le_of_ble_eq_true rfl, Nat.le_of_ble_eq_true rfl⟩ ⟨Nat.zero_le _, Nat.zero_le _⟩ hl.1 dX0_lawOf_5 (fun H locs X => ?_)
  refine r_bz_eq F 24 (dwl r s2 = true) rfl (by decide) dX0_lawOf_8 (fun c1 => ?_) (fun c1 => ?_)
  · skip
    refine r_iconst F dX0_lawOf_24 ?_
    refine r_istore_n F hl [(2, .int (I 0)), (0, .ref (gY G 31)), (1, .int (I s2))] rfl (by decide) rfl dX0_lawOf_25 (fun ls hl => ?_)
    have loop26 : ∀ (n : Nat) (i : Int) (ls : Array Slot) (H : Heap) (locs : List Loc) (hn : σ 31 6 - i < n) (hi : 0 ≤ i ∧ i ≤ σ 31 6) (hno : ∀ j : Int, 0 ≤ j → j < i → σ 32 j ≠ s2) (X : HX G σ s H locs) (hl : lv_has ls 3 [(0, .ref (gY G 31)), (1, .int (I s2)), (2, .int (I i))]), W p l e (rmd 5) s m args below meth c H locs 0 0 (MQ below (QI G (fun res9 τ => res9 = (lo σ r s2) ∧ τ = σ)) args s 0 0 (gA G)) (F0 m 26 ls []) := by
      intro n
      induction n with
      | zero => intro i ls H locs hn hi hno X hl; omega
      | succ n ih26 =>
        intro i ls H locs hn hi hno X hl
        refine r_iload_n F hl 2 rfl rfl dX0_lawOf_26 ?_
        refine r_aload_n F hl 0 rfl rfl dX0_lawOf_27 ?_
        refine r_get F X 31 (by decide) (eK_31 G _) rfl gl_RX0 6 (by decide) rfl gf_RX0_79 rfl dX0_lawOf_28 ?_
        refine r_icmp_ge F 69 (by decide) (by omega) (by omega) dX0_lawOf_31 (fun c2 => ?_) (fun c2 => ?_)
        · skip
          refine r_iconst F dX0_lawOf_69 ?_
          exact r_iret F X hr hk dX0_lawOf_70 (⟨by unfold lo; rw [if_neg (by assumption), ff_no (bt := σ 32) (fun j a b => hno j a (by omega)), if_pos (by decide)], rfl⟩)
        · skip
          refine r_iload_n F hl 2 rfl rfl dX0_lawOf_34 ?_
          refine r_aload_n F hl 0 rfl rfl dX0_lawOf_35 ?_
          refine r_get F X 31 (by decide) (eK_31 G _) rfl gl_RX0 2 (by decide) rfl gf_RX0_9 rfl dX0_lawOf_36 ?_
          refine r_alen F X 32 (by decide) 0 (eK_32 G _) rfl 6 rfl dX0_lawOf_39 ?_
          refine r_icmp_ge F 69 (by decide) (by omega) (by omega) dX0_lawOf_40 (fun c3 => ?_) (fun c3 => ?_)
          · omega
          · skip
            refine r_aload_n F hl 0 rfl rfl dX0_lawOf_43 ?_
            refine r_get F X 31 (by decide) (eK_31 G _) rfl gl_RX0 2 (by decide) rfl gf_RX0_9 rfl dX0_lawOf_44 ?_
            refine r_iload_n F hl 2 rfl rfl dX0_lawOf_47 ?_
            refine r_iald F X 32 (by decide) (eK_32 G) (by omega) (by decide) dX0_lawOf_48 ?_
            refine r_iload_n F hl 1 rfl rfl dX0_lawOf_49 ?_
            refine r_icmp_ne F 63 (by decide) (by have := d5 i (by omega) (by omega); omega) (by have := d5 i (by omega) (by omega); omega) dX0_lawOf_50 (fun c4 => ?_) (fun c4 => ?_)
            · skip
              refine r_iinc F hl [(2, .int (I (i + 1))), (0, .ref (gY G 31)), (1, .int (I s2))] 2 rfl (by decide) rfl dX0_lawOf_63 (fun ls hl => ?_)
              refine r_goto F 26 (by decide) dX0_lawOf_66 ?_
              exact ih26 (i + 1) _ _ _ (by omega) (by omega) (by intro j a b; rcases (show j < i ∨ j = i by omega) with z | z; exact hno j a z; (rw [z]; omega)) X (lv_sub hl [1, 2, 0] rfl)
            · skip
              refine r_aload_n F hl 0 rfl rfl dX0_lawOf_53 ?_
              refine r_aload_n F hl 0 rfl rfl dX0_lawOf_54 ?_
              refine r_get F X 31 (by decide) (eK_31 G _) rfl gl_RX0 8 (by decide) rfl gf_RX0_82 rfl dX0_lawOf_55 ?_
              refine r_iload_n F hl 2 rfl rfl dX0_lawOf_58 ?_
              refine d_cVI F X 31 (by decide) (eK_31 G _) rfl (c_X0_lawIn l G σ (σ 31 6) (σ 31 8) i (⟨rfl, d1, d2⟩) (by omega) (by omega)) gv_RX0_85 rfl nd_X0_lawIn rfl (rest := []) rfl (Nat.le_of_ble_eq_true rfl) ⟨Nat.le_of_ble_eq_true rfl, Nat.le_of_ble_eq_true rfl⟩ ⟨Nat.zero_le _, Nat.zero_le _⟩ hl.1 dX0_lawOf_59 (fun H locs X => ?_)
              exact r_iret F X hr hk dX0_lawOf_62 (⟨by unfold lo; rw [if_neg (by assumption), ff_lo (bt := σ 32) hi.1 (by omega) (by omega) hno, if_neg (by omega)]; unfold lwn; rw [if_pos (by omega)], rfl⟩)
    exact loop26 (((σ 31 6 - 0 : Int) + 1).toNat) 0 _ _ _ (by omega) (by omega) (by intro j a b; omega) X (lv_sub hl [1, 2, 0] rfl)
  · skip
    refine r_aload_n F hl 0 rfl rfl dX0_lawOf_11 ?_
    refine r_get F X 31 (by decide) (eK_31 G _) rfl gl_RX0 0 (by decide) rfl gf_RX0_25 rfl dX0_lawOf_12 ?_
    refine r_iload_n F hl 1 rfl rfl dX0_lawOf_15 ?_
    refine r_iconst F dX0_lawOf_16 ?_
    refine d_cSI F X (c_X2_placeOf l G σ s2 2) gv_RX0_71 nd_X2_placeOf rfl (rest := [.ref (gY G 1)]) rfl (Nat.le_of_ble_eq_true rfl) ⟨Nat.le_of_ble_eq_true rfl, Nat.le_of_ble_eq_true rfl⟩ ⟨Nat.zero_le _, Nat.zero_le _⟩ hl.1 dX0_lawOf_17 (fun H locs X => ?_)
    refine d_cVI F X 1 (by decide) (eK_1 G _) rfl (c_X2_get l G σ (r (24 + s2)) (12 + 3 * s2 + 2) (by omega) (hP.la (by omega) (by omega))) gv_RX0_75 rfl nd_X2_get rfl (rest := []) rfl (Nat.le_of_ble_eq_true rfl) ⟨Nat.le_of_ble_eq_true rfl, Nat.le_of_ble_eq_true rfl⟩ ⟨Nat.zero_le _, Nat.zero_le _⟩ hl.1 dX0_lawOf_20 (fun H locs X => ?_)
    exact r_iret F X hr hk dX0_lawOf_23 (⟨by unfold lo; rw [if_pos (by assumption)], rfl⟩)
