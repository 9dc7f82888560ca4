def qBest (N : Int) (r : Int → Int) (w : Int) : Int := if whl N r = true ∧ mvI r (r 60) ≤ 6 then (if 0 ≤ w ∧ w < 12 then (if w < r 60 then wy r (bW N r) w else -1) else if w = 12 then wS N r (bW N r) else if w = 13 then wT N r (bW N r) else if w = 14 then (if wG N r (bW N r) = true then 1 else 0) else -1) else -1
theorem PD.of5 {σ τ : St} {N : Int} {r : Int → Int} (h : PD σ 5 N r) (e : ∀ k : Nat, k < 18 → τ k = σ k) : PD τ 5 N r := by
  unfold PD DR DA at *
  rw [e (5 + 2 + 0) (by omega), e 5 (by omega)]
  refine ⟨⟨h.1.1, fun i a b j c => ?_⟩, h.2⟩
  rw [e (5 + 2 + j) (by omega)]
  exact h.1.2 i a b j c
theorem CX.best {σ τ : St} {N : Int} {r : Int → Int} {n : Int} {hs : Int → Int → Int} (h : CX σ N r n hs) (hwh : whl N r = true) (hm : mvI r (r 60) ≤ 6) (e : ∀ c : Nat, (c < 18 ∨ 35 < c) → τ c = σ c) (e12 : τ 31 12 = 1) (hD : CD τ N r) : CX τ N r n hs ∧ KX σ τ := by
  refine ⟨⟨?_, h.2.1, h.2.2.1.of (e 3 (by omega)) (e 4 (by omega)), ?_, Or.inr ⟨e12, hwh, hm, hD⟩⟩, fun k q => e k (by omega)⟩
  · unfold PL; rw [e 2 (by omega)]; exact h.1
  · rw [e 5 (by omega)]
    exact h.2.2.2.1.imp id (fun z => ⟨z.1, z.2.1, z.2.2.of5 (fun k q => e k (by omega))⟩)
theorem c_X4_best (l : Launch) (G : GT) (σ : St) (N : Int) (r : Int → Int) (n : Int) (hs : Int → Int → Int) (w : Int) (hC : CX σ N r n hs) (hw : -2147483648 ≤ w ∧ w < 2147483648) : Ct l yX4_best cX4_best 2 (some .int) 8 G [.ref (gY G 0), .int (I w)] σ (QI G (fun x9 τ9 => x9 = qBest N r w ∧ CX τ9 N r n hs ∧ KX σ τ9)) := by
  refine mt (own := RX4) (plainFor_of_name rfl) rfl (Nat.le_of_ble_eq_true rfl) ?_
  intro p e s m args below meth c ls F hr hk X hl
  have hl : lv_has ls 2 [(0, .ref (gY G 0)), (1, .int (I w))] := hl
  have hP := hC.1
  have hW := hC.2.1
  have hH := hC.2.2.1
  have hw := hW.num
  have hmr := mvI_rg r (s := r 60) (by omega)
  refine r_aload_n F hl 0 rfl rfl dX4_best_0 ?_
  refine r_get F X 0 (by decide) (eK_0 G _) rfl gl_RX4 0 (by decide) rfl gf_RX4_12 rfl dX4_best_1 ?_
  refine d_cVI F X 1 (by decide) (eK_1 G _) rfl (c_X2_isWhole l G σ N r hP hW) gv_RX4_155 rfl nd_X2_isWhole rfl (rest := []) rfl (Nat.le_of_ble_eq_true rfl) ⟨Nat.le_of_ble_eq_true rfl, Nat.le_of_ble_eq_true rfl⟩ ⟨Nat.zero_le _, Nat.zero_le _⟩ hl.1 dX4_best_4 (fun H locs X => ?_)
  refine r_bz_eq F 22 (whl N r = true) rfl (by decide) dX4_best_7 (fun c1 => ?_) (fun c1 => ?_)
  · skip
    refine r_iconst F dX4_best_22 ?_
    exact r_iret F X hr hk dX4_best_23 (⟨by unfold qBest; grind, hC, KX.refl σ⟩)
  · skip
    refine r_aload_n F hl 0 rfl rfl dX4_best_10 ?_
    refine r_get F X 0 (by decide) (eK_0 G _) rfl gl_RX4 0 (by decide) rfl gf_RX4_12 rfl dX4_best_11 ?_
    refine d_cVI F X 1 (by decide) (eK_1 G _) rfl (c_X2_countMoving l G σ N r hP hW) gv_RX4_158 rfl nd_X2_countMoving rfl (rest := []) rfl (Nat.le_of_ble_eq_true rfl) ⟨Nat.le_of_ble_eq_true rfl, Nat.le_of_ble_eq_true rfl⟩ ⟨Nat.zero_le _, Nat.zero_le _⟩ hl.1 dX4_best_14 (fun H locs X => ?_)
    refine r_bipush F (by decide) dX4_best_17 ?_
    refine r_icmp_le F 24 (by decide) (by omega) (by omega) dX4_best_19 (fun c2 => ?_) (fun c2 => ?_)
    · skip
      refine r_aload_n F hl 0 rfl rfl dX4_best_24 ?_
      refine r_get F X 0 (by decide) (eK_0 G _) rfl gl_RX4 3 (by decide) rfl gf_RX4_37 rfl dX4_best_25 ?_
      refine r_cVV F X 31 (by decide) (eK_31 G _) rfl (c_X0_refresh l G σ N r hP hW (by assumption) (by omega) (hC.2.2.2.2.imp id (fun q => ⟨q.1, q.2.2.2⟩))) gv_RX4_161 rfl nd_X0_refresh rfl (rest := []) rfl (Nat.le_of_ble_eq_true rfl) ⟨Nat.le_of_ble_eq_true rfl, Nat.le_of_ble_eq_true rfl⟩ ⟨Nat.zero_le _, Nat.zero_le _⟩ hl.1 dX4_best_28 (fun τ1 H locs hR X => ?_)
      obtain ⟨hC1, hK1⟩ := hC.best (by assumption) (by omega) hR.1 hR.2.1 hR.2.2
      have hP1 := hC1.1
      obtain ⟨d1, d2, d3, d4, d5, d6, d7, d8, d9⟩ := id hR.2.2
      refine r_iload_n F hl 1 rfl rfl dX4_best_31 ?_
      refine r_if_lt F 65 (by decide) (by omega) dX4_best_32 (fun c3 => ?_) (fun c3 => ?_)
      · skip
        refine r_iload_n F hl 1 rfl rfl dX4_best_65 ?_
        rcases (show w = 12 ∨ w = 13 ∨ w = 14 ∨ (w < 12 ∨ 14 < w) by omega) with q1 | q1 | q1 | q1
        · skip
          refine r_tabIn F 12 92 q1 (by decide) (by decide) (by decide) rfl (by decide) dX4_best_66 ?_
          refine r_aload_n F hl 0 rfl rfl dX4_best_92 ?_
          refine r_get F X 0 (by decide) (eK_0 G _) rfl gl_RX4 3 (by decide) rfl gf_RX4_37 rfl dX4_best_93 ?_
          refine d_cVI F X 31 (by decide) (eK_31 G _) rfl (c_X0_second l G τ1 ) gv_RX4_167 rfl nd_X0_second rfl (rest := []) rfl (Nat.le_of_ble_eq_true rfl) ⟨Nat.le_of_ble_eq_true rfl, Nat.le_of_ble_eq_true rfl⟩ ⟨Nat.zero_le _, Nat.zero_le _⟩ hl.1 dX4_best_96 (fun H locs X => ?_)
          refine r_eqI (b := wS N r (bW N r)) (d7) ?_
          exact r_iret F X hr hk dX4_best_99 (⟨by unfold qBest; grind, hC1, hK1⟩)
        · skip
          refine r_tabIn F 13 100 q1 (by decide) (by decide) (by decide) rfl (by decide) dX4_best_66 ?_
          refine r_aload_n F hl 0 rfl rfl dX4_best_100 ?_
          refine r_get F X 0 (by decide) (eK_0 G _) rfl gl_RX4 3 (by decide) rfl gf_RX4_37 rfl dX4_best_101 ?_
          refine d_cVI F X 31 (by decide) (eK_31 G _) rfl (c_X0_third l G τ1 ) gv_RX4_170 rfl nd_X0_third rfl (rest := []) rfl (Nat.le_of_ble_eq_true rfl) ⟨Nat.le_of_ble_eq_true rfl, Nat.le_of_ble_eq_true rfl⟩ ⟨Nat.zero_le _, Nat.zero_le _⟩ hl.1 dX4_best_104 (fun H locs X => ?_)
          refine r_eqI (b := wT N r (bW N r)) (d8) ?_
          exact r_iret F X hr hk dX4_best_107 (⟨by unfold qBest; grind, hC1, hK1⟩)
        · skip
          refine r_tabIn F 14 108 q1 (by decide) (by decide) (by decide) rfl (by decide) dX4_best_66 ?_
          refine r_aload_n F hl 0 rfl rfl dX4_best_108 ?_
          refine r_get F X 0 (by decide) (eK_0 G _) rfl gl_RX4 3 (by decide) rfl gf_RX4_37 rfl dX4_best_109 ?_
          refine d_cVI F X 31 (by decide) (eK_31 G _) rfl (c_X0_isGood l G τ1 (by rw [d9]; split <;> simp)) gv_RX4_173 rfl nd_X0_isGood rfl (rest := []) rfl (Nat.le_of_ble_eq_true rfl) ⟨Nat.le_of_ble_eq_true rfl, Nat.le_of_ble_eq_true rfl⟩ ⟨Nat.zero_le _, Nat.zero_le _⟩ hl.1 dX4_best_112 (fun H locs X => ?_)
          refine r_eqI (b := if wG N r (bW N r) = true then 1 else 0) (d9) ?_
          refine r_bz_eq F 122 (wG N r (bW N r) = true) rfl (by decide) dX4_best_115 (fun c4 => ?_) (fun c4 => ?_)
          · skip
            refine r_iconst F dX4_best_122 ?_
            exact r_iret F X hr hk dX4_best_123 (⟨by unfold qBest; grind, hC1, hK1⟩)
          · skip
            refine r_iconst F dX4_best_118 ?_
            refine r_goto F 123 (by decide) dX4_best_119 ?_
            exact r_iret F X hr hk dX4_best_123 (⟨by unfold qBest; grind, hC1, hK1⟩)
        · skip
          refine r_tabOut F 124 (by omega) q1 (by decide) dX4_best_66 ?_
          refine r_iconst F dX4_best_124 ?_
          exact r_iret F X hr hk dX4_best_125 (⟨by unfold qBest; grind, hC1, hK1⟩)
      · skip
        refine r_iload_n F hl 1 rfl rfl dX4_best_35 ?_
        refine r_bipush F (by decide) dX4_best_36 ?_
        refine r_icmp_ge F 65 (by decide) (by omega) (by omega) dX4_best_38 (fun c5 => ?_) (fun c5 => ?_)
        · skip
          refine r_iload_n F hl 1 rfl rfl dX4_best_65 ?_
          rcases (show w = 12 ∨ w = 13 ∨ w = 14 ∨ (w < 12 ∨ 14 < w) by omega) with q2 | q2 | q2 | q2
          · skip
            refine r_tabIn F 12 92 q2 (by decide) (by decide) (by decide) rfl (by decide) dX4_best_66 ?_
            refine r_aload_n F hl 0 rfl rfl dX4_best_92 ?_
            refine r_get F X 0 (by decide) (eK_0 G _) rfl gl_RX4 3 (by decide) rfl gf_RX4_37 rfl dX4_best_93 ?_
            refine d_cVI F X 31 (by decide) (eK_31 G _) rfl (c_X0_second l G τ1 ) gv_RX4_167 rfl nd_X0_second rfl (rest := []) rfl (Nat.le_of_ble_eq_true rfl) ⟨Nat.le_of_ble_eq_true rfl, Nat.le_of_ble_eq_true rfl⟩ ⟨Nat.zero_le _, Nat.zero_le _⟩ hl.1 dX4_best_96 (fun H locs X => ?_)
            refine r_eqI (b := wS N r (bW N r)) (d7) ?_
            exact r_iret F X hr hk dX4_best_99 (⟨by unfold qBest; grind, hC1, hK1⟩)
          · skip
            refine r_tabIn F 13 100 q2 (by decide) (by decide) (by decide) rfl (by decide) dX4_best_66 ?_
            refine r_aload_n F hl 0 rfl rfl dX4_best_100 ?_
            refine r_get F X 0 (by decide) (eK_0 G _) rfl gl_RX4 3 (by decide) rfl gf_RX4_37 rfl dX4_best_101 ?_
            refine d_cVI F X 31 (by decide) (eK_31 G _) rfl (c_X0_third l G τ1 ) gv_RX4_170 rfl nd_X0_third rfl (rest := []) rfl (Nat.le_of_ble_eq_true rfl) ⟨Nat.le_of_ble_eq_true rfl, Nat.le_of_ble_eq_true rfl⟩ ⟨Nat.zero_le _, Nat.zero_le _⟩ hl.1 dX4_best_104 (fun H locs X => ?_)
            refine r_eqI (b := wT N r (bW N r)) (d8) ?_
            exact r_iret F X hr hk dX4_best_107 (⟨by unfold qBest; grind, hC1, hK1⟩)
          · skip
            refine r_tabIn F 14 108 q2 (by decide) (by decide) (by decide) rfl (by decide) dX4_best_66 ?_
            refine r_aload_n F hl 0 rfl rfl dX4_best_108 ?_
            refine r_get F X 0 (by decide) (eK_0 G _) rfl gl_RX4 3 (by decide) rfl gf_RX4_37 rfl dX4_best_109 ?_
            refine d_cVI F X 31 (by decide) (eK_31 G _) rfl (c_X0_isGood l G τ1 (by rw [d9]; split <;> simp)) gv_RX4_173 rfl nd_X0_isGood rfl (rest := []) rfl (Nat.le_of_ble_eq_true rfl) ⟨Nat.le_of_ble_eq_true rfl, Nat.le_of_ble_eq_true rfl⟩ ⟨Nat.zero_le _, Nat.zero_le _⟩ hl.1 dX4_best_112 (fun H locs X => ?_)
            refine r_eqI (b := if wG N r (bW N r) = true then 1 else 0) (d9) ?_
            refine r_bz_eq F 122 (wG N r (bW N r) = true) rfl (by decide) dX4_best_115 (fun c6 => ?_) (fun c6 => ?_)
            · skip
              refine r_iconst F dX4_best_122 ?_
              exact r_iret F X hr hk dX4_best_123 (⟨by unfold qBest; grind, hC1, hK1⟩)
            · skip
              refine r_iconst F dX4_best_118 ?_
              refine r_goto F 123 (by decide) dX4_best_119 ?_
              exact r_iret F X hr hk dX4_best_123 (⟨by unfold qBest; grind, hC1, hK1⟩)
          · skip
            refine r_tabOut F 124 (by omega) q2 (by decide) dX4_best_66 ?_
            refine r_iconst F dX4_best_124 ?_
            exact r_iret F X hr hk dX4_best_125 (⟨by unfold qBest; grind, hC1, hK1⟩)
        · skip
          refine r_aload_n F hl 0 rfl rfl dX4_best_41 ?_
          refine r_get F X 0 (by decide) (eK_0 G _) rfl gl_RX4 0 (by decide) rfl gf_RX4_12 rfl dX4_best_42 ?_
          refine r_iload_n F hl 1 rfl rfl dX4_best_45 ?_
          refine d_cVI F X 1 (by decide) (eK_1 G _) rfl (c_X2_hasSegment l G τ1 N r w (hP1) hW (by omega)) gv_RX4_69 rfl nd_X2_hasSegment rfl (rest := []) rfl (Nat.le_of_ble_eq_true rfl) ⟨Nat.le_of_ble_eq_true rfl, Nat.le_of_ble_eq_true rfl⟩ ⟨Nat.zero_le _, Nat.zero_le _⟩ hl.1 dX4_best_46 (fun H locs X => ?_)
          refine r_bz_eq F 63 (0 ≤ w ∧ w < r 60) rfl (by decide) dX4_best_49 (fun c7 => ?_) (fun c7 => ?_)
          · skip
            refine r_iconst F dX4_best_63 ?_
            exact r_iret F X hr hk dX4_best_64 (⟨by unfold qBest; grind, hC1, hK1⟩)
          · skip
            refine r_aload_n F hl 0 rfl rfl dX4_best_52 ?_
            refine r_get F X 0 (by decide) (eK_0 G _) rfl gl_RX4 3 (by decide) rfl gf_RX4_37 rfl dX4_best_53 ?_
            refine r_iload_n F hl 1 rfl rfl dX4_best_56 ?_
            refine d_cVI F X 31 (by decide) (eK_31 G _) rfl (c_X0_lawOf l G τ1 N r w (hP1) hW (by omega) (hR.2.2)) gv_RX4_164 rfl nd_X0_lawOf rfl (rest := []) rfl (Nat.le_of_ble_eq_true rfl) ⟨Nat.le_of_ble_eq_true rfl, Nat.le_of_ble_eq_true rfl⟩ ⟨Nat.zero_le _, Nat.zero_le _⟩ hl.1 dX4_best_57 (fun H locs X => ?_)
            refine r_eqI (b := wy r (bW N r) w) (d6 w (by omega) (by omega)) ?_
            refine r_goto F 64 (by decide) dX4_best_60 ?_
            exact r_iret F X hr hk dX4_best_64 (⟨by unfold qBest; grind, hC1, hK1⟩)
    · skip
      refine r_iconst F dX4_best_22 ?_
      exact r_iret F X hr hk dX4_best_23 (⟨by unfold qBest; grind, hC, KX.refl σ⟩)
