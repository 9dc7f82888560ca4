def qOf (r : Int → Int) (s w : Int) : Int := if 0 ≤ s ∧ s < r 60 then (if w = 0 then r s else if w = 1 then r (12 + s) else if w = 2 then r (24 + s) else if w = 3 then og r s else if w = 4 then bgI r s else if w = 5 then (if dwl r s = true then 1 else 0) else -1) else -1
def qLift (N : Int) (r : Int → Int) (i : Int) : Int := if whl N r = true then (if 0 ≤ i ∧ i < N then lfI r i else -1) else -1
def gS (N : Int) (r : Int → Int) (k : Int) : Int := mxI (fun j => mval (lfI r) N r j k.toNat) N
def qMost (N : Int) (r : Int → Int) (k w : Int) : Int := if whl N r = true then (if 1 ≤ k ∧ k ≤ 3 then (if w = 0 then gS N r k else if w = 1 then ffI (fun j => decide (ab (mval (lfI r) N r j k.toNat) = gS N r k)) N else if w = 2 then ctI (fun j => decide (ab (mval (lfI r) N r j k.toNat) = gS N r k)) N else -1) else -1) else -1
def qBorder (N : Int) (r : Int → Int) (s : Int) : Int := if whl N r = true then (if 0 ≤ s ∧ s < r 60 then evq (lfI r) N r (bgI r s) else -1) else -1
def qUnder (N : Int) (r : Int → Int) (i : Int) : Int := if whl N r = true then (if 0 ≤ i ∧ i < N then ucq (r 64) (lfI r) N r i else -1) else -1
def qPress (N : Int) (r : Int → Int) (i : Int) : Int := if whl N r = true then (if 0 ≤ i ∧ i < N then pr (lfI r) N r i else -1) else -1
def qBad (N : Int) (r : Int → Int) (w i : Int) : Int := if whl N r = true then (if 0 ≤ w ∧ w ≤ 3 ∧ -1 ≤ i then (if i = -1 then ctI (bd (lfI r) N r w) N else ffI (fun j => bd (lfI r) N r w j && decide (ctI (bd (lfI r) N r w) j = i)) N) else -1) else -1
def gP (N : Int) (r : Int → Int) : Int := amI (fun x y => decide (pr (lfI r) N r y < pr (lfI r) N r x)) N
def gL (N : Int) (r : Int → Int) : Int := amI (fun x y => decide (lw (lfI r) N y < lw (lfI r) N x)) N
def qTop (N : Int) (r : Int → Int) (w : Int) : Int := if whl N r = true then (if w = 0 then pr (lfI r) N r (gP N r) else if w = 1 then gP N r else if w = 2 then amI (fun x y => decide (fo (lfI r) N r x < fo (lfI r) N r y)) N else if w = 3 then lw (lfI r) N (gL N r) else if w = 4 then gL N r else if w = 5 then smI (fun j => lw (lfI r) N j) N else -1) else -1
def qMet (N : Int) (r : Int → Int) : Int := if whl N r = true then btI (mk (lfI r) r) (r 61) else -1
def qMarked (N : Int) (r : Int → Int) (q w : Int) : Int := if 0 ≤ q ∧ q < r 61 then (if w = 0 then r (36 + q) else if w = 1 then r (44 + q) else if w = 2 then r (52 + q) else if w = 3 then (if whl N r = true then mo (lfI r) r q else -1) else -1) else -1
def qLimit (N : Int) (r : Int → Int) (w : Int) : Int := if whl N r = true then (if w = 0 then pfI (acl (lfI r) N r) 9999 else if w = 1 then (if lbI (lfI r) N r N ≤ 9999 then lbI (lfI r) N r N else -1) else if w = 2 then pfI (fun v => decide (v * v ≤ gqI (lfI r) N r N)) 9999 else -1) else -1
def qCount (N : Int) (r : Int → Int) (n w : Int) : Int := if w = 0 then N else if w = 1 then r 60 else if 2 ≤ w ∧ w ≤ 10 then r (60 + w) else if w = 11 then r 61 else if w = 12 then (if whl N r = true then 1 else 0) else if w = 13 then (if whl N r = true ∧ gd (lfI r) N r = true then 1 else 0) else if w = 14 then n else if w = 15 then bgI r (r 60) else -1
theorem PD.at {τ : St} {N : Int} {r : Int → Int} (h : PD τ 5 N r) (hW : WF N r) {i : Int} (hi : 0 ≤ i ∧ i < N) {k : Nat} (hk : k < 11) : τ (5 + 2 + k) (i % τ 5 2) = mval (lfI r) N r i k := by
  have hw := hW.num
  have hD := h.l (by omega)
  rw [hD.1, em_in hi]; exact hD.2 i hi.1 hi.2 k hk
theorem lwi {f : Int → Int} {N i : Int} (hi : 0 ≤ i ∧ i < N) : lw f N i = f i := by unfold lw; rw [em_in hi]
theorem EQN.gq {f g : Int → Int} {N : Int} (h : EQN f g N) (hN : 0 < N) (r : Int → Int) : gqI f N r = gqI g N r := by
  have hm := h.m hN r; have hv := h.v hN
  funext n; unfold gqI; generalize n.toNat = k
  induction k with
  | zero => rfl
  | succ k ih => unfold gqm; rw [ih, hm.2.2.2.2.1, hv.2.1]
theorem iff_true {C : Prop} {h : Decidable C} {x y : Int} (hc : C) : (if C then x else y) = x := if_pos hc
theorem c_X4_isDrawn (l : Launch) (G : GT) (σ : St) (N : Int) (r : Int → Int) (n : Int) (hs : Int → Int → Int) (hC : CX σ N r n hs) : Ct l yX4_isDrawn cX4_isDrawn 1 (some .boolean) 6 G [.ref (gY G 0)] σ (QI G (fun x9 τ9 => x9 = (if whl N r = true then 1 else 0) ∧ CX τ9 N r n hs ∧ KX σ τ9 ∧ (whl N r = true → τ9 5 3 = 1 ∧ PD τ9 5 N r))) := by
  refine mt (own := RX4) (plainFor_of_name rfl) rfl (Nat.le_of_ble_eq_true rfl) ?_
  intro p e s m args below meth c ls F hr hk X hl
  have hl : lv_has ls 1 [(0, .ref (gY G 0))] := hl
  have hP := hC.1
  have hW := hC.2.1
  have hH := hC.2.2.1
  have hw := hW.num
  refine r_aload_n F hl 0 rfl rfl dX4_isDrawn_0 ?_
  refine r_get F X 0 (by decide) (eK_0 G _) rfl gl_RX4 0 (by decide) rfl gf_RX4_12 rfl dX4_isDrawn_1 ?_
  refine d_cVI F X 1 (by decide) (eK_1 G _) rfl (c_X2_isWhole l G σ N r hP hW) gv_RX4_155 rfl nd_X2_isWhole rfl (rest := []) rfl (Nat.le_of_ble_eq_true rfl) ⟨Nat.le_of_ble_eq_true rfl, Nat.le_of_ble_eq_true rfl⟩ ⟨Nat.zero_le _, Nat.zero_le _⟩ hl.1 dX4_isDrawn_4 (fun H locs X => ?_)
  refine r_bz_ne F 12 (whl N r = true) rfl (by decide) dX4_isDrawn_7 (fun c1 => ?_) (fun c1 => ?_)
  · skip
    refine r_aload_n F hl 0 rfl rfl dX4_isDrawn_12 ?_
    refine r_get F X 0 (by decide) (eK_0 G _) rfl gl_RX4 2 (by decide) rfl gf_RX4_28 rfl dX4_isDrawn_13 ?_
    refine r_cVV F X 5 (by decide) (eK_P (Or.inl rfl : (5 : Nat) = 5 ∨ (5 : Nat) = 18) G _) rfl (c_X3_refresh l G σ 5 N r (Or.inl rfl) hP hW (c1) (hC.2.2.2.1.imp id (fun h9 => ⟨h9.1, h9.2.2⟩))) gv_RX4_191 rfl nd_X3_refresh rfl (rest := []) rfl (Nat.le_of_ble_eq_true rfl) ⟨Nat.le_of_ble_eq_true rfl, Nat.le_of_ble_eq_true rfl⟩ ⟨Nat.zero_le _, Nat.zero_le _⟩ hl.1 dX4_isDrawn_16 (fun τ1 H locs hR X => ?_)
    refine r_iconst F dX4_isDrawn_19 ?_
    exact r_zret F X hr hk (by omega) dX4_isDrawn_20 (⟨(if_pos c1).symm, hC.frame (fun k9 q9 => hR.1 k9 (by omega)) (Or.inr ⟨hR.2.1, c1, hR.2.2⟩), fun k9 q9 => hR.1 k9 (by omega), fun _ => hR.2⟩)
  · skip
    refine r_iconst F dX4_isDrawn_10 ?_
    exact r_zret F X hr hk (by omega) dX4_isDrawn_11 (⟨(if_neg c1).symm, hC, KX.refl σ, fun h9 => absurd h9 c1⟩)
theorem c_X4_of (l : Launch) (G : GT) (σ : St) (N : Int) (r : Int → Int) (n : Int) (hs : Int → Int → Int) (s2 : Int) (w : Int) (hC : CX σ N r n hs) (hs2 : -2147483648 ≤ s2 ∧ s2 < 2147483648) (hw : -2147483648 ≤ w ∧ w < 2147483648) : Ct l yX4_of cX4_of 3 (some .int) 4 G [.ref (gY G 0), .int (I s2), .int (I w)] σ (QI G (fun x9 τ9 => x9 = qOf r s2 w ∧ CX τ9 N r n hs ∧ KX σ τ9)) := by
  refine mt (own := RX4) (plainFor_of_name rfl) rfl (Nat.le_of_ble_eq_true rfl) ?_
  intro p e s m args below meth c ls F hr hk X hl
  have hl : lv_has ls 3 [(0, .ref (gY G 0)), (1, .int (I s2)), (2, .int (I w))] := hl
  have hP := hC.1
  have hW := hC.2.1
  have hH := hC.2.2.1
  have hw := hW.num
  refine r_aload_n F hl 0 rfl rfl dX4_of_0 ?_
  refine r_get F X 0 (by decide) (eK_0 G _) rfl gl_RX4 0 (by decide) rfl gf_RX4_12 rfl dX4_of_1 ?_
  refine r_iload_n F hl 1 rfl rfl dX4_of_4 ?_
  refine d_cVI F X 1 (by decide) (eK_1 G _) rfl (c_X2_hasSegment l G σ N r s2 hP hW (by omega)) gv_RX4_69 rfl nd_X2_hasSegment rfl (rest := []) rfl (Nat.le_of_ble_eq_true rfl) ⟨Nat.le_of_ble_eq_true rfl, Nat.le_of_ble_eq_true rfl⟩ ⟨Nat.zero_le _, Nat.zero_le _⟩ hl.1 dX4_of_5 (fun H locs X => ?_)
  refine r_bz_ne F 13 (0 ≤ s2 ∧ s2 < r 60) rfl (by decide) dX4_of_8 (fun c1 => ?_) (fun c1 => ?_)
  · skip
    refine r_iload_n F hl 2 rfl rfl dX4_of_13 ?_
    rcases (show w = 0 ∨ w = 1 ∨ w = 2 ∨ w = 3 ∨ w = 4 ∨ w = 5 ∨ (w < 0 ∨ 5 < w) by omega) with q1 | q1 | q1 | q1 | q1 | q1 | q1
    · skip
      refine r_tabIn F 0 52 q1 (by decide) (by decide) (by decide) rfl (by decide) dX4_of_14 ?_
      refine r_aload_n F hl 0 rfl rfl dX4_of_52 ?_
      refine r_get F X 0 (by decide) (eK_0 G _) rfl gl_RX4 0 (by decide) rfl gf_RX4_12 rfl dX4_of_53 ?_
      refine r_iload_n F hl 1 rfl rfl dX4_of_56 ?_
      refine r_iload_n F hl 2 rfl rfl dX4_of_57 ?_
      refine d_cSI F X (c_X2_placeOf l G σ s2 w) gv_RX4_65 nd_X2_placeOf rfl (rest := [.ref (gY G 1)]) rfl (Nat.le_of_ble_eq_true rfl) ⟨Nat.le_of_ble_eq_true rfl, Nat.le_of_ble_eq_true rfl⟩ ⟨Nat.zero_le _, Nat.zero_le _⟩ hl.1 dX4_of_58 (fun H locs X => ?_)
      refine d_cVI F X 1 (by decide) (eK_1 G _) rfl (c_X2_get l G σ (qOf r s2 w) (12 + 3 * s2 + w) (by omega) (by unfold qOf; rw [if_pos (by omega)]; rcases (show w = 0 ∨ w = 1 ∨ w = 2 by omega) with h9 | h9 | h9 <;> subst h9; (exact hP.lo (by omega) (by omega)); (exact hP.en (by omega) (by omega)); (exact hP.la (by omega) (by omega)))) gv_RX4_45 rfl nd_X2_get rfl (rest := []) rfl (Nat.le_of_ble_eq_true rfl) ⟨Nat.le_of_ble_eq_true rfl, Nat.le_of_ble_eq_true rfl⟩ ⟨Nat.zero_le _, Nat.zero_le _⟩ hl.1 dX4_of_61 (fun H locs X => ?_)
      exact r_iret F X hr hk dX4_of_64 (⟨rfl, hC, KX.refl σ⟩)
    · skip
      refine r_tabIn F 1 52 q1 (by decide) (by decide) (by decide) rfl (by decide) dX4_of_14 ?_
      refine r_aload_n F hl 0 rfl rfl dX4_of_52 ?_
      refine r_get F X 0 (by decide) (eK_0 G _) rfl gl_RX4 0 (by decide) rfl gf_RX4_12 rfl dX4_of_53 ?_
      refine r_iload_n F hl 1 rfl rfl dX4_of_56 ?_
      refine r_iload_n F hl 2 rfl rfl dX4_of_57 ?_
      refine d_cSI F X (c_X2_placeOf l G σ s2 w) gv_RX4_65 nd_X2_placeOf rfl (rest := [.ref (gY G 1)]) rfl (Nat.le_of_ble_eq_true rfl) ⟨Nat.le_of_ble_eq_true rfl, Nat.le_of_ble_eq_true rfl⟩ ⟨Nat.zero_le _, Nat.zero_le _⟩ hl.1 dX4_of_58 (fun H locs X => ?_)
      refine d_cVI F X 1 (by decide) (eK_1 G _) rfl (c_X2_get l G σ (qOf r s2 w) (12 + 3 * s2 + w) (by omega) (by unfold qOf; rw [if_pos (by omega)]; rcases (show w = 0 ∨ w = 1 ∨ w = 2 by omega) with h9 | h9 | h9 <;> subst h9; (exact hP.lo (by omega) (by omega)); (exact hP.en (by omega) (by omega)); (exact hP.la (by omega) (by omega)))) gv_RX4_45 rfl nd_X2_get rfl (rest := []) rfl (Nat.le_of_ble_eq_true rfl) ⟨Nat.le_of_ble_eq_true rfl, Nat.le_of_ble_eq_true rfl⟩ ⟨Nat.zero_le _, Nat.zero_le _⟩ hl.1 dX4_of_61 (fun H locs X => ?_)
      exact r_iret F X hr hk dX4_of_64 (⟨rfl, hC, KX.refl σ⟩)
    · skip
      refine r_tabIn F 2 52 q1 (by decide) (by decide) (by decide) rfl (by decide) dX4_of_14 ?_
      refine r_aload_n F hl 0 rfl rfl dX4_of_52 ?_
      refine r_get F X 0 (by decide) (eK_0 G _) rfl gl_RX4 0 (by decide) rfl gf_RX4_12 rfl dX4_of_53 ?_
      refine r_iload_n F hl 1 rfl rfl dX4_of_56 ?_
      refine r_iload_n F hl 2 rfl rfl dX4_of_57 ?_
      refine d_cSI F X (c_X2_placeOf l G σ s2 w) gv_RX4_65 nd_X2_placeOf rfl (rest := [.ref (gY G 1)]) rfl (Nat.le_of_ble_eq_true rfl) ⟨Nat.le_of_ble_eq_true rfl, Nat.le_of_ble_eq_true rfl⟩ ⟨Nat.zero_le _, Nat.zero_le _⟩ hl.1 dX4_of_58 (fun H locs X => ?_)
      refine d_cVI F X 1 (by decide) (eK_1 G _) rfl (c_X2_get l G σ (qOf r s2 w) (12 + 3 * s2 + w) (by omega) (by unfold qOf; rw [if_pos (by omega)]; rcases (show w = 0 ∨ w = 1 ∨ w = 2 by omega) with h9 | h9 | h9 <;> subst h9; (exact hP.lo (by omega) (by omega)); (exact hP.en (by omega) (by omega)); (exact hP.la (by omega) (by omega)))) gv_RX4_45 rfl nd_X2_get rfl (rest := []) rfl (Nat.le_of_ble_eq_true rfl) ⟨Nat.le_of_ble_eq_true rfl, Nat.le_of_ble_eq_true rfl⟩ ⟨Nat.zero_le _, Nat.zero_le _⟩ hl.1 dX4_of_61 (fun H locs X => ?_)
      exact r_iret F X hr hk dX4_of_64 (⟨rfl, hC, KX.refl σ⟩)
    · skip
      refine r_tabIn F 3 65 q1 (by decide) (by decide) (by decide) rfl (by decide) dX4_of_14 ?_
      refine r_aload_n F hl 0 rfl rfl dX4_of_65 ?_
      refine r_get F X 0 (by decide) (eK_0 G _) rfl gl_RX4 0 (by decide) rfl gf_RX4_12 rfl dX4_of_66 ?_
      refine r_iload_n F hl 1 rfl rfl dX4_of_69 ?_
      refine d_cVI F X 1 (by decide) (eK_1 G _) rfl (c_X2_origin l G σ N r s2 hP hW (by omega)) gv_RX4_99 rfl nd_X2_origin rfl (rest := []) rfl (Nat.le_of_ble_eq_true rfl) ⟨Nat.le_of_ble_eq_true rfl, Nat.le_of_ble_eq_true rfl⟩ ⟨Nat.zero_le _, Nat.zero_le _⟩ hl.1 dX4_of_70 (fun H locs X => ?_)
      exact r_iret F X hr hk dX4_of_73 (⟨by unfold qOf; grind, hC, KX.refl σ⟩)
    · skip
      refine r_tabIn F 4 74 q1 (by decide) (by decide) (by decide) rfl (by decide) dX4_of_14 ?_
      refine r_aload_n F hl 0 rfl rfl dX4_of_74 ?_
      refine r_get F X 0 (by decide) (eK_0 G _) rfl gl_RX4 0 (by decide) rfl gf_RX4_12 rfl dX4_of_75 ?_
      refine r_iload_n F hl 1 rfl rfl dX4_of_78 ?_
      refine d_cVI F X 1 (by decide) (eK_1 G _) rfl (c_X2_longAheadOf l G σ N r s2 hP hW (by omega)) gv_RX4_102 rfl nd_X2_longAheadOf rfl (rest := []) rfl (Nat.le_of_ble_eq_true rfl) ⟨Nat.le_of_ble_eq_true rfl, Nat.le_of_ble_eq_true rfl⟩ ⟨Nat.zero_le _, Nat.zero_le _⟩ hl.1 dX4_of_79 (fun H locs X => ?_)
      exact r_iret F X hr hk dX4_of_82 (⟨by unfold qOf; grind, hC, KX.refl σ⟩)
    · skip
      refine r_tabIn F 5 83 q1 (by decide) (by decide) (by decide) rfl (by decide) dX4_of_14 ?_
      refine r_aload_n F hl 0 rfl rfl dX4_of_83 ?_
      refine r_get F X 0 (by decide) (eK_0 G _) rfl gl_RX4 0 (by decide) rfl gf_RX4_12 rfl dX4_of_84 ?_
      refine r_iload_n F hl 1 rfl rfl dX4_of_87 ?_
      refine d_cVI F X 1 (by decide) (eK_1 G _) rfl (c_X2_dwells l G σ N r s2 hP hW (by omega)) gv_RX4_105 rfl nd_X2_dwells rfl (rest := []) rfl (Nat.le_of_ble_eq_true rfl) ⟨Nat.le_of_ble_eq_true rfl, Nat.le_of_ble_eq_true rfl⟩ ⟨Nat.zero_le _, Nat.zero_le _⟩ hl.1 dX4_of_88 (fun H locs X => ?_)
      refine r_bz_eq F 98 (dwl r s2 = true) rfl (by decide) dX4_of_91 (fun c2 => ?_) (fun c2 => ?_)
      · skip
        refine r_iconst F dX4_of_98 ?_
        exact r_iret F X hr hk dX4_of_99 (⟨by unfold qOf; grind, hC, KX.refl σ⟩)
      · skip
        refine r_iconst F dX4_of_94 ?_
        refine r_goto F 99 (by decide) dX4_of_95 ?_
        exact r_iret F X hr hk dX4_of_99 (⟨by unfold qOf; grind, hC, KX.refl σ⟩)
    · skip
      refine r_tabOut F 100 (by omega) q1 (by decide) dX4_of_14 ?_
      refine r_iconst F dX4_of_100 ?_
      exact r_iret F X hr hk dX4_of_101 (⟨by unfold qOf; grind, hC, KX.refl σ⟩)
  · skip
    refine r_iconst F dX4_of_11 ?_
    exact r_iret F X hr hk dX4_of_12 (⟨by unfold qOf; grind, hC, KX.refl σ⟩)
theorem c_X4_lift (l : Launch) (G : GT) (σ : St) (N : Int) (r : Int → Int) (n : Int) (hs : Int → Int → Int) (i : Int) (hC : CX σ N r n hs) (hi : -2147483648 ≤ i ∧ i < 2147483648) : Ct l yX4_lift cX4_lift 2 (some .int) 7 G [.ref (gY G 0), .int (I i)] σ (QI G (fun x9 τ9 => x9 = qLift N r i ∧ CX τ9 N r n hs ∧ KX σ τ9)) := by
  refine mt (own := RX4) (plainFor_of_name rfl) rfl (Nat.le_of_ble_eq_true rfl) ?_
  intro p e s m args below meth c ls F hr hk X hl
  have hl : lv_has ls 2 [(0, .ref (gY G 0)), (1, .int (I i))] := hl
  have hP := hC.1
  have hW := hC.2.1
  have hH := hC.2.2.1
  have hw := hW.num
  refine r_aload_n F hl 0 rfl rfl dX4_lift_0 ?_
  refine r_cVI F X 0 (by decide) (eK_0 G _) rfl (c_X4_isDrawn l G σ N r n hs hC) gv_RX4_108 rfl nd_X4_isDrawn rfl (rest := []) rfl (Nat.le_of_ble_eq_true rfl) ⟨Nat.le_of_ble_eq_true rfl, Nat.le_of_ble_eq_true rfl⟩ ⟨Nat.zero_le _, Nat.zero_le _⟩ hl.1 dX4_lift_1 (fun x1 τ1 H locs hI X => ?_)
  obtain ⟨hx1, hC1, hK1, hD1⟩ := hI
  have hP1 := hC1.1
  refine r_eqI (b := if whl N r = true then 1 else 0) (hx1) ?_
  refine r_bz_eq F 31 (whl N r = true) rfl (by decide) dX4_lift_4 (fun c1 => ?_) (fun c1 => ?_)
  · skip
    refine r_iconst F dX4_lift_31 ?_
    exact r_iret F X hr hk dX4_lift_32 (⟨by unfold qLift; grind, hC1, hK1⟩)
  · skip
    have hD2 := (hD1 c1).2
    have hR2 := hD2.l (by omega)
    have hL2 := lfI_LR hW c1
    refine r_aload_n F hl 0 rfl rfl dX4_lift_7 ?_
    refine r_get F X 0 (by decide) (eK_0 G _) rfl gl_RX4 0 (by decide) rfl gf_RX4_12 rfl dX4_lift_8 ?_
    refine r_iload_n F hl 1 rfl rfl dX4_lift_11 ?_
    refine d_cVI F X 1 (by decide) (eK_1 G _) rfl (c_X2_hasStep l G τ1 N r i (hP1) hW (by omega)) gv_RX4_79 rfl nd_X2_hasStep rfl (rest := []) rfl (Nat.le_of_ble_eq_true rfl) ⟨Nat.le_of_ble_eq_true rfl, Nat.le_of_ble_eq_true rfl⟩ ⟨Nat.zero_le _, Nat.zero_le _⟩ hl.1 dX4_lift_12 (fun H locs X => ?_)
    refine r_bz_eq F 31 (0 ≤ i ∧ i < N) rfl (by decide) dX4_lift_15 (fun c2 => ?_) (fun c2 => ?_)
    · skip
      refine r_iconst F dX4_lift_31 ?_
      exact r_iret F X hr hk dX4_lift_32 (⟨by unfold qLift; grind, hC1, hK1⟩)
    · skip
      refine r_aload_n F hl 0 rfl rfl dX4_lift_18 ?_
      refine r_get F X 0 (by decide) (eK_0 G _) rfl gl_RX4 2 (by decide) rfl gf_RX4_28 rfl dX4_lift_19 ?_
      refine r_iconst F dX4_lift_22 ?_
      refine r_iload_n F hl 1 rfl rfl dX4_lift_23 ?_
      refine d_cVJ F X 5 (by decide) (eK_P (Or.inl rfl : (5 : Nat) = 5 ∨ (5 : Nat) = 18) G _) rfl (c_X3_at l G τ1 5 0 i (Or.inl rfl) (by omega) (by rw [hR2.1]; omega) (by rw [hR2.1]; omega)) gv_RX4_112 rfl nd_X3_at rfl (rest := []) rfl (Nat.le_of_ble_eq_true rfl) ⟨Nat.le_of_ble_eq_true rfl, Nat.le_of_ble_eq_true rfl⟩ ⟨Nat.zero_le _, Nat.zero_le _⟩ hl.1 dX4_lift_24 (fun H locs X => ?_)
      refine r_eqJ (b := lfI r i) (by rw [← lwi (f := lfI r) (N := N) (i := i) (by omega)]; exact hD2.at hW (by omega) (k := 0) (by omega)) ?_
      refine r_l2i F dX4_lift_27 ?_
      refine r_goto F 32 (by decide) dX4_lift_28 ?_
      exact r_iret F X hr hk dX4_lift_32 (⟨by unfold qLift; grind, hC1, hK1⟩)
theorem c_X4_undercut (l : Launch) (G : GT) (σ : St) (N : Int) (r : Int → Int) (n : Int) (hs : Int → Int → Int) (i : Int) (hC : CX σ N r n hs) (hi : -2147483648 ≤ i ∧ i < 2147483648) : Ct l yX4_undercut cX4_undercut 2 (some .int) 7 G [.ref (gY G 0), .int (I i)] σ (QI G (fun x9 τ9 => x9 = qUnder N r i ∧ CX τ9 N r n hs ∧ KX σ τ9)) := by
  refine mt (own := RX4) (plainFor_of_name rfl) rfl (Nat.le_of_ble_eq_true rfl) ?_
  intro p e s m args below meth c ls F hr hk X hl
  have hl : lv_has ls 2 [(0, .ref (gY G 0)), (1, .int (I i))] := hl
  have hP := hC.1
  have hW := hC.2.1
  have hH := hC.2.2.1
  have hw := hW.num
  refine r_aload_n F hl 0 rfl rfl dX4_undercut_0 ?_
  refine r_cVI F X 0 (by decide) (eK_0 G _) rfl (c_X4_isDrawn l G σ N r n hs hC) gv_RX4_108 rfl nd_X4_isDrawn rfl (rest := []) rfl (Nat.le_of_ble_eq_true rfl) ⟨Nat.le_of_ble_eq_true rfl, Nat.le_of_ble_eq_true rfl⟩ ⟨Nat.zero_le _, Nat.zero_le _⟩ hl.1 dX4_undercut_1 (fun x1 τ1 H locs hI X => ?_)
  obtain ⟨hx1, hC1, hK1, hD1⟩ := hI
  have hP1 := hC1.1
  refine r_eqI (b := if whl N r = true then 1 else 0) (hx1) ?_
  refine r_bz_eq F 32 (whl N r = true) rfl (by decide) dX4_undercut_4 (fun c1 => ?_) (fun c1 => ?_)
  · skip
    refine r_iconst F dX4_undercut_32 ?_
    exact r_iret F X hr hk dX4_undercut_33 (⟨by unfold qUnder; grind, hC1, hK1⟩)
  · skip
    have hD2 := (hD1 c1).2
    have hR2 := hD2.l (by omega)
    have hL2 := lfI_LR hW c1
    refine r_aload_n F hl 0 rfl rfl dX4_undercut_7 ?_
    refine r_get F X 0 (by decide) (eK_0 G _) rfl gl_RX4 0 (by decide) rfl gf_RX4_12 rfl dX4_undercut_8 ?_
    refine r_iload_n F hl 1 rfl rfl dX4_undercut_11 ?_
    refine d_cVI F X 1 (by decide) (eK_1 G _) rfl (c_X2_hasStep l G τ1 N r i (hP1) hW (by omega)) gv_RX4_79 rfl nd_X2_hasStep rfl (rest := []) rfl (Nat.le_of_ble_eq_true rfl) ⟨Nat.le_of_ble_eq_true rfl, Nat.le_of_ble_eq_true rfl⟩ ⟨Nat.zero_le _, Nat.zero_le _⟩ hl.1 dX4_undercut_12 (fun H locs X => ?_)
    refine r_bz_eq F 32 (0 ≤ i ∧ i < N) rfl (by decide) dX4_undercut_15 (fun c2 => ?_) (fun c2 => ?_)
    · skip
      refine r_iconst F dX4_undercut_32 ?_
      exact r_iret F X hr hk dX4_undercut_33 (⟨by unfold qUnder; grind, hC1, hK1⟩)
    · skip
      refine r_aload_n F hl 0 rfl rfl dX4_undercut_18 ?_
      refine r_get F X 0 (by decide) (eK_0 G _) rfl gl_RX4 2 (by decide) rfl gf_RX4_28 rfl dX4_undercut_19 ?_
      refine r_bipush F (by decide) dX4_undercut_22 ?_
      refine r_iload_n F hl 1 rfl rfl dX4_undercut_24 ?_
      refine d_cVJ F X 5 (by decide) (eK_P (Or.inl rfl : (5 : Nat) = 5 ∨ (5 : Nat) = 18) G _) rfl (c_X3_at l G τ1 5 8 i (Or.inl rfl) (by omega) (by rw [hR2.1]; omega) (by rw [hR2.1]; omega)) gv_RX4_112 rfl nd_X3_at rfl (rest := []) rfl (Nat.le_of_ble_eq_true rfl) ⟨Nat.le_of_ble_eq_true rfl, Nat.le_of_ble_eq_true rfl⟩ ⟨Nat.zero_le _, Nat.zero_le _⟩ hl.1 dX4_undercut_25 (fun H locs X => ?_)
      refine r_eqJ (b := ucq (r 64) (lfI r) N r i) (by exact hD2.at hW (by omega) (k := 8) (by omega)) ?_
      refine r_l2i F dX4_undercut_28 ?_
      refine r_goto F 33 (by decide) dX4_undercut_29 ?_
      exact r_iret F X hr hk dX4_undercut_33 (⟨by unfold qUnder; grind, hC1, hK1⟩)
theorem c_X4_press (l : Launch) (G : GT) (σ : St) (N : Int) (r : Int → Int) (n : Int) (hs : Int → Int → Int) (i : Int) (hC : CX σ N r n hs) (hi : -2147483648 ≤ i ∧ i < 2147483648) : Ct l yX4_press cX4_press 2 (some .int) 7 G [.ref (gY G 0), .int (I i)] σ (QI G (fun x9 τ9 => x9 = qPress N r i ∧ CX τ9 N r n hs ∧ KX σ τ9)) := by
  refine mt (own := RX4) (plainFor_of_name rfl) rfl (Nat.le_of_ble_eq_true rfl) ?_
  intro p e s m args below meth c ls F hr hk X hl
  have hl : lv_has ls 2 [(0, .ref (gY G 0)), (1, .int (I i))] := hl
  have hP := hC.1
  have hW := hC.2.1
  have hH := hC.2.2.1
  have hw := hW.num
  refine r_aload_n F hl 0 rfl rfl dX4_press_0 ?_
  refine r_cVI F X 0 (by decide) (eK_0 G _) rfl (c_X4_isDrawn l G σ N r n hs hC) gv_RX4_108 rfl nd_X4_isDrawn rfl (rest := []) rfl (Nat.le_of_ble_eq_true rfl) ⟨Nat.le_of_ble_eq_true rfl, Nat.le_of_ble_eq_true rfl⟩ ⟨Nat.zero_le _, Nat.zero_le _⟩ hl.1 dX4_press_1 (fun x1 τ1 H locs hI X => ?_)
  obtain ⟨hx1, hC1, hK1, hD1⟩ := hI
  have hP1 := hC1.1
  refine r_eqI (b := if whl N r = true then 1 else 0) (hx1) ?_
  refine r_bz_eq F 32 (whl N r = true) rfl (by decide) dX4_press_4 (fun c1 => ?_) (fun c1 => ?_)
  · skip
    refine r_iconst F dX4_press_32 ?_
    exact r_iret F X hr hk dX4_press_33 (⟨by unfold qPress; grind, hC1, hK1⟩)
  · skip
    have hD2 := (hD1 c1).2
    have hR2 := hD2.l (by omega)
    have hL2 := lfI_LR hW c1
    refine r_aload_n F hl 0 rfl rfl dX4_press_7 ?_
    refine r_get F X 0 (by decide) (eK_0 G _) rfl gl_RX4 0 (by decide) rfl gf_RX4_12 rfl dX4_press_8 ?_
    refine r_iload_n F hl 1 rfl rfl dX4_press_11 ?_
    refine d_cVI F X 1 (by decide) (eK_1 G _) rfl (c_X2_hasStep l G τ1 N r i (hP1) hW (by omega)) gv_RX4_79 rfl nd_X2_hasStep rfl (rest := []) rfl (Nat.le_of_ble_eq_true rfl) ⟨Nat.le_of_ble_eq_true rfl, Nat.le_of_ble_eq_true rfl⟩ ⟨Nat.zero_le _, Nat.zero_le _⟩ hl.1 dX4_press_12 (fun H locs X => ?_)
    refine r_bz_eq F 32 (0 ≤ i ∧ i < N) rfl (by decide) dX4_press_15 (fun c2 => ?_) (fun c2 => ?_)
    · skip
      refine r_iconst F dX4_press_32 ?_
      exact r_iret F X hr hk dX4_press_33 (⟨by unfold qPress; grind, hC1, hK1⟩)
    · skip
      refine r_aload_n F hl 0 rfl rfl dX4_press_18 ?_
      refine r_get F X 0 (by decide) (eK_0 G _) rfl gl_RX4 2 (by decide) rfl gf_RX4_28 rfl dX4_press_19 ?_
      refine r_bipush F (by decide) dX4_press_22 ?_
      refine r_iload_n F hl 1 rfl rfl dX4_press_24 ?_
      refine d_cVJ F X 5 (by decide) (eK_P (Or.inl rfl : (5 : Nat) = 5 ∨ (5 : Nat) = 18) G _) rfl (c_X3_at l G τ1 5 9 i (Or.inl rfl) (by omega) (by rw [hR2.1]; omega) (by rw [hR2.1]; omega)) gv_RX4_112 rfl nd_X3_at rfl (rest := []) rfl (Nat.le_of_ble_eq_true rfl) ⟨Nat.le_of_ble_eq_true rfl, Nat.le_of_ble_eq_true rfl⟩ ⟨Nat.zero_le _, Nat.zero_le _⟩ hl.1 dX4_press_25 (fun H locs X => ?_)
      refine r_eqJ (b := pr (lfI r) N r i) (by exact hD2.at hW (by omega) (k := 9) (by omega)) ?_
      refine r_l2i F dX4_press_28 ?_
      refine r_goto F 33 (by decide) dX4_press_29 ?_
      exact r_iret F X hr hk dX4_press_33 (⟨by unfold qPress; grind, hC1, hK1⟩)
theorem c_X4_most (l : Launch) (G : GT) (σ : St) (N : Int) (r : Int → Int) (n : Int) (hs : Int → Int → Int) (k2 : Int) (w : Int) (hC : CX σ N r n hs) (hk2 : -2147483648 ≤ k2 ∧ k2 < 2147483648) (hw : -2147483648 ≤ w ∧ w < 2147483648) : Ct l yX4_most cX4_most 3 (some .int) 7 G [.ref (gY G 0), .int (I k2), .int (I w)] σ (QI G (fun x9 τ9 => x9 = qMost N r k2 w ∧ CX τ9 N r n hs ∧ KX σ τ9)) := by
  refine mt (own := RX4) (plainFor_of_name rfl) rfl (Nat.le_of_ble_eq_true rfl) ?_
  intro p e s m args below meth c ls F hr hk X hl
  have hl : lv_has ls 3 [(0, .ref (gY G 0)), (1, .int (I k2)), (2, .int (I w))] := hl
  have hP := hC.1
  have hW := hC.2.1
  have hH := hC.2.2.1
  have hw := hW.num
  refine r_iload_n F hl 1 rfl rfl dX4_most_0 ?_
  refine d_cSI F X (c_X4_isDifference l G σ k2 (by omega)) gv_RX4_116 nd_X4_isDifference rfl (rest := []) rfl (Nat.le_of_ble_eq_true rfl) ⟨Nat.le_of_ble_eq_true rfl, Nat.le_of_ble_eq_true rfl⟩ ⟨Nat.zero_le _, Nat.zero_le _⟩ hl.1 dX4_most_1 (fun H locs X => ?_)
  refine r_bz_eq F 14 (1 ≤ k2 ∧ k2 ≤ 3) rfl (by decide) dX4_most_4 (fun c1 => ?_) (fun c1 => ?_)
  · skip
    refine r_iconst F dX4_most_14 ?_
    exact r_iret F X hr hk dX4_most_15 (⟨by unfold qMost; grind, by first | exact hC1 | exact hC, by first | exact hK1 | exact KX.refl σ⟩)
  · skip
    refine r_aload_n F hl 0 rfl rfl dX4_most_7 ?_
    refine r_cVI F X 0 (by decide) (eK_0 G _) rfl (c_X4_isDrawn l G σ N r n hs hC) gv_RX4_108 rfl nd_X4_isDrawn rfl (rest := []) rfl (Nat.le_of_ble_eq_true rfl) ⟨Nat.le_of_ble_eq_true rfl, Nat.le_of_ble_eq_true rfl⟩ ⟨Nat.zero_le _, Nat.zero_le _⟩ hl.1 dX4_most_8 (fun x1 τ1 H locs hI X => ?_)
    obtain ⟨hx1, hC1, hK1, hD1⟩ := hI
    have hP1 := hC1.1
    refine r_eqI (b := if whl N r = true then 1 else 0) (hx1) ?_
    refine r_bz_ne F 16 (whl N r = true) rfl (by decide) dX4_most_11 (fun c2 => ?_) (fun c2 => ?_)
    · skip
      have hD2 := (hD1 c2).2
      have hR2 := hD2.l (by omega)
      have hL2 := lfI_LR hW c2
      obtain ⟨k9, ek9⟩ : ∃ k9 : Nat, k2 = (k9 : Int) := ⟨k2.toNat, by omega⟩
      subst ek9
      have hz9 : 0 ≤ mxI (fun j => mval (lfI r) N r j k9) N ∧ mxI (fun j => mval (lfI r) N r j k9) N ≤ 3996 := mxI_rg (by omega) (fun j => mval_rg hL2 (by omega) j (by omega))
      refine r_iload_n F hl 2 rfl rfl dX4_most_16 ?_
      rcases (show w = 0 ∨ w = 1 ∨ w = 2 ∨ (w < 0 ∨ 2 < w) by omega) with q1 | q1 | q1 | q1
      · skip
        refine r_tabIn F 0 44 q1 (by decide) (by decide) (by decide) rfl (by decide) dX4_most_17 ?_
        refine r_aload_n F hl 0 rfl rfl dX4_most_44 ?_
        refine r_get F X 0 (by decide) (eK_0 G _) rfl gl_RX4 2 (by decide) rfl gf_RX4_28 rfl dX4_most_45 ?_
        refine r_iload_n F hl 1 rfl rfl dX4_most_48 ?_
        refine d_cVI F X 5 (by decide) (eK_P (Or.inl rfl : (5 : Nat) = 5 ∨ (5 : Nat) = 18) G _) rfl (c_X3_greatestSize l G τ1 5 N r (lfI r) k9 (Or.inl rfl) (hP1) hW (hR2) (hL2) (by omega)) gv_RX4_122 rfl nd_X3_greatestSize rfl (rest := []) rfl (Nat.le_of_ble_eq_true rfl) ⟨Nat.le_of_ble_eq_true rfl, Nat.le_of_ble_eq_true rfl⟩ ⟨Nat.zero_le _, Nat.zero_le _⟩ hl.1 dX4_most_49 (fun H locs X => ?_)
        exact r_iret F X hr hk dX4_most_52 (⟨by unfold qMost gS; simp only [Int.toNat_natCast]; grind, hC1, hK1⟩)
      · skip
        refine r_tabIn F 1 53 q1 (by decide) (by decide) (by decide) rfl (by decide) dX4_most_17 ?_
        refine r_aload_n F hl 0 rfl rfl dX4_most_53 ?_
        refine r_get F X 0 (by decide) (eK_0 G _) rfl gl_RX4 2 (by decide) rfl gf_RX4_28 rfl dX4_most_54 ?_
        refine r_iload_n F hl 1 rfl rfl dX4_most_57 ?_
        refine r_aload_n F hl 0 rfl rfl dX4_most_58 ?_
        refine r_get F X 0 (by decide) (eK_0 G _) rfl gl_RX4 2 (by decide) rfl gf_RX4_28 rfl dX4_most_59 ?_
        refine r_iload_n F hl 1 rfl rfl dX4_most_62 ?_
        refine d_cVI F X 5 (by decide) (eK_P (Or.inl rfl : (5 : Nat) = 5 ∨ (5 : Nat) = 18) G _) rfl (c_X3_greatestSize l G τ1 5 N r (lfI r) k9 (Or.inl rfl) (hP1) hW (hR2) (hL2) (by omega)) gv_RX4_122 rfl nd_X3_greatestSize rfl (rest := [.int (I (k9 : Int)), .ref (gY G 5)]) rfl (Nat.le_of_ble_eq_true rfl) ⟨Nat.le_of_ble_eq_true rfl, Nat.le_of_ble_eq_true rfl⟩ ⟨Nat.zero_le _, Nat.zero_le _⟩ hl.1 dX4_most_63 (fun H locs X => ?_)
        refine d_cVI F X 5 (by decide) (eK_P (Or.inl rfl : (5 : Nat) = 5 ∨ (5 : Nat) = 18) G _) rfl (c_X3_firstOfSize l G τ1 5 N r (lfI r) k9 (mxI (fun j => mval (lfI r) N r j k9) N) (Or.inl rfl) (hP1) hW (hR2) (hL2) (by omega) (hz9)) gv_RX4_125 rfl nd_X3_firstOfSize rfl (rest := []) rfl (Nat.le_of_ble_eq_true rfl) ⟨Nat.le_of_ble_eq_true rfl, Nat.le_of_ble_eq_true rfl⟩ ⟨Nat.zero_le _, Nat.zero_le _⟩ hl.1 dX4_most_66 (fun H locs X => ?_)
        exact r_iret F X hr hk dX4_most_69 (⟨by unfold qMost gS; simp only [Int.toNat_natCast]; grind, hC1, hK1⟩)
      · skip
        refine r_tabIn F 2 70 q1 (by decide) (by decide) (by decide) rfl (by decide) dX4_most_17 ?_
        refine r_aload_n F hl 0 rfl rfl dX4_most_70 ?_
        refine r_get F X 0 (by decide) (eK_0 G _) rfl gl_RX4 2 (by decide) rfl gf_RX4_28 rfl dX4_most_71 ?_
        refine r_iload_n F hl 1 rfl rfl dX4_most_74 ?_
        refine r_aload_n F hl 0 rfl rfl dX4_most_75 ?_
        refine r_get F X 0 (by decide) (eK_0 G _) rfl gl_RX4 2 (by decide) rfl gf_RX4_28 rfl dX4_most_76 ?_
        refine r_iload_n F hl 1 rfl rfl dX4_most_79 ?_
        refine d_cVI F X 5 (by decide) (eK_P (Or.inl rfl : (5 : Nat) = 5 ∨ (5 : Nat) = 18) G _) rfl (c_X3_greatestSize l G τ1 5 N r (lfI r) k9 (Or.inl rfl) (hP1) hW (hR2) (hL2) (by omega)) gv_RX4_122 rfl nd_X3_greatestSize rfl (rest := [.int (I (k9 : Int)), .ref (gY G 5)]) rfl (Nat.le_of_ble_eq_true rfl) ⟨Nat.le_of_ble_eq_true rfl, Nat.le_of_ble_eq_true rfl⟩ ⟨Nat.zero_le _, Nat.zero_le _⟩ hl.1 dX4_most_80 (fun H locs X => ?_)
        refine d_cVI F X 5 (by decide) (eK_P (Or.inl rfl : (5 : Nat) = 5 ∨ (5 : Nat) = 18) G _) rfl (c_X3_timesOfSize l G τ1 5 N r (lfI r) k9 (mxI (fun j => mval (lfI r) N r j k9) N) (Or.inl rfl) (hP1) hW (hR2) (hL2) (by omega) (hz9)) gv_RX4_128 rfl nd_X3_timesOfSize rfl (rest := []) rfl (Nat.le_of_ble_eq_true rfl) ⟨Nat.le_of_ble_eq_true rfl, Nat.le_of_ble_eq_true rfl⟩ ⟨Nat.zero_le _, Nat.zero_le _⟩ hl.1 dX4_most_83 (fun H locs X => ?_)
        exact r_iret F X hr hk dX4_most_86 (⟨by unfold qMost gS; simp only [Int.toNat_natCast]; grind, hC1, hK1⟩)
      · skip
        refine r_tabOut F 87 (by omega) q1 (by decide) dX4_most_17 ?_
        refine r_iconst F dX4_most_87 ?_
        exact r_iret F X hr hk dX4_most_88 (⟨by unfold qMost gS; simp only [Int.toNat_natCast]; grind, hC1, hK1⟩)
    · skip
      refine r_iconst F dX4_most_14 ?_
      exact r_iret F X hr hk dX4_most_15 (⟨by unfold qMost; grind, by first | exact hC1 | exact hC, by first | exact hK1 | exact KX.refl σ⟩)
theorem c_X4_border (l : Launch) (G : GT) (σ : St) (N : Int) (r : Int → Int) (n : Int) (hs : Int → Int → Int) (s2 : Int) (hC : CX σ N r n hs) (hs2 : -2147483648 ≤ s2 ∧ s2 < 2147483648) : Ct l yX4_border cX4_border 2 (some .int) 7 G [.ref (gY G 0), .int (I s2)] σ (QI G (fun x9 τ9 => x9 = qBorder N r s2 ∧ CX τ9 N r n hs ∧ KX σ τ9)) := by
  refine mt (own := RX4) (plainFor_of_name rfl) rfl (Nat.le_of_ble_eq_true rfl) ?_
  intro p e s m args below meth c ls F hr hk X hl
  have hl : lv_has ls 2 [(0, .ref (gY G 0)), (1, .int (I s2))] := hl
  have hP := hC.1
  have hW := hC.2.1
  have hH := hC.2.2.1
  have hw := hW.num
  refine r_aload_n F hl 0 rfl rfl dX4_border_0 ?_
  refine r_get F X 0 (by decide) (eK_0 G _) rfl gl_RX4 0 (by decide) rfl gf_RX4_12 rfl dX4_border_1 ?_
  refine r_iload_n F hl 1 rfl rfl dX4_border_4 ?_
  refine d_cVI F X 1 (by decide) (eK_1 G _) rfl (c_X2_hasSegment l G σ N r s2 hP hW (by omega)) gv_RX4_69 rfl nd_X2_hasSegment rfl (rest := []) rfl (Nat.le_of_ble_eq_true rfl) ⟨Nat.le_of_ble_eq_true rfl, Nat.le_of_ble_eq_true rfl⟩ ⟨Nat.zero_le _, Nat.zero_le _⟩ hl.1 dX4_border_5 (fun H locs X => ?_)
  refine r_bz_eq F 18 (0 ≤ s2 ∧ s2 < r 60) rfl (by decide) dX4_border_8 (fun c1 => ?_) (fun c1 => ?_)
  · skip
    refine r_iconst F dX4_border_18 ?_
    exact r_iret F X hr hk dX4_border_19 (⟨by unfold qBorder; grind, by first | exact hC1 | exact hC, by first | exact hK1 | exact KX.refl σ⟩)
  · skip
    refine r_aload_n F hl 0 rfl rfl dX4_border_11 ?_
    refine r_cVI F X 0 (by decide) (eK_0 G _) rfl (c_X4_isDrawn l G σ N r n hs hC) gv_RX4_108 rfl nd_X4_isDrawn rfl (rest := []) rfl (Nat.le_of_ble_eq_true rfl) ⟨Nat.le_of_ble_eq_true rfl, Nat.le_of_ble_eq_true rfl⟩ ⟨Nat.zero_le _, Nat.zero_le _⟩ hl.1 dX4_border_12 (fun x1 τ1 H locs hI X => ?_)
    obtain ⟨hx1, hC1, hK1, hD1⟩ := hI
    have hP1 := hC1.1
    refine r_eqI (b := if whl N r = true then 1 else 0) (hx1) ?_
    refine r_bz_ne F 20 (whl N r = true) rfl (by decide) dX4_border_15 (fun c2 => ?_) (fun c2 => ?_)
    · skip
      have hD2 := (hD1 c2).2
      have hR2 := hD2.l (by omega)
      have hL2 := lfI_LR hW c2
      refine r_aload_n F hl 0 rfl rfl dX4_border_20 ?_
      refine r_get F X 0 (by decide) (eK_0 G _) rfl gl_RX4 2 (by decide) rfl gf_RX4_28 rfl dX4_border_21 ?_
      refine r_aload_n F hl 0 rfl rfl dX4_border_24 ?_
      refine r_get F X 0 (by decide) (eK_0 G _) rfl gl_RX4 0 (by decide) rfl gf_RX4_12 rfl dX4_border_25 ?_
      refine r_iload_n F hl 1 rfl rfl dX4_border_28 ?_
      refine d_cVI F X 1 (by decide) (eK_1 G _) rfl (c_X2_longAheadOf l G τ1 N r s2 (hP1) hW (by omega)) gv_RX4_102 rfl nd_X2_longAheadOf rfl (rest := [.ref (gY G 5)]) rfl (Nat.le_of_ble_eq_true rfl) ⟨Nat.le_of_ble_eq_true rfl, Nat.le_of_ble_eq_true rfl⟩ ⟨Nat.zero_le _, Nat.zero_le _⟩ hl.1 dX4_border_29 (fun H locs X => ?_)
      refine d_cVI F X 5 (by decide) (eK_P (Or.inl rfl : (5 : Nat) = 5 ∨ (5 : Nat) = 18) G _) rfl (c_X3_evenness l G τ1 5 N r (lfI r) (bgI r s2) (Or.inl rfl) (hP1) hW (hR2) (hL2) (by have h8 := whl_bg hW c2 (s := s2) (by omega) (by omega); have h9 := hW.lo1 (i := s2) (by omega) (by omega); omega)) gv_RX4_131 rfl nd_X3_evenness rfl (rest := []) rfl (Nat.le_of_ble_eq_true rfl) ⟨Nat.le_of_ble_eq_true rfl, Nat.le_of_ble_eq_true rfl⟩ ⟨Nat.zero_le _, Nat.zero_le _⟩ hl.1 dX4_border_32 (fun H locs X => ?_)
      exact r_iret F X hr hk dX4_border_35 (⟨by unfold qBorder; grind, hC1, hK1⟩)
    · skip
      refine r_iconst F dX4_border_18 ?_
      exact r_iret F X hr hk dX4_border_19 (⟨by unfold qBorder; grind, by first | exact hC1 | exact hC, by first | exact hK1 | exact KX.refl σ⟩)
theorem c_X4_bad (l : Launch) (G : GT) (σ : St) (N : Int) (r : Int → Int) (n : Int) (hs : Int → Int → Int) (w : Int) (i : Int) (hC : CX σ N r n hs) (hw : -2147483648 ≤ w ∧ w < 2147483648) (hi : -2147483648 ≤ i ∧ i < 2147483648) : Ct l yX4_bad cX4_bad 3 (some .int) 7 G [.ref (gY G 0), .int (I w), .int (I i)] σ (QI G (fun x9 τ9 => x9 = qBad N r w i ∧ CX τ9 N r n hs ∧ KX σ τ9)) := by
  refine mt (own := RX4) (plainFor_of_name rfl) rfl (Nat.le_of_ble_eq_true rfl) ?_
  intro p e s m args below meth c ls F hr hk X hl
  have hl : lv_has ls 3 [(0, .ref (gY G 0)), (1, .int (I w)), (2, .int (I i))] := hl
  have hP := hC.1
  have hW := hC.2.1
  have hH := hC.2.2.1
  have hw := hW.num
  refine r_iload_n F hl 1 rfl rfl dX4_bad_0 ?_
  refine r_if_lt F 21 (by decide) (by omega) dX4_bad_1 (fun c1 => ?_) (fun c1 => ?_)
  · skip
    refine r_iconst F dX4_bad_21 ?_
    exact r_iret F X hr hk dX4_bad_22 (⟨by unfold qBad; grind, by first | exact hC1 | exact hC, by first | exact hK1 | exact KX.refl σ⟩)
  · skip
    refine r_iload_n F hl 1 rfl rfl dX4_bad_4 ?_
    refine r_iconst F dX4_bad_5 ?_
    refine r_icmp_gt F 21 (by decide) (by omega) (by omega) dX4_bad_6 (fun c2 => ?_) (fun c2 => ?_)
    · skip
      refine r_iconst F dX4_bad_21 ?_
      exact r_iret F X hr hk dX4_bad_22 (⟨by unfold qBad; grind, by first | exact hC1 | exact hC, by first | exact hK1 | exact KX.refl σ⟩)
    · skip
      refine r_iload_n F hl 2 rfl rfl dX4_bad_9 ?_
      refine r_iconst F dX4_bad_10 ?_
      refine r_icmp_lt F 21 (by decide) (by omega) (by omega) dX4_bad_11 (fun c3 => ?_) (fun c3 => ?_)
      · skip
        refine r_iconst F dX4_bad_21 ?_
        exact r_iret F X hr hk dX4_bad_22 (⟨by unfold qBad; grind, by first | exact hC1 | exact hC, by first | exact hK1 | exact KX.refl σ⟩)
      · skip
        refine r_aload_n F hl 0 rfl rfl dX4_bad_14 ?_
        refine r_cVI F X 0 (by decide) (eK_0 G _) rfl (c_X4_isDrawn l G σ N r n hs hC) gv_RX4_108 rfl nd_X4_isDrawn rfl (rest := []) rfl (Nat.le_of_ble_eq_true rfl) ⟨Nat.le_of_ble_eq_true rfl, Nat.le_of_ble_eq_true rfl⟩ ⟨Nat.zero_le _, Nat.zero_le _⟩ hl.1 dX4_bad_15 (fun x1 τ1 H locs hI X => ?_)
        obtain ⟨hx1, hC1, hK1, hD1⟩ := hI
        have hP1 := hC1.1
        refine r_eqI (b := if whl N r = true then 1 else 0) (hx1) ?_
        refine r_bz_ne F 23 (whl N r = true) rfl (by decide) dX4_bad_18 (fun c4 => ?_) (fun c4 => ?_)
        · skip
          have hD2 := (hD1 c4).2
          have hR2 := hD2.l (by omega)
          have hL2 := lfI_LR hW c4
          refine r_iload_n F hl 2 rfl rfl dX4_bad_23 ?_
          refine r_iconst F dX4_bad_24 ?_
          refine r_icmp_ne F 39 (by decide) (by omega) (by omega) dX4_bad_25 (fun c5 => ?_) (fun c5 => ?_)
          · skip
            refine r_aload_n F hl 0 rfl rfl dX4_bad_39 ?_
            refine r_get F X 0 (by decide) (eK_0 G _) rfl gl_RX4 2 (by decide) rfl gf_RX4_28 rfl dX4_bad_40 ?_
            refine r_iload_n F hl 1 rfl rfl dX4_bad_43 ?_
            refine r_iload_n F hl 2 rfl rfl dX4_bad_44 ?_
            refine d_cVI F X 5 (by decide) (eK_P (Or.inl rfl : (5 : Nat) = 5 ∨ (5 : Nat) = 18) G _) rfl (c_X3_findBad l G τ1 5 N r (lfI r) w i (Or.inl rfl) (hP1) hW (hR2) (hL2) (by omega) (by omega)) gv_RX4_137 rfl nd_X3_findBad rfl (rest := []) rfl (Nat.le_of_ble_eq_true rfl) ⟨Nat.le_of_ble_eq_true rfl, Nat.le_of_ble_eq_true rfl⟩ ⟨Nat.zero_le _, Nat.zero_le _⟩ hl.1 dX4_bad_45 (fun H locs X => ?_)
            exact r_iret F X hr hk dX4_bad_48 (⟨by unfold qBad; grind, hC1, hK1⟩)
          · skip
            refine r_aload_n F hl 0 rfl rfl dX4_bad_28 ?_
            refine r_get F X 0 (by decide) (eK_0 G _) rfl gl_RX4 2 (by decide) rfl gf_RX4_28 rfl dX4_bad_29 ?_
            refine r_iload_n F hl 1 rfl rfl dX4_bad_32 ?_
            refine d_cVI F X 5 (by decide) (eK_P (Or.inl rfl : (5 : Nat) = 5 ∨ (5 : Nat) = 18) G _) rfl (c_X3_countBad l G τ1 5 N r (lfI r) w (Or.inl rfl) (hP1) hW (hR2) (hL2) (by omega)) gv_RX4_134 rfl nd_X3_countBad rfl (rest := []) rfl (Nat.le_of_ble_eq_true rfl) ⟨Nat.le_of_ble_eq_true rfl, Nat.le_of_ble_eq_true rfl⟩ ⟨Nat.zero_le _, Nat.zero_le _⟩ hl.1 dX4_bad_33 (fun H locs X => ?_)
            refine r_goto F 48 (by decide) dX4_bad_36 ?_
            exact r_iret F X hr hk dX4_bad_48 (⟨by unfold qBad; grind, hC1, hK1⟩)
        · skip
          refine r_iconst F dX4_bad_21 ?_
          exact r_iret F X hr hk dX4_bad_22 (⟨by unfold qBad; grind, by first | exact hC1 | exact hC, by first | exact hK1 | exact KX.refl σ⟩)
theorem c_X4_top (l : Launch) (G : GT) (σ : St) (N : Int) (r : Int → Int) (n : Int) (hs : Int → Int → Int) (w : Int) (hC : CX σ N r n hs) (hw : -2147483648 ≤ w ∧ w < 2147483648) : Ct l yX4_top cX4_top 2 (some .int) 7 G [.ref (gY G 0), .int (I w)] σ (QI G (fun x9 τ9 => x9 = qTop N r w ∧ CX τ9 N r n hs ∧ KX σ τ9)) := by
  refine mt (own := RX4) (plainFor_of_name rfl) rfl (Nat.le_of_ble_eq_true rfl) ?_
  intro p e s m args below meth c ls F hr hk X hl
  have hl : lv_has ls 2 [(0, .ref (gY G 0)), (1, .int (I w))] := hl
  have hP := hC.1
  have hW := hC.2.1
  have hH := hC.2.2.1
  have hw := hW.num
  refine r_aload_n F hl 0 rfl rfl dX4_top_0 ?_
  refine r_cVI F X 0 (by decide) (eK_0 G _) rfl (c_X4_isDrawn l G σ N r n hs hC) gv_RX4_108 rfl nd_X4_isDrawn rfl (rest := []) rfl (Nat.le_of_ble_eq_true rfl) ⟨Nat.le_of_ble_eq_true rfl, Nat.le_of_ble_eq_true rfl⟩ ⟨Nat.zero_le _, Nat.zero_le _⟩ hl.1 dX4_top_1 (fun x1 τ1 H locs hI X => ?_)
  obtain ⟨hx1, hC1, hK1, hD1⟩ := hI
  have hP1 := hC1.1
  refine r_eqI (b := if whl N r = true then 1 else 0) (hx1) ?_
  refine r_bz_ne F 9 (whl N r = true) rfl (by decide) dX4_top_4 (fun c1 => ?_) (fun c1 => ?_)
  · skip
    have hD2 := (hD1 c1).2
    have hR2 := hD2.l (by omega)
    have hL2 := lfI_LR hW c1
    refine r_iload_n F hl 1 rfl rfl dX4_top_9 ?_
    rcases (show w = 0 ∨ w = 1 ∨ w = 2 ∨ w = 3 ∨ w = 4 ∨ w = 5 ∨ (w < 0 ∨ 5 < w) by omega) with q1 | q1 | q1 | q1 | q1 | q1 | q1
    · skip
      refine r_tabIn F 0 48 q1 (by decide) (by decide) (by decide) rfl (by decide) dX4_top_10 ?_
      refine r_aload_n F hl 0 rfl rfl dX4_top_48 ?_
      refine r_get F X 0 (by decide) (eK_0 G _) rfl gl_RX4 2 (by decide) rfl gf_RX4_28 rfl dX4_top_49 ?_
      refine r_bipush F (by decide) dX4_top_52 ?_
      refine r_aload_n F hl 0 rfl rfl dX4_top_54 ?_
      refine r_get F X 0 (by decide) (eK_0 G _) rfl gl_RX4 2 (by decide) rfl gf_RX4_28 rfl dX4_top_55 ?_
      refine r_bipush F (by decide) dX4_top_58 ?_
      refine d_cVI F X 5 (by decide) (eK_P (Or.inl rfl : (5 : Nat) = 5 ∨ (5 : Nat) = 18) G _) rfl (c_X3_firstGreatest l G τ1 5 N r (lfI r) 9 (Or.inl rfl) (hP1) hW (hR2) (hL2) (by omega)) gv_RX4_140 rfl nd_X3_firstGreatest rfl (rest := [.int (I 9), .ref (gY G 5)]) rfl (Nat.le_of_ble_eq_true rfl) ⟨Nat.le_of_ble_eq_true rfl, Nat.le_of_ble_eq_true rfl⟩ ⟨Nat.zero_le _, Nat.zero_le _⟩ hl.1 dX4_top_60 (fun H locs X => ?_)
      refine d_cVJ F X 5 (by decide) (eK_P (Or.inl rfl : (5 : Nat) = 5 ∨ (5 : Nat) = 18) G _) rfl (c_X3_at l G τ1 5 9 (amI (fun x y => decide (mval (lfI r) N r y 9 < mval (lfI r) N r x 9)) N) (Or.inl rfl) (by omega) (by rw [hR2.1]; omega) (by rw [hR2.1]; have h9 := amI_rg (fun x y => decide (mval (lfI r) N r y 9 < mval (lfI r) N r x 9)) (show 0 < N by omega); omega)) gv_RX4_112 rfl nd_X3_at rfl (rest := []) rfl (Nat.le_of_ble_eq_true rfl) ⟨Nat.le_of_ble_eq_true rfl, Nat.le_of_ble_eq_true rfl⟩ ⟨Nat.zero_le _, Nat.zero_le _⟩ hl.1 dX4_top_63 (fun H locs X => ?_)
      refine r_eqJ (b := pr (lfI r) N r (gP N r)) (by exact hD2.at hW (amI_rg (fun x y => decide (mval (lfI r) N r y 9 < mval (lfI r) N r x 9)) (by omega)) (k := 9) (by omega)) ?_
      refine r_l2i F dX4_top_66 ?_
      exact r_iret F X hr hk dX4_top_67 (⟨by unfold qTop; grind, hC1, hK1⟩)
    · skip
      refine r_tabIn F 1 68 q1 (by decide) (by decide) (by decide) rfl (by decide) dX4_top_10 ?_
      refine r_aload_n F hl 0 rfl rfl dX4_top_68 ?_
      refine r_get F X 0 (by decide) (eK_0 G _) rfl gl_RX4 2 (by decide) rfl gf_RX4_28 rfl dX4_top_69 ?_
      refine r_bipush F (by decide) dX4_top_72 ?_
      refine d_cVI F X 5 (by decide) (eK_P (Or.inl rfl : (5 : Nat) = 5 ∨ (5 : Nat) = 18) G _) rfl (c_X3_firstGreatest l G τ1 5 N r (lfI r) 9 (Or.inl rfl) (hP1) hW (hR2) (hL2) (by omega)) gv_RX4_140 rfl nd_X3_firstGreatest rfl (rest := []) rfl (Nat.le_of_ble_eq_true rfl) ⟨Nat.le_of_ble_eq_true rfl, Nat.le_of_ble_eq_true rfl⟩ ⟨Nat.zero_le _, Nat.zero_le _⟩ hl.1 dX4_top_74 (fun H locs X => ?_)
      refine r_eqI (b := gP N r) (rfl) ?_
      exact r_iret F X hr hk dX4_top_77 (⟨by unfold qTop; grind, hC1, hK1⟩)
    · skip
      refine r_tabIn F 2 78 q1 (by decide) (by decide) (by decide) rfl (by decide) dX4_top_10 ?_
      refine r_aload_n F hl 0 rfl rfl dX4_top_78 ?_
      refine r_get F X 0 (by decide) (eK_0 G _) rfl gl_RX4 2 (by decide) rfl gf_RX4_28 rfl dX4_top_79 ?_
      refine r_bipush F (by decide) dX4_top_82 ?_
      refine d_cVI F X 5 (by decide) (eK_P (Or.inl rfl : (5 : Nat) = 5 ∨ (5 : Nat) = 18) G _) rfl (c_X3_firstLeast l G τ1 5 N r (lfI r) 10 (Or.inl rfl) (hP1) hW (hR2) (hL2) (by omega)) gv_RX4_143 rfl nd_X3_firstLeast rfl (rest := []) rfl (Nat.le_of_ble_eq_true rfl) ⟨Nat.le_of_ble_eq_true rfl, Nat.le_of_ble_eq_true rfl⟩ ⟨Nat.zero_le _, Nat.zero_le _⟩ hl.1 dX4_top_84 (fun H locs X => ?_)
      refine r_eqI (b := amI (fun x y => decide (fo (lfI r) N r x < fo (lfI r) N r y)) N) (rfl) ?_
      exact r_iret F X hr hk dX4_top_87 (⟨by unfold qTop; grind, hC1, hK1⟩)
    · skip
      refine r_tabIn F 3 88 q1 (by decide) (by decide) (by decide) rfl (by decide) dX4_top_10 ?_
      refine r_aload_n F hl 0 rfl rfl dX4_top_88 ?_
      refine r_get F X 0 (by decide) (eK_0 G _) rfl gl_RX4 2 (by decide) rfl gf_RX4_28 rfl dX4_top_89 ?_
      refine r_iconst F dX4_top_92 ?_
      refine r_aload_n F hl 0 rfl rfl dX4_top_93 ?_
      refine r_get F X 0 (by decide) (eK_0 G _) rfl gl_RX4 2 (by decide) rfl gf_RX4_28 rfl dX4_top_94 ?_
      refine r_iconst F dX4_top_97 ?_
      refine d_cVI F X 5 (by decide) (eK_P (Or.inl rfl : (5 : Nat) = 5 ∨ (5 : Nat) = 18) G _) rfl (c_X3_firstGreatest l G τ1 5 N r (lfI r) 0 (Or.inl rfl) (hP1) hW (hR2) (hL2) (by omega)) gv_RX4_140 rfl nd_X3_firstGreatest rfl (rest := [.int (I 0), .ref (gY G 5)]) rfl (Nat.le_of_ble_eq_true rfl) ⟨Nat.le_of_ble_eq_true rfl, Nat.le_of_ble_eq_true rfl⟩ ⟨Nat.zero_le _, Nat.zero_le _⟩ hl.1 dX4_top_98 (fun H locs X => ?_)
      refine d_cVJ F X 5 (by decide) (eK_P (Or.inl rfl : (5 : Nat) = 5 ∨ (5 : Nat) = 18) G _) rfl (c_X3_at l G τ1 5 0 (amI (fun x y => decide (mval (lfI r) N r y 0 < mval (lfI r) N r x 0)) N) (Or.inl rfl) (by omega) (by rw [hR2.1]; omega) (by rw [hR2.1]; have h9 := amI_rg (fun x y => decide (mval (lfI r) N r y 0 < mval (lfI r) N r x 0)) (show 0 < N by omega); omega)) gv_RX4_112 rfl nd_X3_at rfl (rest := []) rfl (Nat.le_of_ble_eq_true rfl) ⟨Nat.le_of_ble_eq_true rfl, Nat.le_of_ble_eq_true rfl⟩ ⟨Nat.zero_le _, Nat.zero_le _⟩ hl.1 dX4_top_101 (fun H locs X => ?_)
      refine r_eqJ (b := lw (lfI r) N (gL N r)) (by exact hD2.at hW (amI_rg (fun x y => decide (mval (lfI r) N r y 0 < mval (lfI r) N r x 0)) (by omega)) (k := 0) (by omega)) ?_
      refine r_l2i F dX4_top_104 ?_
      exact r_iret F X hr hk dX4_top_105 (⟨by unfold qTop; grind, hC1, hK1⟩)
    · skip
      refine r_tabIn F 4 106 q1 (by decide) (by decide) (by decide) rfl (by decide) dX4_top_10 ?_
      refine r_aload_n F hl 0 rfl rfl dX4_top_106 ?_
      refine r_get F X 0 (by decide) (eK_0 G _) rfl gl_RX4 2 (by decide) rfl gf_RX4_28 rfl dX4_top_107 ?_
      refine r_iconst F dX4_top_110 ?_
      refine d_cVI F X 5 (by decide) (eK_P (Or.inl rfl : (5 : Nat) = 5 ∨ (5 : Nat) = 18) G _) rfl (c_X3_firstGreatest l G τ1 5 N r (lfI r) 0 (Or.inl rfl) (hP1) hW (hR2) (hL2) (by omega)) gv_RX4_140 rfl nd_X3_firstGreatest rfl (rest := []) rfl (Nat.le_of_ble_eq_true rfl) ⟨Nat.le_of_ble_eq_true rfl, Nat.le_of_ble_eq_true rfl⟩ ⟨Nat.zero_le _, Nat.zero_le _⟩ hl.1 dX4_top_111 (fun H locs X => ?_)
      refine r_eqI (b := gL N r) (rfl) ?_
      exact r_iret F X hr hk dX4_top_114 (⟨by unfold qTop; grind, hC1, hK1⟩)
    · skip
      refine r_tabIn F 5 115 q1 (by decide) (by decide) (by decide) rfl (by decide) dX4_top_10 ?_
      refine r_aload_n F hl 0 rfl rfl dX4_top_115 ?_
      refine r_get F X 0 (by decide) (eK_0 G _) rfl gl_RX4 2 (by decide) rfl gf_RX4_28 rfl dX4_top_116 ?_
      refine d_cVI F X 5 (by decide) (eK_P (Or.inl rfl : (5 : Nat) = 5 ∨ (5 : Nat) = 18) G _) rfl (c_X3_liftTogether l G τ1 5 N r (lfI r) (Or.inl rfl) (hP1) hW (hR2) (hL2)) gv_RX4_146 rfl nd_X3_liftTogether rfl (rest := []) rfl (Nat.le_of_ble_eq_true rfl) ⟨Nat.le_of_ble_eq_true rfl, Nat.le_of_ble_eq_true rfl⟩ ⟨Nat.zero_le _, Nat.zero_le _⟩ hl.1 dX4_top_119 (fun H locs X => ?_)
      exact r_iret F X hr hk dX4_top_122 (⟨by unfold qTop; grind, hC1, hK1⟩)
    · skip
      refine r_tabOut F 123 (by omega) q1 (by decide) dX4_top_10 ?_
      refine r_iconst F dX4_top_123 ?_
      exact r_iret F X hr hk dX4_top_124 (⟨by unfold qTop; grind, hC1, hK1⟩)
  · skip
    refine r_iconst F dX4_top_7 ?_
    exact r_iret F X hr hk dX4_top_8 (⟨by unfold qTop; grind, hC1, hK1⟩)
theorem c_X4_met (l : Launch) (G : GT) (σ : St) (N : Int) (r : Int → Int) (n : Int) (hs : Int → Int → Int) (hC : CX σ N r n hs) : Ct l yX4_met cX4_met 1 (some .int) 7 G [.ref (gY G 0)] σ (QI G (fun x9 τ9 => x9 = qMet N r ∧ CX τ9 N r n hs ∧ KX σ τ9)) := by
  refine mt (own := RX4) (plainFor_of_name rfl) rfl (Nat.le_of_ble_eq_true rfl) ?_
  intro p e s m args below meth c ls F hr hk X hl
  have hl : lv_has ls 1 [(0, .ref (gY G 0))] := hl
  have hP := hC.1
  have hW := hC.2.1
  have hH := hC.2.2.1
  have hw := hW.num
  refine r_aload_n F hl 0 rfl rfl dX4_met_0 ?_
  refine r_cVI F X 0 (by decide) (eK_0 G _) rfl (c_X4_isDrawn l G σ N r n hs hC) gv_RX4_108 rfl nd_X4_isDrawn rfl (rest := []) rfl (Nat.le_of_ble_eq_true rfl) ⟨Nat.le_of_ble_eq_true rfl, Nat.le_of_ble_eq_true rfl⟩ ⟨Nat.zero_le _, Nat.zero_le _⟩ hl.1 dX4_met_1 (fun x1 τ1 H locs hI X => ?_)
  obtain ⟨hx1, hC1, hK1, hD1⟩ := hI
  have hP1 := hC1.1
  refine r_eqI (b := if whl N r = true then 1 else 0) (hx1) ?_
  refine r_bz_eq F 17 (whl N r = true) rfl (by decide) dX4_met_4 (fun c1 => ?_) (fun c1 => ?_)
  · skip
    refine r_iconst F dX4_met_17 ?_
    exact r_iret F X hr hk dX4_met_18 (⟨by unfold qMet; grind, hC1, hK1⟩)
  · skip
    have hD2 := (hD1 c1).2
    have hR2 := hD2.l (by omega)
    have hL2 := lfI_LR hW c1
    refine r_aload_n F hl 0 rfl rfl dX4_met_7 ?_
    refine r_get F X 0 (by decide) (eK_0 G _) rfl gl_RX4 2 (by decide) rfl gf_RX4_28 rfl dX4_met_8 ?_
    refine d_cVI F X 5 (by decide) (eK_P (Or.inl rfl : (5 : Nat) = 5 ∨ (5 : Nat) = 18) G _) rfl (c_X3_metBits l G τ1 5 N r (τ1 (5 + 2 + 0)) (Or.inl rfl) (hP1) hW (hR2.1) (rfl) (hD2.2.LR hL2)) gv_RX4_149 rfl nd_X3_metBits rfl (rest := []) rfl (Nat.le_of_ble_eq_true rfl) ⟨Nat.le_of_ble_eq_true rfl, Nat.le_of_ble_eq_true rfl⟩ ⟨Nat.zero_le _, Nat.zero_le _⟩ hl.1 dX4_met_11 (fun H locs X => ?_)
    refine r_eqI (b := btI (mk (lfI r) r) (r 61)) (btI_congr (fun i9 a b => (hD2.2.mk hW a b).2)) ?_
    refine r_goto F 18 (by decide) dX4_met_14 ?_
    exact r_iret F X hr hk dX4_met_18 (⟨by unfold qMet; grind, hC1, hK1⟩)
theorem c_X4_marked (l : Launch) (G : GT) (σ : St) (N : Int) (r : Int → Int) (n : Int) (hs : Int → Int → Int) (q : Int) (w : Int) (hC : CX σ N r n hs) (hq : -2147483648 ≤ q ∧ q < 2147483648) (hw : -2147483648 ≤ w ∧ w < 2147483648) : Ct l yX4_marked cX4_marked 3 (some .int) 7 G [.ref (gY G 0), .int (I q), .int (I w)] σ (QI G (fun x9 τ9 => x9 = qMarked N r q w ∧ CX τ9 N r n hs ∧ KX σ τ9)) := by
  refine mt (own := RX4) (plainFor_of_name rfl) rfl (Nat.le_of_ble_eq_true rfl) ?_
  intro p e s m args below meth c ls F hr hk X hl
  have hl : lv_has ls 3 [(0, .ref (gY G 0)), (1, .int (I q)), (2, .int (I w))] := hl
  have hP := hC.1
  have hW := hC.2.1
  have hH := hC.2.2.1
  have hw := hW.num
  refine r_aload_n F hl 0 rfl rfl dX4_marked_0 ?_
  refine r_get F X 0 (by decide) (eK_0 G _) rfl gl_RX4 0 (by decide) rfl gf_RX4_12 rfl dX4_marked_1 ?_
  refine r_iload_n F hl 1 rfl rfl dX4_marked_4 ?_
  refine d_cVI F X 1 (by decide) (eK_1 G _) rfl (c_X2_hasMark l G σ N r q hP hW (by omega)) gv_RX4_85 rfl nd_X2_hasMark rfl (rest := []) rfl (Nat.le_of_ble_eq_true rfl) ⟨Nat.le_of_ble_eq_true rfl, Nat.le_of_ble_eq_true rfl⟩ ⟨Nat.zero_le _, Nat.zero_le _⟩ hl.1 dX4_marked_5 (fun H locs X => ?_)
  refine r_bz_eq F 20 (0 ≤ q ∧ q < r 61) rfl (by decide) dX4_marked_8 (fun c1 => ?_) (fun c1 => ?_)
  · skip
    refine r_iconst F dX4_marked_20 ?_
    exact r_iret F X hr hk dX4_marked_21 (⟨by unfold qMarked; grind, hC, KX.refl σ⟩)
  · skip
    refine r_iload_n F hl 2 rfl rfl dX4_marked_11 ?_
    refine r_if_lt F 20 (by decide) (by omega) dX4_marked_12 (fun c2 => ?_) (fun c2 => ?_)
    · skip
      refine r_iconst F dX4_marked_20 ?_
      exact r_iret F X hr hk dX4_marked_21 (⟨by unfold qMarked; grind, hC, KX.refl σ⟩)
    · skip
      refine r_iload_n F hl 2 rfl rfl dX4_marked_15 ?_
      refine r_iconst F dX4_marked_16 ?_
      refine r_icmp_le F 22 (by decide) (by omega) (by omega) dX4_marked_17 (fun c3 => ?_) (fun c3 => ?_)
      · skip
        refine r_iload_n F hl 2 rfl rfl dX4_marked_22 ?_
        refine r_iconst F dX4_marked_23 ?_
        refine r_icmp_ne F 47 (by decide) (by omega) (by omega) dX4_marked_24 (fun c4 => ?_) (fun c4 => ?_)
        · skip
          refine r_aload_n F hl 0 rfl rfl dX4_marked_47 ?_
          refine r_get F X 0 (by decide) (eK_0 G _) rfl gl_RX4 0 (by decide) rfl gf_RX4_12 rfl dX4_marked_48 ?_
          refine r_iload_n F hl 1 rfl rfl dX4_marked_51 ?_
          refine r_iload_n F hl 2 rfl rfl dX4_marked_52 ?_
          refine d_cSI F X (c_X2_placeOfMark l G σ q w) gv_RX4_82 nd_X2_placeOfMark rfl (rest := [.ref (gY G 1)]) rfl (Nat.le_of_ble_eq_true rfl) ⟨Nat.le_of_ble_eq_true rfl, Nat.le_of_ble_eq_true rfl⟩ ⟨Nat.zero_le _, Nat.zero_le _⟩ hl.1 dX4_marked_53 (fun H locs X => ?_)
          refine d_cVI F X 1 (by decide) (eK_1 G _) rfl (c_X2_get l G σ (qMarked N r q w) (48 + 3 * q + w) (by omega) (by unfold qMarked; rw [if_pos (by omega)]; rcases (show w = 0 ∨ w = 1 ∨ w = 2 by omega) with h9 | h9 | h9 <;> subst h9; (exact hP.ms (by omega) (by omega)); (exact hP.ml (by omega) (by omega)); (exact hP.mn (by omega) (by omega)))) gv_RX4_45 rfl nd_X2_get rfl (rest := []) rfl (Nat.le_of_ble_eq_true rfl) ⟨Nat.le_of_ble_eq_true rfl, Nat.le_of_ble_eq_true rfl⟩ ⟨Nat.zero_le _, Nat.zero_le _⟩ hl.1 dX4_marked_56 (fun H locs X => ?_)
          exact r_iret F X hr hk dX4_marked_59 (⟨rfl, hC, KX.refl σ⟩)
        · skip
          refine r_aload_n F hl 0 rfl rfl dX4_marked_27 ?_
          refine r_cVI F X 0 (by decide) (eK_0 G _) rfl (c_X4_isDrawn l G σ N r n hs hC) gv_RX4_108 rfl nd_X4_isDrawn rfl (rest := []) rfl (Nat.le_of_ble_eq_true rfl) ⟨Nat.le_of_ble_eq_true rfl, Nat.le_of_ble_eq_true rfl⟩ ⟨Nat.zero_le _, Nat.zero_le _⟩ hl.1 dX4_marked_28 (fun x1 τ1 H locs hI X => ?_)
          obtain ⟨hx1, hC1, hK1, hD1⟩ := hI
          have hP1 := hC1.1
          refine r_eqI (b := if whl N r = true then 1 else 0) (hx1) ?_
          refine r_bz_eq F 45 (whl N r = true) rfl (by decide) dX4_marked_31 (fun c5 => ?_) (fun c5 => ?_)
          · skip
            refine r_iconst F dX4_marked_45 ?_
            exact r_iret F X hr hk dX4_marked_46 (⟨by unfold qMarked; grind, hC1, hK1⟩)
          · skip
            have hD2 := (hD1 c5).2
            have hR2 := hD2.l (by omega)
            have hL2 := lfI_LR hW c5
            refine r_aload_n F hl 0 rfl rfl dX4_marked_34 ?_
            refine r_get F X 0 (by decide) (eK_0 G _) rfl gl_RX4 2 (by decide) rfl gf_RX4_28 rfl dX4_marked_35 ?_
            refine r_iload_n F hl 1 rfl rfl dX4_marked_38 ?_
            refine d_cVI F X 5 (by decide) (eK_P (Or.inl rfl : (5 : Nat) = 5 ∨ (5 : Nat) = 18) G _) rfl (c_X3_missOf l G τ1 5 N r (τ1 (5 + 2 + 0)) q (Or.inl rfl) (hP1) hW (hR2.1) (rfl) (hD2.2.LR hL2) (by omega)) gv_RX4_152 rfl nd_X3_missOf rfl (rest := []) rfl (Nat.le_of_ble_eq_true rfl) ⟨Nat.le_of_ble_eq_true rfl, Nat.le_of_ble_eq_true rfl⟩ ⟨Nat.zero_le _, Nat.zero_le _⟩ hl.1 dX4_marked_39 (fun H locs X => ?_)
            refine r_eqI (b := mo (lfI r) r q) ((hD2.2.mk hW (by omega) (by omega)).1) ?_
            refine r_goto F 46 (by decide) dX4_marked_42 ?_
            exact r_iret F X hr hk dX4_marked_46 (⟨by unfold qMarked; grind, hC1, hK1⟩)
      · skip
        refine r_iconst F dX4_marked_20 ?_
        exact r_iret F X hr hk dX4_marked_21 (⟨by unfold qMarked; grind, hC, KX.refl σ⟩)
theorem c_X4_limit (l : Launch) (G : GT) (σ : St) (N : Int) (r : Int → Int) (n : Int) (hs : Int → Int → Int) (w : Int) (hC : CX σ N r n hs) (hw : -2147483648 ≤ w ∧ w < 2147483648) : Ct l yX4_limit cX4_limit 2 (some .int) 7 G [.ref (gY G 0), .int (I w)] σ (QI G (fun x9 τ9 => x9 = qLimit N r w ∧ CX τ9 N r n hs ∧ KX σ τ9)) := by
  refine mt (own := RX4) (plainFor_of_name rfl) rfl (Nat.le_of_ble_eq_true rfl) ?_
  intro p e s m args below meth c ls F hr hk X hl
  have hl : lv_has ls 2 [(0, .ref (gY G 0)), (1, .int (I w))] := hl
  have hP := hC.1
  have hW := hC.2.1
  have hH := hC.2.2.1
  have hw := hW.num
  refine r_aload_n F hl 0 rfl rfl dX4_limit_0 ?_
  refine r_cVI F X 0 (by decide) (eK_0 G _) rfl (c_X4_isDrawn l G σ N r n hs hC) gv_RX4_108 rfl nd_X4_isDrawn rfl (rest := []) rfl (Nat.le_of_ble_eq_true rfl) ⟨Nat.le_of_ble_eq_true rfl, Nat.le_of_ble_eq_true rfl⟩ ⟨Nat.zero_le _, Nat.zero_le _⟩ hl.1 dX4_limit_1 (fun x1 τ1 H locs hI X => ?_)
  obtain ⟨hx1, hC1, hK1, hD1⟩ := hI
  have hP1 := hC1.1
  refine r_eqI (b := if whl N r = true then 1 else 0) (hx1) ?_
  refine r_bz_ne F 9 (whl N r = true) rfl (by decide) dX4_limit_4 (fun c1 => ?_) (fun c1 => ?_)
  · skip
    have hD2 := (hD1 c1).2
    have hR2 := hD2.l (by omega)
    have hL2 := lfI_LR hW c1
    refine r_iload_n F hl 1 rfl rfl dX4_limit_9 ?_
    rcases (show w = 0 ∨ w = 1 ∨ w = 2 ∨ (w < 0 ∨ 2 < w) by omega) with q1 | q1 | q1 | q1
    · skip
      refine r_tabIn F 0 36 q1 (by decide) (by decide) (by decide) rfl (by decide) dX4_limit_10 ?_
      refine r_aload_n F hl 0 rfl rfl dX4_limit_36 ?_
      refine r_get F X 0 (by decide) (eK_0 G _) rfl gl_RX4 2 (by decide) rfl gf_RX4_28 rfl dX4_limit_37 ?_
      refine d_cVI F X 5 (by decide) (eK_P (Or.inl rfl : (5 : Nat) = 5 ∨ (5 : Nat) = 18) G _) rfl (c_X3_greatestRoller l G τ1 5 N r (lfI r) (Or.inl rfl) (hP1) hW (hR2) (hL2)) gv_RX4_176 rfl nd_X3_greatestRoller rfl (rest := []) rfl (Nat.le_of_ble_eq_true rfl) ⟨Nat.le_of_ble_eq_true rfl, Nat.le_of_ble_eq_true rfl⟩ ⟨Nat.zero_le _, Nat.zero_le _⟩ hl.1 dX4_limit_40 (fun H locs X => ?_)
      exact r_iret F X hr hk dX4_limit_43 (⟨by unfold qLimit; grind, hC1, hK1⟩)
    · skip
      refine r_tabIn F 1 44 q1 (by decide) (by decide) (by decide) rfl (by decide) dX4_limit_10 ?_
      refine r_aload_n F hl 0 rfl rfl dX4_limit_44 ?_
      refine r_get F X 0 (by decide) (eK_0 G _) rfl gl_RX4 2 (by decide) rfl gf_RX4_28 rfl dX4_limit_45 ?_
      refine d_cVI F X 5 (by decide) (eK_P (Or.inl rfl : (5 : Nat) = 5 ∨ (5 : Nat) = 18) G _) rfl (c_X3_leastBase l G τ1 5 N r (lfI r) (Or.inl rfl) (hP1) hW (hR2) (hL2)) gv_RX4_179 rfl nd_X3_leastBase rfl (rest := []) rfl (Nat.le_of_ble_eq_true rfl) ⟨Nat.le_of_ble_eq_true rfl, Nat.le_of_ble_eq_true rfl⟩ ⟨Nat.zero_le _, Nat.zero_le _⟩ hl.1 dX4_limit_48 (fun H locs X => ?_)
      exact r_iret F X hr hk dX4_limit_51 (⟨by unfold qLimit; grind, hC1, hK1⟩)
    · skip
      refine r_tabIn F 2 52 q1 (by decide) (by decide) (by decide) rfl (by decide) dX4_limit_10 ?_
      refine r_aload_n F hl 0 rfl rfl dX4_limit_52 ?_
      refine r_get F X 0 (by decide) (eK_0 G _) rfl gl_RX4 2 (by decide) rfl gf_RX4_28 rfl dX4_limit_53 ?_
      refine d_cVI F X 5 (by decide) (eK_P (Or.inl rfl : (5 : Nat) = 5 ∨ (5 : Nat) = 18) G _) rfl (c_X3_greatestSpeed l G τ1 5 N r (τ1 (5 + 2 + 0)) (Or.inl rfl) (hP1) hW (hD2.1) (hD2.2.LR hL2) (rfl)) gv_RX4_182 rfl nd_X3_greatestSpeed rfl (rest := []) rfl (Nat.le_of_ble_eq_true rfl) ⟨Nat.le_of_ble_eq_true rfl, Nat.le_of_ble_eq_true rfl⟩ ⟨Nat.zero_le _, Nat.zero_le _⟩ hl.1 dX4_limit_56 (fun H locs X => ?_)
      refine r_eqI (b := pfI (fun v => decide (v * v ≤ gqI (lfI r) N r N)) 9999) (by rw [hD2.2.gq (by omega) r]) ?_
      exact r_iret F X hr hk dX4_limit_59 (⟨by unfold qLimit; grind, hC1, hK1⟩)
    · skip
      refine r_tabOut F 60 (by omega) q1 (by decide) dX4_limit_10 ?_
      refine r_iconst F dX4_limit_60 ?_
      exact r_iret F X hr hk dX4_limit_61 (⟨by unfold qLimit; grind, hC1, hK1⟩)
  · skip
    refine r_iconst F dX4_limit_7 ?_
    exact r_iret F X hr hk dX4_limit_8 (⟨by unfold qLimit; grind, hC1, hK1⟩)
theorem c_X4_count (l : Launch) (G : GT) (σ : St) (N : Int) (r : Int → Int) (n : Int) (hs : Int → Int → Int) (w : Int) (hC : CX σ N r n hs) (hw : -2147483648 ≤ w ∧ w < 2147483648) : Ct l yX4_count cX4_count 2 (some .int) 7 G [.ref (gY G 0), .int (I w)] σ (QI G (fun x9 τ9 => x9 = qCount N r n w ∧ CX τ9 N r n hs ∧ KX σ τ9)) := by
  refine mt (own := RX4) (plainFor_of_name rfl) rfl (Nat.le_of_ble_eq_true rfl) ?_
  intro p e s m args below meth c ls F hr hk X hl
  have hl : lv_has ls 2 [(0, .ref (gY G 0)), (1, .int (I w))] := hl
  have hP := hC.1
  have hW := hC.2.1
  have hH := hC.2.2.1
  have hw := hW.num
  refine r_iload_n F hl 1 rfl rfl dX4_count_0 ?_
  refine r_if_lt F 19 (by decide) (by omega) dX4_count_1 (fun c1 => ?_) (fun c1 => ?_)
  · skip
    refine r_iload_n F hl 1 rfl rfl dX4_count_19 ?_
    rcases (show w = 12 ∨ w = 13 ∨ w = 14 ∨ w = 15 ∨ (w < 12 ∨ 15 < w) by omega) with q1 | q1 | q1 | q1 | q1
    · skip
      refine r_tabIn F 12 52 q1 (by decide) (by decide) (by decide) rfl (by decide) dX4_count_20 ?_
      refine r_aload_n F hl 0 rfl rfl dX4_count_52 ?_
      refine r_get F X 0 (by decide) (eK_0 G _) rfl gl_RX4 0 (by decide) rfl gf_RX4_12 rfl dX4_count_53 ?_
      refine d_cVI F X 1 (by decide) (eK_1 G _) rfl (c_X2_isWhole l G σ N r hP hW) gv_RX4_155 rfl nd_X2_isWhole rfl (rest := []) rfl (Nat.le_of_ble_eq_true rfl) ⟨Nat.le_of_ble_eq_true rfl, Nat.le_of_ble_eq_true rfl⟩ ⟨Nat.zero_le _, Nat.zero_le _⟩ hl.1 dX4_count_56 (fun H locs X => ?_)
      refine r_bz_eq F 66 (whl N r = true) rfl (by decide) dX4_count_59 (fun c2 => ?_) (fun c2 => ?_)
      · skip
        refine r_iconst F dX4_count_66 ?_
        exact r_iret F X hr hk dX4_count_67 (⟨by unfold qCount; grind, hC, KX.refl σ⟩)
      · skip
        refine r_iconst F dX4_count_62 ?_
        refine r_goto F 67 (by decide) dX4_count_63 ?_
        exact r_iret F X hr hk dX4_count_67 (⟨by unfold qCount; grind, hC, KX.refl σ⟩)
    · skip
      refine r_tabIn F 13 68 q1 (by decide) (by decide) (by decide) rfl (by decide) dX4_count_20 ?_
      refine r_aload_n F hl 0 rfl rfl dX4_count_68 ?_
      refine r_cVI F X 0 (by decide) (eK_0 G _) rfl (c_X4_isDrawn l G σ N r n hs hC) gv_RX4_108 rfl nd_X4_isDrawn rfl (rest := []) rfl (Nat.le_of_ble_eq_true rfl) ⟨Nat.le_of_ble_eq_true rfl, Nat.le_of_ble_eq_true rfl⟩ ⟨Nat.zero_le _, Nat.zero_le _⟩ hl.1 dX4_count_69 (fun x1 τ1 H locs hI X => ?_)
      obtain ⟨hx1, hC1, hK1, hD1⟩ := hI
      have hP1 := hC1.1
      refine r_eqI (b := if whl N r = true then 1 else 0) (hx1) ?_
      refine r_bz_eq F 89 (whl N r = true) rfl (by decide) dX4_count_72 (fun c3 => ?_) (fun c3 => ?_)
      · skip
        refine r_iconst F dX4_count_89 ?_
        exact r_iret F X hr hk dX4_count_90 (⟨by unfold qCount; grind, hC1, hK1⟩)
      · skip
        have hD2 := (hD1 c3).2
        have hR2 := hD2.l (by omega)
        have hL2 := lfI_LR hW c3
        refine r_aload_n F hl 0 rfl rfl dX4_count_75 ?_
        refine r_get F X 0 (by decide) (eK_0 G _) rfl gl_RX4 2 (by decide) rfl gf_RX4_28 rfl dX4_count_76 ?_
        refine d_cVI F X 5 (by decide) (eK_P (Or.inl rfl : (5 : Nat) = 5 ∨ (5 : Nat) = 18) G _) rfl (c_X3_isGood l G τ1 5 N r (τ1 (5 + 2 + 0)) (Or.inl rfl) (hP1) hW (hD2.1) (hD2.2.LR hL2) (rfl)) gv_RX4_185 rfl nd_X3_isGood rfl (rest := []) rfl (Nat.le_of_ble_eq_true rfl) ⟨Nat.le_of_ble_eq_true rfl, Nat.le_of_ble_eq_true rfl⟩ ⟨Nat.zero_le _, Nat.zero_le _⟩ hl.1 dX4_count_79 (fun H locs X => ?_)
        refine r_eqI (b := if gd (lfI r) N r = true then 1 else 0) (by rw [hD2.2.gd hW]) ?_
        refine r_bz_eq F 89 (gd (lfI r) N r = true) rfl (by decide) dX4_count_82 (fun c4 => ?_) (fun c4 => ?_)
        · skip
          refine r_iconst F dX4_count_89 ?_
          exact r_iret F X hr hk dX4_count_90 (⟨by unfold qCount; grind, hC1, hK1⟩)
        · skip
          refine r_iconst F dX4_count_85 ?_
          refine r_goto F 90 (by decide) dX4_count_86 ?_
          exact r_iret F X hr hk dX4_count_90 (⟨by unfold qCount; grind, hC1, hK1⟩)
    · skip
      refine r_tabIn F 14 91 q1 (by decide) (by decide) (by decide) rfl (by decide) dX4_count_20 ?_
      refine r_aload_n F hl 0 rfl rfl dX4_count_91 ?_
      refine r_get F X 0 (by decide) (eK_0 G _) rfl gl_RX4 1 (by decide) rfl gf_RX4_19 rfl dX4_count_92 ?_
      refine d_cVI F X 3 (by decide) (eK_3 G _) rfl (c_X1_size l G σ ) gv_RX4_92 rfl nd_X1_size rfl (rest := []) rfl (Nat.le_of_ble_eq_true rfl) ⟨Nat.le_of_ble_eq_true rfl, Nat.le_of_ble_eq_true rfl⟩ ⟨Nat.zero_le _, Nat.zero_le _⟩ hl.1 dX4_count_95 (fun H locs X => ?_)
      refine r_eqI (b := n) (hH.1) ?_
      exact r_iret F X hr hk dX4_count_98 (⟨by unfold qCount; grind, hC, KX.refl σ⟩)
    · skip
      refine r_tabIn F 15 99 q1 (by decide) (by decide) (by decide) rfl (by decide) dX4_count_20 ?_
      refine r_aload_n F hl 0 rfl rfl dX4_count_99 ?_
      refine r_get F X 0 (by decide) (eK_0 G _) rfl gl_RX4 0 (by decide) rfl gf_RX4_12 rfl dX4_count_100 ?_
      refine r_aload_n F hl 0 rfl rfl dX4_count_103 ?_
      refine r_get F X 0 (by decide) (eK_0 G _) rfl gl_RX4 0 (by decide) rfl gf_RX4_12 rfl dX4_count_104 ?_
      refine r_iconst F dX4_count_107 ?_
      refine d_cVI F X 1 (by decide) (eK_1 G _) rfl (c_X2_get l G σ (r 60) 1 (by omega) (hP.se)) gv_RX4_45 rfl nd_X2_get rfl (rest := [.ref (gY G 1)]) rfl (Nat.le_of_ble_eq_true rfl) ⟨Nat.le_of_ble_eq_true rfl, Nat.le_of_ble_eq_true rfl⟩ ⟨Nat.zero_le _, Nat.zero_le _⟩ hl.1 dX4_count_108 (fun H locs X => ?_)
      refine d_cVI F X 1 (by decide) (eK_1 G _) rfl (c_X2_longAheadOf l G σ N r (r 60) hP hW (by omega)) gv_RX4_102 rfl nd_X2_longAheadOf rfl (rest := []) rfl (Nat.le_of_ble_eq_true rfl) ⟨Nat.le_of_ble_eq_true rfl, Nat.le_of_ble_eq_true rfl⟩ ⟨Nat.zero_le _, Nat.zero_le _⟩ hl.1 dX4_count_111 (fun H locs X => ?_)
      exact r_iret F X hr hk dX4_count_114 (⟨by unfold qCount; grind, hC, KX.refl σ⟩)
    · skip
      refine r_tabOut F 115 (by omega) q1 (by decide) dX4_count_20 ?_
      refine r_iconst F dX4_count_115 ?_
      exact r_iret F X hr hk dX4_count_116 (⟨by unfold qCount; grind, hC, KX.refl σ⟩)
  · skip
    refine r_iload_n F hl 1 rfl rfl dX4_count_4 ?_
    refine r_bipush F (by decide) dX4_count_5 ?_
    refine r_icmp_ge F 19 (by decide) (by omega) (by omega) dX4_count_7 (fun c5 => ?_) (fun c5 => ?_)
    · skip
      refine r_iload_n F hl 1 rfl rfl dX4_count_19 ?_
      rcases (show w = 12 ∨ w = 13 ∨ w = 14 ∨ w = 15 ∨ (w < 12 ∨ 15 < w) by omega) with q2 | q2 | q2 | q2 | q2
      · skip
        refine r_tabIn F 12 52 q2 (by decide) (by decide) (by decide) rfl (by decide) dX4_count_20 ?_
        refine r_aload_n F hl 0 rfl rfl dX4_count_52 ?_
        refine r_get F X 0 (by decide) (eK_0 G _) rfl gl_RX4 0 (by decide) rfl gf_RX4_12 rfl dX4_count_53 ?_
        refine d_cVI F X 1 (by decide) (eK_1 G _) rfl (c_X2_isWhole l G σ N r hP hW) gv_RX4_155 rfl nd_X2_isWhole rfl (rest := []) rfl (Nat.le_of_ble_eq_true rfl) ⟨Nat.le_of_ble_eq_true rfl, Nat.le_of_ble_eq_true rfl⟩ ⟨Nat.zero_le _, Nat.zero_le _⟩ hl.1 dX4_count_56 (fun H locs X => ?_)
        refine r_bz_eq F 66 (whl N r = true) rfl (by decide) dX4_count_59 (fun c6 => ?_) (fun c6 => ?_)
        · skip
          refine r_iconst F dX4_count_66 ?_
          exact r_iret F X hr hk dX4_count_67 (⟨by unfold qCount; grind, hC, KX.refl σ⟩)
        · skip
          refine r_iconst F dX4_count_62 ?_
          refine r_goto F 67 (by decide) dX4_count_63 ?_
          exact r_iret F X hr hk dX4_count_67 (⟨by unfold qCount; grind, hC, KX.refl σ⟩)
      · skip
        refine r_tabIn F 13 68 q2 (by decide) (by decide) (by decide) rfl (by decide) dX4_count_20 ?_
        refine r_aload_n F hl 0 rfl rfl dX4_count_68 ?_
        refine r_cVI F X 0 (by decide) (eK_0 G _) rfl (c_X4_isDrawn l G σ N r n hs hC) gv_RX4_108 rfl nd_X4_isDrawn rfl (rest := []) rfl (Nat.le_of_ble_eq_true rfl) ⟨Nat.le_of_ble_eq_true rfl, Nat.le_of_ble_eq_true rfl⟩ ⟨Nat.zero_le _, Nat.zero_le _⟩ hl.1 dX4_count_69 (fun x1 τ1 H locs hI X => ?_)
        obtain ⟨hx1, hC1, hK1, hD1⟩ := hI
        have hP1 := hC1.1
        refine r_eqI (b := if whl N r = true then 1 else 0) (hx1) ?_
        refine r_bz_eq F 89 (whl N r = true) rfl (by decide) dX4_count_72 (fun c7 => ?_) (fun c7 => ?_)
        · skip
          refine r_iconst F dX4_count_89 ?_
          exact r_iret F X hr hk dX4_count_90 (⟨by unfold qCount; grind, hC1, hK1⟩)
        · skip
          have hD2 := (hD1 c7).2
          have hR2 := hD2.l (by omega)
          have hL2 := lfI_LR hW c7
          refine r_aload_n F hl 0 rfl rfl dX4_count_75 ?_
          refine r_get F X 0 (by decide) (eK_0 G _) rfl gl_RX4 2 (by decide) rfl gf_RX4_28 rfl dX4_count_76 ?_
          refine d_cVI F X 5 (by decide) (eK_P (Or.inl rfl : (5 : Nat) = 5 ∨ (5 : Nat) = 18) G _) rfl (c_X3_isGood l G τ1 5 N r (τ1 (5 + 2 + 0)) (Or.inl rfl) (hP1) hW (hD2.1) (hD2.2.LR hL2) (rfl)) gv_RX4_185 rfl nd_X3_isGood rfl (rest := []) rfl (Nat.le_of_ble_eq_true rfl) ⟨Nat.le_of_ble_eq_true rfl, Nat.le_of_ble_eq_true rfl⟩ ⟨Nat.zero_le _, Nat.zero_le _⟩ hl.1 dX4_count_79 (fun H locs X => ?_)
          refine r_eqI (b := if gd (lfI r) N r = true then 1 else 0) (by rw [hD2.2.gd hW]) ?_
          refine r_bz_eq F 89 (gd (lfI r) N r = true) rfl (by decide) dX4_count_82 (fun c8 => ?_) (fun c8 => ?_)
          · skip
            refine r_iconst F dX4_count_89 ?_
            exact r_iret F X hr hk dX4_count_90 (⟨by unfold qCount; grind, hC1, hK1⟩)
          · skip
            refine r_iconst F dX4_count_85 ?_
            refine r_goto F 90 (by decide) dX4_count_86 ?_
            exact r_iret F X hr hk dX4_count_90 (⟨by unfold qCount; grind, hC1, hK1⟩)
      · skip
        refine r_tabIn F 14 91 q2 (by decide) (by decide) (by decide) rfl (by decide) dX4_count_20 ?_
        refine r_aload_n F hl 0 rfl rfl dX4_count_91 ?_
        refine r_get F X 0 (by decide) (eK_0 G _) rfl gl_RX4 1 (by decide) rfl gf_RX4_19 rfl dX4_count_92 ?_
        refine d_cVI F X 3 (by decide) (eK_3 G _) rfl (c_X1_size l G σ ) gv_RX4_92 rfl nd_X1_size rfl (rest := []) rfl (Nat.le_of_ble_eq_true rfl) ⟨Nat.le_of_ble_eq_true rfl, Nat.le_of_ble_eq_true rfl⟩ ⟨Nat.zero_le _, Nat.zero_le _⟩ hl.1 dX4_count_95 (fun H locs X => ?_)
        refine r_eqI (b := n) (hH.1) ?_
        exact r_iret F X hr hk dX4_count_98 (⟨by unfold qCount; grind, hC, KX.refl σ⟩)
      · skip
        refine r_tabIn F 15 99 q2 (by decide) (by decide) (by decide) rfl (by decide) dX4_count_20 ?_
        refine r_aload_n F hl 0 rfl rfl dX4_count_99 ?_
        refine r_get F X 0 (by decide) (eK_0 G _) rfl gl_RX4 0 (by decide) rfl gf_RX4_12 rfl dX4_count_100 ?_
        refine r_aload_n F hl 0 rfl rfl dX4_count_103 ?_
        refine r_get F X 0 (by decide) (eK_0 G _) rfl gl_RX4 0 (by decide) rfl gf_RX4_12 rfl dX4_count_104 ?_
        refine r_iconst F dX4_count_107 ?_
        refine d_cVI F X 1 (by decide) (eK_1 G _) rfl (c_X2_get l G σ (r 60) 1 (by omega) (hP.se)) gv_RX4_45 rfl nd_X2_get rfl (rest := [.ref (gY G 1)]) rfl (Nat.le_of_ble_eq_true rfl) ⟨Nat.le_of_ble_eq_true rfl, Nat.le_of_ble_eq_true rfl⟩ ⟨Nat.zero_le _, Nat.zero_le _⟩ hl.1 dX4_count_108 (fun H locs X => ?_)
        refine d_cVI F X 1 (by decide) (eK_1 G _) rfl (c_X2_longAheadOf l G σ N r (r 60) hP hW (by omega)) gv_RX4_102 rfl nd_X2_longAheadOf rfl (rest := []) rfl (Nat.le_of_ble_eq_true rfl) ⟨Nat.le_of_ble_eq_true rfl, Nat.le_of_ble_eq_true rfl⟩ ⟨Nat.zero_le _, Nat.zero_le _⟩ hl.1 dX4_count_111 (fun H locs X => ?_)
        exact r_iret F X hr hk dX4_count_114 (⟨by unfold qCount; grind, hC, KX.refl σ⟩)
      · skip
        refine r_tabOut F 115 (by omega) q2 (by decide) dX4_count_20 ?_
        refine r_iconst F dX4_count_115 ?_
        exact r_iret F X hr hk dX4_count_116 (⟨by unfold qCount; grind, hC, KX.refl σ⟩)
    · skip
      refine r_aload_n F hl 0 rfl rfl dX4_count_10 ?_
      refine r_get F X 0 (by decide) (eK_0 G _) rfl gl_RX4 0 (by decide) rfl gf_RX4_12 rfl dX4_count_11 ?_
      refine r_iload_n F hl 1 rfl rfl dX4_count_14 ?_
      refine d_cVI F X 1 (by decide) (eK_1 G _) rfl (c_X2_get l G σ (qCount N r n w) w (by omega) (by unfold qCount; rcases (show w = 0 ∨ w = 1 ∨ w = 11 ∨ (2 ≤ w ∧ w ≤ 10) by omega) with h9 | h9 | h9 | h9; (subst h9; exact hP.st); (subst h9; exact hP.se); (subst h9; exact hP.ma); (rw [if_neg (by omega), if_neg (by omega), if_pos h9]; exact hP.set w h9.1 h9.2))) gv_RX4_45 rfl nd_X2_get rfl (rest := []) rfl (Nat.le_of_ble_eq_true rfl) ⟨Nat.le_of_ble_eq_true rfl, Nat.le_of_ble_eq_true rfl⟩ ⟨Nat.zero_le _, Nat.zero_le _⟩ hl.1 dX4_count_15 (fun H locs X => ?_)
      exact r_iret F X hr hk dX4_count_18 (⟨rfl, hC, KX.refl σ⟩)
