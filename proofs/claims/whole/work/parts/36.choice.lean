def lt9 (N : Int) (r : Int → Int) : Int → Int → Bool := fun x y => bet N r (ph r x) (ph r y)
theorem lwn_nx {r bt : Int → Int} {K : Int} (h : BT r bt K) (x : Int) {j : Int} (h0 : 0 ≤ j) (h1 : j < max 1 K) : lwn K x (if j + 1 < max 1 K then j + 1 else 0) = lwn K x (nx K j) := by
  have := h.K0
  unfold nx
  congr 1
  by_cases q : j + 1 < K
  · rw [if_pos (by omega), if_pos q]
  · rw [if_neg (by omega), if_neg q]
theorem lwn_K0 (x j : Int) (h : 0 ≤ j) : lwn 0 x j = 0 := by unfold lwn; rw [if_neg (by omega)]
theorem CE.read {σ : St} {N : Int} {r bt : Int → Int} {K j pp x : Int} (h : CE σ N r bt K j) (hB : BT r bt K) (hW : WF N r) (h0 : 0 ≤ j) (h1 : j < max 1 K) (hp : pp = lwn K x j) : σ 33 (j * 16 + pp * 4 + lwn K x (nx K j)) = l2 N r bt K (zy r x) j ∧ σ 34 (j * 16 + pp * 4 + lwn K x (nx K j)) = l3 N r bt K (zy r x) j ∧ σ 35 (j * 16 + pp * 4 + lwn K x (nx K j)) = (if lg N r bt K (zy r x) j = true then 1 else 0) := by
  have k0 := hB.K0
  have a := lwn_rg K x j
  have b := lwn_rg K x (nx K j)
  rw [hp]
  refine h _ _ a.1 (by omega) b.1 (by omega) _ (zy_LWS hW x) (fun q => ?_) (fun q => ?_)
  · have n := nx_rg (K := K) (j := j) (by omega) h0 (by omega)
    exact ⟨(lwn_zy hB h0 (by omega)).symm, (lwn_zy hB n.1 n.2).symm⟩
  · subst q
    have n : nx 0 j = 0 := by unfold nx; rw [if_neg (by omega)]
    rw [n]
    exact ⟨lwn_K0 x j h0, lwn_K0 x 0 (by omega)⟩
theorem BV.rg {σ : St} {N : Int} {r : Int → Int} (h : BV σ N r) (hW : WF N r) (hwh : whl N r = true) : (0 ≤ σ 31 9 ∧ σ 31 9 ≤ 3996) ∧ (0 ≤ σ 31 10 ∧ σ 31 10 ≤ 3996) ∧ (σ 31 11 = 0 ∨ σ 31 11 = 1) := by
  have a := wv_rg hW hwh (ph r (σ 31 8))
  rw [h.1, h.2.1, h.2.2]
  refine ⟨by omega, by omega, ?_⟩
  split
  · exact Or.inr rfl
  · exact Or.inl rfl
theorem bet_iff {N : Int} {r : Int → Int} {x y g1 s1 t1 g s t : Int} (h1 : s1 = wS N r y) (h2 : t1 = wT N r y) (h3 : g1 = (if wG N r y = true then 1 else 0)) (k1 : s = wS N r x) (k2 : t = wT N r x) (k3 : g = (if wG N r x = true then 1 else 0)) : (if g ≠ g1 then g else if s < s1 ∨ (s = s1 ∧ t < t1) then 1 else 0) = (if bet N r x y = true then (1 : Int) else 0) := by
  subst h1 h2 h3 k1 k2 k3
  unfold bet
  cases hx : wG N r x <;> cases hy : wG N r y <;> simp
theorem ff_lo {bt : Int → Int} {K s j : Int} (h0 : 0 ≤ j) (h1 : j < K) (h : bt j = s) (hn : ∀ i : Int, 0 ≤ i → i < j → bt i ≠ s) : ffI (fun i => decide (bt i = s)) K = j := ffI_some h0 h1 (decide_eq_true h) (fun i a b => decide_eq_false (hn i a b))
theorem ff_no {bt : Int → Int} {K s : Int} (hn : ∀ i : Int, 0 ≤ i → i < K → bt i ≠ s) : ffI (fun i => decide (bt i = s)) K = -1 := ffI_none (fun i a b => decide_eq_false (hn i a b))
/-- what refresh leaves -/
theorem CD.make {σ : St} {N : Int} {r : Int → Int} {K : Int} (hW : WF N r) (hwh : whl N r = true) (hK : σ 31 6 = K) (h6 : K ≤ 6) (hB : BT r (σ 32) K) (h8 : σ 31 8 = amI (lt9 N r) (4 ^ K.toNat)) (hV : BV σ N r) : CD σ N r := by
  have hw := hW.num
  have k0 := hB.K0
  have hKc : K.toNat = cc (bnt r) (r 60).toNat := by have := hB.1; omega
  have p4 := p4_rg ⟨k0, h6⟩
  have rg := amI_rg (lt9 N r) (n := 4 ^ K.toNat) (by omega)
  have hb : bW N r = ph r (σ 31 8) := by
    rw [best_way hW hwh, h8, hKc]; rfl
  unfold CD
  rw [hb]
  refine ⟨by omega, by omega, by omega, by omega, fun j a b => ?_, fun s a b => ?_, hV.1, hV.2.1, hV.2.2⟩
  · rw [hK] at b
    have := hB.2.2 j a b
    exact ⟨this.1, by omega⟩
  · rw [wy_ph (by omega) a b]
    unfold lo
    rw [hK]
    by_cases q : dwl r s = true
    · unfold zy; rw [if_pos q, if_pos q]
    · rw [if_neg q]
      by_cases z : bnt r s = true
      · have e := hB.2.1 s a b z
        have i0 : (0 : Int) ≤ (cc (bnt r) s.toNat : Int) := by omega
        have i1 : (cc (bnt r) s.toNat : Int) < K := by
          have := cc_lt (bnt r) (show s.toNat < (r 60).toNat by omega) (by rw [show ((s.toNat : Nat) : Int) = s by omega]; exact z)
          omega
        have f := ff_lo (bt := σ 32) i0 i1 e (fun i c d y => by
          have := (hB.2.2 i c (by omega)).2.2.2
          rw [y] at this; omega)
        rw [f, if_neg (by omega)]
        unfold zy dg
        rw [if_neg q, if_pos z]
        congr 3
        omega
      · have f := ff_no (bt := σ 32) (K := K) (s := s) (fun i c d y => by
          have := (hB.2.2 i c d).2.2.1
          rw [y] at this; exact z this)
        rw [f, if_pos (by decide)]
        unfold zy; rw [if_neg q, if_neg z]
theorem c_X0_compare (l : Launch) (G : GT) (σ : St) (N : Int) (r : Int → Int) (K : Int) (x : Int) (hP : PL σ N r) (hW : WF N r) (hwh : whl N r = true) (hK : σ 31 6 = K ∧ K ≤ 6) (hB : BT r (σ 32) K) (h7 : σ 31 7 = max 1 K) (hCE : ∀ j : Int, 0 ≤ j → j < max 1 K → CE σ N r (σ 32) K j) (hx : 0 ≤ x ∧ x < 4 ^ K.toNat) (h8 : σ 31 8 = -1 ∨ (0 ≤ σ 31 8 ∧ σ 31 8 < x ∧ BV σ N r)) : Ct l yX0_compare cX0_compare 9 none 4 G [.ref (gY G 31), .int (I x)] σ (QV G (fun τ9 => (∀ c : Nat, c ≠ 31 → τ9 c = σ c) ∧ (∀ i : Int, (i < 8 ∨ 11 < i) → τ9 31 i = σ 31 i) ∧ τ9 31 8 = (if 0 ≤ σ 31 8 ∧ ¬ lt9 N r x (σ 31 8) = true then σ 31 8 else x) ∧ BV τ9 N r)) := by
  refine mt (own := RX0) (plainFor_of_name rfl) rfl (Nat.le_of_ble_eq_true rfl) ?_
  intro p e s m args below meth c ls F hr hk X hl
  have hl : lv_has ls 9 [(0, .ref (gY G 31)), (1, .int (I x))] := hl
  have hw := hW.num
  have hK0 := hB.K0
  have hp4 := p4_rg ⟨hK0, hK.2⟩
  have hvw := v_way hB hW hwh x
  have hwr := wv_rg hW hwh (ph r x)
  refine r_iconst F dX0_compare_0 ?_
  refine r_istore_n F hl [(2, .int (I 0)), (0, .ref (gY G 31)), (1, .int (I x))] rfl (by decide) rfl dX0_compare_1 (fun ls hl => ?_)
  refine r_iconst F dX0_compare_2 ?_
  refine r_istore_n F hl [(3, .int (I 0)), (2, .int (I 0)), (0, .ref (gY G 31)), (1, .int (I x))] rfl (by decide) rfl dX0_compare_3 (fun ls hl => ?_)
  refine r_iconst F dX0_compare_4 ?_
  refine r_istore F hl [(4, .int (I 1)), (3, .int (I 0)), (2, .int (I 0)), (0, .ref (gY G 31)), (1, .int (I x))] (by decide) rfl dX0_compare_5 (fun ls hl => ?_)
  refine r_aload_n F hl 3 rfl rfl dX0_compare_7 ?_
  refine r_iload_n F hl 4 rfl rfl dX0_compare_8 ?_
  refine r_iconst F dX0_compare_9 ?_
  refine d_cVI F X 31 (by decide) (eK_31 G _) rfl (c_X0_lawIn l G σ K x 0 (⟨hK.1, hK0, hK.2⟩) (by omega) (by omega)) gv_RX0_85 rfl nd_X0_lawIn rfl (rest := []) rfl (Nat.le_of_ble_eq_true rfl) ⟨Nat.le_of_ble_eq_true rfl, Nat.le_of_ble_eq_true rfl⟩ ⟨Nat.zero_le _, Nat.zero_le _⟩ hl.1 dX0_compare_10 (fun H locs X => ?_)
  refine r_istore F hl [(5, .int (I (lwn K x 0))), (4, .int (I 1)), (3, .int (I 0)), (2, .int (I 0)), (0, .ref (gY G 31)), (1, .int (I x))] (by decide) rfl dX0_compare_13 (fun ls hl => ?_)
  refine r_iconst F dX0_compare_15 ?_
  refine r_istore F hl [(6, .int (I 0)), (5, .int (I (lwn K x 0))), (4, .int (I 1)), (3, .int (I 0)), (2, .int (I 0)), (0, .ref (gY G 31)), (1, .int (I x))] (by decide) rfl dX0_compare_16 (fun ls hl => ?_)
  have loop18 : ∀ (n : Nat) (j : Int) (pp : Int) (ls : Array Slot) (H : Heap) (locs : List Loc) (hn : max 1 K - j < n) (hj : 0 ≤ j ∧ j ≤ max 1 K) (hpr : 0 ≤ pp ∧ pp ≤ 3) (hpp : j < max 1 K → pp = lwn K x j) (X : HX G σ s H locs) (hl : lv_has ls 9 [(0, .ref (gY G 31)), (1, .int (I x)), (2, .int (I (mxI (fun j9 => l2 N r (σ 32) K (zy r x) j9) j))), (3, .int (I (mxI (fun j9 => l3 N r (σ 32) K (zy r x) j9) j))), (4, .int (I (if alI (fun j9 => lg N r (σ 32) K (zy r x) j9) j = true then 1 else 0))), (5, .int (I pp)), (6, .int (I j))]), W p l e (rmd 4) s m args below meth c H locs 0 0 (MQ below (QV G (fun τ9 => (∀ c : Nat, c ≠ 31 → τ9 c = σ c) ∧ (∀ i : Int, (i < 8 ∨ 11 < i) → τ9 31 i = σ 31 i) ∧ τ9 31 8 = (if 0 ≤ σ 31 8 ∧ ¬ lt9 N r x (σ 31 8) = true then σ 31 8 else x) ∧ BV τ9 N r)) args s 0 0 (gA G)) (F0 m 18 ls []) := by
    intro n
    induction n with
    | zero => intro j pp ls H locs hn hj hpr hpp X hl; omega
    | succ n ih18 =>
      intro j pp ls H locs hn hj hpr hpp X hl
      refine r_iload F hl 6 rfl dX0_compare_18 ?_
      refine r_aload_n F hl 0 rfl rfl dX0_compare_20 ?_
      refine r_get F X 31 (by decide) (eK_31 G _) rfl gl_RX0 7 (by decide) rfl gf_RX0_45 rfl dX0_compare_21 ?_
      refine r_eqI (b := max 1 K) (h7) ?_
      refine r_icmp_ge F 139 (by decide) (by omega) (by omega) dX0_compare_24 (fun c1 => ?_) (fun c1 => ?_)
      · skip
        have hje : j = max 1 K := by omega
        rw [← hje] at hvw
        refine r_aload_n F hl 0 rfl rfl dX0_compare_139 ?_
        refine r_get F X 31 (by decide) (eK_31 G _) rfl gl_RX0 8 (by decide) rfl gf_RX0_82 rfl dX0_compare_140 ?_
        refine r_iconst F dX0_compare_143 ?_
        refine r_icmp_eq F 158 (by decide) (by omega) (by omega) dX0_compare_144 (fun c2 => ?_) (fun c2 => ?_)
        · skip
          refine r_aload_n F hl 0 rfl rfl dX0_compare_158 ?_
          refine r_iload_n F hl 1 rfl rfl dX0_compare_159 ?_
          refine r_put F X 31 (by decide) (upI (σ 31) 8 x) (eK_31 G _) rfl gl_RX0 tyX0 tyX0_ok nmX0 8 (by decide) rfl gf_RX0_82 rfl (tyX0_ok 8 (by decide)) rfl rfl (Nat.le_of_ble_eq_true rfl) (eK_31 G _) dX0_compare_160 (fun H locs X => ?_)
          obtain ⟨σ1, eσ1⟩ : ∃ x9 : St, x9 = up σ 31 (upI (σ 31) 8 x) := ⟨_, rfl⟩
          rw [← eσ1] at X
          refine r_aload_n F hl 0 rfl rfl dX0_compare_163 ?_
          refine r_iload_n F hl 2 rfl rfl dX0_compare_164 ?_
          refine r_put F X 31 (by decide) (upI (σ1 31) 9 (mxI (fun j9 => l2 N r (σ 32) K (zy r x) j9) j)) (eK_31 G _) rfl gl_RX0 tyX0 tyX0_ok nmX0 9 (by decide) rfl gf_RX0_56 rfl (tyX0_ok 9 (by decide)) rfl rfl (Nat.le_of_ble_eq_true rfl) (eK_31 G _) dX0_compare_165 (fun H locs X => ?_)
          obtain ⟨σ2, eσ2⟩ : ∃ x9 : St, x9 = up σ1 31 (upI (σ1 31) 9 (mxI (fun j9 => l2 N r (σ 32) K (zy r x) j9) j)) := ⟨_, rfl⟩
          rw [← eσ2] at X
          refine r_aload_n F hl 0 rfl rfl dX0_compare_168 ?_
          refine r_iload_n F hl 3 rfl rfl dX0_compare_169 ?_
          refine r_put F X 31 (by decide) (upI (σ2 31) 10 (mxI (fun j9 => l3 N r (σ 32) K (zy r x) j9) j)) (eK_31 G _) rfl gl_RX0 tyX0 tyX0_ok nmX0 10 (by decide) rfl gf_RX0_59 rfl (tyX0_ok 10 (by decide)) rfl rfl (Nat.le_of_ble_eq_true rfl) (eK_31 G _) dX0_compare_170 (fun H locs X => ?_)
          obtain ⟨σ3, eσ3⟩ : ∃ x9 : St, x9 = up σ2 31 (upI (σ2 31) 10 (mxI (fun j9 => l3 N r (σ 32) K (zy r x) j9) j)) := ⟨_, rfl⟩
          rw [← eσ3] at X
          refine r_aload_n F hl 0 rfl rfl dX0_compare_173 ?_
          refine r_iload F hl 4 rfl dX0_compare_174 ?_
          refine r_put F X 31 (by decide) (upI (σ3 31) 11 (if alI (fun j9 => lg N r (σ 32) K (zy r x) j9) j = true then 1 else 0)) (eK_31 G _) rfl gl_RX0 tyX0 tyX0_ok nmX0 11 (by decide) rfl gf_RX0_62 rfl (tyX0_ok 11 (by decide)) (nzb (by split <;> simp)) (nzf (by split <;> simp)) (Nat.le_of_ble_eq_true rfl) (eK_31 G _) dX0_compare_176 (fun H locs X => ?_)
          obtain ⟨σ4, eσ4⟩ : ∃ x9 : St, x9 = up σ3 31 (upI (σ3 31) 11 (if alI (fun j9 => lg N r (σ 32) K (zy r x) j9) j = true then 1 else 0)) := ⟨_, rfl⟩
          rw [← eσ4] at X
          have hfin : (∀ c : Nat, c ≠ 31 → σ4 c = σ c) ∧ (∀ i : Int, (i < 8 ∨ 11 < i) → σ4 31 i = σ 31 i) ∧ σ4 31 8 = (if 0 ≤ σ 31 8 ∧ ¬ lt9 N r x (σ 31 8) = true then σ 31 8 else x) ∧ BV σ4 N r := by
            have e0 : ∀ c : Nat, c ≠ 31 → σ4 c = σ c := fun c a => by rw [eσ4, up_ne a, eσ3, up_ne a, eσ2, up_ne a, eσ1, up_ne a]
            have e1 : σ4 31 = upI (upI (upI (upI (σ 31) 8 x) 9 (mxI (fun j9 => l2 N r (σ 32) K (zy r x) j9) j)) 10 (mxI (fun j9 => l3 N r (σ 32) K (zy r x) j9) j)) 11 (if alI (fun j9 => lg N r (σ 32) K (zy r x) j9) j = true then 1 else 0) := by rw [eσ4, up_eq, eσ3, up_eq, eσ2, up_eq, eσ1, up_eq]
            have e8 : σ4 31 8 = x := by rw [e1, upI_ne (by omega), upI_ne (by omega), upI_ne (by omega), upI_eq]
            refine ⟨e0, fun i a => by rw [e1, upI_ne (by omega), upI_ne (by omega), upI_ne (by omega), upI_ne (by omega)], ?_, ?_⟩
            · rw [e8]; first | rw [if_neg (fun h9 => absurd h9.2 (by simpa using (by assumption)))] | rw [if_neg (by omega)]
            · unfold BV; rw [e8, e1, upI_eq, upI_ne (by omega), upI_ne (by omega), upI_eq, upI_ne (by omega), upI_eq, hvw.1, hvw.2.1, hvw.2.2]; exact ⟨rfl, rfl, rfl⟩
          exact r_vret F X hr hk dX0_compare_179 (hfin)
        · skip
          obtain ⟨h80, h8x, hbv9⟩ := h8.resolve_left (by assumption)
          have hbv := hbv9.rg hW hwh
          refine r_aload_n F hl 0 rfl rfl dX0_compare_147 ?_
          refine r_iload F hl 4 rfl dX0_compare_148 ?_
          refine r_iload_n F hl 2 rfl rfl dX0_compare_150 ?_
          refine r_iload_n F hl 3 rfl rfl dX0_compare_151 ?_
          refine d_cVI F X 31 (by decide) (eK_31 G _) rfl (c_X0_isBetter l G σ (if alI (fun j9 => lg N r (σ 32) K (zy r x) j9) j = true then 1 else 0) (mxI (fun j9 => l2 N r (σ 32) K (zy r x) j9) j) (mxI (fun j9 => l3 N r (σ 32) K (zy r x) j9) j) (by rw [hvw.2.2]; split <;> simp) (hbv.2.2) (by rw [hvw.1]; omega) (by rw [hvw.2.1]; omega) (by omega) (by omega)) gv_RX0_124 rfl nd_X0_isBetter rfl (rest := []) rfl (Nat.le_of_ble_eq_true rfl) ⟨Nat.le_of_ble_eq_true rfl, Nat.le_of_ble_eq_true rfl⟩ ⟨Nat.zero_le _, Nat.zero_le _⟩ hl.1 dX0_compare_152 (fun H locs X => ?_)
          refine r_eqI (b := if lt9 N r x (σ 31 8) = true then 1 else 0) (bet_iff hbv9.1 hbv9.2.1 hbv9.2.2 hvw.1 hvw.2.1 (by rw [hvw.2.2])) ?_
          refine r_bz_eq F 179 (lt9 N r x (σ 31 8) = true) rfl (by decide) dX0_compare_155 (fun c3 => ?_) (fun c3 => ?_)
          · skip
            have hfin : (∀ c : Nat, c ≠ 31 → σ c = σ c) ∧ (∀ i : Int, (i < 8 ∨ 11 < i) → σ 31 i = σ 31 i) ∧ σ 31 8 = (if 0 ≤ σ 31 8 ∧ ¬ lt9 N r x (σ 31 8) = true then σ 31 8 else x) ∧ BV σ N r := by
              exact ⟨fun _ _ => rfl, fun _ _ => rfl, by rw [if_pos ⟨h80, by assumption⟩], hbv9⟩
            exact r_vret F X hr hk dX0_compare_179 (hfin)
          · skip
            refine r_aload_n F hl 0 rfl rfl dX0_compare_158 ?_
            refine r_iload_n F hl 1 rfl rfl dX0_compare_159 ?_
            refine r_put F X 31 (by decide) (upI (σ 31) 8 x) (eK_31 G _) rfl gl_RX0 tyX0 tyX0_ok nmX0 8 (by decide) rfl gf_RX0_82 rfl (tyX0_ok 8 (by decide)) rfl rfl (Nat.le_of_ble_eq_true rfl) (eK_31 G _) dX0_compare_160 (fun H locs X => ?_)
            obtain ⟨σ5, eσ5⟩ : ∃ x9 : St, x9 = up σ 31 (upI (σ 31) 8 x) := ⟨_, rfl⟩
            rw [← eσ5] at X
            refine r_aload_n F hl 0 rfl rfl dX0_compare_163 ?_
            refine r_iload_n F hl 2 rfl rfl dX0_compare_164 ?_
            refine r_put F X 31 (by decide) (upI (σ5 31) 9 (mxI (fun j9 => l2 N r (σ 32) K (zy r x) j9) j)) (eK_31 G _) rfl gl_RX0 tyX0 tyX0_ok nmX0 9 (by decide) rfl gf_RX0_56 rfl (tyX0_ok 9 (by decide)) rfl rfl (Nat.le_of_ble_eq_true rfl) (eK_31 G _) dX0_compare_165 (fun H locs X => ?_)
            obtain ⟨σ6, eσ6⟩ : ∃ x9 : St, x9 = up σ5 31 (upI (σ5 31) 9 (mxI (fun j9 => l2 N r (σ 32) K (zy r x) j9) j)) := ⟨_, rfl⟩
            rw [← eσ6] at X
            refine r_aload_n F hl 0 rfl rfl dX0_compare_168 ?_
            refine r_iload_n F hl 3 rfl rfl dX0_compare_169 ?_
            refine r_put F X 31 (by decide) (upI (σ6 31) 10 (mxI (fun j9 => l3 N r (σ 32) K (zy r x) j9) j)) (eK_31 G _) rfl gl_RX0 tyX0 tyX0_ok nmX0 10 (by decide) rfl gf_RX0_59 rfl (tyX0_ok 10 (by decide)) rfl rfl (Nat.le_of_ble_eq_true rfl) (eK_31 G _) dX0_compare_170 (fun H locs X => ?_)
            obtain ⟨σ7, eσ7⟩ : ∃ x9 : St, x9 = up σ6 31 (upI (σ6 31) 10 (mxI (fun j9 => l3 N r (σ 32) K (zy r x) j9) j)) := ⟨_, rfl⟩
            rw [← eσ7] at X
            refine r_aload_n F hl 0 rfl rfl dX0_compare_173 ?_
            refine r_iload F hl 4 rfl dX0_compare_174 ?_
            refine r_put F X 31 (by decide) (upI (σ7 31) 11 (if alI (fun j9 => lg N r (σ 32) K (zy r x) j9) j = true then 1 else 0)) (eK_31 G _) rfl gl_RX0 tyX0 tyX0_ok nmX0 11 (by decide) rfl gf_RX0_62 rfl (tyX0_ok 11 (by decide)) (nzb (by split <;> simp)) (nzf (by split <;> simp)) (Nat.le_of_ble_eq_true rfl) (eK_31 G _) dX0_compare_176 (fun H locs X => ?_)
            obtain ⟨σ8, eσ8⟩ : ∃ x9 : St, x9 = up σ7 31 (upI (σ7 31) 11 (if alI (fun j9 => lg N r (σ 32) K (zy r x) j9) j = true then 1 else 0)) := ⟨_, rfl⟩
            rw [← eσ8] at X
            have hfin : (∀ c : Nat, c ≠ 31 → σ8 c = σ c) ∧ (∀ i : Int, (i < 8 ∨ 11 < i) → σ8 31 i = σ 31 i) ∧ σ8 31 8 = (if 0 ≤ σ 31 8 ∧ ¬ lt9 N r x (σ 31 8) = true then σ 31 8 else x) ∧ BV σ8 N r := by
              have e0 : ∀ c : Nat, c ≠ 31 → σ8 c = σ c := fun c a => by rw [eσ8, up_ne a, eσ7, up_ne a, eσ6, up_ne a, eσ5, up_ne a]
              have e1 : σ8 31 = upI (upI (upI (upI (σ 31) 8 x) 9 (mxI (fun j9 => l2 N r (σ 32) K (zy r x) j9) j)) 10 (mxI (fun j9 => l3 N r (σ 32) K (zy r x) j9) j)) 11 (if alI (fun j9 => lg N r (σ 32) K (zy r x) j9) j = true then 1 else 0) := by rw [eσ8, up_eq, eσ7, up_eq, eσ6, up_eq, eσ5, up_eq]
              have e8 : σ8 31 8 = x := by rw [e1, upI_ne (by omega), upI_ne (by omega), upI_ne (by omega), upI_eq]
              refine ⟨e0, fun i a => by rw [e1, upI_ne (by omega), upI_ne (by omega), upI_ne (by omega), upI_ne (by omega)], ?_, ?_⟩
              · rw [e8]; first | rw [if_neg (fun h9 => absurd h9.2 (by simpa using (by assumption)))] | rw [if_neg (by omega)]
              · unfold BV; rw [e8, e1, upI_eq, upI_ne (by omega), upI_ne (by omega), upI_eq, upI_ne (by omega), upI_eq, hvw.1, hvw.2.1, hvw.2.2]; exact ⟨rfl, rfl, rfl⟩
            exact r_vret F X hr hk dX0_compare_179 (hfin)
      · skip
        have hlq := lwn_rg K x (nx K j)
        have hrd := (hCE j hj.1 (by omega)).read hB hW hj.1 (by omega) (hpp (by omega))
        have hl23 := l23_rg (K := K) (bt := σ 32) (j := j) hW hwh (zy_LWS hW x)
        refine r_aload_n F hl 0 rfl rfl dX0_compare_27 ?_
        refine r_iload_n F hl 1 rfl rfl dX0_compare_28 ?_
        refine r_iload F hl 6 rfl dX0_compare_29 ?_
        refine r_iconst F dX0_compare_31 ?_
        refine r_iadd F dX0_compare_32 ?_
        refine r_aload_n F hl 0 rfl rfl dX0_compare_33 ?_
        refine r_get F X 31 (by decide) (eK_31 G _) rfl gl_RX0 7 (by decide) rfl gf_RX0_45 rfl dX0_compare_34 ?_
        refine r_eqI (b := max 1 K) (h7) ?_
        refine r_icmp_ge F 47 (by decide) (by omega) (by omega) dX0_compare_37 (fun c4 => ?_) (fun c4 => ?_)
        · skip
          refine r_iconst F dX0_compare_47 ?_
          refine d_cVI F X 31 (by decide) (eK_31 G _) rfl (c_X0_lawIn l G σ K x 0 (⟨hK.1, hK0, hK.2⟩) (by omega) (by omega)) gv_RX0_85 rfl nd_X0_lawIn rfl (rest := []) rfl (Nat.le_of_ble_eq_true rfl) ⟨Nat.le_of_ble_eq_true rfl, Nat.le_of_ble_eq_true rfl⟩ ⟨Nat.zero_le _, Nat.zero_le _⟩ hl.1 dX0_compare_48 (fun H locs X => ?_)
          refine r_eqI (b := lwn K x (nx K j)) (by first | exact (by rw [if_pos (by omega)] : _ = lwn K x (if j + 1 < max 1 K then j + 1 else 0)).trans (lwn_nx hB x (by omega) (by omega)) | exact (by rw [if_neg (by omega)] : _ = lwn K x (if j + 1 < max 1 K then j + 1 else 0)).trans (lwn_nx hB x (by omega) (by omega))) ?_
          refine r_istore F hl [(7, .int (I (lwn K x (nx K j)))), (0, .ref (gY G 31)), (1, .int (I x)), (2, .int (I (mxI (fun j9 => l2 N r (σ 32) K (zy r x) j9) j))), (3, .int (I (mxI (fun j9 => l3 N r (σ 32) K (zy r x) j9) j))), (4, .int (I (if alI (fun j9 => lg N r (σ 32) K (zy r x) j9) j = true then 1 else 0))), (5, .int (I pp)), (6, .int (I j))] (by decide) rfl dX0_compare_51 (fun ls hl => ?_)
          refine r_iload F hl 7 rfl dX0_compare_53 ?_
          refine r_bipush F (by decide) dX0_compare_55 ?_
          refine r_imul F dX0_compare_57 ?_
          refine r_iload F hl 6 rfl dX0_compare_58 ?_
          refine r_iconst F dX0_compare_60 ?_
          refine r_imul F dX0_compare_61 ?_
          refine r_iadd F dX0_compare_62 ?_
          refine r_iload F hl 0 rfl dX0_compare_63 ?_
          refine r_iadd F dX0_compare_65 ?_
          refine r_istore F hl [(8, .int (I (((j * 16) + (pp * 4)) + (lwn K x (nx K j))))), (7, .int (I (lwn K x (nx K j)))), (0, .ref (gY G 31)), (1, .int (I x)), (2, .int (I (mxI (fun j9 => l2 N r (σ 32) K (zy r x) j9) j))), (3, .int (I (mxI (fun j9 => l3 N r (σ 32) K (zy r x) j9) j))), (4, .int (I (if alI (fun j9 => lg N r (σ 32) K (zy r x) j9) j = true then 1 else 0))), (5, .int (I pp)), (6, .int (I j))] (by decide) rfl dX0_compare_66 (fun ls hl => ?_)
          refine r_iload F hl 0 rfl dX0_compare_68 ?_
          refine r_if_lt F 129 (by decide) (by omega) dX0_compare_70 (fun c5 => ?_) (fun c5 => ?_)
          · omega
          · skip
            refine r_iload F hl 0 rfl dX0_compare_73 ?_
            refine r_aload_n F hl 2 rfl rfl dX0_compare_75 ?_
            refine r_get F X 31 (by decide) (eK_31 G _) rfl gl_RX0 5 (by decide) rfl gf_RX0_21 rfl dX0_compare_76 ?_
            refine r_alen F X 35 (by decide) 2 (eK_35 G _) rfl 96 rfl dX0_compare_79 ?_
            refine r_icmp_ge F 129 (by decide) (by omega) (by omega) dX0_compare_80 (fun c6 => ?_) (fun c6 => ?_)
            · omega
            · skip
              refine r_iload_n F hl 4 rfl rfl dX0_compare_83 ?_
              refine r_aload_n F hl 2 rfl rfl dX0_compare_84 ?_
              refine r_get F X 31 (by decide) (eK_31 G _) rfl gl_RX0 3 (by decide) rfl gf_RX0_15 rfl dX0_compare_85 ?_
              refine r_iload F hl 0 rfl dX0_compare_88 ?_
              refine r_iald F X 33 (by decide) (eK_33 G) (by omega) (by decide) dX0_compare_90 ?_
              refine r_eqI (b := l2 N r (σ 32) K (zy r x) j) (hrd.1) ?_
              refine d_cSI F X (c_J9_maxI l G σ (mxI (fun j9 => l2 N r (σ 32) K (zy r x) j9) j) (l2 N r (σ 32) K (zy r x) j) (by have hq9 := mxI_rg (n := j) (show (0 : Int) ≤ 3996 by omega) (g := fun j9 => l2 N r (σ 32) K (zy r x) j9) (fun i9 => by have := (l23_rg (K := K) (bt := σ 32) (j := i9) hW hwh (zy_LWS hW x)).1; omega); omega) (by omega)) gv_RX0_88 nd_J9_max_7cf53 rfl (rest := []) rfl (Nat.le_of_ble_eq_true rfl) ⟨Nat.le_of_ble_eq_true rfl, Nat.le_of_ble_eq_true rfl⟩ ⟨Nat.zero_le _, Nat.zero_le _⟩ hl.1 dX0_compare_91 (fun H locs X => ?_)
              refine r_eqI (b := mxI (fun j9 => l2 N r (σ 32) K (zy r x) j9) (j + 1)) (by rw [mxI_succ _ (by omega), ab_of hl23.1.1]) ?_
              refine r_istore_n F hl [(2, .int (I (mxI (fun j9 => l2 N r (σ 32) K (zy r x) j9) (j + 1)))), (8, .int (I (((j * 16) + (pp * 4)) + (lwn K x (nx K j))))), (7, .int (I (lwn K x (nx K j)))), (0, .ref (gY G 31)), (1, .int (I x)), (3, .int (I (mxI (fun j9 => l3 N r (σ 32) K (zy r x) j9) j))), (4, .int (I (if alI (fun j9 => lg N r (σ 32) K (zy r x) j9) j = true then 1 else 0))), (5, .int (I pp)), (6, .int (I j))] rfl (by decide) rfl dX0_compare_94 (fun ls hl => ?_)
              refine r_iload_n F hl 5 rfl rfl dX0_compare_95 ?_
              refine r_aload_n F hl 3 rfl rfl dX0_compare_96 ?_
              refine r_get F X 31 (by decide) (eK_31 G _) rfl gl_RX0 4 (by decide) rfl gf_RX0_18 rfl dX0_compare_97 ?_
              refine r_iload F hl 1 rfl dX0_compare_100 ?_
              refine r_iald F X 34 (by decide) (eK_34 G) (by omega) (by decide) dX0_compare_102 ?_
              refine r_eqI (b := l3 N r (σ 32) K (zy r x) j) (hrd.2.1) ?_
              refine d_cSI F X (c_J9_maxI l G σ (mxI (fun j9 => l3 N r (σ 32) K (zy r x) j9) j) (l3 N r (σ 32) K (zy r x) j) (by have hq9 := mxI_rg (n := j) (show (0 : Int) ≤ 3996 by omega) (g := fun j9 => l3 N r (σ 32) K (zy r x) j9) (fun i9 => by have := (l23_rg (K := K) (bt := σ 32) (j := i9) hW hwh (zy_LWS hW x)).2; omega); omega) (by omega)) gv_RX0_88 nd_J9_max_7cf53 rfl (rest := []) rfl (Nat.le_of_ble_eq_true rfl) ⟨Nat.le_of_ble_eq_true rfl, Nat.le_of_ble_eq_true rfl⟩ ⟨Nat.zero_le _, Nat.zero_le _⟩ hl.1 dX0_compare_103 (fun H locs X => ?_)
              refine r_eqI (b := mxI (fun j9 => l3 N r (σ 32) K (zy r x) j9) (j + 1)) (by rw [mxI_succ _ (by omega), ab_of hl23.2.1]) ?_
              refine r_istore_n F hl [(3, .int (I (mxI (fun j9 => l3 N r (σ 32) K (zy r x) j9) (j + 1)))), (2, .int (I (mxI (fun j9 => l2 N r (σ 32) K (zy r x) j9) (j + 1)))), (8, .int (I (((j * 16) + (pp * 4)) + (lwn K x (nx K j))))), (7, .int (I (lwn K x (nx K j)))), (0, .ref (gY G 31)), (1, .int (I x)), (4, .int (I (if alI (fun j9 => lg N r (σ 32) K (zy r x) j9) j = true then 1 else 0))), (5, .int (I pp)), (6, .int (I j))] rfl (by decide) rfl dX0_compare_106 (fun ls hl => ?_)
              refine r_iload F hl 6 rfl dX0_compare_107 ?_
              refine r_bz_eq F 126 (alI (fun j9 => lg N r (σ 32) K (zy r x) j9) j = true) rfl (by decide) dX0_compare_109 (fun c7 => ?_) (fun c7 => ?_)
              · skip
                refine r_iconst F dX0_compare_126 ?_
                refine r_eqI (b := if alI (fun j9 => lg N r (σ 32) K (zy r x) j9) (j + 1) = true then 1 else 0) (by rw [alI_succ _ (by omega)]; grind) ?_
                refine r_istore F hl [(4, .int (I (if alI (fun j9 => lg N r (σ 32) K (zy r x) j9) (j + 1) = true then 1 else 0))), (3, .int (I (mxI (fun j9 => l3 N r (σ 32) K (zy r x) j9) (j + 1)))), (2, .int (I (mxI (fun j9 => l2 N r (σ 32) K (zy r x) j9) (j + 1)))), (8, .int (I (((j * 16) + (pp * 4)) + (lwn K x (nx K j))))), (7, .int (I (lwn K x (nx K j)))), (0, .ref (gY G 31)), (1, .int (I x)), (5, .int (I pp)), (6, .int (I j))] (by decide) rfl dX0_compare_127 (fun ls hl => ?_)
                refine r_iload F hl 4 rfl dX0_compare_129 ?_
                refine r_istore F hl [(5, .int (I (lwn K x (nx K j)))), (4, .int (I (if alI (fun j9 => lg N r (σ 32) K (zy r x) j9) (j + 1) = true then 1 else 0))), (3, .int (I (mxI (fun j9 => l3 N r (σ 32) K (zy r x) j9) (j + 1)))), (2, .int (I (mxI (fun j9 => l2 N r (σ 32) K (zy r x) j9) (j + 1)))), (8, .int (I (((j * 16) + (pp * 4)) + (lwn K x (nx K j))))), (7, .int (I (lwn K x (nx K j)))), (0, .ref (gY G 31)), (1, .int (I x)), (6, .int (I j))] (by decide) rfl dX0_compare_131 (fun ls hl => ?_)
                refine r_iinc F hl [(6, .int (I (j + 1))), (5, .int (I (lwn K x (nx K j)))), (4, .int (I (if alI (fun j9 => lg N r (σ 32) K (zy r x) j9) (j + 1) = true then 1 else 0))), (3, .int (I (mxI (fun j9 => l3 N r (σ 32) K (zy r x) j9) (j + 1)))), (2, .int (I (mxI (fun j9 => l2 N r (σ 32) K (zy r x) j9) (j + 1)))), (8, .int (I (((j * 16) + (pp * 4)) + (lwn K x (nx K j))))), (7, .int (I (lwn K x (nx K j)))), (0, .ref (gY G 31)), (1, .int (I x))] 8 rfl (by decide) rfl dX0_compare_133 (fun ls hl => ?_)
                refine r_goto F 18 (by decide) dX0_compare_136 ?_
                exact ih18 (j + 1) (lwn K x (nx K j)) _ _ _ (by omega) (by omega) (by exact lwn_rg _ _ _) (by intro hh9; congr 1; unfold nx; rw [if_pos (by omega)]) X (lv_sub hl [7, 8, 4, 3, 2, 1, 0] rfl)
              · skip
                refine r_aload_n F hl 4 rfl rfl dX0_compare_112 ?_
                refine r_get F X 31 (by decide) (eK_31 G _) rfl gl_RX0 5 (by decide) rfl gf_RX0_21 rfl dX0_compare_113 ?_
                refine r_iload F hl 2 rfl dX0_compare_116 ?_
                refine r_zald F X 35 (by decide) (eK_35 G) (by omega) (by decide) dX0_compare_118 ?_
                refine r_eqI (b := if lg N r (σ 32) K (zy r x) j = true then 1 else 0) (hrd.2.2) ?_
                refine r_bz_eq F 126 (lg N r (σ 32) K (zy r x) j = true) rfl (by decide) dX0_compare_119 (fun c8 => ?_) (fun c8 => ?_)
                · skip
                  refine r_iconst F dX0_compare_126 ?_
                  refine r_eqI (b := if alI (fun j9 => lg N r (σ 32) K (zy r x) j9) (j + 1) = true then 1 else 0) (by rw [alI_succ _ (by omega)]; grind) ?_
                  refine r_istore F hl [(4, .int (I (if alI (fun j9 => lg N r (σ 32) K (zy r x) j9) (j + 1) = true then 1 else 0))), (3, .int (I (mxI (fun j9 => l3 N r (σ 32) K (zy r x) j9) (j + 1)))), (2, .int (I (mxI (fun j9 => l2 N r (σ 32) K (zy r x) j9) (j + 1)))), (8, .int (I (((j * 16) + (pp * 4)) + (lwn K x (nx K j))))), (7, .int (I (lwn K x (nx K j)))), (0, .ref (gY G 31)), (1, .int (I x)), (5, .int (I pp)), (6, .int (I j))] (by decide) rfl dX0_compare_127 (fun ls hl => ?_)
                  refine r_iload F hl 4 rfl dX0_compare_129 ?_
                  refine r_istore F hl [(5, .int (I (lwn K x (nx K j)))), (4, .int (I (if alI (fun j9 => lg N r (σ 32) K (zy r x) j9) (j + 1) = true then 1 else 0))), (3, .int (I (mxI (fun j9 => l3 N r (σ 32) K (zy r x) j9) (j + 1)))), (2, .int (I (mxI (fun j9 => l2 N r (σ 32) K (zy r x) j9) (j + 1)))), (8, .int (I (((j * 16) + (pp * 4)) + (lwn K x (nx K j))))), (7, .int (I (lwn K x (nx K j)))), (0, .ref (gY G 31)), (1, .int (I x)), (6, .int (I j))] (by decide) rfl dX0_compare_131 (fun ls hl => ?_)
                  refine r_iinc F hl [(6, .int (I (j + 1))), (5, .int (I (lwn K x (nx K j)))), (4, .int (I (if alI (fun j9 => lg N r (σ 32) K (zy r x) j9) (j + 1) = true then 1 else 0))), (3, .int (I (mxI (fun j9 => l3 N r (σ 32) K (zy r x) j9) (j + 1)))), (2, .int (I (mxI (fun j9 => l2 N r (σ 32) K (zy r x) j9) (j + 1)))), (8, .int (I (((j * 16) + (pp * 4)) + (lwn K x (nx K j))))), (7, .int (I (lwn K x (nx K j)))), (0, .ref (gY G 31)), (1, .int (I x))] 8 rfl (by decide) rfl dX0_compare_133 (fun ls hl => ?_)
                  refine r_goto F 18 (by decide) dX0_compare_136 ?_
                  exact ih18 (j + 1) (lwn K x (nx K j)) _ _ _ (by omega) (by omega) (by exact lwn_rg _ _ _) (by intro hh9; congr 1; unfold nx; rw [if_pos (by omega)]) X (lv_sub hl [7, 8, 4, 3, 2, 1, 0] rfl)
                · skip
                  refine r_iconst F dX0_compare_122 ?_
                  refine r_goto F 127 (by decide) dX0_compare_123 ?_
                  refine r_eqI (b := if alI (fun j9 => lg N r (σ 32) K (zy r x) j9) (j + 1) = true then 1 else 0) (by rw [alI_succ _ (by omega)]; grind) ?_
                  refine r_istore F hl [(4, .int (I (if alI (fun j9 => lg N r (σ 32) K (zy r x) j9) (j + 1) = true then 1 else 0))), (3, .int (I (mxI (fun j9 => l3 N r (σ 32) K (zy r x) j9) (j + 1)))), (2, .int (I (mxI (fun j9 => l2 N r (σ 32) K (zy r x) j9) (j + 1)))), (8, .int (I (((j * 16) + (pp * 4)) + (lwn K x (nx K j))))), (7, .int (I (lwn K x (nx K j)))), (0, .ref (gY G 31)), (1, .int (I x)), (5, .int (I pp)), (6, .int (I j))] (by decide) rfl dX0_compare_127 (fun ls hl => ?_)
                  refine r_iload F hl 4 rfl dX0_compare_129 ?_
                  refine r_istore F hl [(5, .int (I (lwn K x (nx K j)))), (4, .int (I (if alI (fun j9 => lg N r (σ 32) K (zy r x) j9) (j + 1) = true then 1 else 0))), (3, .int (I (mxI (fun j9 => l3 N r (σ 32) K (zy r x) j9) (j + 1)))), (2, .int (I (mxI (fun j9 => l2 N r (σ 32) K (zy r x) j9) (j + 1)))), (8, .int (I (((j * 16) + (pp * 4)) + (lwn K x (nx K j))))), (7, .int (I (lwn K x (nx K j)))), (0, .ref (gY G 31)), (1, .int (I x)), (6, .int (I j))] (by decide) rfl dX0_compare_131 (fun ls hl => ?_)
                  refine r_iinc F hl [(6, .int (I (j + 1))), (5, .int (I (lwn K x (nx K j)))), (4, .int (I (if alI (fun j9 => lg N r (σ 32) K (zy r x) j9) (j + 1) = true then 1 else 0))), (3, .int (I (mxI (fun j9 => l3 N r (σ 32) K (zy r x) j9) (j + 1)))), (2, .int (I (mxI (fun j9 => l2 N r (σ 32) K (zy r x) j9) (j + 1)))), (8, .int (I (((j * 16) + (pp * 4)) + (lwn K x (nx K j))))), (7, .int (I (lwn K x (nx K j)))), (0, .ref (gY G 31)), (1, .int (I x))] 8 rfl (by decide) rfl dX0_compare_133 (fun ls hl => ?_)
                  refine r_goto F 18 (by decide) dX0_compare_136 ?_
                  exact ih18 (j + 1) (lwn K x (nx K j)) _ _ _ (by omega) (by omega) (by exact lwn_rg _ _ _) (by intro hh9; congr 1; unfold nx; rw [if_pos (by omega)]) X (lv_sub hl [7, 8, 4, 3, 2, 1, 0] rfl)
        · skip
          refine r_iload F hl 6 rfl dX0_compare_40 ?_
          refine r_iconst F dX0_compare_42 ?_
          refine r_iadd F dX0_compare_43 ?_
          refine r_goto F 48 (by decide) dX0_compare_44 ?_
          refine d_cVI F X 31 (by decide) (eK_31 G _) rfl (c_X0_lawIn l G σ K x (j + 1) (⟨hK.1, hK0, hK.2⟩) (by omega) (by omega)) gv_RX0_85 rfl nd_X0_lawIn rfl (rest := []) rfl (Nat.le_of_ble_eq_true rfl) ⟨Nat.le_of_ble_eq_true rfl, Nat.le_of_ble_eq_true rfl⟩ ⟨Nat.zero_le _, Nat.zero_le _⟩ hl.1 dX0_compare_48 (fun H locs X => ?_)
          refine r_eqI (b := lwn K x (nx K j)) (by first | exact (by rw [if_pos (by omega)] : _ = lwn K x (if j + 1 < max 1 K then j + 1 else 0)).trans (lwn_nx hB x (by omega) (by omega)) | exact (by rw [if_neg (by omega)] : _ = lwn K x (if j + 1 < max 1 K then j + 1 else 0)).trans (lwn_nx hB x (by omega) (by omega))) ?_
          refine r_istore F hl [(7, .int (I (lwn K x (nx K j)))), (0, .ref (gY G 31)), (1, .int (I x)), (2, .int (I (mxI (fun j9 => l2 N r (σ 32) K (zy r x) j9) j))), (3, .int (I (mxI (fun j9 => l3 N r (σ 32) K (zy r x) j9) j))), (4, .int (I (if alI (fun j9 => lg N r (σ 32) K (zy r x) j9) j = true then 1 else 0))), (5, .int (I pp)), (6, .int (I j))] (by decide) rfl dX0_compare_51 (fun ls hl => ?_)
          refine r_iload F hl 7 rfl dX0_compare_53 ?_
          refine r_bipush F (by decide) dX0_compare_55 ?_
          refine r_imul F dX0_compare_57 ?_
          refine r_iload F hl 6 rfl dX0_compare_58 ?_
          refine r_iconst F dX0_compare_60 ?_
          refine r_imul F dX0_compare_61 ?_
          refine r_iadd F dX0_compare_62 ?_
          refine r_iload F hl 0 rfl dX0_compare_63 ?_
          refine r_iadd F dX0_compare_65 ?_
          refine r_istore F hl [(8, .int (I (((j * 16) + (pp * 4)) + (lwn K x (nx K j))))), (7, .int (I (lwn K x (nx K j)))), (0, .ref (gY G 31)), (1, .int (I x)), (2, .int (I (mxI (fun j9 => l2 N r (σ 32) K (zy r x) j9) j))), (3, .int (I (mxI (fun j9 => l3 N r (σ 32) K (zy r x) j9) j))), (4, .int (I (if alI (fun j9 => lg N r (σ 32) K (zy r x) j9) j = true then 1 else 0))), (5, .int (I pp)), (6, .int (I j))] (by decide) rfl dX0_compare_66 (fun ls hl => ?_)
          refine r_iload F hl 0 rfl dX0_compare_68 ?_
          refine r_if_lt F 129 (by decide) (by omega) dX0_compare_70 (fun c9 => ?_) (fun c9 => ?_)
          · omega
          · skip
            refine r_iload F hl 0 rfl dX0_compare_73 ?_
            refine r_aload_n F hl 2 rfl rfl dX0_compare_75 ?_
            refine r_get F X 31 (by decide) (eK_31 G _) rfl gl_RX0 5 (by decide) rfl gf_RX0_21 rfl dX0_compare_76 ?_
            refine r_alen F X 35 (by decide) 2 (eK_35 G _) rfl 96 rfl dX0_compare_79 ?_
            refine r_icmp_ge F 129 (by decide) (by omega) (by omega) dX0_compare_80 (fun c10 => ?_) (fun c10 => ?_)
            · omega
            · skip
              refine r_iload_n F hl 4 rfl rfl dX0_compare_83 ?_
              refine r_aload_n F hl 2 rfl rfl dX0_compare_84 ?_
              refine r_get F X 31 (by decide) (eK_31 G _) rfl gl_RX0 3 (by decide) rfl gf_RX0_15 rfl dX0_compare_85 ?_
              refine r_iload F hl 0 rfl dX0_compare_88 ?_
              refine r_iald F X 33 (by decide) (eK_33 G) (by omega) (by decide) dX0_compare_90 ?_
              refine r_eqI (b := l2 N r (σ 32) K (zy r x) j) (hrd.1) ?_
              refine d_cSI F X (c_J9_maxI l G σ (mxI (fun j9 => l2 N r (σ 32) K (zy r x) j9) j) (l2 N r (σ 32) K (zy r x) j) (by have hq9 := mxI_rg (n := j) (show (0 : Int) ≤ 3996 by omega) (g := fun j9 => l2 N r (σ 32) K (zy r x) j9) (fun i9 => by have := (l23_rg (K := K) (bt := σ 32) (j := i9) hW hwh (zy_LWS hW x)).1; omega); omega) (by omega)) gv_RX0_88 nd_J9_max_7cf53 rfl (rest := []) rfl (Nat.le_of_ble_eq_true rfl) ⟨Nat.le_of_ble_eq_true rfl, Nat.le_of_ble_eq_true rfl⟩ ⟨Nat.zero_le _, Nat.zero_le _⟩ hl.1 dX0_compare_91 (fun H locs X => ?_)
              refine r_eqI (b := mxI (fun j9 => l2 N r (σ 32) K (zy r x) j9) (j + 1)) (by rw [mxI_succ _ (by omega), ab_of hl23.1.1]) ?_
              refine r_istore_n F hl [(2, .int (I (mxI (fun j9 => l2 N r (σ 32) K (zy r x) j9) (j + 1)))), (8, .int (I (((j * 16) + (pp * 4)) + (lwn K x (nx K j))))), (7, .int (I (lwn K x (nx K j)))), (0, .ref (gY G 31)), (1, .int (I x)), (3, .int (I (mxI (fun j9 => l3 N r (σ 32) K (zy r x) j9) j))), (4, .int (I (if alI (fun j9 => lg N r (σ 32) K (zy r x) j9) j = true then 1 else 0))), (5, .int (I pp)), (6, .int (I j))] rfl (by decide) rfl dX0_compare_94 (fun ls hl => ?_)
              refine r_iload_n F hl 5 rfl rfl dX0_compare_95 ?_
              refine r_aload_n F hl 3 rfl rfl dX0_compare_96 ?_
              refine r_get F X 31 (by decide) (eK_31 G _) rfl gl_RX0 4 (by decide) rfl gf_RX0_18 rfl dX0_compare_97 ?_
              refine r_iload F hl 1 rfl dX0_compare_100 ?_
              refine r_iald F X 34 (by decide) (eK_34 G) (by omega) (by decide) dX0_compare_102 ?_
              refine r_eqI (b := l3 N r (σ 32) K (zy r x) j) (hrd.2.1) ?_
              refine d_cSI F X (c_J9_maxI l G σ (mxI (fun j9 => l3 N r (σ 32) K (zy r x) j9) j) (l3 N r (σ 32) K (zy r x) j) (by have hq9 := mxI_rg (n := j) (show (0 : Int) ≤ 3996 by omega) (g := fun j9 => l3 N r (σ 32) K (zy r x) j9) (fun i9 => by have := (l23_rg (K := K) (bt := σ 32) (j := i9) hW hwh (zy_LWS hW x)).2; omega); omega) (by omega)) gv_RX0_88 nd_J9_max_7cf53 rfl (rest := []) rfl (Nat.le_of_ble_eq_true rfl) ⟨Nat.le_of_ble_eq_true rfl, Nat.le_of_ble_eq_true rfl⟩ ⟨Nat.zero_le _, Nat.zero_le _⟩ hl.1 dX0_compare_103 (fun H locs X => ?_)
              refine r_eqI (b := mxI (fun j9 => l3 N r (σ 32) K (zy r x) j9) (j + 1)) (by rw [mxI_succ _ (by omega), ab_of hl23.2.1]) ?_
              refine r_istore_n F hl [(3, .int (I (mxI (fun j9 => l3 N r (σ 32) K (zy r x) j9) (j + 1)))), (2, .int (I (mxI (fun j9 => l2 N r (σ 32) K (zy r x) j9) (j + 1)))), (8, .int (I (((j * 16) + (pp * 4)) + (lwn K x (nx K j))))), (7, .int (I (lwn K x (nx K j)))), (0, .ref (gY G 31)), (1, .int (I x)), (4, .int (I (if alI (fun j9 => lg N r (σ 32) K (zy r x) j9) j = true then 1 else 0))), (5, .int (I pp)), (6, .int (I j))] rfl (by decide) rfl dX0_compare_106 (fun ls hl => ?_)
              refine r_iload F hl 6 rfl dX0_compare_107 ?_
              refine r_bz_eq F 126 (alI (fun j9 => lg N r (σ 32) K (zy r x) j9) j = true) rfl (by decide) dX0_compare_109 (fun c11 => ?_) (fun c11 => ?_)
              · skip
                refine r_iconst F dX0_compare_126 ?_
                refine r_eqI (b := if alI (fun j9 => lg N r (σ 32) K (zy r x) j9) (j + 1) = true then 1 else 0) (by rw [alI_succ _ (by omega)]; grind) ?_
                refine r_istore F hl [(4, .int (I (if alI (fun j9 => lg N r (σ 32) K (zy r x) j9) (j + 1) = true then 1 else 0))), (3, .int (I (mxI (fun j9 => l3 N r (σ 32) K (zy r x) j9) (j + 1)))), (2, .int (I (mxI (fun j9 => l2 N r (σ 32) K (zy r x) j9) (j + 1)))), (8, .int (I (((j * 16) + (pp * 4)) + (lwn K x (nx K j))))), (7, .int (I (lwn K x (nx K j)))), (0, .ref (gY G 31)), (1, .int (I x)), (5, .int (I pp)), (6, .int (I j))] (by decide) rfl dX0_compare_127 (fun ls hl => ?_)
                refine r_iload F hl 4 rfl dX0_compare_129 ?_
                refine r_istore F hl [(5, .int (I (lwn K x (nx K j)))), (4, .int (I (if alI (fun j9 => lg N r (σ 32) K (zy r x) j9) (j + 1) = true then 1 else 0))), (3, .int (I (mxI (fun j9 => l3 N r (σ 32) K (zy r x) j9) (j + 1)))), (2, .int (I (mxI (fun j9 => l2 N r (σ 32) K (zy r x) j9) (j + 1)))), (8, .int (I (((j * 16) + (pp * 4)) + (lwn K x (nx K j))))), (7, .int (I (lwn K x (nx K j)))), (0, .ref (gY G 31)), (1, .int (I x)), (6, .int (I j))] (by decide) rfl dX0_compare_131 (fun ls hl => ?_)
                refine r_iinc F hl [(6, .int (I (j + 1))), (5, .int (I (lwn K x (nx K j)))), (4, .int (I (if alI (fun j9 => lg N r (σ 32) K (zy r x) j9) (j + 1) = true then 1 else 0))), (3, .int (I (mxI (fun j9 => l3 N r (σ 32) K (zy r x) j9) (j + 1)))), (2, .int (I (mxI (fun j9 => l2 N r (σ 32) K (zy r x) j9) (j + 1)))), (8, .int (I (((j * 16) + (pp * 4)) + (lwn K x (nx K j))))), (7, .int (I (lwn K x (nx K j)))), (0, .ref (gY G 31)), (1, .int (I x))] 8 rfl (by decide) rfl dX0_compare_133 (fun ls hl => ?_)
                refine r_goto F 18 (by decide) dX0_compare_136 ?_
                exact ih18 (j + 1) (lwn K x (nx K j)) _ _ _ (by omega) (by omega) (by exact lwn_rg _ _ _) (by intro hh9; congr 1; unfold nx; rw [if_pos (by omega)]) X (lv_sub hl [7, 8, 4, 3, 2, 1, 0] rfl)
              · skip
                refine r_aload_n F hl 4 rfl rfl dX0_compare_112 ?_
                refine r_get F X 31 (by decide) (eK_31 G _) rfl gl_RX0 5 (by decide) rfl gf_RX0_21 rfl dX0_compare_113 ?_
                refine r_iload F hl 2 rfl dX0_compare_116 ?_
                refine r_zald F X 35 (by decide) (eK_35 G) (by omega) (by decide) dX0_compare_118 ?_
                refine r_eqI (b := if lg N r (σ 32) K (zy r x) j = true then 1 else 0) (hrd.2.2) ?_
                refine r_bz_eq F 126 (lg N r (σ 32) K (zy r x) j = true) rfl (by decide) dX0_compare_119 (fun c12 => ?_) (fun c12 => ?_)
                · skip
                  refine r_iconst F dX0_compare_126 ?_
                  refine r_eqI (b := if alI (fun j9 => lg N r (σ 32) K (zy r x) j9) (j + 1) = true then 1 else 0) (by rw [alI_succ _ (by omega)]; grind) ?_
                  refine r_istore F hl [(4, .int (I (if alI (fun j9 => lg N r (σ 32) K (zy r x) j9) (j + 1) = true then 1 else 0))), (3, .int (I (mxI (fun j9 => l3 N r (σ 32) K (zy r x) j9) (j + 1)))), (2, .int (I (mxI (fun j9 => l2 N r (σ 32) K (zy r x) j9) (j + 1)))), (8, .int (I (((j * 16) + (pp * 4)) + (lwn K x (nx K j))))), (7, .int (I (lwn K x (nx K j)))), (0, .ref (gY G 31)), (1, .int (I x)), (5, .int (I pp)), (6, .int (I j))] (by decide) rfl dX0_compare_127 (fun ls hl => ?_)
                  refine r_iload F hl 4 rfl dX0_compare_129 ?_
                  refine r_istore F hl [(5, .int (I (lwn K x (nx K j)))), (4, .int (I (if alI (fun j9 => lg N r (σ 32) K (zy r x) j9) (j + 1) = true then 1 else 0))), (3, .int (I (mxI (fun j9 => l3 N r (σ 32) K (zy r x) j9) (j + 1)))), (2, .int (I (mxI (fun j9 => l2 N r (σ 32) K (zy r x) j9) (j + 1)))), (8, .int (I (((j * 16) + (pp * 4)) + (lwn K x (nx K j))))), (7, .int (I (lwn K x (nx K j)))), (0, .ref (gY G 31)), (1, .int (I x)), (6, .int (I j))] (by decide) rfl dX0_compare_131 (fun ls hl => ?_)
                  refine r_iinc F hl [(6, .int (I (j + 1))), (5, .int (I (lwn K x (nx K j)))), (4, .int (I (if alI (fun j9 => lg N r (σ 32) K (zy r x) j9) (j + 1) = true then 1 else 0))), (3, .int (I (mxI (fun j9 => l3 N r (σ 32) K (zy r x) j9) (j + 1)))), (2, .int (I (mxI (fun j9 => l2 N r (σ 32) K (zy r x) j9) (j + 1)))), (8, .int (I (((j * 16) + (pp * 4)) + (lwn K x (nx K j))))), (7, .int (I (lwn K x (nx K j)))), (0, .ref (gY G 31)), (1, .int (I x))] 8 rfl (by decide) rfl dX0_compare_133 (fun ls hl => ?_)
                  refine r_goto F 18 (by decide) dX0_compare_136 ?_
                  exact ih18 (j + 1) (lwn K x (nx K j)) _ _ _ (by omega) (by omega) (by exact lwn_rg _ _ _) (by intro hh9; congr 1; unfold nx; rw [if_pos (by omega)]) X (lv_sub hl [7, 8, 4, 3, 2, 1, 0] rfl)
                · skip
                  refine r_iconst F dX0_compare_122 ?_
                  refine r_goto F 127 (by decide) dX0_compare_123 ?_
                  refine r_eqI (b := if alI (fun j9 => lg N r (σ 32) K (zy r x) j9) (j + 1) = true then 1 else 0) (by rw [alI_succ _ (by omega)]; grind) ?_
                  refine r_istore F hl [(4, .int (I (if alI (fun j9 => lg N r (σ 32) K (zy r x) j9) (j + 1) = true then 1 else 0))), (3, .int (I (mxI (fun j9 => l3 N r (σ 32) K (zy r x) j9) (j + 1)))), (2, .int (I (mxI (fun j9 => l2 N r (σ 32) K (zy r x) j9) (j + 1)))), (8, .int (I (((j * 16) + (pp * 4)) + (lwn K x (nx K j))))), (7, .int (I (lwn K x (nx K j)))), (0, .ref (gY G 31)), (1, .int (I x)), (5, .int (I pp)), (6, .int (I j))] (by decide) rfl dX0_compare_127 (fun ls hl => ?_)
                  refine r_iload F hl 4 rfl dX0_compare_129 ?_
                  refine r_istore F hl [(5, .int (I (lwn K x (nx K j)))), (4, .int (I (if alI (fun j9 => lg N r (σ 32) K (zy r x) j9) (j + 1) = true then 1 else 0))), (3, .int (I (mxI (fun j9 => l3 N r (σ 32) K (zy r x) j9) (j + 1)))), (2, .int (I (mxI (fun j9 => l2 N r (σ 32) K (zy r x) j9) (j + 1)))), (8, .int (I (((j * 16) + (pp * 4)) + (lwn K x (nx K j))))), (7, .int (I (lwn K x (nx K j)))), (0, .ref (gY G 31)), (1, .int (I x)), (6, .int (I j))] (by decide) rfl dX0_compare_131 (fun ls hl => ?_)
                  refine r_iinc F hl [(6, .int (I (j + 1))), (5, .int (I (lwn K x (nx K j)))), (4, .int (I (if alI (fun j9 => lg N r (σ 32) K (zy r x) j9) (j + 1) = true then 1 else 0))), (3, .int (I (mxI (fun j9 => l3 N r (σ 32) K (zy r x) j9) (j + 1)))), (2, .int (I (mxI (fun j9 => l2 N r (σ 32) K (zy r x) j9) (j + 1)))), (8, .int (I (((j * 16) + (pp * 4)) + (lwn K x (nx K j))))), (7, .int (I (lwn K x (nx K j)))), (0, .ref (gY G 31)), (1, .int (I x))] 8 rfl (by decide) rfl dX0_compare_133 (fun ls hl => ?_)
                  refine r_goto F 18 (by decide) dX0_compare_136 ?_
                  exact ih18 (j + 1) (lwn K x (nx K j)) _ _ _ (by omega) (by omega) (by exact lwn_rg _ _ _) (by intro hh9; congr 1; unfold nx; rw [if_pos (by omega)]) X (lv_sub hl [7, 8, 4, 3, 2, 1, 0] rfl)
  exact loop18 (((max 1 K - 0 : Int) + 1).toNat) 0 (lwn K x 0) _ _ _ (by omega) (by omega) (by exact lwn_rg _ _ _) (by exact fun _ => rfl) X (lv_sub hl [5, 6, 4, 3, 2, 1, 0] rfl)
