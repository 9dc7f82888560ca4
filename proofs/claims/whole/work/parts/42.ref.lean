/-! the row with a way's laws -/
def rgv (r : Int → Int) (w t : Int) : Int → Int := fun i => if 24 ≤ i ∧ i < 24 + t then wy r w (i - 24) else r i
theorem rgv_0 (r : Int → Int) (w : Int) : rgv r w 0 = r := by
  funext i; unfold rgv; rw [if_neg (by omega)]
theorem rgv_out {r : Int → Int} {w t i : Int} (h : i < 24 ∨ 24 + t ≤ i) : rgv r w t i = r i := by unfold rgv; rw [if_neg (by omega)]
theorem rgv_in {r : Int → Int} {w t s : Int} (h0 : 0 ≤ s) (h1 : s < t) : rgv r w t (24 + s) = wy r w s := by unfold rgv; rw [if_pos (by omega), show 24 + s - 24 = s by omega]
theorem rgv_dwell {r : Int → Int} {w t : Int} (ht : 0 ≤ t) (hd : dwl r t = true) : rgv r w t = rgv r w (t + 1) := by
  funext i; unfold rgv
  by_cases q : i = 24 + t
  · subst q; rw [if_neg (by omega), if_pos (by omega)]; unfold wy; rw [show 24 + t - 24 = t by omega, if_pos hd]
  · by_cases z : 24 ≤ i ∧ i < 24 + t
    · rw [if_pos z, if_pos (by omega)]
    · rw [if_neg z, if_neg (by omega)]
theorem rgv_move {r : Int → Int} {w t v : Int} (ht : 0 ≤ t) (hv : v = wy r w t) : upI (rgv r w t) (24 + t) v = rgv r w (t + 1) := by
  funext i; unfold upI rgv
  by_cases q : i = 24 + t
  · subst q; rw [if_pos rfl, if_pos (by omega), show 24 + t - 24 = t by omega, hv]
  · rw [if_neg q]
    by_cases z : 24 ≤ i ∧ i < 24 + t
    · rw [if_pos z, if_pos (by omega)]
    · rw [if_neg z, if_neg (by omega)]
theorem og_gv {r : Int → Int} {w t s : Int} (ht : t ≤ 12) (h0 : 0 ≤ s) (h1 : s ≤ 12) : og (rgv r w t) s = og r s := by
  unfold og
  split
  · exact rgv_out (by omega)
  · exact rgv_out (by omega)
theorem dwl_gv {r : Int → Int} {w t s : Int} (ht : t ≤ 12) (h0 : 0 ≤ s) (h1 : s < 12) : dwl (rgv r w t) s = dwl r s := by
  unfold dwl
  rw [og_gv ht h0 (by omega), rgv_out (by omega)]
theorem bg_gv {r : Int → Int} {w t : Int} (ht : t ≤ 12) : ∀ n : Nat, n ≤ 12 → bgI (rgv r w t) (n : Int) = bgI r (n : Int)
  | 0, _ => rfl
  | n + 1, h => by
    rw [show ((n + 1 : Nat) : Int) = (n : Int) + 1 by omega, bgI_succ _ (by omega), bgI_succ _ (by omega), bg_gv ht n (by omega), rgv_out (by omega)]
theorem bgI_gv {r : Int → Int} {w t s : Int} (ht : t ≤ 12) (h0 : 0 ≤ s) (h1 : s ≤ 12) : bgI (rgv r w t) s = bgI r s := by
  have := bg_gv (r := r) (w := w) ht s.toNat (by omega)
  rw [show ((s.toNat : Nat) : Int) = s by omega] at this
  exact this
theorem mv_gv {r : Int → Int} {w t : Int} (ht : t ≤ 12) : ∀ n : Nat, n ≤ 12 → mvI (rgv r w t) (n : Int) = mvI r (n : Int)
  | 0, _ => rfl
  | n + 1, h => by
    rw [show ((n + 1 : Nat) : Int) = (n : Int) + 1 by omega, mvI_succ _ (by omega), mvI_succ _ (by omega), mv_gv ht n (by omega), dwl_gv ht (by omega) (by omega)]
theorem mvI_gv {r : Int → Int} {w t s : Int} (ht : t ≤ 12) (h0 : 0 ≤ s) (h1 : s ≤ 12) : mvI (rgv r w t) s = mvI r s := by
  have := mv_gv (r := r) (w := w) ht s.toNat (by omega)
  rw [show ((s.toNat : Nat) : Int) = s by omega] at this
  exact this
theorem WF.gv {N : Int} {r : Int → Int} (h : WF N r) {w t : Int} (ht : 0 ≤ t ∧ t ≤ 12) : WF N (rgv r w t) := by
  have e : ∀ i : Int, (i < 24 ∨ 36 ≤ i) → rgv r w t i = r i := fun i q => rgv_out (by omega)
  have hn := h.num
  unfold WF
  rw [e 60 (by omega), e 61 (by omega), e 62 (by omega), e 63 (by omega), e 64 (by omega), e 65 (by omega), e 66 (by omega), e 67 (by omega), e 68 (by omega), e 69 (by omega), e 70 (by omega)]
  refine ⟨h.1, fun i a b => by rw [e i (by omega)]; exact h.lo a b, fun i a b => by rw [e i (by omega)]; exact h.lo1 a b, fun i a b => by rw [e _ (by omega)]; exact h.en a b, fun i a b => ?_, fun i a b => by rw [e _ (by omega)]; exact h.ms a b, fun i a b => by rw [e _ (by omega)]; exact h.mN a b, fun i a b => by rw [e _ (by omega)]; exact h.ml a b, fun i a b => by rw [e _ (by omega)]; exact h.mn a b⟩
  by_cases q : i < t
  · rw [rgv_in a q]; exact wy_LWS h w i a b
  · rw [rgv_out (by omega)]; exact h.la a b
theorem whl_gv {N : Int} {r : Int → Int} (hW : WF N r) {w t : Int} (ht : 0 ≤ t ∧ t ≤ 12) (h : whl N r = true) : whl N (rgv r w t) = true := by
  have hn := hW.num
  have a := whl_iff.mp h
  rw [whl_iff, rgv_out (i := 60) (by omega), rgv_out (i := 62) (by omega), rgv_out (i := 12 + (r 60 - 1)) (by omega), bgI_gv ht.2 (by omega) (by omega)]
  exact a
theorem rgv_rgv {N : Int} {r : Int → Int} (hW : WF N r) (x y : Int) : rgv (rgv r y (r 60)) x (r 60) = rgv r x (r 60) := by
  have hn := hW.num
  funext i
  by_cases q : 24 ≤ i ∧ i < 24 + r 60
  · unfold rgv
    rw [if_pos q, if_pos q]
    show wy (rgv r y (r 60)) x (i - 24) = wy r x (i - 24)
    unfold wy
    rw [dwl_gv (by omega) (by omega) (by omega), rgv_out (i := 60) (by omega), mvI_gv (by omega) (by omega) (by omega), mvI_gv (by omega) (by omega) (by omega)]
    by_cases z : dwl r (i - 24) = true
    · rw [if_pos z, if_pos z, rgv_in (by omega) (by omega)]
      unfold wy; rw [if_pos z]
    · rw [if_neg z, if_neg z]
  · rw [rgv_out (by omega), rgv_out (by omega), rgv_out (by omega)]
theorem lft_gv {N : Int} {r : Int → Int} (hW : WF N r) (x : Int) (i : Int) : ∀ n : Nat, (n : Int) ≤ r 60 → lft (rgv r x (r 60)) (rlw (rgv r x (r 60))) n i = lft r (wy r x) n i
  | 0, _ => rfl
  | n + 1, h => by
    have hn := hW.num
    have ih := lft_gv hW x i n (by omega)
    show (if bgI (rgv r x (r 60)) (n : Int) ≤ i then _ else lft (rgv r x (r 60)) (rlw (rgv r x (r 60))) n i) = (if bgI r (n : Int) ≤ i then _ else lft r (wy r x) n i)
    have e : rlw (rgv r x (r 60)) (n : Int) = wy r x (n : Int) := rgv_in (by omega) (by omega)
    rw [ih, e, bgI_gv (by omega) (by omega) (by omega), og_gv (by omega) (by omega) (by omega), rgv_out (i := 12 + (n : Int)) (by omega), rgv_out (i := (n : Int)) (by omega)]
theorem lf_gv {N : Int} {r : Int → Int} (hW : WF N r) (x : Int) : lfI (rgv r x (r 60)) = wf r x := by
  have hn := hW.num
  funext i
  unfold lfI wf lfW
  rw [rgv_out (i := 60) (by omega)]
  exact lft_gv hW x i _ (by omega)
theorem gd_gv {N : Int} {r : Int → Int} (hW : WF N r) (f : Int → Int) (x : Int) : gd f N (rgv r x (r 60)) = gd f N r := by
  have hn := hW.num
  have e : ∀ i : Int, (i < 24 ∨ 36 ≤ i) → rgv r x (r 60) i = r i := fun i q => rgv_out (by omega)
  unfold gd
  rw [e 61 (by omega)]
  have e1 : alI (mk f (rgv r x (r 60))) (r 61) = alI (mk f r) (r 61) := alI_congr (fun m a b => by
    unfold Jvm.Pilot.@@N@@.mk mo
    rw [e _ (by omega), e _ (by omega), e _ (by omega)])
  have e2 : ok1 f N (rgv r x (r 60)) = ok1 f N r := by
    funext i
    unfold ok1 bd ucq pr fo rs fa
    rw [e 63 (by omega), e 64 (by omega), e 65 (by omega), e 66 (by omega), e 67 (by omega), e 68 (by omega), e 69 (by omega)]
  rw [e1, e2]
def rst (r q : Int → Int) (t : Int) : Int → Int := fun i => if 24 ≤ i ∧ i < 24 + t then r i else q i
theorem rst_0 (r q : Int → Int) : rst r q 0 = q := by funext i; unfold rst; rw [if_neg (by omega)]
theorem rst_s {r q : Int → Int} {t : Int} (ht : 0 ≤ t) : upI (rst r q t) (24 + t) (r (24 + t)) = rst r q (t + 1) := by
  funext i; unfold upI rst
  by_cases z : i = 24 + t
  · rw [if_pos z, z, if_pos (by omega)]
  · rw [if_neg z]
    by_cases y : 24 ≤ i ∧ i < 24 + t
    · rw [if_pos y, if_pos (by omega)]
    · rw [if_neg y, if_neg (by omega)]
theorem rst_12 {N : Int} {r q : Int → Int} (hW : WF N r) (h : q = r ∨ ∃ y : Int, q = rgv r y (r 60)) : rst r q 12 = r := by
  have hn := hW.num
  funext i; unfold rst
  by_cases z : 24 ≤ i ∧ i < 24 + 12
  · rw [if_pos z]
  · rw [if_neg z]
    rcases h with h | ⟨y, h⟩
    · rw [h]
    · rw [h, rgv_out (by omega)]
theorem RG.wf {N : Int} {r q : Int → Int} (hW : WF N r) (h : q = r ∨ ∃ y : Int, q = rgv r y (r 60)) : WF N q ∧ q 60 = r 60 ∧ (∀ x : Int, rgv q x (q 60) = rgv r x (r 60)) ∧ mvI q (q 60) = mvI r (r 60) := by
  have hn := hW.num
  rcases h with h | ⟨y, h⟩
  · rw [h]; exact ⟨hW, rfl, fun _ => rfl, rfl⟩
  · have e : q 60 = r 60 := by rw [h, rgv_out (by omega)]
    rw [e, h]
    exact ⟨hW.gv (by omega), rfl, fun x => rgv_rgv hW x y, mvI_gv (by omega) (by omega) (by omega)⟩
theorem c_X5_gives (l : Launch) (G : GT) (σ : St) (N : Int) (r : Int → Int) (x : Int) (mm : Int) (hro : σ 37 = r) (hN : σ 36 1 = N) (hW : WF N r) (hx : 0 ≤ x ∧ x < 4096) (hm : mm = mvI r (r 60) ∧ mm ≤ 6) : Ct l yX5_gives cX5_gives 5 none 3 G [.ref (gY G 36), .int (I x), .int (I mm)] σ (QV G (fun τ => τ = up σ 37 (rgv r x (r 60)))) := by
  refine mt (own := RX5) (plainFor_of_name rfl) rfl (Nat.le_of_ble_eq_true rfl) ?_
  intro p e s m args below meth c ls F hr hk X hl
  have hl : lv_has ls 5 [(0, .ref (gY G 36)), (1, .int (I x)), (2, .int (I mm))] := hl
  have hw := hW.num
  refine r_iload_n F hl 2 rfl rfl dX5_gives_0 ?_
  refine r_istore_n F hl [(3, .int (I mm)), (0, .ref (gY G 36)), (1, .int (I x)), (2, .int (I mm))] rfl (by decide) rfl dX5_gives_1 (fun ls hl => ?_)
  have hl : lv_has ls 5 [(3, .int (I (mm - mvI r 0))), (0, .ref (gY G 36)), (1, .int (I x)), (2, .int (I mm))] := by rw [show mm - mvI r 0 = mm from Int.sub_zero mm]; exact hl
  refine r_iconst F dX5_gives_2 ?_
  refine r_istore F hl [(4, .int (I 0)), (3, .int (I (mm - mvI r 0))), (0, .ref (gY G 36)), (1, .int (I x)), (2, .int (I mm))] (by decide) rfl dX5_gives_3 (fun ls hl => ?_)
  have loop5 : ∀ (n : Nat) (t : Int) (τ : St) (ls : Array Slot) (H : Heap) (locs : List Loc) (hn : r 60 - t < n) (ht : 0 ≤ t ∧ t ≤ r 60) (hτ : τ = up σ 37 (rgv r x t)) (X : HX G τ s H locs) (hl : lv_has ls 5 [(0, .ref (gY G 36)), (1, .int (I x)), (2, .int (I mm)), (3, .int (I (mm - mvI r t))), (4, .int (I t))]), W p l e (rmd 3) s m args below meth c H locs 0 0 (MQ below (QV G (fun τ => τ = up σ 37 (rgv r x (r 60)))) args s 0 0 (gA G)) (F0 m 5 ls []) := by
    intro n
    induction n with
    | zero => intro t τ ls H locs hn ht hτ X hl; omega
    | succ n ih5 =>
      intro t τ ls H locs hn ht hτ X hl
      have hrt : τ 37 = rgv r x t := by rw [hτ, up_eq]
      have hNt : τ 36 1 = N := by rw [hτ, up_ne (by omega)]; exact hN
      have hWt : WF N (rgv r x t) := hW.gv (by omega)
      have hmt := mvI_rg r (s := t) ht.1
      have hml := mvI_le r (s := t) (t := r 60) ht.1 ht.2
      refine r_iload F hl 4 rfl dX5_gives_5 ?_
      refine r_aload_n F hl 0 rfl rfl dX5_gives_7 ?_
      refine r_get F X 36 (by decide) (eK_36 G _) rfl gl_RX5 2 (by decide) rfl gf_RX5_16 rfl dX5_gives_8 ?_
      refine r_bipush F (by decide) dX5_gives_11 ?_
      refine r_iald F X 37 (by decide) (eK_37 G) (by omega) (by decide) dX5_gives_13 ?_
      refine r_eqI (b := (rgv r x t) 60) (by rw [hrt]) ?_
      refine r_eqI (b := r 60) (rgv_out (by omega)) ?_
      refine r_icmp_ge F 52 (by decide) (by omega) (by omega) dX5_gives_14 (fun c1 => ?_) (fun c1 => ?_)
      · skip
        exact r_vret F X hr hk dX5_gives_52 (by rw [hτ, show t = r 60 by omega])
      · skip
        refine r_aload_n F hl 0 rfl rfl dX5_gives_17 ?_
        refine r_iload F hl 4 rfl dX5_gives_18 ?_
        refine d_cVI F X 36 (by decide) (eK_36 G _) rfl (c_X5_isDwell l G τ N (rgv r x t) t hrt hNt (hWt) (by omega)) gv_RX5_81 rfl nd_X5_isDwell rfl (rest := []) rfl (Nat.le_of_ble_eq_true rfl) ⟨Nat.le_of_ble_eq_true rfl, Nat.le_of_ble_eq_true rfl⟩ ⟨Nat.zero_le _, Nat.zero_le _⟩ hl.1 dX5_gives_20 (fun H locs X => ?_)
        refine r_eqI (b := if dwl r t = true then 1 else 0) (by rw [dwl_gv (by omega) ht.1 (by omega)]) ?_
        refine r_bz_ne F 46 (dwl r t = true) rfl (by decide) dX5_gives_23 (fun c2 => ?_) (fun c2 => ?_)
        · skip
          have hl : lv_has ls 5 [(0, .ref (gY G 36)), (1, .int (I x)), (2, .int (I mm)), (3, .int (I (mm - mvI r (t + 1)))), (4, .int (I t))] := by first | (rw [show mm - mvI r t = mm - mvI r (t + 1) by rw [mvI_succ r ht.1, if_pos (by assumption)]; omega] at hl; exact hl) | (rw [show mm - mvI r t + (-1) = mm - mvI r (t + 1) by omega] at hl; exact hl)
          refine r_iinc F hl [(4, .int (I (t + 1))), (0, .ref (gY G 36)), (1, .int (I x)), (2, .int (I mm)), (3, .int (I (mm - mvI r (t + 1))))] 4 rfl (by decide) rfl dX5_gives_46 (fun ls hl => ?_)
          refine r_goto F 5 (by decide) dX5_gives_49 ?_
          exact ih5 (t + 1) τ _ _ _ (by omega) (by omega) (by first | (rw [hτ, rgv_dwell ht.1 (by assumption)]) | (rw [eτ, hτ, up_eq, up_up, rgv_move ht.1 hwy])) X (lv_sub hl [1, 2, 3, 4, 0] rfl)
        · skip
          refine r_iinc F hl [(3, .int (I ((mm - mvI r t) + (-1)))), (0, .ref (gY G 36)), (1, .int (I x)), (2, .int (I mm)), (4, .int (I t))] 3 rfl (by decide) rfl dX5_gives_26 (fun ls hl => ?_)
          have hmt1 : mvI r (t + 1) = mvI r t + 1 := by rw [mvI_succ r ht.1, if_neg (by assumption)]
          have hml1 := mvI_le r (s := t + 1) (t := r 60) (by omega) (by omega)
          have hwy : x / 2 ^ (2 * (mm - mvI r t + (-1))).toNat % 4 = wy r x t := by rw [two4' (by omega)]; unfold wy; rw [if_neg (by assumption)]; congr 3; omega
          refine r_aload_n F hl 1 rfl rfl dX5_gives_29 ?_
          refine r_get F X 36 (by decide) (eK_36 G _) rfl gl_RX5 2 (by decide) rfl gf_RX5_16 rfl dX5_gives_30 ?_
          refine r_bipush F (by decide) dX5_gives_33 ?_
          refine r_iload F hl 4 rfl dX5_gives_35 ?_
          refine r_iadd F dX5_gives_37 ?_
          refine r_iload_n F hl 2 rfl rfl dX5_gives_38 ?_
          refine r_iconst F dX5_gives_39 ?_
          refine r_iload_n F hl 0 rfl rfl dX5_gives_40 ?_
          refine r_imul F dX5_gives_41 ?_
          refine r_ishr F (by omega) (by omega) dX5_gives_42 ?_
          refine r_iconst F dX5_gives_43 ?_
          refine r_and3 F (by exact Int.ediv_nonneg hx.1 (Int.le_of_lt (Int.pow_pos (by decide)))) dX5_gives_44 ?_
          refine r_iast F X 37 (by decide) (eK_37 G) (by omega) (by decide) dX5_gives_45 (fun H locs X => ?_)
          obtain ⟨σ1, eσ1⟩ : ∃ x9 : St, x9 = up τ 37 (upI (τ 37) (24 + t) ((x / 2 ^ (2 * ((mm - mvI r t) + (-1))).toNat) % 4)) := ⟨_, rfl⟩
          rw [← eσ1] at X
          have hrσ1 : σ1 37 = upI (rgv r x t) (24 + t) ((x / 2 ^ (2 * ((mm - mvI r t) + (-1))).toNat) % 4) := by rw [eσ1, up_eq, hrt]
          have hNσ1 : σ1 36 1 = N := by rw [eσ1, up_ne (by omega)]; exact hNt
          have hl : lv_has ls 5 [(3, .int (I (mm - mvI r (t + 1)))), (0, .ref (gY G 36)), (1, .int (I x)), (2, .int (I mm)), (4, .int (I t))] := by first | (rw [show mm - mvI r t = mm - mvI r (t + 1) by rw [mvI_succ r ht.1, if_pos (by assumption)]; omega] at hl; exact hl) | (rw [show mm - mvI r t + (-1) = mm - mvI r (t + 1) by omega] at hl; exact hl)
          refine r_iinc F hl [(4, .int (I (t + 1))), (3, .int (I (mm - mvI r (t + 1)))), (0, .ref (gY G 36)), (1, .int (I x)), (2, .int (I mm))] 4 rfl (by decide) rfl dX5_gives_46 (fun ls hl => ?_)
          refine r_goto F 5 (by decide) dX5_gives_49 ?_
          exact ih5 (t + 1) σ1 _ _ _ (by omega) (by omega) (by first | (rw [hτ, rgv_dwell ht.1 (by assumption)]) | (rw [eσ1, hτ, up_eq, up_up, rgv_move ht.1 hwy])) X (lv_sub hl [2, 3, 4, 1, 0] rfl)
  exact loop5 (((r 60 - 0 : Int) + 1).toNat) 0 σ _ _ _ (by omega) (by omega) (by rw [rgv_0, ← hro, up_self]) X (lv_sub hl [2, 3, 4, 1, 0] rfl)
theorem c_X5_takesWay (l : Launch) (G : GT) (σ : St) (N : Int) (r : Int → Int) (hro : σ 37 = r) (hN : σ 36 1 = N) (hW : WF N r) : Ct l yX5_takesWay cX5_takesWay 2 none 1 G [.ref (gY G 36)] σ (QV G (fun τ9 => (∀ c : Nat, c ≠ 41 → τ9 c = σ c) ∧ ∀ i : Int, 0 ≤ i → i < 12 → τ9 41 i = r (24 + i))) := by
  refine mt (own := RX5) (plainFor_of_name rfl) rfl (Nat.le_of_ble_eq_true rfl) ?_
  intro p e s m args below meth c ls F hr hk X hl
  have hl : lv_has ls 2 [(0, .ref (gY G 36))] := hl
  refine r_iconst F dX5_takesWay_0 ?_
  refine r_istore_n F hl [(1, .int (I 0)), (0, .ref (gY G 36))] rfl (by decide) rfl dX5_takesWay_1 (fun ls hl => ?_)
  have loop2 : ∀ (n : Nat) (t : Int) (τ : St) (ls : Array Slot) (H : Heap) (locs : List Loc) (hn : 12 - t < n) (ht : 0 ≤ t ∧ t ≤ 12) (hfm : ∀ c : Nat, c ≠ 41 → τ c = σ c) (hcp : ∀ i : Int, 0 ≤ i → i < t → τ 41 i = r (24 + i)) (X : HX G τ s H locs) (hl : lv_has ls 2 [(0, .ref (gY G 36)), (1, .int (I t))]), W p l e (rmd 1) s m args below meth c H locs 0 0 (MQ below (QV G (fun τ9 => (∀ c : Nat, c ≠ 41 → τ9 c = σ c) ∧ ∀ i : Int, 0 ≤ i → i < 12 → τ9 41 i = r (24 + i))) args s 0 0 (gA G)) (F0 m 2 ls []) := by
    intro n
    induction n with
    | zero => intro t τ ls H locs hn ht hfm hcp X hl; omega
    | succ n ih2 =>
      intro t τ ls H locs hn ht hfm hcp X hl
      have hrt : τ 37 = r := by rw [hfm 37 (by omega)]; exact hro
      have hNt : τ 36 1 = N := by rw [hfm 36 (by omega)]; exact hN
      refine r_iload_n F hl 1 rfl rfl dX5_takesWay_2 ?_
      refine r_bipush F (by decide) dX5_takesWay_3 ?_
      refine r_icmp_ge F 29 (by decide) (by omega) (by omega) dX5_takesWay_5 (fun c1 => ?_) (fun c1 => ?_)
      · skip
        exact r_vret F X hr hk dX5_takesWay_29 (⟨hfm, fun i a b => hcp i a (by omega)⟩)
      · skip
        refine r_aload_n F hl 0 rfl rfl dX5_takesWay_8 ?_
        refine r_get F X 36 (by decide) (eK_36 G _) rfl gl_RX5 7 (by decide) rfl gf_RX5_29 rfl dX5_takesWay_9 ?_
        refine r_iload_n F hl 1 rfl rfl dX5_takesWay_12 ?_
        refine r_aload_n F hl 0 rfl rfl dX5_takesWay_13 ?_
        refine r_get F X 36 (by decide) (eK_36 G _) rfl gl_RX5 2 (by decide) rfl gf_RX5_16 rfl dX5_takesWay_14 ?_
        refine r_bipush F (by decide) dX5_takesWay_17 ?_
        refine r_iload_n F hl 1 rfl rfl dX5_takesWay_19 ?_
        refine r_iadd F dX5_takesWay_20 ?_
        refine r_iald F X 37 (by decide) (eK_37 G) (by omega) (by decide) dX5_takesWay_21 ?_
        refine r_eqI (b := r (24 + t)) (by rw [hrt]) ?_
        refine r_iast F X 41 (by decide) (eK_41 G) (by omega) (by decide) dX5_takesWay_22 (fun H locs X => ?_)
        obtain ⟨σ1, eσ1⟩ : ∃ x9 : St, x9 = up τ 41 (upI (τ 41) t (r (24 + t))) := ⟨_, rfl⟩
        rw [← eσ1] at X
        have hrσ1 : σ1 37 = r := by rw [eσ1, up_ne (by omega)]; exact hrt
        have hNσ1 : σ1 36 1 = N := by rw [eσ1, up_ne (by omega)]; exact hNt
        refine r_iinc F hl [(1, .int (I (t + 1))), (0, .ref (gY G 36))] 1 rfl (by decide) rfl dX5_takesWay_23 (fun ls hl => ?_)
        refine r_goto F 2 (by decide) dX5_takesWay_26 ?_
        exact ih2 (t + 1) σ1 _ _ _ (by omega) (by omega) (by intro c a; rw [eσ1, up_ne a]; exact hfm c a) (by intro i a b; rw [eσ1, up_eq]; rcases (show i < t ∨ i = t by omega) with q | q; (rw [upI_ne (by omega)]; exact hcp i a q); (rw [q, upI_eq])) X (lv_sub hl [1, 0] rfl)
  exact loop2 (((12 - 0 : Int) + 1).toNat) 0 σ _ _ _ (by omega) (by omega) (by exact fun _ _ => rfl) (by intro i a b; omega) X (lv_sub hl [1, 0] rfl)
