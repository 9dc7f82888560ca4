/-! BEST by links -/
def l2 (N : Int) (r bt : Int → Int) (K : Int) (w : Int → Int) (j : Int) : Int := mxI (fun k => d2 (lfW r w) N (lfr r bt K j + 1 + k)) (lsp N r bt K j)
def l3 (N : Int) (r bt : Int → Int) (K : Int) (w : Int → Int) (j : Int) : Int := mxI (fun k => d3 (lfW r w) N (lfr r bt K j + 1 + k)) (lsp N r bt K j)
def lg (N : Int) (r bt : Int → Int) (K : Int) (w : Int → Int) (j : Int) : Bool := alI (fun k => ga (lfW r w) N r ((lfr r bt K j + 1 + k) % N)) (lsp N r bt K j)
theorem mxI_congr {g h : Int → Int} {n : Int} (e : ∀ i : Int, 0 ≤ i → i < n → g i = h i) : mxI g n = mxI h n := by
  refine Int.le_antisymm ?_ ?_
  · rw [mxI_le_iff (mxI_nn _ _)]
    intro i a b
    rw [e i a b]
    exact (mxI_le_iff (mxI_nn h n)).mp (Int.le_refl _) i a b
  · rw [mxI_le_iff (mxI_nn _ _)]
    intro i a b
    rw [← e i a b]
    exact (mxI_le_iff (mxI_nn g n)).mp (Int.le_refl _) i a b
theorem ab_of {a : Int} (h : 0 ≤ a) : ab a = a := by unfold ab; rw [if_neg (by omega)]
theorem mx_cov {N : Int} {r bt : Int → Int} {K : Int} (h : BT r bt K) (hW : WF N r) (hwh : whl N r = true) {g : Int → Int} (hg : ∀ i : Int, g (i % N) = g i) : mxI (fun j => mxI (fun k => g (lfr r bt K j + 1 + k)) (lsp N r bt K j)) (max 1 K) = mxI g N := by
  have hw := hW.num
  refine Int.le_antisymm ?_ ?_
  · rw [mxI_le_iff (mxI_nn _ _)]
    intro j a b
    rw [ab_of (mxI_nn _ _), mxI_le_iff (mxI_nn _ _)]
    intro k c d
    rw [← hg]
    exact (mxI_le_iff (mxI_nn g N)).mp (Int.le_refl _) _ (Int.emod_nonneg _ (by omega)) (Int.emod_lt_of_pos _ (by omega))
  · rw [mxI_le_iff (mxI_nn _ _)]
    intro p p0 p1
    obtain ⟨j, k, a, b, c, d, e⟩ := lnk_cov h hW hwh p0 p1
    rw [← e, hg]
    have h1 := (mxI_le_iff (mxI_nn (fun j => mxI (fun k => g (lfr r bt K j + 1 + k)) (lsp N r bt K j)) (max 1 K))).mp (Int.le_refl _) j a b
    rw [ab_of (mxI_nn _ _)] at h1
    have h2 := (mxI_le_iff (mxI_nn (fun k => g (lfr r bt K j + 1 + k)) (lsp N r bt K j))).mp (Int.le_refl _) k c d
    exact Int.le_trans h2 h1
theorem al_cov {N : Int} {r bt : Int → Int} {K : Int} (h : BT r bt K) (hW : WF N r) (hwh : whl N r = true) {g : Int → Bool} : alI (fun j => alI (fun k => g ((lfr r bt K j + 1 + k) % N)) (lsp N r bt K j)) (max 1 K) = alI g N := by
  have hw := hW.num
  rw [Bool.eq_iff_iff, alI_iff, alI_iff]
  constructor
  · intro q p p0 p1
    obtain ⟨j, k, a, b, c, d, e⟩ := lnk_cov h hW hwh p0 p1
    have := (alI_iff _ _).mp (q j a b) k c d
    rw [e] at this; exact this
  · intro q j a b
    rw [alI_iff]
    intro k c d
    exact q _ (Int.emod_nonneg _ (by omega)) (Int.emod_lt_of_pos _ (by omega))
theorem ga_loc {f g : Int → Int} {N : Int} {r : Int → Int} (hW : WF N r) {i : Int} (h0 : 0 ≤ i) (h1 : i < N) (a : lw f N (i - 1) = lw g N (i - 1)) (b : lw f N i = lw g N i) (c : lw f N (i + 1) = lw g N (i + 1)) : ga f N r i = ga g N r i := by
  have e2 : d2 f N i = d2 g N i := by unfold d2; rw [a, b, c]
  have eV : vV f N i = vV g N i := by unfold vV; rw [a, c]
  have eA : vA f N i = vA g N i := by unfold vA; rw [e2]
  have eu : ucq (r 64) f N r i = ucq (r 64) g N r i := by unfold ucq; rw [b, eV, eA]
  have ep : pr f N r i = pr g N r i := by unfold pr fa; rw [b, eV]
  have eo : fo f N r i = fo g N r i := by unfold fo rs; rw [b, e2]
  have e1 : ok1 f N r i = ok1 g N r i := by unfold ok1 bd; rw [eu, ep, eo]
  unfold ga
  rw [e1]
  congr 1
  refine alI_congr (fun m a b' => ?_)
  by_cases q : r (36 + m) = i
  · have e : mk f r m = mk g r m := by
      unfold Jvm.Pilot.@@N@@.mk mo
      rw [q]
      have := b
      unfold lw at this
      rw [em_in ⟨h0, h1⟩] at this
      rw [this]
    rw [e]
  · rw [decide_eq_false q]; rfl
theorem l_loc {N : Int} {r bt w w' : Int → Int} {K j : Int} (h : BT r bt K) (hW : WF N r) (hwh : whl N r = true) (hl : LWS w) (hl' : LWS w') (h0 : 0 ≤ j) (h1 : j < max 1 K) (hj : K ≠ 0 → w (bt j) = w' (bt j)) (hn : K ≠ 0 → w (bt (nx K j)) = w' (bt (nx K j))) : l2 N r bt K w j = l2 N r bt K w' j ∧ l3 N r bt K w j = l3 N r bt K w' j ∧ lg N r bt K w j = lg N r bt K w' j := by
  have hw := hW.num
  have L : ∀ o : Int, 0 ≤ o → o ≤ lsp N r bt K j + 2 → lw (lfW r w) N (lfr r bt K j + o) = lw (lfW r w') N (lfr r bt K j + o) := fun o a b => lf_loc h hW hwh hl hl' h0 h1 hj hn a b
  have D2 : ∀ o : Int, 1 ≤ o → o ≤ lsp N r bt K j + 1 → d2 (lfW r w) N (lfr r bt K j + o) = d2 (lfW r w') N (lfr r bt K j + o) := by
    intro o a b
    unfold d2
    rw [L o (by omega) (by omega), show lfr r bt K j + o + 1 = lfr r bt K j + (o + 1) by omega, L (o + 1) (by omega) (by omega), show lfr r bt K j + o - 1 = lfr r bt K j + (o - 1) by omega, L (o - 1) (by omega) (by omega)]
  refine ⟨mxI_congr (fun k a b => ?_), mxI_congr (fun k a b => ?_), alI_congr (fun k a b => ?_)⟩
  · rw [show lfr r bt K j + 1 + k = lfr r bt K j + (1 + k) by omega]
    exact D2 (1 + k) (by omega) (by omega)
  · rw [show lfr r bt K j + 1 + k = lfr r bt K j + (1 + k) by omega]
    unfold d3
    rw [D2 (1 + k) (by omega) (by omega), L (1 + k) (by omega) (by omega), show lfr r bt K j + (1 + k) + 1 = lfr r bt K j + (2 + k) by omega, L (2 + k) (by omega) (by omega), show lfr r bt K j + (1 + k) + 2 = lfr r bt K j + (3 + k) by omega, L (3 + k) (by omega) (by omega)]
  · have m : ∀ (f : Int → Int) (c : Int), lw f N ((lfr r bt K j + 1 + k) % N + c) = lw f N (lfr r bt K j + (1 + k + c)) := fun f c => by rw [lw_mod]; congr 1; omega
    refine ga_loc hW (Int.emod_nonneg _ (by omega)) (Int.emod_lt_of_pos _ (by omega)) ?_ ?_ ?_
    · rw [show (lfr r bt K j + 1 + k) % N - 1 = (lfr r bt K j + 1 + k) % N + (-1) by omega, m, m]; exact L _ (by omega) (by omega)
    · rw [show (lfr r bt K j + 1 + k) % N = (lfr r bt K j + 1 + k) % N + 0 by omega, m, m]; exact L _ (by omega) (by omega)
    · rw [m, m]; exact L _ (by omega) (by omega)
theorem zy_LWS {N : Int} {r : Int → Int} (hW : WF N r) (x : Int) : LWS (zy r x) := by
  intro s a b
  unfold zy
  have := hW.la a b
  split
  · exact this
  · split
    · exact dg_rg _ _ _ _
    · omega
theorem wy_LWS {N : Int} {r : Int → Int} (hW : WF N r) (x : Int) : LWS (wy r x) := by
  intro s a b
  unfold wy
  have := hW.la a b
  split
  · exact this
  · omega
/-- the row's values depend on the bent SEGMENTS' laws only -/
theorem w_eq {N : Int} {r : Int → Int} (hW : WF N r) {f g : Int → Int} (h : EQN f g N) : mxI (d2 f N) N = mxI (d2 g N) N ∧ mxI (d3 f N) N = mxI (d3 g N) N ∧ gd f N r = gd g N r := by
  have hw := hW.num
  have v := h.v (by omega)
  exact ⟨by rw [v.2.1], by rw [v.2.2.1], h.gd hW⟩
def kw (N : Int) (r : Int → Int) (w : Int) : Int := (if wG N r w = true then 0 else 100000000) + wS N r w * 10000 + wT N r w
theorem wv_rg {N : Int} {r : Int → Int} (hW : WF N r) (hwh : whl N r = true) (w : Int) : (0 ≤ wS N r w ∧ wS N r w ≤ 1998) ∧ (0 ≤ wT N r w ∧ wT N r w ≤ 3996) := by
  have hw := hW.num
  have hL : LR (wf r w) N := lfW_LR hW hwh (wy_LWS hW w)
  exact ⟨mxI_rg (by omega) (fun i => (hL.d (by omega) i).2.1), mxI_rg (by omega) (fun i => (hL.d (by omega) i).2.2)⟩
theorem bet_kw {N : Int} {r : Int → Int} (hW : WF N r) (hwh : whl N r = true) (x y : Int) : bet N r x y = decide (kw N r x < kw N r y) := by
  have a := wv_rg hW hwh x
  have b := wv_rg hW hwh y
  unfold bet kw
  rw [Bool.eq_iff_iff, decide_eq_true_iff]
  cases hx : wG N r x <;> cases hy : wG N r y <;> simp <;> omega
theorem kw_eq {N : Int} {r : Int → Int} (hW : WF N r) (hwh : whl N r = true) {x y : Int} (h : ∀ s : Int, 0 ≤ s → s < r 60 → bnt r s = true → wy r x s = wy r y s) : wS N r x = wS N r y ∧ wT N r x = wT N r y ∧ wG N r x = wG N r y := by
  have e : EQN (wf r x) (wf r y) N := lf_bnt hW hwh (wy_LWS hW x) (wy_LWS hW y) h
  exact w_eq hW e
theorem pow4 (n : Nat) : 0 < (4 : Int) ^ n := Int.pow_pos (by decide)
theorem best_way {N : Int} {r : Int → Int} (hW : WF N r) (hwh : whl N r = true) : bW N r = ph r (amI (fun x y => bet N r (ph r x) (ph r y)) (4 ^ (cc (bnt r) (r 60).toNat))) := by
  have hw := hW.num
  have hn : 0 ≤ r 60 := by omega
  have hk : ∀ x y, (fun x y => bet N r (ph r x) (ph r y)) x y = decide ((fun x => kw N r (ph r x)) x < (fun x => kw N r (ph r x)) y) := fun x y => bet_kw hW hwh _ _
  have p4 := pow4 (cc (bnt r) (r 60).toNat)
  have A := amI_low hk ((4 : Int) ^ (cc (bnt r) (r 60).toNat)).toNat (by omega)
  rw [show (((((4 : Int) ^ (cc (bnt r) (r 60).toNat)).toNat : Nat)) : Int) = 4 ^ (cc (bnt r) (r 60).toNat) by omega] at A
  unfold bW
  rw [show (mvI r (r 60)).toNat = cc (mvb r) (r 60).toNat by rw [mvI_cc r hn]; rfl]
  have F : ∀ w : Int, kw N r w = kw N r (ph r (ps r w)) := by
    intro w
    have e := kw_eq hW hwh (x := w) (y := ph r (ps r w)) (fun s a b c => by rw [wy_ph hn a b, zy_ps hn a b c])
    unfold kw
    rw [e.1, e.2.1, e.2.2]
  refine amI_is (k := kw N r) (bet_kw hW hwh) (ph_rg r _).1 (ph_rg r _).2 (fun w a b => ?_) (fun w a b => ?_)
  · have c := ps_rg r w
    rw [F w]
    exact A.2.1 _ c.1 c.2
  · have c := ps_rg r w
    have hb := (ph_rg r (am (fun x y => bet N r (ph r x) (ph r y)) ((4 : Int) ^ (cc (bnt r) (r 60).toNat)).toNat)).2
    have d := ph_ps hn a (show w < 4 ^ (cc (mvb r) (r 60).toNat) from Int.lt_trans b hb)
    rw [F w]
    refine A.2.2 _ c.1 ?_
    rcases (show ps r w < am (fun x y => bet N r (ph r x) (ph r y)) ((4 : Int) ^ (cc (bnt r) (r 60).toNat)).toNat ∨ am (fun x y => bet N r (ph r x) (ph r y)) ((4 : Int) ^ (cc (bnt r) (r 60).toNat)).toNat ≤ ps r w by omega) with z | z
    · exact z
    · have m := ph_mono hn A.1.1 z c.2
      unfold amI at b
      omega
theorem v_way {N : Int} {r bt : Int → Int} {K : Int} (h : BT r bt K) (hW : WF N r) (hwh : whl N r = true) (x : Int) : mxI (fun j => l2 N r bt K (zy r x) j) (max 1 K) = wS N r (ph r x) ∧ mxI (fun j => l3 N r bt K (zy r x) j) (max 1 K) = wT N r (ph r x) ∧ alI (fun j => lg N r bt K (zy r x) j) (max 1 K) = wG N r (ph r x) := by
  have hw := hW.num
  have e : EQN (wf r (ph r x)) (lfW r (zy r x)) N := lf_bnt hW hwh (wy_LWS hW _) (zy_LWS hW _) (fun s a b _ => wy_ph (by omega) a b)
  have q := w_eq hW e
  unfold l2 l3 lg wS wT wG
  rw [q.1, q.2.1, q.2.2, gd_ga hW]
  exact ⟨mx_cov h hW hwh (d2_mod _ _), mx_cov h hW hwh (d3_mod _ _), al_cov h hW hwh⟩
def lwn (K x j : Int) : Int := if j < K then (x / 4 ^ (K - 1 - j).toNat) % 4 else 0
theorem lwn_zy {r bt : Int → Int} {K : Int} (h : BT r bt K) {x j : Int} (h0 : 0 ≤ j) (h1 : j < K) : lwn K x j = zy r x (bt j) := by
  have a := h.2.2 j h0 h1
  unfold lwn zy dg
  rw [if_pos h1, if_neg (bnt_iff.mp a.2.2.1).1, if_pos a.2.2.1]
  congr 3
  have := h.1
  omega
theorem lwn_rg (K x j : Int) : 0 ≤ lwn K x j ∧ lwn K x j ≤ 3 := by unfold lwn; split <;> omega
/-- what a link's cells hold -/
def CE (σ : St) (N : Int) (r bt : Int → Int) (K j : Int) : Prop := ∀ p q : Int, 0 ≤ p → p < 4 → 0 ≤ q → q < 4 → ∀ w : Int → Int, LWS w → (K ≠ 0 → w (bt j) = p ∧ w (bt (nx K j)) = q) → (K = 0 → p = 0 ∧ q = 0) → σ 33 (j * 16 + p * 4 + q) = l2 N r bt K w j ∧ σ 34 (j * 16 + p * 4 + q) = l3 N r bt K w j ∧ σ 35 (j * 16 + p * 4 + q) = (if lg N r bt K w j = true then 1 else 0)
theorem CE.of {σ τ : St} {N : Int} {r bt : Int → Int} {K j : Int} (h : CE σ N r bt K j) (e : ∀ k : Nat, k = 33 ∨ k = 34 ∨ k = 35 → ∀ i : Int, j * 16 ≤ i → i < j * 16 + 16 → τ k i = σ k i) : CE τ N r bt K j := by
  intro p q a b c d w hl hw h0
  rw [e 33 (by omega) _ (by omega) (by omega), e 34 (by omega) _ (by omega) (by omega), e 35 (by omega) _ (by omega) (by omega)]
  exact h p q a b c d w hl hw h0
