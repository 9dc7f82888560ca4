/-! which law a STEP asks -/
def LWS (w : Int → Int) : Prop := ∀ s : Int, 0 ≤ s → s < 12 → 0 ≤ w s ∧ w s ≤ 3
theorem rise_k0 {law h n : Int} (hl : 0 ≤ law ∧ law ≤ 3) (hn : 1 ≤ n ∧ n ≤ 60) : rise law h 0 n = 0 := by
  have e := nude law 0 n hl.1 hl.2 (by omega) (by omega) hn.2
  have z : nu law 0 n = 0 := by
    rcases (show law = 0 ∨ law = 1 ∨ law = 2 ∨ law = 3 by omega) with q | q | q | q <;> subst q
    · rfl
    · unfold nu; rw [if_pos rfl, if_pos (by omega)]; rfl
    · unfold nu; rw [if_neg (by decide), if_pos rfl]; simp
    · unfold nu; rw [if_neg (by decide), if_neg (by decide), if_pos rfl]; simp
  unfold rise
  rw [z, Int.mul_zero]
  exact Int.ediv_eq_zero_of_lt (by omega) (by omega)
theorem rise_h0 {law k n : Int} (hl : 0 ≤ law ∧ law ≤ 3) (hk : 0 ≤ k ∧ k < n) (hn : n ≤ 60) : rise law 0 k n = 0 := by
  have e := nude law k n hl.1 hl.2 hk.1 hk.2 hn
  unfold rise
  rw [show 2 * 0 * nu law k n = 0 by simp]
  exact Int.ediv_eq_zero_of_lt (by omega) (by omega)
theorem lft_at {N : Int} {r w : Int → Int} (hW : WF N r) {s p : Int} (h0 : 0 ≤ s) (hp0 : bgI r s ≤ p) (hp1 : p < bgI r s + r s) : ∀ n : Nat, s < (n : Int) → n ≤ 12 → lft r w n p = og r s + rise (w s) (r (12 + s) - og r s) (p - bgI r s) (r s)
  | 0, h, _ => by omega
  | n + 1, h, h12 => by
    show (if bgI r (n : Int) ≤ p then og r (n : Int) + rise (w (n : Int)) (r (12 + (n : Int)) - og r (n : Int)) (p - bgI r (n : Int)) (r (n : Int)) else lft r w n p) = _
    rcases (show s = (n : Int) ∨ s < (n : Int) by omega) with q | q
    · rw [← q, if_pos hp0]
    · have h2 := hW.mono (s := s + 1) (t := (n : Int)) (by omega) (by omega) (by omega)
      rw [bgI_succ r h0] at h2
      rw [if_neg (by omega)]
      exact lft_at hW h0 hp0 hp1 n q (by omega)
theorem lf_at {N : Int} {r w : Int → Int} (hW : WF N r) {s p : Int} (h0 : 0 ≤ s) (h1 : s < r 60) (hp0 : bgI r s ≤ p) (hp1 : p < bgI r s + r s) : lfW r w p = og r s + rise (w s) (r (12 + s) - og r s) (p - bgI r s) (r s) := by
  have hw := hW.num
  exact lft_at hW h0 hp0 hp1 _ (by omega) (by omega)
theorem seg_of {N : Int} {r : Int → Int} (hW : WF N r) {p : Int} (hp : 0 ≤ p) : ∀ n : Nat, n ≤ 12 → p < bgI r (n : Int) → ∃ s : Int, 0 ≤ s ∧ s < (n : Int) ∧ bgI r s ≤ p ∧ p < bgI r s + r s
  | 0, _, h => by rw [show ((0 : Nat) : Int) = 0 from rfl, bgI_0] at h; omega
  | n + 1, h12, h => by
    rw [show ((n + 1 : Nat) : Int) = (n : Int) + 1 by omega, bgI_succ r (by omega)] at h
    by_cases q : bgI r (n : Int) ≤ p
    · exact ⟨n, by omega, by omega, q, h⟩
    · obtain ⟨s, a, b, c⟩ := seg_of hW hp n (by omega) (by omega)
      exact ⟨s, a, by omega, c⟩
theorem seg_whl {N : Int} {r : Int → Int} (hW : WF N r) (h : whl N r = true) {p : Int} (h0 : 0 ≤ p) (h1 : p < N) : ∃ s : Int, 0 ≤ s ∧ s < r 60 ∧ bgI r s ≤ p ∧ p < bgI r s + r s := by
  have hw := hW.num
  have a := (whl_iff.mp h).2.1
  obtain ⟨s, b⟩ := seg_of hW h0 (r 60).toNat (by omega) (by rw [show (((r 60).toNat : Nat) : Int) = r 60 by omega, a]; exact h1)
  exact ⟨s, b.1, by omega, b.2.2⟩
theorem bnt_iff {r : Int → Int} {s : Int} : bnt r s = true ↔ ¬ dwl r s = true ∧ 1 < r s := by unfold bnt; simp
theorem lf_same {N : Int} {r w w' : Int → Int} (hW : WF N r) (hl : LWS w) (hl' : LWS w') {s p : Int} (h0 : 0 ≤ s) (h1 : s < r 60) (hp0 : bgI r s ≤ p) (hp1 : p < bgI r s + r s) (hs : bnt r s = true → bgI r s < p → w s = w' s) : lfW r w p = lfW r w' p := by
  have hw := hW.num
  have hlo := hW.lo h0 (show s < 12 by omega)
  have a := hl s h0 (by omega)
  have b := hl' s h0 (by omega)
  rw [lf_at hW h0 h1 hp0 hp1, lf_at hW h0 h1 hp0 hp1]
  rcases (show p = bgI r s ∨ bgI r s < p by omega) with q | q
  · rw [q, show bgI r s - bgI r s = 0 by omega, rise_k0 a (by omega), rise_k0 b (by omega)]
  · by_cases z : bnt r s = true
    · rw [hs z q]
    · have : dwl r s = true := by
        have := (not_congr bnt_iff).mp z
        by_cases y : dwl r s = true
        · exact y
        · exact absurd ⟨y, by omega⟩ this
      have e : r (12 + s) = og r s := by unfold dwl at this; exact of_decide_eq_true this
      rw [e, show og r s - og r s = 0 by omega, rise_h0 a (by omega) (by omega), rise_h0 b (by omega) (by omega)]
theorem lf_bnt {N : Int} {r w w' : Int → Int} (hW : WF N r) (h : whl N r = true) (hl : LWS w) (hl' : LWS w') (hs : ∀ s : Int, 0 ≤ s → s < r 60 → bnt r s = true → w s = w' s) : EQN (lfW r w) (lfW r w') N := by
  intro p h0 h1
  obtain ⟨s, a, b, c, d⟩ := seg_whl hW h h0 h1
  exact lf_same hW hl hl' a b c d (fun z _ => hs s a b z)
theorem drk_lf {N : Int} {f r w : Int → Int} (hW : WF N r) (hwh : whl N r = true) {law s : Int} (h0 : 0 ≤ s) (h1 : s < r 60) (h : EQN f (lfW r w) N) : EQN (drk f r law s (r s)) (lfW r (upI w s law)) N := by
  intro p p0 p1
  obtain ⟨t, a, b, c, d⟩ := seg_whl hW hwh p0 p1
  rw [lf_at hW a b c d]
  have hw := hW.num
  unfold drk
  by_cases z : t = s
  · subst z
    rw [if_pos ⟨c, d⟩, upI_eq]
  · rw [upI_ne z, ← lf_at (w := w) hW a b c d, ← h p p0 p1]
    refine if_neg (fun q => ?_)
    rcases (show t < s ∨ s < t by omega) with y | y
    · have m := hW.mono (s := t + 1) (t := s) (by omega) (by omega) (by omega)
      rw [bgI_succ r a] at m; omega
    · have m := hW.mono (s := s + 1) (t := t) (by omega) (by omega) (by omega)
      rw [bgI_succ r h0] at m; omega
/-! the bent SEGMENTS in a ring -/
def BT (r bt : Int → Int) (K : Int) : Prop := K = (cc (bnt r) (r 60).toNat : Int) ∧ (∀ s : Int, 0 ≤ s → s < r 60 → bnt r s = true → bt (cc (bnt r) s.toNat : Int) = s) ∧ ∀ j : Int, 0 ≤ j → j < K → 0 ≤ bt j ∧ bt j < r 60 ∧ bnt r (bt j) = true ∧ (cc (bnt r) (bt j).toNat : Int) = j
theorem BT.lt {r bt : Int → Int} {K : Int} (h : BT r bt K) {i j : Int} (h0 : 0 ≤ i) (h1 : i < j) (h2 : j < K) : bt i < bt j := by
  have a := h.2.2 i h0 (by omega)
  have b := h.2.2 j (by omega) h2
  rcases (show bt i < bt j ∨ bt j ≤ bt i by omega) with q | q
  · exact q
  · have m := cc_mono (bnt r) (show (bt j).toNat ≤ (bt i).toNat by omega)
    omega
theorem BT.bg {N : Int} {r bt : Int → Int} {K : Int} (h : BT r bt K) (hW : WF N r) {i j : Int} (h0 : 0 ≤ i) (h1 : i < j) (h2 : j < K) : bgI r (bt i) + 2 ≤ bgI r (bt j) ∧ bgI r (bt i) + r (bt i) ≤ bgI r (bt j) := by
  have hw := hW.num
  have a := h.2.2 i h0 (by omega)
  have b := h.2.2 j (by omega) h2
  have c := h.lt h0 h1 h2
  have m := hW.mono (s := bt i + 1) (t := bt j) (by omega) (by omega) (by omega)
  rw [bgI_succ r a.1] at m
  have := (bnt_iff.mp a.2.2.1).2
  omega
def nx (K j : Int) : Int := if j + 1 < K then j + 1 else 0
def lfr (r bt : Int → Int) (K j : Int) : Int := if K = 0 then 0 else bgI r (bt j)
def lsp (N : Int) (r bt : Int → Int) (K j : Int) : Int := if K = 0 then N else if 0 < bgI r (bt (nx K j)) - bgI r (bt j) then bgI r (bt (nx K j)) - bgI r (bt j) else bgI r (bt (nx K j)) - bgI r (bt j) + N
theorem lnk_rg {N : Int} {r bt : Int → Int} {K j : Int} (h : BT r bt K) (hW : WF N r) (hwh : whl N r = true) (h0 : 0 ≤ j) (h1 : j < max 1 K) : 0 ≤ lfr r bt K j ∧ lfr r bt K j < N ∧ 1 ≤ lsp N r bt K j ∧ lsp N r bt K j ≤ N := by
  have hw := hW.num
  unfold lfr lsp
  by_cases q : K = 0
  · rw [if_pos q, if_pos q]; omega
  · rw [if_neg q, if_neg q]
    have hK : 0 ≤ K := by rw [h.1]; omega
    have a := h.2.2 j h0 (by omega)
    have hn : 0 ≤ nx K j ∧ nx K j < K := by unfold nx; split <;> omega
    have b := h.2.2 (nx K j) hn.1 hn.2
    have ba := whl_bg hW hwh a.1 a.2.1
    have bb := whl_bg hW hwh b.1 b.2.1
    have a2 := (bnt_iff.mp a.2.2.1).2
    have b2 := (bnt_iff.mp b.2.2.1).2
    split <;> omega
theorem lf_loc {N : Int} {r bt w w' : Int → Int} {K j o : Int} (h : BT r bt K) (hW : WF N r) (hwh : whl N r = true) (hl : LWS w) (hl' : LWS w') (h0 : 0 ≤ j) (h1 : j < max 1 K) (hj : K ≠ 0 → w (bt j) = w' (bt j)) (hn : K ≠ 0 → w (bt (nx K j)) = w' (bt (nx K j))) (ho0 : 0 ≤ o) (ho1 : o ≤ lsp N r bt K j + 2) : lw (lfW r w) N (lfr r bt K j + o) = lw (lfW r w') N (lfr r bt K j + o) := by
  have hw := hW.num
  unfold lw
  have hp0 := Int.emod_nonneg (lfr r bt K j + o) (show N ≠ 0 by omega)
  have hp1 := Int.emod_lt_of_pos (lfr r bt K j + o) (show 0 < N by omega)
  obtain ⟨s, a, b, c, d⟩ := seg_whl hW hwh hp0 hp1
  refine lf_same hW hl hl' a b c d (fun hb hlt => ?_)
  have e := h.2.1 s a b hb
  have eK := h.1
  generalize hi : (cc (bnt r) s.toNat : Int) = i at e
  have i0 : 0 ≤ i := by omega
  have i1 : i < K := by
    have := cc_lt (bnt r) (show s.toNat < (r 60).toNat by omega) (by rw [show ((s.toNat : Nat) : Int) = s by omega]; exact hb)
    omega
  have hK : K ≠ 0 := by omega
  have hrg := lnk_rg h hW hwh h0 h1
  unfold lfr at *
  unfold lsp at *
  rw [if_neg hK] at *
  have hj2 := h.2.2 j h0 (by omega)
  have wj := whl_bg hW hwh hj2.1 hj2.2.1
  have tj := (bnt_iff.mp hj2.2.2.1).2
  have ws := whl_bg hW hwh a b
  have key : i = j ∨ i = nx K j := by
    unfold nx at *
    by_cases q : j + 1 < K
    · rw [if_pos q] at *
      have m := h.bg hW h0 (show j < j + 1 by omega) q
      rw [if_pos (by omega)] at ho1
      have hn2 := h.2.2 (j + 1) (by omega) q
      have wn := whl_bg hW hwh hn2.1 hn2.2.1
      have tn := (bnt_iff.mp hn2.2.2.1).2
      rcases (show bgI r (bt j) + o < N ∨ bgI r (bt j) + o = N by omega) with y | y
      · rw [Int.emod_eq_of_lt (by omega) y] at *
        rcases (show i < j ∨ i = j ∨ i = j + 1 ∨ j + 1 < i by omega) with x | x | x | x
        · have m2 := h.bg hW i0 x (by omega); rw [e] at m2; omega
        · exact Or.inl x
        · exact Or.inr x
        · have m2 := h.bg hW (show 0 ≤ j + 1 by omega) x i1; rw [e] at m2; omega
      · exfalso; rw [y, Int.emod_self] at hlt; omega
    · rw [if_neg q] at *
      have hn2 := h.2.2 0 (by omega) (by omega)
      have wn := whl_bg hW hwh hn2.1 hn2.2.1
      have tn := (bnt_iff.mp hn2.2.2.1).2
      have m : bgI r (bt 0) ≤ bgI r (bt j) := by
        rcases (show j = 0 ∨ 0 < j by omega) with y | y
        · rw [y]; exact Int.le_refl _
        · have := h.bg hW (Int.le_refl 0) y (by omega); omega
      rw [if_neg (by omega)] at ho1
      rcases (show bgI r (bt j) + o < N ∨ (N ≤ bgI r (bt j) + o ∧ bgI r (bt j) + o < 2 * N) ∨ bgI r (bt j) + o = 2 * N by omega) with y | y | y
      · rw [Int.emod_eq_of_lt (by omega) y] at *
        rcases (show i < j ∨ i = j by omega) with x | x
        · have m2 := h.bg hW i0 x (by omega); rw [e] at m2; omega
        · exact Or.inl x
      · rw [em_hi y] at *
        rcases (show i = 0 ∨ 0 < i by omega) with x | x
        · exact Or.inr x
        · have m2 := h.bg hW (Int.le_refl 0) x i1; rw [e] at m2; omega
      · exfalso; rw [y, Int.mul_emod_left] at hlt; omega
  rcases key with y | y
  · rw [← e, y]; exact hj hK
  · rw [← e, y]; exact hn hK
theorem lnk_cov0 {r bt : Int → Int} {p : Int} : ∀ m : Nat, (∀ j : Int, 0 ≤ j → j < (m : Int) → p ≤ bgI r (bt j)) ∨ ∃ j : Int, 0 ≤ j ∧ j < (m : Int) ∧ bgI r (bt j) < p ∧ ∀ i : Int, j < i → i < (m : Int) → p ≤ bgI r (bt i)
  | 0 => Or.inl (fun j a b => by omega)
  | m + 1 => by
    by_cases q : bgI r (bt (m : Int)) < p
    · exact Or.inr ⟨m, by omega, by omega, q, fun i a b => by omega⟩
    · rcases lnk_cov0 (r := r) (bt := bt) (p := p) m with z | ⟨j, a, b, c, d⟩
      · refine Or.inl (fun j a b => ?_)
        rcases (show j < (m : Int) ∨ j = (m : Int) by omega) with y | y
        · exact z j a y
        · rw [y]; omega
      · refine Or.inr ⟨j, a, by omega, c, fun i x y => ?_⟩
        rcases (show i < (m : Int) ∨ i = (m : Int) by omega) with u | u
        · exact d i x u
        · rw [u]; omega
theorem lnk_cov {N : Int} {r bt : Int → Int} {K p : Int} (h : BT r bt K) (hW : WF N r) (hwh : whl N r = true) (p0 : 0 ≤ p) (p1 : p < N) : ∃ j k : Int, 0 ≤ j ∧ j < max 1 K ∧ 0 ≤ k ∧ k < lsp N r bt K j ∧ (lfr r bt K j + 1 + k) % N = p := by
  have hw := hW.num
  have hK : 0 ≤ K := by rw [h.1]; omega
  unfold lfr lsp
  by_cases q : K = 0
  · simp only [if_pos q]
    rcases (show p = 0 ∨ 0 < p by omega) with z | z
    · exact ⟨0, N - 1, by omega, by omega, by omega, by omega, by rw [show (0 : Int) + 1 + (N - 1) = N by omega, Int.emod_self, z]⟩
    · exact ⟨0, p - 1, by omega, by omega, by omega, by omega, by rw [show (0 : Int) + 1 + (p - 1) = p by omega, Int.emod_eq_of_lt p0 p1]⟩
  · simp only [if_neg q]
    have hl := h.2.2 (K - 1) (by omega) (by omega)
    have wl := whl_bg hW hwh hl.1 hl.2.1
    have tl := (bnt_iff.mp hl.2.2.1).2
    have h0 := h.2.2 0 (by omega) (by omega)
    have w0 := whl_bg hW hwh h0.1 h0.2.1
    have m : bgI r (bt 0) ≤ bgI r (bt (K - 1)) := by
      rcases (show K - 1 = 0 ∨ 0 < K - 1 by omega) with y | y
      · rw [y]; exact Int.le_refl _
      · have := h.bg hW (Int.le_refl 0) y (by omega); omega
    have nl : nx K (K - 1) = 0 := by unfold nx; rw [if_neg (by omega)]
    have key := lnk_cov0 (r := r) (bt := bt) (p := p) K.toNat
    rw [show ((K.toNat : Nat) : Int) = K by omega] at key
    rcases key with z | ⟨j, a, b, c, d⟩
    · have z0 := z 0 (by omega) (by omega)
      refine ⟨K - 1, p + N - bgI r (bt (K - 1)) - 1, by omega, by omega, by omega, ?_, ?_⟩
      · rw [nl, if_neg (by omega)]; omega
      · rw [show bgI r (bt (K - 1)) + 1 + (p + N - bgI r (bt (K - 1)) - 1) = p + N by omega, Int.add_emod_right, Int.emod_eq_of_lt p0 p1]
    · refine ⟨j, p - bgI r (bt j) - 1, a, by omega, by omega, ?_, ?_⟩
      · rcases (show j + 1 < K ∨ j = K - 1 by omega) with y | y
        · have e : nx K j = j + 1 := if_pos y
          have z := d (j + 1) (by omega) y
          rw [e, if_pos (by omega)]; omega
        · subst y
          rw [nl, if_neg (by omega)]; omega
      · rw [show bgI r (bt j) + 1 + (p - bgI r (bt j) - 1) = p by omega, Int.emod_eq_of_lt p0 p1]
