/-! ways as numbers to the base 4 -/
def cc (c : Int → Bool) : Nat → Nat
  | 0 => 0
  | n + 1 => cc c n + (if c (n : Int) = true then 1 else 0)
def hz (c : Int → Bool) (D : Int → Int) : Nat → Int
  | 0 => 0
  | n + 1 => if c (n : Int) = true then 4 * hz c D n + D (n : Int) else hz c D n
def dg (c : Int → Bool) (n : Nat) (w : Int) : Int → Int := fun s => (w / 4 ^ (cc c n - 1 - cc c s.toNat)) % 4
theorem cc_s (c : Int → Bool) (n : Nat) : cc c (n + 1) = cc c n + (if c (n : Int) = true then 1 else 0) := rfl
theorem cc_mono (c : Int → Bool) {s n : Nat} (h : s ≤ n) : cc c s ≤ cc c n := by
  induction n with
  | zero => rw [show s = 0 by omega]; exact Nat.le_refl _
  | succ n ih =>
    rcases (show s ≤ n ∨ s = n + 1 by omega) with q | q
    · have := ih q; rw [cc_s]; omega
    · rw [q]; exact Nat.le_refl _
theorem cc_lt (c : Int → Bool) {s n : Nat} (h : s < n) (hc : c (s : Int) = true) : cc c s < cc c n := by
  have h1 := cc_mono c (show s + 1 ≤ n from h)
  have h2 : cc c (s + 1) = cc c s + 1 := by show cc c s + (if c (s : Int) = true then 1 else 0) = _; rw [if_pos hc]
  omega
theorem hz_rg (c : Int → Bool) (D : Int → Int) (hD : ∀ s, 0 ≤ D s ∧ D s ≤ 3) : ∀ n : Nat, 0 ≤ hz c D n ∧ hz c D n < 4 ^ (cc c n)
  | 0 => ⟨Int.le_refl 0, by show (0 : Int) < 4 ^ 0; decide⟩
  | n + 1 => by
    have ih := hz_rg c D hD n
    have hd := hD (n : Int)
    unfold hz cc
    by_cases q : c (n : Int) = true
    · rw [if_pos q, if_pos q, Int.pow_succ]; omega
    · rw [if_neg q, if_neg q]; exact ih
theorem hz_le (c : Int → Bool) {D D' : Int → Int} : ∀ n : Nat, (∀ s : Int, 0 ≤ s → s < (n : Int) → c s = true → D s ≤ D' s) → hz c D n ≤ hz c D' n
  | 0, _ => Int.le_refl _
  | n + 1, h => by
    have ih := hz_le c n (fun s a b q => h s a (by omega) q)
    unfold hz
    by_cases q : c (n : Int) = true
    · rw [if_pos q, if_pos q]; have := h (n : Int) (by omega) (by omega) q; omega
    · rw [if_neg q, if_neg q]; exact ih
theorem hz_eq (c : Int → Bool) {D D' : Int → Int} (n : Nat) (h : ∀ s : Int, 0 ≤ s → s < (n : Int) → c s = true → D s = D' s) : hz c D n = hz c D' n :=
  Int.le_antisymm (hz_le c n (fun s a b q => Int.le_of_eq (h s a b q))) (hz_le c n (fun s a b q => Int.le_of_eq (h s a b q).symm))
theorem div4 (w : Int) (e : Nat) : w / 4 ^ (e + 1) = w / 4 ^ e / 4 := by
  rw [Int.pow_succ, Int.ediv_ediv_of_nonneg (Int.pow_nonneg (by decide))]
theorem hz_dg (c : Int → Bool) (N : Nat) {w : Int} (h0 : 0 ≤ w) (h1 : w < 4 ^ (cc c N)) : ∀ t : Nat, t ≤ N → hz c (dg c N w) t = w / 4 ^ (cc c N - cc c t)
  | 0, _ => by
    show 0 = w / 4 ^ (cc c N - 0)
    rw [Nat.sub_zero, Int.ediv_eq_zero_of_lt h0 h1]
  | t + 1, ht => by
    have ih := hz_dg c N h0 h1 t (by omega)
    unfold hz
    by_cases q : c (t : Int) = true
    · have h2 := cc_lt c (show t < N by omega) q
      have h3 : cc c (t + 1) = cc c t + 1 := by show cc c t + (if c (t : Int) = true then 1 else 0) = _; rw [if_pos q]
      rw [if_pos q, ih, h3]
      unfold dg
      rw [show (t : Int).toNat = t from rfl, show cc c N - cc c t = (cc c N - 1 - cc c t) + 1 by omega, div4, show cc c N - (cc c t + 1) = cc c N - 1 - cc c t by omega]
      omega
    · have h3 : cc c (t + 1) = cc c t := by show cc c t + (if c (t : Int) = true then 1 else 0) = _; rw [if_neg q]; rfl
      rw [if_neg q, ih, h3]
theorem hz_all (c : Int → Bool) (N : Nat) {w : Int} (h0 : 0 ≤ w) (h1 : w < 4 ^ (cc c N)) : hz c (dg c N w) N = w := by
  rw [hz_dg c N h0 h1 N (Nat.le_refl _), Nat.sub_self]
  exact Int.ediv_one w
theorem hz_div (c : Int → Bool) {D : Int → Int} (hD : ∀ s, 0 ≤ D s ∧ D s ≤ 3) (t : Nat) : ∀ n : Nat, t ≤ n → hz c D n / 4 ^ (cc c n - cc c t) = hz c D t
  | 0, h => by rw [show t = 0 by omega, Nat.sub_self]; exact Int.ediv_one _
  | n + 1, h => by
    rcases (show t = n + 1 ∨ t ≤ n by omega) with q | q
    · rw [q, Nat.sub_self]; exact Int.ediv_one _
    · have ih := hz_div c hD t n q
      have hm := cc_mono c q
      have hd := hD (n : Int)
      by_cases p : c (n : Int) = true
      · have h3 : cc c (n + 1) = cc c n + 1 := by show cc c n + (if c (n : Int) = true then 1 else 0) = _; rw [if_pos p]
        have h4 : hz c D (n + 1) = 4 * hz c D n + D (n : Int) := by show (if c (n : Int) = true then 4 * hz c D n + D (n : Int) else hz c D n) = _; rw [if_pos p]
        rw [h3, h4, show cc c n + 1 - cc c t = 1 + (cc c n - cc c t) by omega, Int.pow_add, Int.ediv_ediv_of_nonneg (by decide) |>.symm, show (4 * hz c D n + D (n : Int)) / 4 ^ 1 = hz c D n by omega, ih]
      · have h3 : cc c (n + 1) = cc c n := by show cc c n + (if c (n : Int) = true then 1 else 0) = _; rw [if_neg p]; rfl
        have h4 : hz c D (n + 1) = hz c D n := by show (if c (n : Int) = true then 4 * hz c D n + D (n : Int) else hz c D n) = _; rw [if_neg p]
        rw [h3, h4, ih]
theorem dg_hz (c : Int → Bool) {D : Int → Int} (hD : ∀ s, 0 ≤ D s ∧ D s ≤ 3) {n : Nat} {s : Int} (h0 : 0 ≤ s) (h1 : s < (n : Int)) (hc : c s = true) : dg c n (hz c D n) s = D s := by
  have hs : ((s.toNat : Nat) : Int) = s := by omega
  have hc' : c ((s.toNat : Nat) : Int) = true := by rw [hs]; exact hc
  have h3 : cc c (s.toNat + 1) = cc c s.toNat + 1 := by show cc c s.toNat + (if c (s.toNat : Int) = true then 1 else 0) = _; rw [if_pos hc']
  have h2 := cc_lt c (show s.toNat < n by omega) hc'
  have h4 := hz_div c hD (s.toNat + 1) n (by omega)
  have h5 : hz c D (s.toNat + 1) = 4 * hz c D s.toNat + D s := by show (if c (s.toNat : Int) = true then 4 * hz c D s.toNat + D (s.toNat : Int) else hz c D s.toNat) = _; rw [if_pos hc', hs]
  unfold dg
  rw [show cc c n - 1 - cc c s.toNat = cc c n - cc c (s.toNat + 1) by omega, h4, h5]
  have := hD s
  omega
theorem hz_two {b c : Int → Bool} {D D' : Int → Int} (hbc : ∀ s, b s = true → c s = true) (hD : ∀ s, 0 ≤ D s ∧ D s ≤ 3) (hD' : ∀ s, 0 ≤ D' s ∧ D' s ≤ 3) : ∀ n : Nat, (∀ s : Int, 0 ≤ s → s < (n : Int) → c s = true → ¬ b s = true → D s = 0 ∧ D' s = 0) → (hz b D n < hz b D' n → hz c D n < hz c D' n) ∧ (hz b D n = hz b D' n → hz c D n = hz c D' n)
  | 0, _ => ⟨fun h => absurd h (Int.lt_irrefl _), fun _ => rfl⟩
  | n + 1, h => by
    have ih := hz_two hbc hD hD' n (fun s a e q p => h s a (by omega) q p)
    have d1 := hD (n : Int)
    have d2 := hD' (n : Int)
    unfold hz
    by_cases p : b (n : Int) = true
    · rw [if_pos p, if_pos p, if_pos (hbc _ p), if_pos (hbc _ p)]
      omega
    · rw [if_neg p, if_neg p]
      by_cases q : c (n : Int) = true
      · have := h (n : Int) (by omega) (by omega) q p
        rw [if_pos q, if_pos q]; omega
      · rw [if_neg q, if_neg q]; exact ih
theorem dg_rg (c : Int → Bool) (n : Nat) (w s : Int) : 0 ≤ dg c n w s ∧ dg c n w s ≤ 3 := by unfold dg; omega
/-! the first least -/
theorem amI_low {k : Int → Int} {lt : Int → Int → Bool} (hk : ∀ x y, lt x y = decide (k x < k y)) : ∀ n : Nat, 0 < n → (0 ≤ am lt n ∧ am lt n < (n : Int)) ∧ (∀ j : Int, 0 ≤ j → j < (n : Int) → k (am lt n) ≤ k j) ∧ (∀ j : Int, 0 ≤ j → j < am lt n → k (am lt n) < k j)
  | 0, h => absurd h (by decide)
  | n + 1, _ => by
    have hs : am lt (n + 1) = if lt (n : Int) (am lt n) = true then (n : Int) else am lt n := by
      have := amI_succ lt (n := (n : Int)) (by omega)
      unfold amI at this
      rw [show ((n : Int) + 1).toNat = n + 1 by omega, show (n : Int).toNat = n from rfl] at this
      exact this
    rcases (show n = 0 ∨ 0 < n by omega) with q | q
    · subst q
      have h1 : am lt 1 = 0 := amI_1 lt
      rw [h1]
      exact ⟨⟨by omega, by omega⟩, fun j a b => by rw [show j = 0 by omega]; exact Int.le_refl _, fun j a b => by omega⟩
    · have ih := amI_low hk n q
      rw [hs, hk]
      by_cases p : k (n : Int) < k (am lt n)
      · rw [if_pos (decide_eq_true p)]
        refine ⟨⟨by omega, by omega⟩, fun j a b => ?_, fun j a b => ?_⟩
        · rcases (show j < (n : Int) ∨ j = (n : Int) by omega) with z | z
          · have := ih.2.1 j a z; omega
          · rw [z]; exact Int.le_refl _
        · have := ih.2.1 j a b; omega
      · rw [if_neg (by rw [decide_eq_true_eq]; exact p)]
        refine ⟨⟨by omega, by omega⟩, fun j a b => ?_, ih.2.2⟩
        rcases (show j < (n : Int) ∨ j = (n : Int) by omega) with z | z
        · exact ih.2.1 j a z
        · rw [z]; omega
theorem amI_is {k : Int → Int} {lt : Int → Int → Bool} (hk : ∀ x y, lt x y = decide (k x < k y)) {n m : Int} (h0 : 0 ≤ m) (h1 : m < n) (ha : ∀ j : Int, 0 ≤ j → j < n → k m ≤ k j) (hb : ∀ j : Int, 0 ≤ j → j < m → k m < k j) : amI lt n = m := by
  have h := amI_low hk n.toNat (by omega)
  unfold amI
  have e : ((n.toNat : Nat) : Int) = n := by omega
  rw [e] at h
  rcases (show am lt n.toNat < m ∨ am lt n.toNat = m ∨ m < am lt n.toNat by omega) with q | q | q
  · have h2 := hb _ h.1.1 q
    have h3 := h.2.1 m h0 h1
    omega
  · exact q
  · have h2 := h.2.2 m h0 q
    have h3 := ha _ h.1.1 h.1.2
    omega
/-! the class's ways are among the row's -/
def bnt (r : Int → Int) (s : Int) : Bool := !dwl r s && decide (1 < r s)
def mvb (r : Int → Int) (s : Int) : Bool := !dwl r s
def zy (r : Int → Int) (x : Int) : Int → Int := fun s => if dwl r s = true then r (24 + s) else if bnt r s = true then dg (bnt r) (r 60).toNat x s else 0
def ph (r : Int → Int) (x : Int) : Int := hz (mvb r) (fun s => if dwl r s = true then 0 else zy r x s) (r 60).toNat
theorem bnt_mvb (r : Int → Int) (s : Int) (h : bnt r s = true) : mvb r s = true := by unfold bnt mvb at *; simp at h; simp [h.1]
theorem mvb_iff (r : Int → Int) (s : Int) : mvb r s = true ↔ ¬ dwl r s = true := by unfold mvb; simp
theorem mv_cc (r : Int → Int) : ∀ n : Nat, mv r n = (cc (mvb r) n : Int)
  | 0 => rfl
  | n + 1 => by
    have h := mvI_succ r (s := (n : Int)) (by omega)
    unfold mvI at h
    rw [show ((n : Int) + 1).toNat = n + 1 by omega, show (n : Int).toNat = n from rfl, mv_cc r n] at h
    rw [h, cc_s]
    by_cases q : dwl r (n : Int) = true
    · rw [if_pos q, if_neg (by rw [mvb_iff]; exact fun z => z q)]; omega
    · rw [if_neg q, if_pos ((mvb_iff r _).mpr q)]; omega
theorem mvI_cc (r : Int → Int) {s : Int} (h : 0 ≤ s) : mvI r s = (cc (mvb r) s.toNat : Int) := mv_cc r _
theorem wy_dg {r : Int → Int} (hn : 0 ≤ r 60) {w s : Int} (h0 : 0 ≤ s) (hd : ¬ dwl r s = true) : wy r w s = dg (mvb r) (r 60).toNat w s := by
  unfold wy dg
  rw [if_neg hd, mvI_cc r hn, mvI_cc r h0]
  congr 3
  omega
theorem zy_rg (r : Int → Int) (x : Int) : ∀ s, 0 ≤ (if dwl r s = true then 0 else zy r x s) ∧ (if dwl r s = true then 0 else zy r x s) ≤ 3 := by
  intro s
  by_cases q : dwl r s = true
  · rw [if_pos q]; omega
  · rw [if_neg q]; unfold zy; rw [if_neg q]
    split
    · exact dg_rg _ _ _ _
    · omega
theorem ph_rg (r : Int → Int) (x : Int) : 0 ≤ ph r x ∧ ph r x < 4 ^ (cc (mvb r) (r 60).toNat) := hz_rg _ _ (zy_rg r x) _
theorem wy_ph {r : Int → Int} (hn : 0 ≤ r 60) {x s : Int} (h0 : 0 ≤ s) (h1 : s < r 60) : wy r (ph r x) s = zy r x s := by
  by_cases q : dwl r s = true
  · unfold wy zy; rw [if_pos q, if_pos q]
  · rw [wy_dg hn h0 q]
    have := dg_hz (mvb r) (zy_rg r x) (n := (r 60).toNat) (s := s) h0 (by omega) ((mvb_iff r s).mpr q)
    unfold ph
    rw [this, if_neg q]
def ps (r : Int → Int) (w : Int) : Int := hz (bnt r) (dg (mvb r) (r 60).toNat w) (r 60).toNat
theorem ps_rg (r : Int → Int) (w : Int) : 0 ≤ ps r w ∧ ps r w < 4 ^ (cc (bnt r) (r 60).toNat) := hz_rg _ _ (dg_rg _ _ _) _
theorem zy_ps {r : Int → Int} (hn : 0 ≤ r 60) {w s : Int} (h0 : 0 ≤ s) (h1 : s < r 60) (hb : bnt r s = true) : zy r (ps r w) s = wy r w s := by
  have q := (mvb_iff r s).mp (bnt_mvb r s hb)
  rw [wy_dg hn h0 q]
  unfold zy
  rw [if_neg q, if_pos hb]
  exact dg_hz (bnt r) (dg_rg _ _ _) h0 (by omega) hb
theorem ph_ps {r : Int → Int} (hn : 0 ≤ r 60) {w : Int} (h0 : 0 ≤ w) (h1 : w < 4 ^ (cc (mvb r) (r 60).toNat)) : ph r (ps r w) ≤ w := by
  have h := hz_all (mvb r) (r 60).toNat h0 h1
  unfold ph
  refine Int.le_trans (hz_le (mvb r) (D' := dg (mvb r) (r 60).toNat w) _ (fun s a b q => ?_)) (Int.le_of_eq h)
  have q' := (mvb_iff r s).mp q
  rw [if_neg q']
  by_cases p : bnt r s = true
  · rw [zy_ps hn a (by omega) p, wy_dg hn a q']; exact Int.le_refl _
  · unfold zy; rw [if_neg q', if_neg p]; exact (dg_rg _ _ _ _).1
theorem ph_mono {r : Int → Int} (hn : 0 ≤ r 60) {x y : Int} (hx0 : 0 ≤ x) (hxy : x ≤ y) (hy : y < 4 ^ (cc (bnt r) (r 60).toNat)) : ph r x ≤ ph r y := by
  have e : ∀ z : Int, 0 ≤ z → z < 4 ^ (cc (bnt r) (r 60).toNat) → hz (bnt r) (fun s => if dwl r s = true then 0 else zy r z s) (r 60).toNat = z := by
    intro z z0 z1
    refine Eq.trans (hz_eq _ _ (fun s a b q => ?_)) (hz_all (bnt r) (r 60).toNat z0 z1)
    have q' := (mvb_iff r s).mp (bnt_mvb r s q)
    show (if dwl r s = true then 0 else zy r z s) = dg (bnt r) (r 60).toNat z s
    unfold zy
    rw [if_neg q', if_neg q', if_pos q]
  have h := hz_two (b := bnt r) (c := mvb r) (bnt_mvb r) (zy_rg r x) (zy_rg r y) (r 60).toNat (fun s a b q p => by
    have q' := (mvb_iff r s).mp q
    unfold zy
    rw [if_neg q', if_neg q', if_neg p, if_neg q', if_neg q', if_neg p]
    exact ⟨rfl, rfl⟩)
  rw [e x hx0 (by omega), e y (by omega) hy] at h
  unfold ph
  rcases (show x < y ∨ x = y by omega) with q | q
  · have := h.1 q; omega
  · have := h.2 q; omega
