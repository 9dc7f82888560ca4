/-! how the plan and the history follow what is told -/
theorem PLf.congr {f g : Int → Int} {N : Int} {r : Int → Int} (h : PLf f N r) (e : ∀ p : Int, 0 ≤ p → p < 72 → g p = f p) : PLf g N r := by
  refine ⟨⟨?_, ?_, ?_⟩, fun k h0 h1 => ?_, fun i h0 h1 => ⟨?_, ?_, ?_⟩, fun i h0 h1 => ⟨?_, ?_, ?_⟩⟩
  · rw [e _ (by omega) (by omega)]; exact h.1.1
  · rw [e _ (by omega) (by omega)]; exact h.1.2.1
  · rw [e _ (by omega) (by omega)]; exact h.1.2.2
  · rw [e _ (by omega) (by omega)]; exact h.2.1 k h0 h1
  · rw [e _ (by omega) (by omega)]; exact (h.2.2.1 i h0 h1).1
  · rw [e _ (by omega) (by omega)]; exact (h.2.2.1 i h0 h1).2.1
  · rw [e _ (by omega) (by omega)]; exact (h.2.2.1 i h0 h1).2.2
  · rw [e _ (by omega) (by omega)]; exact (h.2.2.2 i h0 h1).1
  · rw [e _ (by omega) (by omega)]; exact (h.2.2.2 i h0 h1).2.1
  · rw [e _ (by omega) (by omega)]; exact (h.2.2.2 i h0 h1).2.2
theorem plf_set {f : Int → Int} {N : Int} {r : Int → Int} (h : PLf f N r) {k v : Int} (hk : 2 ≤ k ∧ k ≤ 10) : PLf (upI f k v) N (upI r (60 + k) v) := by
  obtain ⟨⟨a1, a2, a3⟩, b, c, d⟩ := h
  refine ⟨⟨?_, ?_, ?_⟩, fun i h0 h1 => ?_, fun i h0 h1 => ?_, fun i h0 h1 => ?_⟩
  · rw [upI_ne (by omega)]; exact a1
  · rw [upI_ne (by omega), upI_ne (by omega)]; exact a2
  · rw [upI_ne (by omega), upI_ne (by omega)]; exact a3
  · unfold upI
    by_cases z : i = k
    · rw [if_pos z, if_pos (by omega)]
    · rw [if_neg z, if_neg (by omega)]; exact b i h0 h1
  · rw [upI_ne (by omega), upI_ne (by omega), upI_ne (by omega), upI_ne (by omega), upI_ne (by omega), upI_ne (by omega)]; exact c i h0 h1
  · rw [upI_ne (by omega), upI_ne (by omega), upI_ne (by omega), upI_ne (by omega), upI_ne (by omega), upI_ne (by omega)]; exact d i h0 h1
theorem plf_cnt {f : Int → Int} {N : Int} {r : Int → Int} (h : PLf f N r) (v : Int) : PLf (upI f 1 v) N (upI r 60 v) := by
  obtain ⟨⟨a1, a2, a3⟩, b, c, d⟩ := h
  refine ⟨⟨?_, ?_, ?_⟩, fun i h0 h1 => ?_, fun i h0 h1 => ?_, fun i h0 h1 => ?_⟩
  · rw [upI_ne (by omega)]; exact a1
  · rw [upI_eq, upI_eq]
  · rw [upI_ne (by omega), upI_ne (by omega)]; exact a3
  · rw [upI_ne (by omega), upI_ne (by omega)]; exact b i h0 h1
  · rw [upI_ne (by omega), upI_ne (by omega), upI_ne (by omega), upI_ne (by omega), upI_ne (by omega), upI_ne (by omega)]; exact c i h0 h1
  · rw [upI_ne (by omega), upI_ne (by omega), upI_ne (by omega), upI_ne (by omega), upI_ne (by omega), upI_ne (by omega)]; exact d i h0 h1
theorem plf_cntm {f : Int → Int} {N : Int} {r : Int → Int} (h : PLf f N r) (v : Int) : PLf (upI f 11 v) N (upI r 61 v) := by
  obtain ⟨⟨a1, a2, a3⟩, b, c, d⟩ := h
  refine ⟨⟨?_, ?_, ?_⟩, fun i h0 h1 => ?_, fun i h0 h1 => ?_, fun i h0 h1 => ?_⟩
  · rw [upI_ne (by omega)]; exact a1
  · rw [upI_ne (by omega), upI_ne (by omega)]; exact a2
  · rw [upI_eq, upI_eq]
  · rw [upI_ne (by omega), upI_ne (by omega)]; exact b i h0 h1
  · rw [upI_ne (by omega), upI_ne (by omega), upI_ne (by omega), upI_ne (by omega), upI_ne (by omega), upI_ne (by omega)]; exact c i h0 h1
  · rw [upI_ne (by omega), upI_ne (by omega), upI_ne (by omega), upI_ne (by omega), upI_ne (by omega), upI_ne (by omega)]; exact d i h0 h1
theorem plf_N {f : Int → Int} {N : Int} {r : Int → Int} (h : PLf f N r) (n : Int) : PLf (upI f 0 n) n r := by
  obtain ⟨⟨a1, a2, a3⟩, b, c, d⟩ := h
  refine ⟨⟨?_, ?_, ?_⟩, fun i h0 h1 => ?_, fun i h0 h1 => ?_, fun i h0 h1 => ?_⟩
  · rw [upI_eq]
  · rw [upI_ne (by omega)]; exact a2
  · rw [upI_ne (by omega)]; exact a3
  · rw [upI_ne (by omega)]; exact b i h0 h1
  · rw [upI_ne (by omega), upI_ne (by omega), upI_ne (by omega)]; exact c i h0 h1
  · rw [upI_ne (by omega), upI_ne (by omega), upI_ne (by omega)]; exact d i h0 h1
/-- one part of a SEGMENT -/
theorem plf_part {f : Int → Int} {N : Int} {r : Int → Int} (h : PLf f N r) {s t v : Int} (hs : 0 ≤ s ∧ s < 12) (ht : 0 ≤ t ∧ t ≤ 2) : PLf (upI f (12 + 3 * s + t) v) N (upI r (12 * t + s) v) := by
  obtain ⟨⟨a1, a2, a3⟩, b, c, d⟩ := h
  refine ⟨⟨?_, ?_, ?_⟩, fun i h0 h1 => ?_, fun i h0 h1 => ?_, fun i h0 h1 => ?_⟩
  · rw [upI_ne (by omega)]; exact a1
  · rw [upI_ne (by omega), upI_ne (by omega)]; exact a2
  · rw [upI_ne (by omega), upI_ne (by omega)]; exact a3
  · rw [upI_ne (by omega), upI_ne (by omega)]; exact b i h0 h1
  · have e := c i h0 h1
    unfold upI
    refine ⟨?_, ?_, ?_⟩
    · by_cases z : i = s ∧ t = 0
      · rw [if_pos (by omega), if_pos (by omega)]
      · rw [if_neg (by omega), if_neg (by omega)]; exact e.1
    · by_cases z : i = s ∧ t = 1
      · rw [if_pos (by omega), if_pos (by omega)]
      · rw [if_neg (by omega), if_neg (by omega)]; exact e.2.1
    · by_cases z : i = s ∧ t = 2
      · rw [if_pos (by omega), if_pos (by omega)]
      · rw [if_neg (by omega), if_neg (by omega)]; exact e.2.2
  · rw [upI_ne (by omega), upI_ne (by omega), upI_ne (by omega), upI_ne (by omega), upI_ne (by omega), upI_ne (by omega)]; exact d i h0 h1
/-- one part of a MARK -/
theorem plf_mpart {f : Int → Int} {N : Int} {r : Int → Int} (h : PLf f N r) {s t v : Int} (hs : 0 ≤ s ∧ s < 8) (ht : 0 ≤ t ∧ t ≤ 2) : PLf (upI f (48 + 3 * s + t) v) N (upI r (36 + 8 * t + s) v) := by
  obtain ⟨⟨a1, a2, a3⟩, b, c, d⟩ := h
  refine ⟨⟨?_, ?_, ?_⟩, fun i h0 h1 => ?_, fun i h0 h1 => ?_, fun i h0 h1 => ?_⟩
  · rw [upI_ne (by omega)]; exact a1
  · rw [upI_ne (by omega), upI_ne (by omega)]; exact a2
  · rw [upI_ne (by omega), upI_ne (by omega)]; exact a3
  · rw [upI_ne (by omega), upI_ne (by omega)]; exact b i h0 h1
  · rw [upI_ne (by omega), upI_ne (by omega), upI_ne (by omega), upI_ne (by omega), upI_ne (by omega), upI_ne (by omega)]; exact c i h0 h1
  · have e := d i h0 h1
    unfold upI
    refine ⟨?_, ?_, ?_⟩
    · by_cases z : i = s ∧ t = 0
      · rw [if_pos (by omega), if_pos (by omega)]
      · rw [if_neg (by omega), if_neg (by omega)]; exact e.1
    · by_cases z : i = s ∧ t = 1
      · rw [if_pos (by omega), if_pos (by omega)]
      · rw [if_neg (by omega), if_neg (by omega)]; exact e.2.1
    · by_cases z : i = s ∧ t = 2
      · rw [if_pos (by omega), if_pos (by omega)]
      · rw [if_neg (by omega), if_neg (by omega)]; exact e.2.2
def rmp (f : Int → Int) (m k : Int) : Int → Int := fun p => if 48 + 3 * m ≤ p ∧ p < k then f (p + 3) else f p
theorem rmp_0 (f : Int → Int) (m : Int) : rmp f m (48 + 3 * m + 0) = f := by
  funext p
  unfold rmp
  rw [if_neg (by omega)]
theorem rmp_succ (f : Int → Int) {m k : Int} (hk : 48 + 3 * m ≤ k) : upI (rmp f m k) k (f (k + 3)) = rmp f m (k + 1) := by
  funext p
  unfold upI rmp
  by_cases z : p = k
  · rw [if_pos z, if_pos (by omega), z]
  · rw [if_neg z]
    by_cases y : 48 + 3 * m ≤ p ∧ p < k
    · rw [if_pos y, if_pos (by omega)]
    · rw [if_neg y, if_neg (by omega)]
/-- the told numbers when a MARK goes -/
def unm (r : Int → Int) (m : Int) : Int → Int := fun i => if i = 61 then r 61 - 1 else if (36 + m ≤ i ∧ i < 36 + (r 61 - 1)) ∨ (44 + m ≤ i ∧ i < 44 + (r 61 - 1)) ∨ (52 + m ≤ i ∧ i < 52 + (r 61 - 1)) then r (i + 1) else r i
theorem plf_unm {f : Int → Int} {N : Int} {r : Int → Int} (h : PLf f N r) {m : Int} (hm : 0 ≤ m ∧ m < r 61) (h8 : r 61 ≤ 8) : PLf (upI (rmp f m (48 + 3 * (r 61 - 1) + 0)) 11 (r 61 - 1)) N (unm r m) := by
  obtain ⟨⟨a1, a2, a3⟩, b, c, d⟩ := h
  have low : ∀ p : Int, p < 48 → p ≠ 11 → upI (rmp f m (48 + 3 * (r 61 - 1) + 0)) 11 (r 61 - 1) p = f p := fun p h0 h1 => by
    rw [upI_ne h1]; unfold rmp; rw [if_neg (by omega)]
  have lor : ∀ p : Int, (p < 36 ∨ 61 < p ∨ p = 60) → unm r m p = r p := fun p h0 => by
    unfold unm; rw [if_neg (by omega), if_neg (by omega)]
  refine ⟨⟨?_, ?_, ?_⟩, fun i h0 h1 => ?_, fun i h0 h1 => ?_, fun i h0 h1 => ?_⟩
  · rw [low _ (by omega) (by omega)]; exact a1
  · rw [low _ (by omega) (by omega), lor _ (by omega)]; exact a2
  · rw [upI_eq]; unfold unm; rw [if_pos rfl]
  · rw [low _ (by omega) (by omega), lor _ (by omega)]; exact b i h0 h1
  · rw [low _ (by omega) (by omega), low _ (by omega) (by omega), low _ (by omega) (by omega), lor _ (by omega), lor _ (by omega), lor _ (by omega)]; exact c i h0 h1
  · rw [upI_ne (by omega), upI_ne (by omega), upI_ne (by omega)]
    unfold rmp unm
    have e := d i h0 h1
    by_cases z : m ≤ i ∧ i < r 61 - 1
    · have e2 := d (i + 1) (by omega) (by omega)
      refine ⟨?_, ?_, ?_⟩ <;> rw [if_pos (by omega), if_neg (by omega), if_pos (by omega)]
      · rw [show 48 + 3 * i + 0 + 3 = 48 + 3 * (i + 1) + 0 by omega, show 36 + i + 1 = 36 + (i + 1) by omega]; exact e2.1
      · rw [show 48 + 3 * i + 1 + 3 = 48 + 3 * (i + 1) + 1 by omega, show 44 + i + 1 = 44 + (i + 1) by omega]; exact e2.2.1
      · rw [show 48 + 3 * i + 2 + 3 = 48 + 3 * (i + 1) + 2 by omega, show 52 + i + 1 = 52 + (i + 1) by omega]; exact e2.2.2
    · refine ⟨?_, ?_, ?_⟩ <;> rw [if_neg (by omega), if_neg (by omega), if_neg (by omega)]
      · exact e.1
      · exact e.2.1
      · exact e.2.2
/-- WF, as the told numbers change -/
theorem WF.setn {N : Int} {r : Int → Int} (h : WF N r) {k v : Int} (hk : k = 62 ∧ 0 ≤ v ∧ v ≤ 999 ∨ k = 63 ∧ 10 ≤ v ∧ v ≤ 9999 ∨ k = 64 ∧ 1 ≤ v ∧ v ≤ 9999 ∨ k = 65 ∧ 0 ≤ v ∧ v ≤ 99999 ∨ k = 66 ∧ 0 ≤ v ∧ v ≤ 999 ∨ k = 67 ∧ 1 ≤ v ∧ v ≤ 999 ∨ k = 68 ∧ 0 ≤ v ∧ v ≤ 9999 ∨ k = 69 ∧ 0 ≤ v ∧ v ≤ 9999 ∨ k = 70 ∧ 0 ≤ v ∧ v ≤ 99) : WF N (upI r k v) := by
  have hw := h.num
  have hk2 : 62 ≤ k ∧ k ≤ 70 := by omega
  refine ⟨?_, fun i h0 h1 => ?_, fun i h0 h1 => ?_, fun i h0 h1 => ?_, fun i h0 h1 => ?_, fun i h0 h1 => ?_, fun i h0 h1 => ?_, fun i h0 h1 => ?_, fun i h0 h1 => ?_⟩
  · unfold upI
    refine ⟨by omega, by omega, ?_⟩
    repeat' constructor
    all_goals (split <;> omega)
  · rw [upI_ne (by omega)]; exact h.lo h0 h1
  · rw [upI_ne (by omega)] at h1; rw [upI_ne (by omega)]; exact h.lo1 h0 h1
  · rw [upI_ne (by omega)]; exact h.en h0 h1
  · rw [upI_ne (by omega)]; exact h.la h0 h1
  · rw [upI_ne (by omega)]; exact h.ms h0 h1
  · rw [upI_ne (by omega)] at h1; rw [upI_ne (by omega)]; exact h.mN h0 h1
  · rw [upI_ne (by omega)]; exact h.ml h0 h1
  · rw [upI_ne (by omega)]; exact h.mn h0 h1
theorem WF.cnt {N : Int} {r : Int → Int} (h : WF N r) {v : Int} (hv : 0 ≤ v ∧ v ≤ r 60) : WF N (upI r 60 v) := by
  have hw := h.num
  refine ⟨?_, fun i h0 h1 => ?_, fun i h0 h1 => ?_, fun i h0 h1 => ?_, fun i h0 h1 => ?_, fun i h0 h1 => ?_, fun i h0 h1 => ?_, fun i h0 h1 => ?_, fun i h0 h1 => ?_⟩
  · unfold upI
    refine ⟨by omega, by omega, ?_⟩
    repeat' constructor
    all_goals (split <;> omega)
  · rw [upI_ne (by omega)]; exact h.lo h0 h1
  · rw [upI_eq] at h1; rw [upI_ne (by omega)]; exact h.lo1 h0 (by omega)
  · rw [upI_ne (by omega)]; exact h.en h0 h1
  · rw [upI_ne (by omega)]; exact h.la h0 h1
  · rw [upI_ne (by omega)]; exact h.ms h0 h1
  · rw [upI_ne (by omega)] at h1; rw [upI_ne (by omega)]; exact h.mN h0 h1
  · rw [upI_ne (by omega)]; exact h.ml h0 h1
  · rw [upI_ne (by omega)]; exact h.mn h0 h1
theorem WF.newN {N : Int} {r : Int → Int} (h : WF N r) {n : Int} (hn : 24 ≤ n ∧ n ≤ 120) : WF n (upI (upI r 60 0) 61 0) := by
  have hw := h.num
  refine ⟨?_, fun i h0 h1 => ?_, fun i h0 h1 => ?_, fun i h0 h1 => ?_, fun i h0 h1 => ?_, fun i h0 h1 => ?_, fun i h0 h1 => ?_, fun i h0 h1 => ?_, fun i h0 h1 => ?_⟩
  · unfold upI
    refine ⟨by omega, by omega, ?_⟩
    repeat' constructor
    all_goals (split <;> first | omega | (split <;> omega))
  · rw [upI_ne (by omega), upI_ne (by omega)]; exact h.lo h0 h1
  · rw [upI_ne (by omega), upI_eq] at h1; omega
  · rw [upI_ne (by omega), upI_ne (by omega)]; exact h.en h0 h1
  · rw [upI_ne (by omega), upI_ne (by omega)]; exact h.la h0 h1
  · rw [upI_ne (by omega), upI_ne (by omega)]; exact h.ms h0 h1
  · rw [upI_eq] at h1; omega
  · rw [upI_ne (by omega), upI_ne (by omega)]; exact h.ml h0 h1
  · rw [upI_ne (by omega), upI_ne (by omega)]; exact h.mn h0 h1
def rseg (r : Int → Int) (a b c : Int) : Int → Int := upI (upI (upI (upI r (r 60) a) (12 + r 60) b) (24 + r 60) c) 60 (r 60 + 1)
theorem WF.seg {N : Int} {r : Int → Int} (h : WF N r) {a b c : Int} (hn : r 60 < 12) (ha : 1 ≤ a ∧ a ≤ 60) (hb : 0 ≤ b ∧ b ≤ 999) (hc : 0 ≤ c ∧ c ≤ 3) : WF N (rseg r a b c) := by
  have hw := h.num
  unfold rseg
  refine ⟨?_, fun i h0 h1 => ?_, fun i h0 h1 => ?_, fun i h0 h1 => ?_, fun i h0 h1 => ?_, fun i h0 h1 => ?_, fun i h0 h1 => ?_, fun i h0 h1 => ?_, fun i h0 h1 => ?_⟩
  · have e : ∀ k : Int, 61 ≤ k → upI (upI (upI (upI r (r 60) a) (12 + r 60) b) (24 + r 60) c) 60 (r 60 + 1) k = r k := fun k hk => by rw [upI_ne (by omega), upI_ne (by omega), upI_ne (by omega), upI_ne (by omega)]
    have e60 : upI (upI (upI (upI r (r 60) a) (12 + r 60) b) (24 + r 60) c) 60 (r 60 + 1) 60 = r 60 + 1 := upI_eq
    rw [e 61 (by omega), e 62 (by omega), e 63 (by omega), e 64 (by omega), e 65 (by omega), e 66 (by omega), e 67 (by omega), e 68 (by omega), e 69 (by omega), e 70 (by omega), e60]
    omega
  · rw [upI_ne (by omega), upI_ne (by omega), upI_ne (by omega)]
    unfold upI
    split
    · omega
    · exact h.lo h0 h1
  · rw [upI_eq] at h1
    rw [upI_ne (by omega), upI_ne (by omega), upI_ne (by omega)]
    unfold upI
    split
    · omega
    · exact h.lo1 h0 (by omega)
  · rw [upI_ne (by omega), upI_ne (by omega)]
    unfold upI
    split
    · omega
    · rw [if_neg (by omega)]; exact h.en h0 h1
  · rw [upI_ne (by omega)]
    unfold upI
    split
    · omega
    · rw [if_neg (by omega), if_neg (by omega)]; exact h.la h0 h1
  · rw [upI_ne (by omega), upI_ne (by omega), upI_ne (by omega), upI_ne (by omega)]; exact h.ms h0 h1
  · rw [upI_ne (by omega), upI_ne (by omega), upI_ne (by omega), upI_ne (by omega)] at h1
    rw [upI_ne (by omega), upI_ne (by omega), upI_ne (by omega), upI_ne (by omega)]; exact h.mN h0 h1
  · rw [upI_ne (by omega), upI_ne (by omega), upI_ne (by omega), upI_ne (by omega)]; exact h.ml h0 h1
  · rw [upI_ne (by omega), upI_ne (by omega), upI_ne (by omega), upI_ne (by omega)]; exact h.mn h0 h1
theorem WF.part {N : Int} {r : Int → Int} (h : WF N r) {s t v : Int} (hs : 0 ≤ s ∧ s < r 60) (ht : t = 0 ∧ 1 ≤ v ∧ v ≤ 60 ∨ t = 1 ∧ 0 ≤ v ∧ v ≤ 999 ∨ t = 2 ∧ 0 ≤ v ∧ v ≤ 3) : WF N (upI r (12 * t + s) v) := by
  have hw := h.num
  have e : ∀ k : Int, 36 ≤ k → upI r (12 * t + s) v k = r k := fun k hk => upI_ne (by omega)
  refine ⟨?_, fun i h0 h1 => ?_, fun i h0 h1 => ?_, fun i h0 h1 => ?_, fun i h0 h1 => ?_, fun i h0 h1 => ?_, fun i h0 h1 => ?_, fun i h0 h1 => ?_, fun i h0 h1 => ?_⟩
  · rw [e 60 (by omega), e 61 (by omega), e 62 (by omega), e 63 (by omega), e 64 (by omega), e 65 (by omega), e 66 (by omega), e 67 (by omega), e 68 (by omega), e 69 (by omega), e 70 (by omega)]
    exact hw
  · unfold upI
    split
    · omega
    · exact h.lo h0 h1
  · rw [e 60 (by omega)] at h1
    unfold upI
    split
    · omega
    · exact h.lo1 h0 h1
  · unfold upI
    split
    · omega
    · exact h.en h0 h1
  · unfold upI
    split
    · omega
    · exact h.la h0 h1
  · rw [e _ (by omega)]; exact h.ms h0 h1
  · rw [e 61 (by omega)] at h1; rw [e _ (by omega)]; exact h.mN h0 h1
  · rw [e _ (by omega)]; exact h.ml h0 h1
  · rw [e _ (by omega)]; exact h.mn h0 h1
def rmark (r : Int → Int) (a b c : Int) : Int → Int := upI (upI (upI (upI r (36 + r 61) a) (44 + r 61) b) (52 + r 61) c) 61 (r 61 + 1)
theorem WF.mark {N : Int} {r : Int → Int} (h : WF N r) {a b c : Int} (hn : r 61 < 8) (ha : 0 ≤ a ∧ a < N) (hb : 0 ≤ b ∧ b ≤ 999) (hc : 0 ≤ c ∧ c ≤ 99) : WF N (rmark r a b c) := by
  have hw := h.num
  unfold rmark
  have e : ∀ k : Int, (k < 36 ∨ 62 ≤ k ∨ k = 60) → upI (upI (upI (upI r (36 + r 61) a) (44 + r 61) b) (52 + r 61) c) 61 (r 61 + 1) k = r k := fun k hk => by rw [upI_ne (by omega), upI_ne (by omega), upI_ne (by omega), upI_ne (by omega)]
  have e61 : upI (upI (upI (upI r (36 + r 61) a) (44 + r 61) b) (52 + r 61) c) 61 (r 61 + 1) 61 = r 61 + 1 := upI_eq
  refine ⟨?_, fun i h0 h1 => ?_, fun i h0 h1 => ?_, fun i h0 h1 => ?_, fun i h0 h1 => ?_, fun i h0 h1 => ?_, fun i h0 h1 => ?_, fun i h0 h1 => ?_, fun i h0 h1 => ?_⟩
  · rw [e61, e 60 (by omega), e 62 (by omega), e 63 (by omega), e 64 (by omega), e 65 (by omega), e 66 (by omega), e 67 (by omega), e 68 (by omega), e 69 (by omega), e 70 (by omega)]
    omega
  · rw [e _ (by omega)]; exact h.lo h0 h1
  · rw [e 60 (by omega)] at h1; rw [e _ (by omega)]; exact h.lo1 h0 h1
  · rw [e _ (by omega)]; exact h.en h0 h1
  · rw [e _ (by omega)]; exact h.la h0 h1
  · rw [upI_ne (by omega), upI_ne (by omega), upI_ne (by omega)]
    unfold upI
    split
    · omega
    · exact h.ms h0 h1
  · rw [e61] at h1
    rw [upI_ne (by omega), upI_ne (by omega), upI_ne (by omega)]
    unfold upI
    split
    · omega
    · exact h.mN h0 (by omega)
  · rw [upI_ne (by omega), upI_ne (by omega)]
    unfold upI
    split
    · omega
    · rw [if_neg (by omega)]; exact h.ml h0 h1
  · rw [upI_ne (by omega)]
    unfold upI
    split
    · omega
    · rw [if_neg (by omega), if_neg (by omega)]; exact h.mn h0 h1
theorem WF.unm {N : Int} {r : Int → Int} (h : WF N r) {m : Int} (hm : 0 ≤ m ∧ m < r 61) : WF N (unm r m) := by
  have hw := h.num
  have e : ∀ k : Int, (k < 36 ∨ 62 ≤ k ∨ k = 60) → Jvm.Pilot.@@N@@.unm r m k = r k := fun k hk => by unfold Jvm.Pilot.@@N@@.unm; rw [if_neg (by omega), if_neg (by omega)]
  have e61 : Jvm.Pilot.@@N@@.unm r m 61 = r 61 - 1 := if_pos rfl
  have e36 : ∀ i : Int, 0 ≤ i → i < 8 → (Jvm.Pilot.@@N@@.unm r m (36 + i) = if m ≤ i ∧ i < r 61 - 1 then r (36 + (i + 1)) else r (36 + i)) ∧ (Jvm.Pilot.@@N@@.unm r m (44 + i) = if m ≤ i ∧ i < r 61 - 1 then r (44 + (i + 1)) else r (44 + i)) ∧ (Jvm.Pilot.@@N@@.unm r m (52 + i) = if m ≤ i ∧ i < r 61 - 1 then r (52 + (i + 1)) else r (52 + i)) := by
    intro i h0 h1
    unfold Jvm.Pilot.@@N@@.unm
    by_cases z : m ≤ i ∧ i < r 61 - 1
    · refine ⟨?_, ?_, ?_⟩ <;> rw [if_neg (by omega), if_pos (by omega), if_pos z]
      · rw [show 36 + i + 1 = 36 + (i + 1) by omega]
      · rw [show 44 + i + 1 = 44 + (i + 1) by omega]
      · rw [show 52 + i + 1 = 52 + (i + 1) by omega]
    · refine ⟨?_, ?_, ?_⟩ <;> rw [if_neg (by omega), if_neg (by omega), if_neg z]
  refine ⟨?_, fun i h0 h1 => ?_, fun i h0 h1 => ?_, fun i h0 h1 => ?_, fun i h0 h1 => ?_, fun i h0 h1 => ?_, fun i h0 h1 => ?_, fun i h0 h1 => ?_, fun i h0 h1 => ?_⟩
  · rw [e61, e 60 (by omega), e 62 (by omega), e 63 (by omega), e 64 (by omega), e 65 (by omega), e 66 (by omega), e 67 (by omega), e 68 (by omega), e 69 (by omega), e 70 (by omega)]
    omega
  · rw [e _ (by omega)]; exact h.lo h0 h1
  · rw [e 60 (by omega)] at h1; rw [e _ (by omega)]; exact h.lo1 h0 h1
  · rw [e _ (by omega)]; exact h.en h0 h1
  · rw [e _ (by omega)]; exact h.la h0 h1
  · rw [(e36 i h0 h1).1]
    split
    · exact h.ms (by omega) (by omega)
    · exact h.ms h0 h1
  · rw [e61] at h1
    rw [(e36 i h0 (by omega)).1]
    split
    · exact h.mN (by omega) (by omega)
    · exact h.mN h0 (by omega)
  · rw [(e36 i h0 h1).2.1]
    split
    · exact h.ml (by omega) (by omega)
    · exact h.ml h0 h1
  · rw [(e36 i h0 h1).2.2]
    split
    · exact h.mn (by omega) (by omega)
    · exact h.mn h0 h1
/-- the last plans, hs 0 the last of n -/
def HC (σ : St) (N n : Int) (hs : Int → Int → Int) : Prop := σ 3 1 = n ∧ 0 ≤ n ∧ n ≤ 20 ∧ 0 ≤ σ 3 2 ∧ σ 3 2 < 20 ∧ ∀ j : Int, 0 ≤ j → j < n → WF N (hs j) ∧ PLf (fun p => σ 4 (72 * ((σ 3 2 - 1 - j) % 20) + p)) N (hs j)
def hpush (r : Int → Int) (hs : Int → Int → Int) : Int → Int → Int := fun j => if j = 0 then r else hs (j - 1)
theorem HC.keep {σ τ : St} {N n : Int} {r : Int → Int} {hs : Int → Int → Int} (h : HC σ N n hs) (hP : PL σ N r) (hW : WF N r) (h4 : τ 4 = cpyI (σ 2) (σ 4) 0 (σ 3 2 * 72) 72) (hx : τ 3 2 = if σ 3 2 + 1 < 20 then σ 3 2 + 1 else 0) (hn : τ 3 1 = min (n + 1) 20) : HC τ N (min (n + 1) 20) (hpush r hs) := by
  obtain ⟨a1, a2, a3, a4, a5, a6⟩ := h
  have hx2 : 0 ≤ τ 3 2 ∧ τ 3 2 < 20 ∧ (τ 3 2 = σ 3 2 + 1 ∨ (τ 3 2 = 0 ∧ σ 3 2 = 19)) := by rw [hx]; split <;> omega
  refine ⟨hn, by omega, by omega, by omega, by omega, fun j h0 h1 => ?_⟩
  unfold hpush
  by_cases z : j = 0
  · rw [if_pos z]
    refine ⟨hW, PLf.congr hP (fun p p0 p1 => ?_)⟩
    have e : (τ 3 2 - 1 - j) % 20 = σ 3 2 := by omega
    show τ 4 (72 * ((τ 3 2 - 1 - j) % 20) + p) = σ 2 p
    rw [e, h4]
    unfold cpyI
    rw [if_pos (by omega), show 0 + (72 * σ 3 2 + p - σ 3 2 * 72) = p by omega]
  · rw [if_neg z]
    have b := a6 (j - 1) (by omega) (by omega)
    refine ⟨b.1, PLf.congr b.2 (fun p p0 p1 => ?_)⟩
    have e : (τ 3 2 - 1 - j) % 20 = (σ 3 2 - 1 - (j - 1)) % 20 := by omega
    have e2 : (σ 3 2 - 1 - (j - 1)) % 20 ≠ σ 3 2 := by omega
    show τ 4 (72 * ((τ 3 2 - 1 - j) % 20) + p) = σ 4 (72 * ((σ 3 2 - 1 - (j - 1)) % 20) + p)
    rw [e, h4]
    unfold cpyI
    rw [if_neg (by omega)]
def hpop (hs : Int → Int → Int) : Int → Int → Int := fun j => hs (j + 1)
theorem HC.restore {σ τ : St} {N n : Int} {hs : Int → Int → Int} (h : HC σ N n hs) (hn0 : 0 < n) (h4 : τ 4 = σ 4) (hx : τ 3 2 = if 0 < σ 3 2 then σ 3 2 - 1 else 19) (hn : τ 3 1 = n - 1) (h2 : τ 2 = cpyI (σ 4) (σ 2) (τ 3 2 * 72) 0 72) : HC τ N (n - 1) (hpop hs) ∧ PL τ N (hs 0) ∧ WF N (hs 0) := by
  obtain ⟨a1, a2, a3, a4, a5, a6⟩ := h
  have hx2 : 0 ≤ τ 3 2 ∧ τ 3 2 < 20 ∧ (τ 3 2 = σ 3 2 - 1 ∨ (τ 3 2 = 19 ∧ σ 3 2 = 0)) := by rw [hx]; split <;> omega
  refine ⟨⟨hn, by omega, by omega, by omega, by omega, fun j h0 h1 => ?_⟩, ?_, (a6 0 (by omega) hn0).1⟩
  · have b := a6 (j + 1) (by omega) (by omega)
    refine ⟨b.1, PLf.congr b.2 (fun p p0 p1 => ?_)⟩
    show τ 4 (72 * ((τ 3 2 - 1 - j) % 20) + p) = σ 4 (72 * ((σ 3 2 - 1 - (j + 1)) % 20) + p)
    rw [h4, show (τ 3 2 - 1 - j) % 20 = (σ 3 2 - 1 - (j + 1)) % 20 by omega]
  · refine PLf.congr (a6 0 (by omega) hn0).2 (fun p p0 p1 => ?_)
    show τ 2 p = σ 4 (72 * ((σ 3 2 - 1 - 0) % 20) + p)
    rw [h2]
    unfold cpyI
    rw [if_pos (by omega), show τ 3 2 * 72 + (p - 0) = 72 * ((σ 3 2 - 1 - 0) % 20) + p by omega]
