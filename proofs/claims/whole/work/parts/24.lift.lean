/-! the lifts, by laws w -/
def lft (r w : Int → Int) : Nat → Int → Int
  | 0, _ => 0
  | n + 1, i => if bgI r (n : Int) ≤ i then og r (n : Int) + rise (w (n : Int)) (r (12 + (n : Int)) - og r (n : Int)) (i - bgI r (n : Int)) (r (n : Int)) else lft r w n i
def lfW (r w : Int → Int) (i : Int) : Int := lft r w (r 60).toNat i
def rlw (r : Int → Int) : Int → Int := fun s => r (24 + s)
def lfI (r : Int → Int) : Int → Int := lfW r (rlw r)
theorem WF.mono {N : Int} {r : Int → Int} (h : WF N r) {s t : Int} (h0 : 0 ≤ s) (h1 : s ≤ t) (h2 : t ≤ 12) : bgI r s ≤ bgI r t := by
  have key : ∀ k : Nat, s + (k : Int) ≤ 12 → bgI r s ≤ bgI r (s + (k : Int)) := by
    intro k
    induction k with
    | zero => intro _; rw [show s + ((0 : Nat) : Int) = s by omega]; exact Int.le_refl _
    | succ k ih =>
      intro hk
      have a := ih (by omega)
      have b := h.lo (i := s + (k : Int)) (by omega) (by omega)
      rw [show s + ((k + 1 : Nat) : Int) = s + (k : Int) + 1 by omega, bgI_succ r (by omega)]
      omega
  have a := key (t - s).toNat (by omega)
  rw [show s + (((t - s).toNat : Nat) : Int) = t by omega] at a
  exact a
theorem whl_bg {N : Int} {r : Int → Int} (hW : WF N r) (h : whl N r = true) {s : Int} (h0 : 0 ≤ s) (h1 : s < r 60) : bgI r s + r s ≤ N ∧ 0 ≤ bgI r s := by
  have hw := hW.num
  have a := (whl_iff.mp h).2.1
  have b := hW.mono (s := s + 1) (t := r 60) (by omega) (by omega) (by omega)
  rw [bgI_succ r h0] at b
  have c := hW.bgr (s := s) h0 (by omega)
  omega
def drk (f r : Int → Int) (law s k : Int) : Int → Int := fun i => if bgI r s ≤ i ∧ i < bgI r s + k then og r s + rise law (r (12 + s) - og r s) (i - bgI r s) (r s) else f i
theorem drk_0 (f r : Int → Int) (law s : Int) : drk f r law s 0 = f := by
  funext i
  unfold drk
  rw [if_neg (by omega)]
theorem drk_succ (f r : Int → Int) (law s : Int) {k : Int} (hk : 0 ≤ k) : upI (drk f r law s k) (bgI r s + k) (og r s + rise law (r (12 + s) - og r s) k (r s)) = drk f r law s (k + 1) := by
  funext i
  unfold upI drk
  by_cases e : i = bgI r s + k
  · rw [if_pos e, if_pos (by omega), e, show bgI r s + k - bgI r s = k by omega]
  · rw [if_neg e]
    by_cases z : bgI r s ≤ i ∧ i < bgI r s + k
    · rw [if_pos z, if_pos (by omega)]
    · rw [if_neg z, if_neg (by omega)]
def dra (f r w : Int → Int) : Nat → Int → Int
  | 0 => f
  | n + 1 => drk (dra f r w n) r (w (n : Int)) (n : Int) (r (n : Int))
def draI (f r w : Int → Int) (n : Int) : Int → Int := dra f r w n.toNat
theorem draI_succ (f r w : Int → Int) {n : Int} (h : 0 ≤ n) : draI f r w (n + 1) = drk (draI f r w n) r (w n) n (r n) := by
  unfold draI
  rw [show (n + 1).toNat = n.toNat + 1 by omega]
  show drk (dra f r w n.toNat) r (w ((n.toNat : Nat) : Int)) ((n.toNat : Nat) : Int) (r ((n.toNat : Nat) : Int)) = _
  rw [show ((n.toNat : Nat) : Int) = n by omega]
theorem dra_lft (f r w : Int → Int) : ∀ (n : Nat) (i : Int), 0 ≤ i → i < bgI r (n : Int) → dra f r w n i = lft r w n i
  | 0, i, h0, h1 => by rw [show ((0 : Nat) : Int) = 0 from rfl, bgI_0] at h1; omega
  | n + 1, i, h0, h1 => by
    rw [show ((n + 1 : Nat) : Int) = (n : Int) + 1 by omega, bgI_succ r (by omega)] at h1
    show drk (dra f r w n) r (w (n : Int)) (n : Int) (r (n : Int)) i = if bgI r (n : Int) ≤ i then _ else lft r w n i
    unfold drk
    by_cases z : bgI r (n : Int) ≤ i
    · rw [if_pos ⟨z, h1⟩, if_pos z]
    · rw [if_neg (fun q => z q.1), if_neg z]
      exact dra_lft f r w n i h0 (by omega)
theorem lft_rg {N : Int} {r w : Int → Int} (hW : WF N r) (hl : ∀ s : Int, 0 ≤ s → s < 12 → 0 ≤ w s ∧ w s ≤ 3) : ∀ (n : Nat) (i : Int), n ≤ 12 → 0 ≤ i → i < bgI r (n : Int) → 0 ≤ lft r w n i ∧ lft r w n i ≤ 999
  | 0, i, _, h0, h1 => by rw [show ((0 : Nat) : Int) = 0 from rfl, bgI_0] at h1; omega
  | n + 1, i, hn, h0, h1 => by
    rw [show ((n + 1 : Nat) : Int) = (n : Int) + 1 by omega, bgI_succ r (by omega)] at h1
    show 0 ≤ (if bgI r (n : Int) ≤ i then _ else lft r w n i) ∧ (if bgI r (n : Int) ≤ i then _ else lft r w n i) ≤ 999
    by_cases z : bgI r (n : Int) ≤ i
    · rw [if_pos z]
      have a := hW.ogr (s := (n : Int)) (by omega) (by omega)
      have b := hW.en (i := (n : Int)) (by omega) (by omega)
      exact rise_rg (hl _ (by omega) (by omega)) ⟨by omega, by omega⟩ (hW.lo (by omega) (by omega)).2 a.1 (by omega) a.2 (by omega)
    · rw [if_neg z]
      exact lft_rg hW hl n i (by omega) h0 (by omega)
theorem lfW_LR {N : Int} {r w : Int → Int} (hW : WF N r) (h : whl N r = true) (hl : ∀ s : Int, 0 ≤ s → s < 12 → 0 ≤ w s ∧ w s ≤ 3) : LR (lfW r w) N := by
  intro j h0 h1
  have hw := hW.num
  have a := (whl_iff.mp h).2.1
  refine lft_rg hW hl (r 60).toNat j (by omega) h0 ?_
  rw [show (((r 60).toNat : Nat) : Int) = r 60 by omega, a]
  exact h1
theorem lfI_LR {N : Int} {r : Int → Int} (hW : WF N r) (h : whl N r = true) : LR (lfI r) N := lfW_LR hW h (fun s h0 h1 => hW.la h0 h1)
theorem draI_lf {N : Int} {r w : Int → Int} (f : Int → Int) (hW : WF N r) (h : whl N r = true) {i : Int} (h0 : 0 ≤ i) (h1 : i < N) : draI f r w (r 60) i = lfW r w i := by
  have hw := hW.num
  have a := (whl_iff.mp h).2.1
  refine dra_lft f r w (r 60).toNat i h0 ?_
  rw [show (((r 60).toNat : Nat) : Int) = r 60 by omega, a]
  exact h1
/-- equal on 0 .. N - 1 -/
def EQN (f g : Int → Int) (N : Int) : Prop := ∀ j : Int, 0 ≤ j → j < N → f j = g j
theorem EQN.w {f g : Int → Int} {N : Int} (h : EQN f g N) (hN : 0 < N) : lw f N = lw g N := by
  funext j
  exact h _ (Int.emod_nonneg j (by omega)) (Int.emod_lt_of_pos j hN)
theorem EQN.LR {f g : Int → Int} {N : Int} (h : EQN f g N) (hL : LR g N) : LR f N := fun j h0 h1 => by rw [h j h0 h1]; exact hL j h0 h1
theorem EQN.v {f g : Int → Int} {N : Int} (h : EQN f g N) (hN : 0 < N) : d1 f N = d1 g N ∧ d2 f N = d2 g N ∧ d3 f N = d3 g N ∧ vV f N = vV g N ∧ vA f N = vA g N := by
  have e := h.w hN
  have e2 : d2 f N = d2 g N := by funext i; unfold d2; rw [e]
  have e3 : vA f N = vA g N := by funext i; unfold vA; rw [e2]
  refine ⟨?_, e2, ?_, ?_, e3⟩
  · funext i; unfold d1; rw [e]
  · funext i; unfold d3; rw [e, e2]
  · funext i; unfold vV; rw [e]
theorem EQN.m {f g : Int → Int} {N : Int} (h : EQN f g N) (hN : 0 < N) (r : Int → Int) : mval f N r = mval g N r ∧ (fun q => ucq q f N r) = (fun q => ucq q g N r) ∧ pr f N r = pr g N r ∧ fo f N r = fo g N r ∧ rs f N r = rs g N r ∧ fa f N r = fa g N r := by
  have e := h.w hN
  obtain ⟨e1, e2, e3, e4, e5⟩ := h.v hN
  have f1 : fa f N r = fa g N r := by funext i; unfold fa; rw [e]
  have f2 : (fun q => ucq q f N r) = (fun q => ucq q g N r) := by funext q i; unfold ucq; rw [e, e4, e5]
  have f3 : pr f N r = pr g N r := by funext i; unfold pr; rw [e4, f1]
  have f4 : rs f N r = rs g N r := by funext i; unfold rs; rw [e]
  have f5 : fo f N r = fo g N r := by funext i; unfold fo; rw [f4, e2]
  refine ⟨?_, f2, f3, f5, f4, f1⟩
  funext i j
  have f6 : ucq (r 64) f N r = ucq (r 64) g N r := congrFun f2 (r 64)
  unfold mval
  split <;> simp only [e1, e2, e3, e4, e5, f1, f3, f5, f6, e]
theorem EQN.bd {f g : Int → Int} {N : Int} (h : EQN f g N) (hN : 0 < N) (r : Int → Int) : bd f N r = bd g N r ∧ ok1 f N r = ok1 g N r := by
  obtain ⟨e1, e2, e3, e4, -⟩ := h.m hN r
  have e5 : ucq (r 64) f N r = ucq (r 64) g N r := congrFun e2 (r 64)
  have b : Jvm.Pilot.@@N@@.bd f N r = Jvm.Pilot.@@N@@.bd g N r := by funext w i; unfold Jvm.Pilot.@@N@@.bd; rw [e5, e3, e4]
  exact ⟨b, by funext i; unfold ok1; rw [b, e5]⟩
theorem EQN.mk {f g : Int → Int} {N : Int} (h : EQN f g N) {r : Int → Int} (hW : WF N r) {m : Int} (h0 : 0 ≤ m) (h1 : m < r 61) : mo f r m = mo g r m ∧ mk f r m = mk g r m := by
  have hw := hW.num
  have e : f (r (36 + m)) = g (r (36 + m)) := h _ (hW.ms h0 (by omega)).1 (hW.mN h0 h1)
  have e2 : mo f r m = mo g r m := by unfold mo; rw [e]
  exact ⟨e2, by unfold Jvm.Pilot.@@N@@.mk; rw [e2]⟩
theorem alI_congr {p q : Int → Bool} {n : Int} (h : ∀ i : Int, 0 ≤ i → i < n → p i = q i) : alI p n = alI q n := by
  rw [Bool.eq_iff_iff, alI_iff, alI_iff]
  constructor
  · intro a i h0 h1; rw [← h i h0 h1]; exact a i h0 h1
  · intro a i h0 h1; rw [h i h0 h1]; exact a i h0 h1
theorem EQN.gd {f g : Int → Int} {N : Int} (h : EQN f g N) {r : Int → Int} (hW : WF N r) : gd f N r = gd g N r := by
  have hw := hW.num
  unfold Jvm.Pilot.@@N@@.gd
  rw [(h.bd (by omega) r).2, alI_congr (fun m h0 h1 => (h.mk hW h0 h1).2)]
theorem btI_congr {p q : Int → Bool} {n : Int} (h : ∀ i : Int, 0 ≤ i → i < n → p i = q i) : btI p n = btI q n := by
  have key : ∀ k : Nat, (k : Int) ≤ n → bt2 p k = bt2 q k := by
    intro k
    induction k with
    | zero => intro _; rfl
    | succ k ih =>
      intro hk
      show bt2 p k + (if p (k : Int) = true then 2 ^ k else 0) = bt2 q k + (if q (k : Int) = true then 2 ^ k else 0)
      rw [ih (by omega), h _ (by omega) (by omega)]
  rcases Int.le_total 0 n with z | z
  · exact key n.toNat (by omega)
  · unfold btI
    rw [show n.toNat = 0 by omega]
    rfl
/-- a profile that holds what the plan asks -/
def PD (σ : St) (b : Nat) (N : Int) (r : Int → Int) : Prop := DR σ b N r (σ (b + 2 + 0)) ∧ EQN (σ (b + 2 + 0)) (lfI r) N
theorem msr_at {τ : St} {b : Nat} {N : Int} {r f : Int → Int} {i : Int} (hf : f = τ (b + 2 + 0)) (hi : 0 ≤ i ∧ i < N) : DA (msr τ b N r f i) b N r f i := by
  intro j hj
  unfold msr
  rcases (show j = 0 ∨ 1 ≤ j by omega) with z | z
  · subst z
    rw [if_neg (by omega), ← hf]
    show f i = lw f N i
    unfold lw
    rw [em_in hi]
  · rw [if_pos (by omega), upI_eq, Nat.add_sub_cancel_left]
theorem msr_old {τ : St} {b : Nat} {N : Int} {r f : Int → Int} {i j : Int} (h : DA τ b N r f j) (hij : j ≠ i) : DA (msr τ b N r f i) b N r f j := by
  intro k hk
  unfold msr
  split
  · rw [upI_ne hij]; exact h k hk
  · exact h k hk
theorem up_self (σ : St) (k : Nat) : up σ k (σ k) = σ := by
  funext j
  unfold up
  split
  · rename_i h; rw [h]
  · rfl
theorem up_up (σ : St) (k : Nat) (g h : Int → Int) : up (up σ k g) k h = up σ k h := by
  funext j
  unfold up
  split <;> rfl
theorem up_comm (σ : St) {k j : Nat} (g h : Int → Int) (hkj : k ≠ j) : up (up σ k g) j h = up (up σ j h) k g := by
  funext i
  unfold up
  by_cases a : i = j
  · rw [if_pos a, if_neg (by omega), if_pos a]
  · simp only [if_neg a]
