/-! the greatest number up to which all are so -/
def pf (p : Int → Bool) : Nat → Int
  | 0 => 0
  | n + 1 => if pf p n = (n : Int) ∧ p ((n : Int) + 1) = true then (n : Int) + 1 else pf p n
def pfI (p : Int → Bool) (n : Int) : Int := pf p n.toNat
theorem pf_spec (p : Int → Bool) : ∀ k : Nat, 0 ≤ pf p k ∧ pf p k ≤ (k : Int) ∧ (∀ j : Int, 1 ≤ j → j ≤ pf p k → p j = true) ∧ (pf p k = (k : Int) ∨ p (pf p k + 1) = false)
  | 0 => ⟨Int.le_refl 0, Int.le_refl 0, fun j h0 h1 => by have : pf p 0 = 0 := rfl; omega, Or.inl rfl⟩
  | k + 1 => by
    obtain ⟨a, b, c, d⟩ := pf_spec p k
    by_cases q : pf p k = (k : Int) ∧ p ((k : Int) + 1) = true
    · have e : pf p (k + 1) = (k : Int) + 1 := if_pos q
      rw [e]
      refine ⟨by omega, by omega, fun j h0 h1 => ?_, Or.inl rfl⟩
      rcases (show j ≤ (k : Int) ∨ j = (k : Int) + 1 by omega) with z | z
      · exact c j h0 (by omega)
      · rw [z]; exact q.2
    · have e : pf p (k + 1) = pf p k := if_neg q
      rw [e]
      refine ⟨a, by omega, c, ?_⟩
      rcases d with d | d
      · right
        rw [d]
        cases z : p ((k : Int) + 1) with
        | false => rfl
        | true => exact absurd ⟨d, z⟩ q
      · exact Or.inr d
theorem pfI_spec (p : Int → Bool) {n : Int} (hn : 0 ≤ n) : 0 ≤ pfI p n ∧ pfI p n ≤ n ∧ (∀ j : Int, 1 ≤ j → j ≤ pfI p n → p j = true) ∧ (pfI p n = n ∨ p (pfI p n + 1) = false) := by
  have h := pf_spec p n.toNat
  unfold pfI
  rw [show ((n.toNat : Nat) : Int) = n by omega] at h
  exact h
theorem pfI_eq {p : Int → Bool} {n v : Int} (h0 : 0 ≤ v) (h1 : v ≤ n) (hp : ∀ j : Int, 1 ≤ j → j ≤ v → p j = true) (hv : v = n ∨ p (v + 1) = false) : pfI p n = v := by
  obtain ⟨a, b, c, d⟩ := pfI_spec p (show 0 ≤ n by omega)
  rcases Int.lt_trichotomy (pfI p n) v with q | q | q
  · rcases d with d | d
    · omega
    · rw [hp _ (by omega) (by omega)] at d; cases d
  · exact q
  · rcases hv with hv | hv
    · omega
    · rw [c _ (by omega) (by omega)] at hv; cases hv
theorem pfI_two {p q : Int → Bool} {n : Int} (hn : 0 ≤ n) : pfI q (pfI p n) = pfI (fun x => p x && q x) n := by
  obtain ⟨a, b, c, d⟩ := pfI_spec p hn
  obtain ⟨a2, b2, c2, d2⟩ := pfI_spec q a
  refine (pfI_eq a2 (by omega) (fun j h0 h1 => ?_) ?_).symm
  · show (p j && q j) = true
    rw [c j h0 (by omega), c2 j h0 h1]; rfl
  · rcases d2 with d2 | d2
    · rcases d with d | d
      · left; omega
      · right; rw [d2]; show (_ && _) = false; rw [d]; rfl
    · right; show (_ && _) = false; rw [d2, Bool.and_false]
theorem pfI_congr {p q : Int → Bool} {n : Int} (hn : 0 ≤ n) (h : ∀ j : Int, 1 ≤ j → j ≤ n → p j = q j) : pfI p n = pfI q n := by
  obtain ⟨a, b, c, d⟩ := pfI_spec q hn
  refine pfI_eq a b (fun j h0 h1 => by rw [h j h0 (by omega)]; exact c j h0 h1) ?_
  rcases d with d | d
  · exact Or.inl d
  · rcases (show pfI q n = n ∨ pfI q n < n by omega) with z | z
    · exact Or.inl z
    · exact Or.inr (by rw [h _ (by omega) (by omega)]; exact d)
def cl (f : Int → Int) (N : Int) (r : Int → Int) (i q : Int) : Bool := decide (ucq q f N r i = 0)
def calm (f : Int → Int) (N : Int) (r : Int → Int) (i : Int) : Bool := decide (ab (vV f N i) ≤ r 63 + lw f N i ∧ ab (vA f N i) ≤ r 63 + lw f N i)
theorem sq_nn (a : Int) : 0 ≤ a * a := by
  rcases Int.le_total 0 a with q | q
  · exact mnn q q
  · have := mnn (show 0 ≤ -a by omega) (show 0 ≤ -a by omega)
    rwa [Int.neg_mul_neg] at this
theorem sq_le {a b : Int} (h0 : 0 ≤ a) (h : a ≤ b) : a * a ≤ b * b := Int.mul_le_mul h h h0 (by omega)
/-- a calm STEP's numbers: BEND is above 0, ROLLER by BEND no more than FAR by the sum -/
theorem calm_num {c q v a : Int} (hc : 0 ≤ c) (hq : 1 ≤ q) (hv : -c ≤ v ∧ v ≤ c) (ha : -c ≤ a ∧ a ≤ c) : 0 < bn (c + q) v a ∧ q * bn (c + q) v a ≤ (c + q) * ((c + q) * (c + q) + v * v) := by
  have hvv := sq_nn v
  have hx : 0 < c + q := by omega
  constructor
  · have e : bn (c + q) v a = (c + q) * (c + q - a) + 2 * (v * v) := by unfold bn; grind
    have h1 := Int.mul_pos hx (show 0 < c + q - a by omega)
    omega
  · have e : (c + q) * ((c + q) * (c + q) + v * v) - q * bn (c + q) v a = c * c * (c + q) + q * (c + q) * (a + c) + v * v * (c - q) := by unfold bn; grind
    have h2 := mnn (mnn hc hc) (show 0 ≤ c + q by omega)
    have h3 := mnn (mnn (show 0 ≤ q by omega) (show 0 ≤ c + q by omega)) (show 0 ≤ a + c by omega)
    rcases Int.le_total q c with z | z
    · have h4 := mnn hvv (show 0 ≤ c - q by omega)
      omega
    · have h5 : v * v ≤ c * c := by
        rcases Int.le_total 0 v with y | y
        · exact sq_le y hv.2
        · have := sq_le (show 0 ≤ -v by omega) (show -v ≤ c by omega)
          rwa [Int.neg_mul_neg] at this
      have h6 := mnn (show 0 ≤ c * c - v * v by omega) (show 0 ≤ q - c by omega)
      have h7 := mnn (mnn hc hc) (show 0 ≤ 2 * c by omega)
      have e2 : c * c * (c + q) + v * v * (c - q) = c * c * (2 * c) + (c * c - v * v) * (q - c) := by grind
      omega
theorem calm_mono {f : Int → Int} {N : Int} {r : Int → Int} (hW : WF N r) (hL : LR f N) {i q q' : Int} (h : calm f N r i = true) (h1 : 1 ≤ q') (h2 : q' ≤ q) (hc : cl f N r i q = true) : cl f N r i q' = true := by
  have hw := hW.num
  have hl := LR.w hL (by omega) i
  have h := of_decide_eq_true h
  have hc := of_decide_eq_true hc
  have av := ab_nn (vV f N i)
  have aa := ab_nn (vA f N i)
  refine decide_eq_true ?_
  unfold ucq at hc ⊢
  rw [show r 63 + q + lw f N i = r 63 + lw f N i + q by omega] at hc
  rw [show r 63 + q' + lw f N i = r 63 + lw f N i + q' by omega]
  generalize hcc : r 63 + lw f N i = c at *
  generalize vV f N i = v at *
  generalize vA f N i = a at *
  obtain ⟨b1, b2⟩ := calm_num (c := c) (q := q) (v := v) (a := a) (by omega) (by omega) (by omega) (by omega)
  obtain ⟨c1, c2⟩ := calm_num (c := c) (q := q') (v := v) (a := a) (by omega) (by omega) (by omega) (by omega)
  have hS := sq_le (show 0 ≤ c + q' by omega) (show c + q' ≤ c + q by omega)
  have hB : bn (c + q') v a ≤ bn (c + q) v a := by
    have e : bn (c + q) v a - bn (c + q') v a = (q - q') * (c + q + (c + q') - a) := by unfold bn; grind
    have := mnn (show 0 ≤ q - q' by omega) (show 0 ≤ c + q + (c + q') - a by omega)
    omega
  have hqB : q' * bn (c + q') v a ≤ q * bn (c + q) v a := Int.mul_le_mul h2 hB (by omega) (by omega)
  have hvv := sq_nn v
  have hxx := sq_nn (c + q')
  unfold uc at hc ⊢
  rw [if_neg (by omega)] at hc ⊢
  have n1 : ¬ (2097151 < (c + q) * (c + q) + v * v ∨ 3037000499 < q * bn (c + q) v a) := fun z => by rw [if_pos z] at hc; omega
  rw [if_neg (by omega), if_neg]
  have hqn := mnn (show 0 ≤ q' by omega) (show 0 ≤ bn (c + q') v a by omega)
  have p1 := sq_le hqn c2
  have e3 : (c + q') * ((c + q') * (c + q') + v * v) * ((c + q') * ((c + q') * (c + q') + v * v)) = (c + q') * (c + q') * (((c + q') * (c + q') + v * v) * ((c + q') * (c + q') + v * v)) := by grind
  have p2 : (c + q') * (c + q') * (((c + q') * (c + q') + v * v) * ((c + q') * (c + q') + v * v)) ≤ ((c + q') * (c + q') + v * v) * (((c + q') * (c + q') + v * v) * ((c + q') * (c + q') + v * v)) := Int.mul_le_mul_of_nonneg_right (by omega) (sq_nn _)
  have e4 : ((c + q') * (c + q') + v * v) * ((c + q') * (c + q') + v * v) * ((c + q') * (c + q') + v * v) = ((c + q') * (c + q') + v * v) * (((c + q') * (c + q') + v * v) * ((c + q') * (c + q') + v * v)) := by grind
  omega
/-- all SECONDS together are 0: so one is not above 0 -/
theorem lw_per (f : Int → Int) (N j : Int) : lw f N (j + N) = lw f N j := by
  unfold lw
  rw [Int.add_emod_right]
theorem d2_sum (f : Int → Int) (N : Int) : ∀ k : Nat, sm (d2 f N) k = d1 f N ((k : Int) - 1) - d1 f N (-1)
  | 0 => by show 0 = d1 f N (((0 : Nat) : Int) - 1) - d1 f N (-1); rw [show ((0 : Nat) : Int) - 1 = -1 from rfl]; omega
  | k + 1 => by
    show sm (d2 f N) k + d2 f N (k : Int) = _
    rw [d2_sum f N k, show ((k + 1 : Nat) : Int) - 1 = (k : Int) by omega]
    unfold d2 d1
    rw [show (k : Int) - 1 + 1 = (k : Int) by omega]
    omega
theorem d2_low {f : Int → Int} {N : Int} (hN : 0 < N) : ∃ i : Int, 0 ≤ i ∧ i < N ∧ d2 f N i ≤ 0 := by
  refine Classical.byContradiction fun h => ?_
  have key : ∀ k : Nat, (k : Int) ≤ N → (k : Int) ≤ sm (d2 f N) k := by
    intro k
    induction k with
    | zero => intro _; exact Int.le_refl 0
    | succ k ih =>
      intro hk
      have a := ih (by omega)
      have b : ¬ d2 f N (k : Int) ≤ 0 := fun q => h ⟨(k : Int), by omega, by omega, q⟩
      show ((k + 1 : Nat) : Int) ≤ sm (d2 f N) k + d2 f N (k : Int)
      omega
  have a := key N.toNat (by omega)
  rw [d2_sum, show ((N.toNat : Nat) : Int) = N by omega] at a
  unfold d1 at a
  have e1 := lw_per f N 0
  have e2 := lw_per f N (-1)
  rw [show (0 : Int) + N = N - 1 + 1 by omega] at e1
  rw [show (-1 : Int) + N = N - 1 by omega] at e2
  rw [e1, e2] at a
  rw [show (-1 : Int) + 1 = 0 from rfl] at a
  omega
theorem cl_far {f : Int → Int} {N : Int} {r : Int → Int} (hW : WF N r) (hL : LR f N) {q : Int} (h1 : 1 ≤ q) (hq : 1449 ≤ r 63 + q) : ∃ i : Int, 0 ≤ i ∧ i < N ∧ cl f N r i q = false := by
  have hw := hW.num
  obtain ⟨i, h0, hi, hd⟩ := d2_low (f := f) (N := N) (by omega)
  refine ⟨i, h0, hi, decide_eq_false ?_⟩
  have hl := LR.w hL (by omega) i
  have ha : vA f N i ≤ 0 := by
    have e : d2 f N i * 12769 * N * N = -((-d2 f N i) * 12769 * N * N) := by grind
    have := mnn (mnn (mnn (show 0 ≤ -d2 f N i by omega) (show (0 : Int) ≤ 12769 by omega)) (show 0 ≤ N by omega)) (show 0 ≤ N by omega)
    unfold vA
    omega
  unfold ucq uc
  generalize hx : r 63 + q + lw f N i = x
  have hxx := sq_le (show (0 : Int) ≤ 1449 by omega) (show 1449 ≤ x by omega)
  have hv := sq_nn (vV f N i)
  have e : bn x (vV f N i) (vA f N i) = x * x + 2 * (vV f N i * vV f N i) + x * (-vA f N i) := by unfold bn; grind
  have hxa := mnn (show 0 ≤ x by omega) (show 0 ≤ -vA f N i by omega)
  rw [if_neg (by omega), if_pos (by omega)]
  omega
def acl (f : Int → Int) (N : Int) (r : Int → Int) (q : Int) : Bool := alI (fun i => cl f N r i q) N
theorem acl_most {f : Int → Int} {N : Int} {r : Int → Int} (hW : WF N r) (hL : LR f N) : pfI (acl f N r) (min 9999 (max 0 (1448 - r 63))) = pfI (acl f N r) 9999 := by
  obtain ⟨a, b, c, d⟩ := pfI_spec (acl f N r) (show 0 ≤ min 9999 (max 0 (1448 - r 63)) by omega)
  refine (pfI_eq a (by omega) c ?_).symm
  rcases d with d | d
  · rcases (show min 9999 (max 0 (1448 - r 63)) = 9999 ∨ min 9999 (max 0 (1448 - r 63)) < 9999 by omega) with z | z
    · left; omega
    · right
      obtain ⟨i, h0, h1, h2⟩ := cl_far hW hL (q := pfI (acl f N r) (min 9999 (max 0 (1448 - r 63))) + 1) (by omega) (by omega)
      exact alI_no h0 h1 h2
  · exact Or.inr d
def ac1 (f : Int → Int) (N : Int) (r : Int → Int) (n q : Int) : Bool := alI (fun i => !calm f N r i || cl f N r i q) n
def ac2 (f : Int → Int) (N : Int) (r : Int → Int) (n q : Int) : Bool := ac1 f N r N q && alI (fun i => calm f N r i || cl f N r i q) n
theorem ac2_acl (f : Int → Int) (N : Int) (r : Int → Int) (q : Int) : ac2 f N r N q = acl f N r q := by
  unfold ac2 ac1 acl
  rw [Bool.eq_iff_iff, Bool.and_eq_true, alI_iff, alI_iff, alI_iff]
  constructor
  · intro ⟨a, b⟩ i h0 h1
    have a := a i h0 h1
    have b := b i h0 h1
    cases z : calm f N r i with
    | true => simpa [z] using a
    | false => simpa [z] using b
  · intro a
    exact ⟨fun i h0 h1 => by rw [a i h0 h1, Bool.or_true], fun i h0 h1 => by rw [a i h0 h1, Bool.or_true]⟩
