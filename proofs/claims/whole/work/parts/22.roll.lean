/-! the greatest number up to which all are so -/
def pf (p : Int → Bool) : Nat → Int
  | 0 => 0
  | n + 1 => if pf p n = (n : Int) ∧ p ((n : Int) + 1) = true then (n : Int) + 1 else pf p n
def pfI (p : Int → Bool) (n : Int) : Int := pf p n.toNat
theorem pf_spec (p : Int → Bool) : ∀ k : Nat, 0 ≤ pf p k ∧ pf p k ≤ (k : Int) ∧ (∀ j : Int, 1 ≤ j → j ≤ pf p k → p j = true) ∧ (pf p k = (k : Int) ∨ p (pf p k + 1) = false)
  | 0 => ⟨Int.le_refl 0, Int.le_refl 0, fun j h0 h1 => by have : pf p 0 = 0 := rfl; omega, Or.inl rfl⟩
  | k + 1 => by
    obtain ⟨a, b, c, d⟩ := pf_spec p k
    by_cases q : pf p k = (k : Int) ∧ p ((k : Int) + 1) = true
    · have e : pf p (k + 1) = (k : Int) + 1 := if_pos q
      rw [e]
      refine ⟨by omega, by omega, fun j h0 h1 => ?_, Or.inl rfl⟩
      rcases (show j ≤ (k : Int) ∨ j = (k : Int) + 1 by omega) with z | z
      · exact c j h0 (by omega)
      · rw [z]; exact q.2
    · have e : pf p (k + 1) = pf p k := if_neg q
      rw [e]
      refine ⟨a, by omega, c, ?_⟩
      rcases d with d | d
      · right
        rw [d]
        cases z : p ((k : Int) + 1) with
        | false => rfl
        | true => exact absurd ⟨d, z⟩ q
      · exact Or.inr d
theorem pfI_spec (p : Int → Bool) {n : Int} (hn : 0 ≤ n) : 0 ≤ pfI p n ∧ pfI p n ≤ n ∧ (∀ j : Int, 1 ≤ j → j ≤ pfI p n → p j = true) ∧ (pfI p n = n ∨ p (pfI p n + 1) = false) := by
  have h := pf_spec p n.toNat
  unfold pfI
  rw [show ((n.toNat : Nat) : Int) = n by omega] at h
  exact h
theorem pfI_eq {p : Int → Bool} {n v : Int} (h0 : 0 ≤ v) (h1 : v ≤ n) (hp : ∀ j : Int, 1 ≤ j → j ≤ v → p j = true) (hv : v = n ∨ p (v + 1) = false) : pfI p n = v := by
  obtain ⟨a, b, c, d⟩ := pfI_spec p (show 0 ≤ n by omega)
  rcases Int.lt_trichotomy (pfI p n) v with q | q | q
  · rcases d with d | d
    · omega
    · rw [hp _ (by omega) (by omega)] at d; cases d
  · exact q
  · rcases hv with hv | hv
    · omega
    · rw [c _ (by omega) (by omega)] at hv; cases hv
theorem pfI_two {p q : Int → Bool} {n : Int} (hn : 0 ≤ n) : pfI q (pfI p n) = pfI (fun x => p x && q x) n := by
  obtain ⟨a, b, c, d⟩ := pfI_spec p hn
  obtain ⟨a2, b2, c2, d2⟩ := pfI_spec q a
  refine (pfI_eq a2 (by omega) (fun j h0 h1 => ?_) ?_).symm
  · show (p j && q j) = true
    rw [c j h0 (by omega), c2 j h0 h1]; rfl
  · rcases d2 with d2 | d2
    · rcases d with d | d
      · left; omega
      · right; rw [d2]; show (_ && _) = false; rw [d]; rfl
    · right; show (_ && _) = false; rw [d2, Bool.and_false]
theorem pfI_congr {p q : Int → Bool} {n : Int} (hn : 0 ≤ n) (h : ∀ j : Int, 1 ≤ j → j ≤ n → p j = q j) : pfI p n = pfI q n := by
  obtain ⟨a, b, c, d⟩ := pfI_spec q hn
  refine pfI_eq a b (fun j h0 h1 => by rw [h j h0 (by omega)]; exact c j h0 h1) ?_
  rcases d with d | d
  · exact Or.inl d
  · rcases (show pfI q n = n ∨ pfI q n < n by omega) with z | z
    · exact Or.inl z
    · exact Or.inr (by rw [h _ (by omega) (by omega)]; exact d)
def cl (f : Int → Int) (N : Int) (r : Int → Int) (i q : Int) : Bool := decide (ucq q f N r i = 0)
def calm (f : Int → Int) (N : Int) (r : Int → Int) (i : Int) : Bool := decide (ab (vV f N i) ≤ r 63 + lw f N i ∧ ab (vA f N i) ≤ r 63 + lw f N i)
theorem sq_nn (a : Int) : 0 ≤ a * a := by
  rcases Int.le_total 0 a with q | q
  · exact mnn q q
  · have := mnn (show 0 ≤ -a by omega) (show 0 ≤ -a by omega)
    rwa [Int.neg_mul_neg] at this
theorem sq_le {a b : Int} (h0 : 0 ≤ a) (h : a ≤ b) : a * a ≤ b * b := Int.mul_le_mul h h h0 (by omega)
/-- a calm STEP's numbers: BEND is above 0, ROLLER by BEND no more than FAR by the sum -/
theorem calm_num {c q v a : Int} (hc : 0 ≤ c) (hq : 1 ≤ q) (hv : -c ≤ v ∧ v ≤ c) (ha : -c ≤ a ∧ a ≤ c) : 0 < bn (c + q) v a ∧ q * bn (c + q) v a ≤ (c + q) * ((c + q) * (c + q) + v * v) := by
  have hvv := sq_nn v
  have hx : 0 < c + q := by omega
  constructor
  · have e : bn (c + q) v a = (c + q) * (c + q - a) + 2 * (v * v) := by unfold bn; grind
    have h1 := Int.mul_pos hx (show 0 < c + q - a by omega)
    omega
  · have e : (c + q) * ((c + q) * (c + q) + v * v) - q * bn (c + q) v a = c * c * (c + q) + q * (c + q) * (a + c) + v * v * (c - q) := by unfold bn; grind
    have h2 := mnn (mnn hc hc) (show 0 ≤ c + q by omega)
    have h3 := mnn (mnn (show 0 ≤ q by omega) (show 0 ≤ c + q by omega)) (show 0 ≤ a + c by omega)
    rcases Int.le_total q c with z | z
    · have h4 := mnn hvv (show 0 ≤ c - q by omega)
      omega
    · have h5 : v * v ≤ c * c := by
        rcases Int.le_total 0 v with y | y
        · exact sq_le y hv.2
        · have := sq_le (show 0 ≤ -v by omega) (show -v ≤ c by omega)
          rwa [Int.neg_mul_neg] at this
      have h6 := mnn (show 0 ≤ c * c - v * v by omega) (show 0 ≤ q - c by omega)
      have h7 := mnn (mnn hc hc) (show 0 ≤ 2 * c by omega)
      have e2 : c * c * (c + q) + v * v * (c - q) = c * c * (2 * c) + (c * c - v * v) * (q - c) := by grind
      omega
theorem calm_mono {f : Int → Int} {N : Int} {r : Int → Int} (hW : WF N r) (hL : LR f N) {i q q' : Int} (h : calm f N r i = true) (h1 : 1 ≤ q') (h2 : q' ≤ q) (hc : cl f N r i q = true) : cl f N r i q' = true := by
  have hw := hW.num
  have hl := LR.w hL (by omega) i
  have h := of_decide_eq_true h
  have hc := of_decide_eq_true hc
  have av := ab_nn (vV f N i)
  have aa := ab_nn (vA f N i)
  refine decide_eq_true ?_
  unfold ucq at hc ⊢
  rw [show r 63 + q + lw f N i = r 63 + lw f N i + q by omega] at hc
  rw [show r 63 + q' + lw f N i = r 63 + lw f N i + q' by omega]
  generalize hcc : r 63 + lw f N i = c at *
  generalize vV f N i = v at *
  generalize vA f N i = a at *
  obtain ⟨b1, b2⟩ := calm_num (c := c) (q := q) (v := v) (a := a) (by omega) (by omega) (by omega) (by omega)
  obtain ⟨c1, c2⟩ := calm_num (c := c) (q := q') (v := v) (a := a) (by omega) (by omega) (by omega) (by omega)
  have hS := sq_le (show 0 ≤ c + q' by omega) (show c + q' ≤ c + q by omega)
  have hB : bn (c + q') v a ≤ bn (c + q) v a := by
    have e : bn (c + q) v a - bn (c + q') v a = (q - q') * (c + q + (c + q') - a) := by unfold bn; grind
    have := mnn (show 0 ≤ q - q' by omega) (show 0 ≤ c + q + (c + q') - a by omega)
    omega
  have hqB : q' * bn (c + q') v a ≤ q * bn (c + q) v a := Int.mul_le_mul h2 hB (by omega) (by omega)
  have hvv := sq_nn v
  have hxx := sq_nn (c + q')
  unfold uc at hc ⊢
  rw [if_neg (by omega)] at hc ⊢
  have n1 : ¬ (2097151 < (c + q) * (c + q) + v * v ∨ 3037000499 < q * bn (c + q) v a) := fun z => by rw [if_pos z] at hc; omega
  rw [if_neg (by omega), if_neg]
  have hqn := mnn (show 0 ≤ q' by omega) (show 0 ≤ bn (c + q') v a by omega)
  have p1 := sq_le hqn c2
  have e3 : (c + q') * ((c + q') * (c + q') + v * v) * ((c + q') * ((c + q') * (c + q') + v * v)) = (c + q') * (c + q') * (((c + q') * (c + q') + v * v) * ((c + q') * (c + q') + v * v)) := by grind
  have p2 : (c + q') * (c + q') * (((c + q') * (c + q') + v * v) * ((c + q') * (c + q') + v * v)) ≤ ((c + q') * (c + q') + v * v) * (((c + q') * (c + q') + v * v) * ((c + q') * (c + q') + v * v)) := Int.mul_le_mul_of_nonneg_right (by omega) (sq_nn _)
  have e4 : ((c + q') * (c + q') + v * v) * ((c + q') * (c + q') + v * v) * ((c + q') * (c + q') + v * v) = ((c + q') * (c + q') + v * v) * (((c + q') * (c + q') + v * v) * ((c + q') * (c + q') + v * v)) := by grind
  omega
/-- all SECONDS together are 0: so one is not above 0 -/
theorem lw_per (f : Int → Int) (N j : Int) : lw f N (j + N) = lw f N j := by
  unfold lw
  rw [Int.add_emod_right]
theorem d2_sum (f : Int → Int) (N : Int) : ∀ k : Nat, sm (d2 f N) k = d1 f N ((k : Int) - 1) - d1 f N (-1)
  | 0 => by show 0 = d1 f N (((0 : Nat) : Int) - 1) - d1 f N (-1); rw [show ((0 : Nat) : Int) - 1 = -1 from rfl]; omega
  | k + 1 => by
    show sm (d2 f N) k + d2 f N (k : Int) = _
    rw [d2_sum f N k, show ((k + 1 : Nat) : Int) - 1 = (k : Int) by omega]
    unfold d2 d1
    rw [show (k : Int) - 1 + 1 = (k : Int) by omega]
    omega
theorem d2_low {f : Int → Int} {N : Int} (hN : 0 < N) : ∃ i : Int, 0 ≤ i ∧ i < N ∧ d2 f N i ≤ 0 := by
  refine Classical.byContradiction fun h => ?_
  have key : ∀ k : Nat, (k : Int) ≤ N → (k : Int) ≤ sm (d2 f N) k := by
    intro k
    induction k with
    | zero => intro _; exact Int.le_refl 0
    | succ k ih =>
      intro hk
      have a := ih (by omega)
      have b : ¬ d2 f N (k : Int) ≤ 0 := fun q => h ⟨(k : Int), by omega, by omega, q⟩
      show ((k + 1 : Nat) : Int) ≤ sm (d2 f N) k + d2 f N (k : Int)
      omega
  have a := key N.toNat (by omega)
  rw [d2_sum, show ((N.toNat : Nat) : Int) = N by omega] at a
  unfold d1 at a
  have e1 := lw_per f N 0
  have e2 := lw_per f N (-1)
  rw [show (0 : Int) + N = N - 1 + 1 by omega] at e1
  rw [show (-1 : Int) + N = N - 1 by omega] at e2
  rw [e1, e2] at a
  rw [show (-1 : Int) + 1 = 0 from rfl] at a
  omega
theorem cl_far {f : Int → Int} {N : Int} {r : Int → Int} (hW : WF N r) (hL : LR f N) {q : Int} (h1 : 1 ≤ q) (hq : 1449 ≤ r 63 + q) : ∃ i : Int, 0 ≤ i ∧ i < N ∧ cl f N r i q = false := by
  have hw := hW.num
  obtain ⟨i, h0, hi, hd⟩ := d2_low (f := f) (N := N) (by omega)
  refine ⟨i, h0, hi, decide_eq_false ?_⟩
  have hl := LR.w hL (by omega) i
  have ha : vA f N i ≤ 0 := by
    have e : d2 f N i * 12769 * N * N = -((-d2 f N i) * 12769 * N * N) := by grind
    have := mnn (mnn (mnn (show 0 ≤ -d2 f N i by omega) (show (0 : Int) ≤ 12769 by omega)) (show 0 ≤ N by omega)) (show 0 ≤ N by omega)
    unfold vA
    omega
  unfold ucq uc
  generalize hx : r 63 + q + lw f N i = x
  have hxx := sq_le (show (0 : Int) ≤ 1449 by omega) (show 1449 ≤ x by omega)
  have hv := sq_nn (vV f N i)
  have e : bn x (vV f N i) (vA f N i) = x * x + 2 * (vV f N i * vV f N i) + x * (-vA f N i) := by unfold bn; grind
  have hxa := mnn (show 0 ≤ x by omega) (show 0 ≤ -vA f N i by omega)
  rw [if_neg (by omega), if_pos (by omega)]
  omega
def acl (f : Int → Int) (N : Int) (r : Int → Int) (q : Int) : Bool := alI (fun i => cl f N r i q) N
theorem acl_most {f : Int → Int} {N : Int} {r : Int → Int} (hW : WF N r) (hL : LR f N) : pfI (acl f N r) (min 9999 (max 0 (1448 - r 63))) = pfI (acl f N r) 9999 := by
  obtain ⟨a, b, c, d⟩ := pfI_spec (acl f N r) (show 0 ≤ min 9999 (max 0 (1448 - r 63)) by omega)
  refine (pfI_eq a (by omega) c ?_).symm
  rcases d with d | d
  · rcases (show min 9999 (max 0 (1448 - r 63)) = 9999 ∨ min 9999 (max 0 (1448 - r 63)) < 9999 by omega) with z | z
    · left; omega
    · right
      obtain ⟨i, h0, h1, h2⟩ := cl_far hW hL (q := pfI (acl f N r) (min 9999 (max 0 (1448 - r 63))) + 1) (by omega) (by omega)
      exact alI_no h0 h1 h2
  · exact Or.inr d
def ac1 (f : Int → Int) (N : Int) (r : Int → Int) (n q : Int) : Bool := alI (fun i => !calm f N r i || cl f N r i q) n
def ac2 (f : Int → Int) (N : Int) (r : Int → Int) (n q : Int) : Bool := ac1 f N r N q && alI (fun i => calm f N r i || cl f N r i q) n
theorem ac2_acl (f : Int → Int) (N : Int) (r : Int → Int) (q : Int) : ac2 f N r N q = acl f N r q := by
  unfold ac2 ac1 acl
  rw [Bool.eq_iff_iff, Bool.and_eq_true, alI_iff, alI_iff, alI_iff]
  constructor
  · intro ⟨a, b⟩ i h0 h1
    have a := a i h0 h1
    have b := b i h0 h1
    cases z : calm f N r i with
    | true => simpa [z] using a
    | false => simpa [z] using b
  · intro a
    exact ⟨fun i h0 h1 => by rw [a i h0 h1, Bool.or_true], fun i h0 h1 => by rw [a i h0 h1, Bool.or_true]⟩
theorem ac1_succ {f : Int → Int} {N : Int} {r : Int → Int} {i : Int} (h0 : 0 ≤ i) : ac1 f N r (i + 1) = fun q => ac1 f N r i q && (!calm f N r i || cl f N r i q) := by
  funext q
  unfold ac1
  rw [alI_succ _ h0]
theorem ac2_succ {f : Int → Int} {N : Int} {r : Int → Int} {i : Int} (h0 : 0 ≤ i) : ac2 f N r (i + 1) = fun q => ac2 f N r i q && (calm f N r i || cl f N r i q) := by
  funext q
  unfold ac2
  rw [alI_succ _ h0, Bool.and_assoc]
theorem pfI_true {p : Int → Bool} {n : Int} (hn : 0 ≤ n) (h : ∀ j, p j = true) : pfI p n = n := pfI_eq hn (by omega) (fun j _ _ => h j) (Or.inl rfl)
theorem acs1 {f : Int → Int} {N : Int} {r : Int → Int} {i M : Int} (h0 : 0 ≤ i) (hM : 0 ≤ M) (h : calm f N r i = true) : pfI (cl f N r i) (pfI (ac1 f N r i) M) = pfI (ac1 f N r (i + 1)) M := by
  rw [pfI_two hM, ac1_succ h0]
  refine congrArg (fun z => pfI z M) (funext fun q => ?_)
  rw [h]; simp
theorem acs1n {f : Int → Int} {N : Int} {r : Int → Int} {i M : Int} (h0 : 0 ≤ i) (h : ¬ calm f N r i = true) : pfI (ac1 f N r i) M = pfI (ac1 f N r (i + 1)) M := by
  rw [ac1_succ h0]
  refine congrArg (fun z => pfI z M) (funext fun q => ?_)
  simp [h]
theorem acs2n {f : Int → Int} {N : Int} {r : Int → Int} {i M : Int} (h0 : 0 ≤ i) (hM : 0 ≤ M) (h : ¬ calm f N r i = true) : pfI (cl f N r i) (pfI (ac2 f N r i) M) = pfI (ac2 f N r (i + 1)) M := by
  rw [pfI_two hM, ac2_succ h0]
  refine congrArg (fun z => pfI z M) (funext fun q => ?_)
  simp [h]
theorem acs2 {f : Int → Int} {N : Int} {r : Int → Int} {i M : Int} (h0 : 0 ≤ i) (h : calm f N r i = true) : pfI (ac2 f N r i) M = pfI (ac2 f N r (i + 1)) M := by
  rw [ac2_succ h0]
  refine congrArg (fun z => pfI z M) (funext fun q => ?_)
  rw [h]; simp
theorem ac20 (f : Int → Int) (N : Int) (r : Int → Int) (M : Int) : pfI (ac1 f N r N) M = pfI (ac2 f N r 0) M := by
  refine congrArg (fun z => pfI z M) (funext fun q => ?_)
  unfold ac2
  rw [alI_0, Bool.and_true]
def lbf (f : Int → Int) (N : Int) (r : Int → Int) (i : Int) : Int := 1000 * ab (vV f N i) / (r 69 + 1) + 1 - r 64 - lw f N i
def lbm (f : Int → Int) (N : Int) (r : Int → Int) : Nat → Int
  | 0 => 10
  | n + 1 => max (lbm f N r n) (lbf f N r (n : Int))
def lbI (f : Int → Int) (N : Int) (r : Int → Int) (n : Int) : Int := lbm f N r n.toNat
theorem lbI_succ (f : Int → Int) (N : Int) (r : Int → Int) {n : Int} (h : 0 ≤ n) : lbI f N r (n + 1) = max (lbI f N r n) (lbf f N r n) := by
  unfold lbI
  rw [show (n + 1).toNat = n.toNat + 1 by omega]
  show max (lbm f N r n.toNat) (lbf f N r ((n.toNat : Nat) : Int)) = _
  rw [show ((n.toNat : Nat) : Int) = n by omega]
theorem lbI_le {f : Int → Int} {N : Int} {r : Int → Int} {n B : Int} : lbI f N r n ≤ B ↔ 10 ≤ B ∧ ∀ i : Int, 0 ≤ i → i < n → lbf f N r i ≤ B := by
  have key : ∀ k : Nat, lbm f N r k ≤ B ↔ 10 ≤ B ∧ ∀ i : Int, 0 ≤ i → i < (k : Int) → lbf f N r i ≤ B := by
    intro k
    induction k with
    | zero => exact ⟨fun h => ⟨h, fun i h0 h1 => by omega⟩, fun h => h.1⟩
    | succ k ih =>
      show max (lbm f N r k) (lbf f N r (k : Int)) ≤ B ↔ _
      rw [Int.max_le, ih]
      constructor
      · intro ⟨⟨a0, a⟩, b⟩
        refine ⟨a0, fun i h0 h1 => ?_⟩
        rcases (show i < (k : Int) ∨ i = (k : Int) by omega) with q | q
        · exact a i h0 q
        · rw [q]; exact b
      · intro ⟨a0, a⟩
        exact ⟨⟨a0, fun i h0 h1 => a i h0 (by omega)⟩, a _ (by omega) (by omega)⟩
  unfold lbI
  rw [key]
  constructor
  · intro ⟨a0, a⟩; exact ⟨a0, fun i h0 h1 => a i h0 (by omega)⟩
  · intro ⟨a0, a⟩; exact ⟨a0, fun i h0 h1 => a i h0 (by omega)⟩
theorem lbf_rg {f : Int → Int} {N : Int} {r : Int → Int} (hW : WF N r) (hL : LR f N) (i : Int) : 0 ≤ 1000 * ab (vV f N i) / (r 69 + 1) ∧ 1000 * ab (vV f N i) / (r 69 + 1) ≤ 9540000 ∧ -20000 ≤ lbf f N r i ∧ lbf f N r i ≤ 9540001 := by
  have hw := hW.num
  have hl := LR.w hL (by omega) i
  have h2 := (LR.v hL (by omega) i).2.1
  have h3 := ab_nn (vV f N i)
  have e0 : 0 ≤ 1000 * ab (vV f N i) / (r 69 + 1) := Int.ediv_nonneg (by omega) (by omega)
  have e1 : 1000 * ab (vV f N i) / (r 69 + 1) ≤ 1000 * ab (vV f N i) := Int.ediv_le_self _ (by omega)
  unfold lbf
  omega
theorem lbI_rg {f : Int → Int} {N : Int} {r : Int → Int} (hW : WF N r) (hL : LR f N) (n : Int) : 10 ≤ lbI f N r n ∧ lbI f N r n ≤ 9540001 := by
  refine ⟨?_, lbI_le.mpr ⟨by omega, fun i _ _ => (lbf_rg hW hL i).2.2.2⟩⟩
  have := (lbI_le (f := f) (N := N) (r := r) (n := n) (B := lbI f N r n)).mp (Int.le_refl _)
  exact this.1
def gqm (f : Int → Int) (N : Int) (r : Int → Int) : Nat → Int
  | 0 => 99980001
  | n + 1 => if 0 < r 67 * -(d2 f N (n : Int)) then min (gqm f N r n) (1000 * rs f N r (n : Int) / (r 67 * -(d2 f N (n : Int)))) else gqm f N r n
def gqI (f : Int → Int) (N : Int) (r : Int → Int) (n : Int) : Int := gqm f N r n.toNat
theorem gqI_succ (f : Int → Int) (N : Int) (r : Int → Int) {n : Int} (h : 0 ≤ n) : gqI f N r (n + 1) = if 0 < r 67 * -(d2 f N n) then min (gqI f N r n) (1000 * rs f N r n / (r 67 * -(d2 f N n))) else gqI f N r n := by
  unfold gqI
  rw [show (n + 1).toNat = n.toNat + 1 by omega]
  show (if 0 < r 67 * -(d2 f N ((n.toNat : Nat) : Int)) then min (gqm f N r n.toNat) (1000 * rs f N r ((n.toNat : Nat) : Int) / (r 67 * -(d2 f N ((n.toNat : Nat) : Int)))) else gqm f N r n.toNat) = _
  rw [show ((n.toNat : Nat) : Int) = n by omega]
theorem gqI_ge {f : Int → Int} {N : Int} {r : Int → Int} {n B : Int} : B ≤ gqI f N r n ↔ B ≤ 99980001 ∧ ∀ i : Int, 0 ≤ i → i < n → 0 < r 67 * -(d2 f N i) → B ≤ 1000 * rs f N r i / (r 67 * -(d2 f N i)) := by
  have key : ∀ k : Nat, B ≤ gqm f N r k ↔ B ≤ 99980001 ∧ ∀ i : Int, 0 ≤ i → i < (k : Int) → 0 < r 67 * -(d2 f N i) → B ≤ 1000 * rs f N r i / (r 67 * -(d2 f N i)) := by
    intro k
    induction k with
    | zero => exact ⟨fun h => ⟨h, fun i h0 h1 => by omega⟩, fun h => h.1⟩
    | succ k ih =>
      show B ≤ (if 0 < r 67 * -(d2 f N (k : Int)) then min (gqm f N r k) (1000 * rs f N r (k : Int) / (r 67 * -(d2 f N (k : Int)))) else gqm f N r k) ↔ _
      by_cases z : 0 < r 67 * -(d2 f N (k : Int))
      · rw [if_pos z, Int.le_min, ih]
        constructor
        · intro ⟨⟨a0, a⟩, b⟩
          refine ⟨a0, fun i h0 h1 h2 => ?_⟩
          rcases (show i < (k : Int) ∨ i = (k : Int) by omega) with q | q
          · exact a i h0 q h2
          · rw [q]; exact b
        · intro ⟨a0, a⟩
          exact ⟨⟨a0, fun i h0 h1 => a i h0 (by omega)⟩, a _ (by omega) (by omega) z⟩
      · rw [if_neg z, ih]
        constructor
        · intro ⟨a0, a⟩
          refine ⟨a0, fun i h0 h1 h2 => ?_⟩
          rcases (show i < (k : Int) ∨ i = (k : Int) by omega) with q | q
          · exact a i h0 q h2
          · rw [q] at h2; exact absurd h2 z
        · intro ⟨a0, a⟩
          exact ⟨a0, fun i h0 h1 => a i h0 (by omega)⟩
  unfold gqI
  rw [key]
  constructor
  · intro ⟨a0, a⟩; exact ⟨a0, fun i h0 h1 => a i h0 (by omega)⟩
  · intro ⟨a0, a⟩; exact ⟨a0, fun i h0 h1 => a i h0 (by omega)⟩
theorem gqI_rg {f : Int → Int} {N : Int} {r : Int → Int} (hW : WF N r) (hL : LR f N) (n : Int) : 0 ≤ gqI f N r n ∧ gqI f N r n ≤ 99980001 := by
  refine ⟨gqI_ge.mpr ⟨by omega, fun i _ _ z => Int.ediv_nonneg ?_ (by omega)⟩, (gqI_ge.mp (Int.le_refl _)).1⟩
  have := (fo_rg hW hL i).1
  omega
theorem sq_lt {a b : Int} (h0 : 0 ≤ b) (h : a * a < b * b) : a < b := by
  refine Classical.byContradiction fun q => ?_
  have := sq_le h0 (show b ≤ a by omega)
  omega
