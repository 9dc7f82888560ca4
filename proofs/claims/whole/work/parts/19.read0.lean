theorem lw_mod (f : Int → Int) (N i c : Int) : lw f N (i % N + c) = lw f N (i + c) := by
  unfold lw
  rw [Int.emod_add_emod]
theorem lw_mod0 (f : Int → Int) (N i : Int) : lw f N (i % N) = lw f N i := by
  unfold lw
  rw [Int.emod_emod_of_dvd _ (Int.dvd_refl N)]
theorem d1_mod (f : Int → Int) (N i : Int) : d1 f N (i % N) = d1 f N i := by unfold d1; rw [lw_mod, lw_mod0]
theorem d2_mod (f : Int → Int) (N i : Int) : d2 f N (i % N) = d2 f N i := by
  unfold d2
  rw [lw_mod, lw_mod0]
  exact congrArg (fun z => lw f N (i + 1) - 2 * lw f N i + z) (lw_mod f N i (-1))
theorem d3_mod (f : Int → Int) (N i : Int) : d3 f N (i % N) = d3 f N i := by
  unfold d3
  rw [lw_mod, lw_mod, lw_mod0, d2_mod]
theorem mval_mod (f : Int → Int) (N : Int) (r : Int → Int) (i : Int) {k : Nat} (h : 1 ≤ k ∧ k ≤ 3) : mval f N r (i % N) k = mval f N r i k := by
  rcases (show k = 1 ∨ k = 2 ∨ k = 3 by omega) with rfl | rfl | rfl
  · exact d1_mod f N i
  · exact d2_mod f N i
  · exact d3_mod f N i
theorem mval_rg {f : Int → Int} {N : Int} {r : Int → Int} (hL : LR f N) (hN : 0 < N) (i : Int) {k : Nat} (h : 1 ≤ k ∧ k ≤ 3) : -3996 ≤ mval f N r i k ∧ mval f N r i k ≤ 3996 := by
  have hd := LR.d hL hN i
  rcases (show k = 1 ∨ k = 2 ∨ k = 3 by omega) with rfl | rfl | rfl
  · show -3996 ≤ d1 f N i ∧ d1 f N i ≤ 3996; omega
  · show -3996 ≤ d2 f N i ∧ d2 f N i ≤ 3996; omega
  · show -3996 ≤ d3 f N i ∧ d3 f N i ≤ 3996; omega
theorem mval_rg9 {f : Int → Int} {N : Int} {r : Int → Int} (hW : WF N r) (hL : LR f N) (i : Int) {k : Nat} (h : k < 11) : -10000000000000000 ≤ mval f N r i k ∧ mval f N r i k ≤ 10000000000000000 := by
  have hw := hW.num
  have h0 := LR.w hL (by omega) i
  have h1 := LR.d hL (by omega) i
  have h2 := LR.v hL (by omega) i
  have h3 := fa_rg hW hL i
  have h4 := uc_rg (x := fa f N r i) (v := vV f N i) (a := vA f N i) (by omega) (by omega) (by omega)
  have h5 := fo_rg hW hL i
  have h6 := pr_rg hW hL i
  have h7 : ucq (r 64) f N r i = 0 ∨ ucq (r 64) f N r i = 1 ∨ ucq (r 64) f N r i = 2 := uc_012 _ _ _
  rcases (show k = 0 ∨ k = 1 ∨ k = 2 ∨ k = 3 ∨ k = 4 ∨ k = 5 ∨ k = 6 ∨ k = 7 ∨ k = 8 ∨ k = 9 ∨ k = 10 by omega) with rfl | rfl | rfl | rfl | rfl | rfl | rfl | rfl | rfl | rfl | rfl <;> (simp only [mval]; omega)
theorem mxI_rg {g : Int → Int} {n B : Int} (hB : 0 ≤ B) (h : ∀ i : Int, -B ≤ g i ∧ g i ≤ B) : 0 ≤ mxI g n ∧ mxI g n ≤ B := ⟨mxI_nn g n, (mxI_le_iff hB).mpr (fun i _ _ => by have := h i; have := ab_nn (g i); omega)⟩
def evn (a b c : Bool) : Int := if a = true then (if b = true then (if c = true then 3 else 2) else 1) else 0
def ev1 (f : Int → Int) (N : Int) (r : Int → Int) (i : Int) (k : Nat) : Bool := decide (ab (mval f N r i k - mval f N r (i - 1) k) ≤ r 70)
def evq (f : Int → Int) (N : Int) (r : Int → Int) (i : Int) : Int := evn (ev1 f N r i 1) (ev1 f N r i 2) (ev1 f N r i 3)
theorem smI_rg {g : Int → Int} {n : Int} (hn : 0 ≤ n) (h : ∀ i : Int, 0 ≤ i → i < n → 0 ≤ g i ∧ g i ≤ 999) : 0 ≤ smI g n ∧ smI g n ≤ 999 * n := by
  have key : ∀ k : Nat, (k : Int) ≤ n → 0 ≤ sm g k ∧ sm g k ≤ 999 * (k : Int) := by
    intro k
    induction k with
    | zero => intro _; exact ⟨Int.le_refl 0, Int.le_refl 0⟩
    | succ k ih =>
      intro hk
      have a := ih (by omega)
      have b := h (k : Int) (by omega) (by omega)
      show 0 ≤ sm g k + g (k : Int) ∧ sm g k + g (k : Int) ≤ 999 * ((k + 1 : Nat) : Int)
      omega
  have := key n.toNat (by omega)
  unfold smI
  omega
theorem mo_rg {f : Int → Int} {N : Int} {r : Int → Int} (hW : WF N r) (hL : LR f N) {m : Int} (h0 : 0 ≤ m) (h1 : m < r 61) : 0 ≤ mo f r m ∧ mo f r m ≤ 999 := by
  have hw := hW.num
  have a := hL (r (36 + m)) (hW.ms h0 (by omega)).1 (hW.mN h0 h1)
  have b := hW.ml h0 (by omega)
  have c := ab_nn (f (r (36 + m)) - r (44 + m))
  unfold mo
  omega
theorem ga_no {f : Int → Int} {N : Int} {r : Int → Int} {i m : Int} (h0 : 0 ≤ m) (h1 : m < r 61) (he : r (36 + m) = i) (h : mk f r m = false) : ga f N r i = false := by
  rw [ga, alI_no h0 h1 (by rw [h, he]; simp), Bool.and_false]
theorem ga_ok {f : Int → Int} {N : Int} {r : Int → Int} {i : Int} (h : ok1 f N r i = false) : ga f N r i = false := by rw [ga, h, Bool.false_and]
theorem ok_no1 {f : Int → Int} {N : Int} {r : Int → Int} {i : Int} (h : ucq (r 64) f N r i ≠ 0) : ok1 f N r i = false := by rw [ok1, decide_eq_false h]; rfl
theorem ok_no2 {f : Int → Int} {N : Int} {r : Int → Int} {i : Int} (h : bd f N r 2 i = true) : ok1 f N r i = false := by rw [ok1, h]; simp
theorem ok_no3 {f : Int → Int} {N : Int} {r : Int → Int} {i : Int} (h : bd f N r 3 i = true) : ok1 f N r i = false := by rw [ok1, h]; simp
theorem ok_yes {f : Int → Int} {N : Int} {r : Int → Int} {i : Int} (h1 : ucq (r 64) f N r i = 0) (h2 : ¬ bd f N r 2 i = true) (h3 : ¬ bd f N r 3 i = true) : ok1 f N r i = true := by rw [ok1, decide_eq_true h1]; simp [h2, h3]
theorem amI_1 (lt : Int → Int → Bool) : amI lt 1 = 0 := by
  show (if lt ((0 : Nat) : Int) (am lt 0) = true then ((0 : Nat) : Int) else am lt 0) = 0
  split <;> rfl
