/-! what a profile holds of a STEP -/
def mval (f : Int → Int) (N : Int) (r : Int → Int) (i : Int) (j : Nat) : Int := match j with
  | 1 => d1 f N i
  | 2 => d2 f N i
  | 3 => d3 f N i
  | 4 => fa f N r i
  | 5 => vV f N i
  | 6 => vA f N i
  | 7 => bn (fa f N r i) (vV f N i) (vA f N i)
  | 8 => ucq (r 64) f N r i
  | 9 => pr f N r i
  | 10 => fo f N r i
  | _ => lw f N i
def msr (σ : St) (b : Nat) (N : Int) (r f : Int → Int) (i : Int) : St := fun k => if b + 3 ≤ k ∧ k ≤ b + 12 then upI (σ k) i (mval f N r i (k - (b + 2))) else σ k
theorem up_ne {σ : St} {k j : Nat} {g : Int → Int} (h : j ≠ k) : up σ k g j = σ j := if_neg h
theorem up_eq {σ : St} {k : Nat} {g : Int → Int} : up σ k g k = g := if_pos rfl
theorem upI_eq {f : Int → Int} {i v : Int} : upI f i v i = v := if_pos rfl
theorem upI_ne {f : Int → Int} {i j v : Int} (h : j ≠ i) : upI f i v j = f j := if_neg h
theorem fa_rg {f : Int → Int} {N : Int} {r : Int → Int} (hW : WF N r) (hL : LR f N) (i : Int) : 11 ≤ fa f N r i ∧ fa f N r i ≤ 20997 := by
  have hw := hW.num
  have h := LR.w hL (by omega) i
  unfold fa
  omega
/-- the ranges of what undercutOf is asked -/
theorem uc_rg {x v a : Int} (hx : 0 ≤ x ∧ x ≤ 20997) (hv : -9540 ≤ v ∧ v ≤ 9540) (ha : -728784 ≤ a ∧ a ≤ 728784) : (0 ≤ x * x + v * v ∧ x * x + v * v < 1000000000000000) ∧ (-900000000000000 ≤ bn x v a ∧ bn x v a ≤ 900000000000000) := by
  have h1 := mrg (A := 20997) (B := 20997) (a := x) (b := x) (by omega) (by omega)
  have h2 := mrg (A := 9540) (B := 9540) (a := v) (b := v) (by omega) (by omega)
  have h3 := mrg (A := 20997) (B := 728784) (a := x) (b := a) (by omega) (by omega)
  have h4 := mnn hx.1 hx.1
  have h5 : 0 ≤ v * v := by rcases Int.le_total 0 v with q | q; exact mnn q q; have := mnn (show 0 ≤ -v by omega) (show 0 ≤ -v by omega); rwa [Int.neg_mul_neg] at this
  have h6 : bn x v a = x * x + 2 * (v * v) - x * a := by unfold bn; grind
  rw [h6]
  omega
theorem fo_rg {f : Int → Int} {N : Int} {r : Int → Int} (hW : WF N r) (hL : LR f N) (i : Int) : (0 ≤ rs f N r i ∧ rs f N r i ≤ 1098000) ∧ (-200000000000000 ≤ r 67 * r 68 * r 68 * d2 f N i ∧ r 67 * r 68 * r 68 * d2 f N i ≤ 200000000000000) ∧ (-201000000000 ≤ fo f N r i ∧ fo f N r i ≤ 201000000000) := by
  have hw := hW.num
  have h := LR.w hL (by omega) i
  have h1 := mrg (A := 999) (B := 999) (a := r 66) (b := lw f N i) (by omega) (by omega)
  have h1' := mnn (a := r 66) (b := lw f N i) (by omega) (by omega)
  have h2 := (LR.d hL (by omega) i).2.1
  have h3 := mrg (A := 999) (B := 9999) (a := r 67) (b := r 68) (by omega) (by omega)
  have h4 := mrg (A := 9989001) (B := 9999) (a := r 67 * r 68) (b := r 68) (by omega) (by omega)
  have h5 := mrg (A := 99880020999) (B := 1998) (a := r 67 * r 68 * r 68) (b := d2 f N i) (by omega) (by omega)
  unfold fo rs
  omega
theorem pr_rg {f : Int → Int} {N : Int} {r : Int → Int} (hW : WF N r) (hL : LR f N) (i : Int) : 0 ≤ pr f N r i ∧ pr f N r i ≤ 867273 := by
  have hw := hW.num
  have h := fa_rg hW hL i
  have h2 := (LR.v hL (by omega) i).2.1
  have h3 := ab_nn (vV f N i)
  unfold pr
  have e0 : 0 ≤ 1000 * ab (vV f N i) / fa f N r i := Int.ediv_nonneg (by omega) (by omega)
  have e1 : 1000 * ab (vV f N i) / fa f N r i < 867273 + 1 := by
    rw [Int.ediv_lt_iff_lt_mul (by omega)]
    omega
  omega
theorem uc_012 (q s b : Int) : uc q s b = 0 ∨ uc q s b = 1 ∨ uc q s b = 2 := by unfold uc; split; omega; split; omega; split <;> omega
