/-! THE CAM as numbers: N STEPS, r the told numbers (LONG 0.., END 12.., LAW 24.., STEP 36.., LIFT 44.., NEAR 52.., 60 SEGMENTS, 61 MARKS, 62 START, 63 BASE .. 70 SLACK) -/
def bg (r : Int → Int) : Nat → Int
  | 0 => 0
  | n + 1 => bg r n + r (n : Int)
def bgI (r : Int → Int) (s : Int) : Int := bg r s.toNat
theorem bgI_0 (r : Int → Int) : bgI r 0 = 0 := rfl
theorem bgI_succ (r : Int → Int) {s : Int} (h : 0 ≤ s) : bgI r (s + 1) = bgI r s + r s := by
  unfold bgI
  rw [show (s + 1).toNat = s.toNat + 1 by omega]
  show bg r s.toNat + r ((s.toNat : Nat) : Int) = _
  rw [show ((s.toNat : Nat) : Int) = s by omega]
def og (r : Int → Int) (s : Int) : Int := if s = 0 then r 62 else r (12 + (s - 1))
def dwl (r : Int → Int) (s : Int) : Bool := decide (r (12 + s) = og r s)
def mv (r : Int → Int) : Nat → Int
  | 0 => 0
  | n + 1 => mv r n + (if dwl r (n : Int) = true then 0 else 1)
def mvI (r : Int → Int) (s : Int) : Int := mv r s.toNat
theorem mvI_succ (r : Int → Int) {s : Int} (h : 0 ≤ s) : mvI r (s + 1) = mvI r s + (if dwl r s = true then 0 else 1) := by
  unfold mvI
  rw [show (s + 1).toNat = s.toNat + 1 by omega]
  show mv r s.toNat + (if dwl r ((s.toNat : Nat) : Int) = true then 0 else 1) = _
  rw [show ((s.toNat : Nat) : Int) = s by omega]
def whl (N : Int) (r : Int → Int) : Bool := decide (0 < r 60 ∧ bgI r (r 60) = N ∧ r (12 + (r 60 - 1)) = r 62)
theorem whl_iff {N : Int} {r : Int → Int} : whl N r = true ↔ (0 < r 60 ∧ bgI r (r 60) = N ∧ r (12 + (r 60 - 1)) = r 62) := by unfold whl; exact decide_eq_true_iff
/-- the numbers lie where they may -/
def WF (N : Int) (r : Int → Int) : Prop := (24 ≤ N ∧ N ≤ 120 ∧ 0 ≤ r 60 ∧ r 60 ≤ 12 ∧ 0 ≤ r 61 ∧ r 61 ≤ 8 ∧ 0 ≤ r 62 ∧ r 62 ≤ 999 ∧ 10 ≤ r 63 ∧ r 63 ≤ 9999 ∧ 1 ≤ r 64 ∧ r 64 ≤ 9999 ∧ 0 ≤ r 65 ∧ r 65 ≤ 99999 ∧ 0 ≤ r 66 ∧ r 66 ≤ 999 ∧ 1 ≤ r 67 ∧ r 67 ≤ 999 ∧ 0 ≤ r 68 ∧ r 68 ≤ 9999 ∧ 0 ≤ r 69 ∧ r 69 ≤ 9999 ∧ 0 ≤ r 70 ∧ r 70 ≤ 99) ∧
  (∀ i : Int, 0 ≤ i → i < 12 → 0 ≤ r i ∧ r i ≤ 60) ∧ (∀ i : Int, 0 ≤ i → i < r 60 → 1 ≤ r i) ∧ (∀ i : Int, 0 ≤ i → i < 12 → 0 ≤ r (12 + i) ∧ r (12 + i) ≤ 999) ∧ (∀ i : Int, 0 ≤ i → i < 12 → 0 ≤ r (24 + i) ∧ r (24 + i) ≤ 3) ∧
  (∀ i : Int, 0 ≤ i → i < 8 → 0 ≤ r (36 + i) ∧ r (36 + i) ≤ 119) ∧ (∀ i : Int, 0 ≤ i → i < r 61 → r (36 + i) < N) ∧ (∀ i : Int, 0 ≤ i → i < 8 → 0 ≤ r (44 + i) ∧ r (44 + i) ≤ 999) ∧ (∀ i : Int, 0 ≤ i → i < 8 → 0 ≤ r (52 + i) ∧ r (52 + i) ≤ 99)
theorem WF.num {N : Int} {r : Int → Int} (h : WF N r) : 24 ≤ N ∧ N ≤ 120 ∧ 0 ≤ r 60 ∧ r 60 ≤ 12 ∧ 0 ≤ r 61 ∧ r 61 ≤ 8 ∧ 0 ≤ r 62 ∧ r 62 ≤ 999 ∧ 10 ≤ r 63 ∧ r 63 ≤ 9999 ∧ 1 ≤ r 64 ∧ r 64 ≤ 9999 ∧ 0 ≤ r 65 ∧ r 65 ≤ 99999 ∧ 0 ≤ r 66 ∧ r 66 ≤ 999 ∧ 1 ≤ r 67 ∧ r 67 ≤ 999 ∧ 0 ≤ r 68 ∧ r 68 ≤ 9999 ∧ 0 ≤ r 69 ∧ r 69 ≤ 9999 ∧ 0 ≤ r 70 ∧ r 70 ≤ 99 := h.1
theorem WF.lo {N : Int} {r : Int → Int} (h : WF N r) {i : Int} (h0 : 0 ≤ i) (h1 : i < 12) : 0 ≤ r i ∧ r i ≤ 60 := h.2.1 i h0 h1
theorem WF.lo1 {N : Int} {r : Int → Int} (h : WF N r) {i : Int} (h0 : 0 ≤ i) (h1 : i < r 60) : 1 ≤ r i := h.2.2.1 i h0 h1
theorem WF.en {N : Int} {r : Int → Int} (h : WF N r) {i : Int} (h0 : 0 ≤ i) (h1 : i < 12) : 0 ≤ r (12 + i) ∧ r (12 + i) ≤ 999 := h.2.2.2.1 i h0 h1
theorem WF.la {N : Int} {r : Int → Int} (h : WF N r) {i : Int} (h0 : 0 ≤ i) (h1 : i < 12) : 0 ≤ r (24 + i) ∧ r (24 + i) ≤ 3 := h.2.2.2.2.1 i h0 h1
theorem WF.ms {N : Int} {r : Int → Int} (h : WF N r) {i : Int} (h0 : 0 ≤ i) (h1 : i < 8) : 0 ≤ r (36 + i) ∧ r (36 + i) ≤ 119 := h.2.2.2.2.2.1 i h0 h1
theorem WF.mN {N : Int} {r : Int → Int} (h : WF N r) {i : Int} (h0 : 0 ≤ i) (h1 : i < r 61) : r (36 + i) < N := h.2.2.2.2.2.2.1 i h0 h1
theorem WF.ml {N : Int} {r : Int → Int} (h : WF N r) {i : Int} (h0 : 0 ≤ i) (h1 : i < 8) : 0 ≤ r (44 + i) ∧ r (44 + i) ≤ 999 := h.2.2.2.2.2.2.2.1 i h0 h1
theorem WF.mn {N : Int} {r : Int → Int} (h : WF N r) {i : Int} (h0 : 0 ≤ i) (h1 : i < 8) : 0 ≤ r (52 + i) ∧ r (52 + i) ≤ 99 := h.2.2.2.2.2.2.2.2 i h0 h1
theorem WF.ogr {N : Int} {r : Int → Int} (h : WF N r) {s : Int} (h0 : 0 ≤ s) (h1 : s < 12) : 0 ≤ og r s ∧ og r s ≤ 999 := by
  unfold og
  have := h.num
  split
  · omega
  · exact h.en (by omega) (by omega)
theorem WF.bgr {N : Int} {r : Int → Int} (h : WF N r) {s : Int} (h0 : 0 ≤ s) (h1 : s ≤ 12) : 0 ≤ bgI r s ∧ bgI r s ≤ 60 * s := by
  have key : ∀ n : Nat, n ≤ 12 → 0 ≤ bg r n ∧ bg r n ≤ 60 * (n : Int) := by
    intro n
    induction n with
    | zero => intro _; exact ⟨Int.le_refl 0, Int.le_refl 0⟩
    | succ n ih =>
      intro hn
      have a := ih (by omega)
      have b := h.lo (i := (n : Int)) (by omega) (by omega)
      show 0 ≤ bg r n + r n ∧ bg r n + r n ≤ 60 * ((n + 1 : Nat) : Int)
      omega
  have a := key s.toNat (by omega)
  unfold bgI
  omega
theorem mvI_rg (r : Int → Int) {s : Int} (h0 : 0 ≤ s) : 0 ≤ mvI r s ∧ mvI r s ≤ s := by
  have key : ∀ n : Nat, 0 ≤ mv r n ∧ mv r n ≤ (n : Int) := by
    intro n
    induction n with
    | zero => exact ⟨Int.le_refl 0, Int.le_refl 0⟩
    | succ n ih =>
      show 0 ≤ mv r n + (if dwl r (n : Int) = true then 0 else 1) ∧ mv r n + (if dwl r (n : Int) = true then 0 else 1) ≤ ((n + 1 : Nat) : Int)
      split <;> omega
  have a := key s.toNat
  unfold mvI
  omega
/-- the class's plan tells this cam -/
def PLf (f : Int → Int) (N : Int) (r : Int → Int) : Prop := (f 0 = N ∧ f 1 = r 60 ∧ f 11 = r 61) ∧ (∀ k : Int, 2 ≤ k → k ≤ 10 → f k = r (60 + k)) ∧ (∀ i : Int, 0 ≤ i → i < 12 → f (12 + 3 * i + 0) = r i ∧ f (12 + 3 * i + 1) = r (12 + i) ∧ f (12 + 3 * i + 2) = r (24 + i)) ∧ (∀ i : Int, 0 ≤ i → i < 8 → f (48 + 3 * i + 0) = r (36 + i) ∧ f (48 + 3 * i + 1) = r (44 + i) ∧ f (48 + 3 * i + 2) = r (52 + i))
def PL (σ : St) (N : Int) (r : Int → Int) : Prop := PLf (σ 2) N r
theorem PL.st {σ : St} {N : Int} {r : Int → Int} (h : PL σ N r) : σ 2 0 = N := h.1.1
theorem PL.se {σ : St} {N : Int} {r : Int → Int} (h : PL σ N r) : σ 2 1 = r 60 := h.1.2.1
theorem PL.ma {σ : St} {N : Int} {r : Int → Int} (h : PL σ N r) : σ 2 11 = r 61 := h.1.2.2
theorem PL.set {σ : St} {N : Int} {r : Int → Int} (h : PL σ N r) (k : Int) (h0 : 2 ≤ k) (h1 : k ≤ 10) : σ 2 k = r (60 + k) := h.2.1 k h0 h1
theorem PL.lo {σ : St} {N : Int} {r : Int → Int} (h : PL σ N r) {i : Int} (h0 : 0 ≤ i) (h1 : i < 12) : σ 2 (12 + 3 * i + 0) = r i := (h.2.2.1 i h0 h1).1
theorem PL.en {σ : St} {N : Int} {r : Int → Int} (h : PL σ N r) {i : Int} (h0 : 0 ≤ i) (h1 : i < 12) : σ 2 (12 + 3 * i + 1) = r (12 + i) := (h.2.2.1 i h0 h1).2.1
theorem PL.la {σ : St} {N : Int} {r : Int → Int} (h : PL σ N r) {i : Int} (h0 : 0 ≤ i) (h1 : i < 12) : σ 2 (12 + 3 * i + 2) = r (24 + i) := (h.2.2.1 i h0 h1).2.2
theorem PL.ms {σ : St} {N : Int} {r : Int → Int} (h : PL σ N r) {i : Int} (h0 : 0 ≤ i) (h1 : i < 8) : σ 2 (48 + 3 * i + 0) = r (36 + i) := (h.2.2.2 i h0 h1).1
theorem PL.ml {σ : St} {N : Int} {r : Int → Int} (h : PL σ N r) {i : Int} (h0 : 0 ≤ i) (h1 : i < 8) : σ 2 (48 + 3 * i + 1) = r (44 + i) := (h.2.2.2 i h0 h1).2.1
theorem PL.mn {σ : St} {N : Int} {r : Int → Int} (h : PL σ N r) {i : Int} (h0 : 0 ≤ i) (h1 : i < 8) : σ 2 (48 + 3 * i + 2) = r (52 + i) := (h.2.2.2 i h0 h1).2.2
theorem hb43 {b : Nat} (hb : b = 5 ∨ b = 18) : b < 43 := by omega
theorem hb44 {b : Nat} (hb : b = 5 ∨ b = 18) : b + 1 < 43 := by omega
theorem hbL {b : Nat} (hb : b = 5 ∨ b = 18) {j : Nat} (h : j < 11) : b + 2 + j < 43 := by omega
theorem nzb {v : Int} (h : v = 0 ∨ v = 1) : narrow .boolean (.int (I v)) = .int (I v) := by rcases h with rfl | rfl <;> rfl
theorem nzf {v : Int} (h : v = 0 ∨ v = 1) : fits .boolean (.int (I v)) = true := by rcases h with rfl | rfl <;> rfl
section BZ
variable {p : Program} {l : Launch} {e : Env} {R : Room} {s : State} {m : MethodId} {args : Array Value} {below : List Frame} {meth : Method} {c : Code} {H : Heap} {locs : List Loc} {cells slots : Nat} {Q : State → Prop}
variable {cc : ByteArray} {nL pc : Nat} {ls : Array Slot} {rest : List Value} {own : String} {G : GT} {σ : St}
theorem r_bz_eq (F : FX G p m c cc nL s args own) {off : Int} (tgt : Nat) {a : Int} (C : Prop) {h : Decidable C} (ha : a = if C then 1 else 0) (ht : (pc : Int) + off = (tgt : Int)) (hdg : decode cc pc = .ok (.ifCond .eq off, 3)) (kt : ¬ C → W p l e R s m args below meth c H locs cells slots Q (F0 m tgt ls rest)) (kf : C → W p l e R s m args below meth c H locs cells slots Q (F0 m (pc + 3) ls rest)) : W p l e R s m args below meth c H locs cells slots Q (F0 m pc ls (.int (I a) :: rest)) := by
  subst ha
  refine r_if_eq F tgt ht (by split <;> omega) hdg (fun q => kt ?_) (fun q => kf ?_)
  · intro hc; rw [if_pos hc] at q; omega
  · exact Decidable.byContradiction (fun hc => q (if_neg hc))
theorem r_bz_ne (F : FX G p m c cc nL s args own) {off : Int} (tgt : Nat) {a : Int} (C : Prop) {h : Decidable C} (ha : a = if C then 1 else 0) (ht : (pc : Int) + off = (tgt : Int)) (hdg : decode cc pc = .ok (.ifCond .ne off, 3)) (kt : C → W p l e R s m args below meth c H locs cells slots Q (F0 m tgt ls rest)) (kf : ¬ C → W p l e R s m args below meth c H locs cells slots Q (F0 m (pc + 3) ls rest)) : W p l e R s m args below meth c H locs cells slots Q (F0 m pc ls (.int (I a) :: rest)) := by
  subst ha
  refine r_if_ne F tgt ht (by split <;> omega) hdg (fun q => kt ?_) (fun q => kf ?_)
  · exact Decidable.byContradiction (fun hc => q (if_neg hc))
  · intro hc; rw [if_pos hc] at q; omega
end BZ
