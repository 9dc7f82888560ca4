/-! BEST laws: a way w gives each SEGMENT that is no DWELL two bits, the first the highest -/
def wy (r : Int → Int) (w : Int) : Int → Int := fun s => if dwl r s = true then r (24 + s) else (w / 4 ^ (mvI r (r 60) - 1 - mvI r s).toNat) % 4
def wf (r : Int → Int) (w : Int) : Int → Int := lfW r (wy r w)
def wS (N : Int) (r : Int → Int) (w : Int) : Int := mxI (d2 (wf r w) N) N
def wT (N : Int) (r : Int → Int) (w : Int) : Int := mxI (d3 (wf r w) N) N
def wG (N : Int) (r : Int → Int) (w : Int) : Bool := gd (wf r w) N r
def bet (N : Int) (r : Int → Int) (x y : Int) : Bool := if wG N r x != wG N r y then wG N r x else decide (wS N r x < wS N r y ∨ (wS N r x = wS N r y ∧ wT N r x < wT N r y))
def bW (N : Int) (r : Int → Int) : Int := amI (bet N r) (4 ^ (mvI r (r 60)).toNat)
/-- what the choice's cells say of a SEGMENT's law -/
def lo (σ : St) (r : Int → Int) (s : Int) : Int := if dwl r s = true then r (24 + s) else if ffI (fun j => decide (σ 32 j = s)) (σ 31 6) < 0 then 0 else (σ 31 8 / 4 ^ (σ 31 6 - 1 - ffI (fun j => decide (σ 32 j = s)) (σ 31 6)).toNat) % 4
def CD (σ : St) (N : Int) (r : Int → Int) : Prop := 0 ≤ σ 31 6 ∧ σ 31 6 ≤ 6 ∧ 0 ≤ σ 31 8 ∧ σ 31 8 < 4096 ∧ (∀ j : Int, 0 ≤ j → j < σ 31 6 → 0 ≤ σ 32 j ∧ σ 32 j < 12) ∧ (∀ s : Int, 0 ≤ s → s < r 60 → lo σ r s = wy r (bW N r) s) ∧ σ 31 9 = wS N r (bW N r) ∧ σ 31 10 = wT N r (bW N r) ∧ σ 31 11 = (if wG N r (bW N r) = true then 1 else 0)
/-- the class's state: plan, last plans, what is held of both -/
def CX (σ : St) (N : Int) (r : Int → Int) (n : Int) (hs : Int → Int → Int) : Prop := PL σ N r ∧ WF N r ∧ HC σ N n hs ∧ (σ 5 3 = 0 ∨ (σ 5 3 = 1 ∧ whl N r = true ∧ PD σ 5 N r)) ∧ (σ 31 12 = 0 ∨ (σ 31 12 = 1 ∧ whl N r = true ∧ mvI r (r 60) ≤ 6 ∧ CD σ N r))
def KX (σ τ : St) : Prop := ∀ k : Nat, 36 ≤ k → τ k = σ k
theorem HC.of {σ τ : St} {N n : Int} {hs : Int → Int → Int} (h : HC σ N n hs) (e3 : τ 3 = σ 3) (e4 : τ 4 = σ 4) : HC τ N n hs := by
  unfold HC
  rw [e3, e4]
  exact h
theorem CD.of {σ τ : St} {N : Int} {r : Int → Int} (h : CD σ N r) (e1 : τ 31 = σ 31) (e2 : τ 32 = σ 32) : CD τ N r := by
  unfold CD lo
  rw [e1, e2]
  exact h
/-- told anew: nothing held of the old plan -/
theorem CX.told {σ : St} {N : Int} {r : Int → Int} {n : Int} {hs : Int → Int → Int} (hP : PL σ N r) (hW : WF N r) (hH : HC σ N n hs) (h5 : σ 5 3 = 0) (h31 : σ 31 12 = 0) : CX σ N r n hs := ⟨hP, hW, hH, Or.inl h5, Or.inl h31⟩
theorem PD.l {σ : St} {b : Nat} {N : Int} {r : Int → Int} (h : PD σ b N r) (hN : 0 < N) : DR σ b N r (lfI r) := by
  refine ⟨h.1.1, fun i h0 h1 j hj => ?_⟩
  rw [← (h.2.m hN r).1]
  exact h.1.2 i h0 h1 j hj
theorem stv_rg {i : Nat} (hi : i < 5) {k : Int} (hk : 0 ≤ k ∧ k < 12) : 0 ≤ stv i k ∧ stv i k ≤ 99999 := by
  have key : ∀ i : Nat, i < 5 → ∀ j : Nat, j < 12 → 0 ≤ stv i (j : Int) ∧ stv i (j : Int) ≤ 99999 := by decide +kernel
  have h := key i hi k.toNat (by omega)
  rw [show ((k.toNat : Nat) : Int) = k by omega] at h
  exact h
theorem CX.frame {σ τ : St} {N : Int} {r : Int → Int} {n : Int} {hs : Int → Int → Int} (h : CX σ N r n hs) (e : ∀ k : Nat, (k < 5 ∨ 17 < k) → τ k = σ k) (h5 : τ 5 3 = 0 ∨ (τ 5 3 = 1 ∧ whl N r = true ∧ PD τ 5 N r)) : CX τ N r n hs := by
  obtain ⟨a, b, c, -, d⟩ := h
  refine ⟨by unfold PL; rw [e 2 (by omega)]; exact a, b, c.of (e 3 (by omega)) (e 4 (by omega)), h5, ?_⟩
  rw [e 31 (by omega)]
  rcases d with d | d
  · exact Or.inl d
  · exact Or.inr ⟨d.1, d.2.1, d.2.2.1, d.2.2.2.of (e 31 (by omega)) (e 32 (by omega))⟩
