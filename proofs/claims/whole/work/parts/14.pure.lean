/-! the numbers of a profile, out of the lifts f (round N) and what was told r -/
theorem em_lo {n i : Int} (h : -n ≤ i ∧ i < 0) : i % n = i + n := by
  rw [← Int.add_emod_right i n]
  exact Int.emod_eq_of_lt (by omega) (by omega)
theorem em_hi {n i : Int} (h : n ≤ i ∧ i < 2 * n) : i % n = i - n := by
  rw [← Int.sub_emod_right i n]
  exact Int.emod_eq_of_lt (by omega) (by omega)
theorem em_in {n i : Int} (h : 0 ≤ i ∧ i < n) : i % n = i := Int.emod_eq_of_lt h.1 h.2
theorem mrg {a b A B : Int} (ha : -A ≤ a ∧ a ≤ A) (hb : -B ≤ b ∧ b ≤ B) : -(A * B) ≤ a * b ∧ a * b ≤ A * B := by
  have h1 : a.natAbs ≤ A.natAbs := by omega
  have h2 : b.natAbs ≤ B.natAbs := by omega
  have h3 := Nat.mul_le_mul h1 h2
  have e1 : ((a.natAbs * b.natAbs : Nat) : Int) = ((a * b).natAbs : Int) := by rw [Int.natAbs_mul]
  have e2 : ((A.natAbs * B.natAbs : Nat) : Int) = A * B := by
    rw [Int.natCast_mul]
    rw [show ((A.natAbs : Nat) : Int) = A by omega, show ((B.natAbs : Nat) : Int) = B by omega]
  omega
theorem mnn {a b : Int} (ha : 0 ≤ a) (hb : 0 ≤ b) : 0 ≤ a * b := Int.mul_nonneg ha hb
def ab (a : Int) : Int := if a < 0 then -a else a
theorem ab_nn (a : Int) : 0 ≤ ab a ∧ (ab a = a ∨ ab a = -a) := by unfold ab; split <;> omega
def nu (law k n : Int) : Int := if law = 1 then (if 2 * k ≤ n then 2 * k * k else n * n - 2 * (n - k) * (n - k)) else if law = 2 then k * k * k * (10 * n * n - 15 * k * n + 6 * k * k) else if law = 3 then k * k * k * k * (35 * n * n * n - 84 * k * n * n + 70 * k * k * n - 20 * k * k * k) else k
def de (law n : Int) : Int := if law = 1 then n * n else if law = 2 then n * n * n * n * n else if law = 3 then n * n * n * n * n * n * n else n
def rise (law h k n : Int) : Int := (2 * h * nu law k n + de law n) / (2 * de law n)
theorem nude : ∀ law k n : Int, 0 ≤ law → law ≤ 3 → 0 ≤ k → k < n → n ≤ 60 → 0 ≤ nu law k n ∧ nu law k n ≤ de law n ∧ 0 < de law n ∧ de law n ≤ 2799360000000 := by
  have key : (List.range 4).all (fun l => (List.range 61).all (fun n => (List.range n).all (fun k => decide (0 ≤ nu (l : Int) (k : Int) (n : Int) ∧ nu (l : Int) (k : Int) (n : Int) ≤ de (l : Int) (n : Int) ∧ 0 < de (l : Int) (n : Int) ∧ de (l : Int) (n : Int) ≤ 2799360000000)))) = true := by decide +kernel
  intro law k n h1 h2 h3 h4 h5
  have a := List.all_eq_true.mp key law.toNat (List.mem_range.mpr (by omega))
  have b := List.all_eq_true.mp a n.toNat (List.mem_range.mpr (by omega))
  have c := List.all_eq_true.mp b k.toNat (List.mem_range.mpr (by omega))
  have d := of_decide_eq_true c
  rw [show ((law.toNat : Nat) : Int) = law by omega, show ((n.toNat : Nat) : Int) = n by omega, show ((k.toNat : Nat) : Int) = k by omega] at d
  exact d
theorem rise_rg {law h k n a : Int} (h1 : 0 ≤ law ∧ law ≤ 3) (h2 : 0 ≤ k ∧ k < n) (h3 : n ≤ 60) (ha : 0 ≤ a) (hb : 0 ≤ a + h) (hA : a ≤ 999) (hB : a + h ≤ 999) : 0 ≤ a + rise law h k n ∧ a + rise law h k n ≤ 999 := by
  obtain ⟨p1, p2, p3, p4⟩ := nude law k n h1.1 h1.2 h2.1 h2.2 h3
  unfold rise
  generalize nu law k n = u at *
  generalize de law n = d at *
  have lo : -a ≤ (2 * h * u + d) / (2 * d) := by
    rw [Int.le_ediv_iff_mul_le (by omega)]
    rcases Int.le_total 0 h with q | q
    · have e1 := mnn q p1
      have e2 := mnn ha (Int.le_of_lt p3)
      have e3 : -a * (2 * d) = -2 * (a * d) := by grind
      have e4 : 2 * h * u = 2 * (h * u) := by grind
      omega
    · have e1 := mnn (show 0 ≤ -h by omega) (show 0 ≤ d - u by omega)
      have e2 := mnn hb (Int.le_of_lt p3)
      have e3 : -a * (2 * d) = -2 * (a * d) := by grind
      have e4 : 2 * h * u = 2 * (h * u) := by grind
      have e5 : -h * (d - u) = -(h * d) + h * u := by grind
      have e6 : (a + h) * d = a * d + h * d := by grind
      omega
  have hi : (2 * h * u + d) / (2 * d) < 999 - a + 1 := by
    rw [Int.ediv_lt_iff_lt_mul (by omega)]
    rcases Int.le_total 0 h with q | q
    · have e1 := mnn q (show 0 ≤ d - u by omega)
      have e2 := mnn (show 0 ≤ 999 - a - h by omega) (Int.le_of_lt p3)
      have e3 : (999 - a + 1) * (2 * d) = 2 * ((999 - a - h) * d) + 2 * (h * d) + 2 * d := by grind
      have e5 : h * (d - u) = h * d - h * u := by grind
      have e4 : 2 * h * u = 2 * (h * u) := by grind
      omega
    · have e1 := mnn (show 0 ≤ -h by omega) p1
      have e2 := mnn (show 0 ≤ 999 - a by omega) (Int.le_of_lt p3)
      have e3 : (999 - a + 1) * (2 * d) = 2 * ((999 - a) * d) + 2 * d := by grind
      have e4 : 2 * h * u = -(2 * (-h * u)) := by grind
      omega
  omega
def lw (f : Int → Int) (N j : Int) : Int := f (j % N)
def d1 (f : Int → Int) (N i : Int) : Int := lw f N (i + 1) - lw f N i
def d2 (f : Int → Int) (N i : Int) : Int := lw f N (i + 1) - 2 * lw f N i + lw f N (i - 1)
def d3 (f : Int → Int) (N i : Int) : Int := (lw f N (i + 2) - 2 * lw f N (i + 1) + lw f N i) - d2 f N i
def vV (f : Int → Int) (N i : Int) : Int := (lw f N (i + 1) - lw f N (i - 1)) * 113 * N / 1420
def vA (f : Int → Int) (N i : Int) : Int := d2 f N i * 12769 * N * N / 504100
def fa (f : Int → Int) (N : Int) (r : Int → Int) (i : Int) : Int := r 63 + r 64 + lw f N i
def bn (x v a : Int) : Int := x * x + 2 * v * v - x * a
def uc (q s b : Int) : Int := if b ≤ 0 then 0 else if 2097151 < s ∨ 3037000499 < q * b then 2 else if s * s * s < q * b * (q * b) then 1 else 0
def ucq (q : Int) (f : Int → Int) (N : Int) (r : Int → Int) (i : Int) : Int := uc q ((r 63 + q + lw f N i) * (r 63 + q + lw f N i) + vV f N i * vV f N i) (bn (r 63 + q + lw f N i) (vV f N i) (vA f N i))
def pr (f : Int → Int) (N : Int) (r : Int → Int) (i : Int) : Int := 1000 * ab (vV f N i) / fa f N r i
def rs (f : Int → Int) (N : Int) (r : Int → Int) (i : Int) : Int := r 65 + r 66 * lw f N i
def fo (f : Int → Int) (N : Int) (r : Int → Int) (i : Int) : Int := rs f N r i + r 67 * r 68 * r 68 * d2 f N i / 1000
/-- the lifts lie where they may -/
def LR (f : Int → Int) (N : Int) : Prop := ∀ j : Int, 0 ≤ j → j < N → 0 ≤ f j ∧ f j ≤ 999
theorem LR.w {f : Int → Int} {N : Int} (h : LR f N) (hN : 0 < N) (j : Int) : 0 ≤ lw f N j ∧ lw f N j ≤ 999 := h _ (Int.emod_nonneg j (by omega)) (Int.emod_lt_of_pos j hN)
theorem LR.d {f : Int → Int} {N : Int} (h : LR f N) (hN : 0 < N) (i : Int) : (-999 ≤ d1 f N i ∧ d1 f N i ≤ 999) ∧ (-1998 ≤ d2 f N i ∧ d2 f N i ≤ 1998) ∧ (-3996 ≤ d3 f N i ∧ d3 f N i ≤ 3996) := by
  have h0 := LR.w h hN i
  have h1 := LR.w h hN (i + 1)
  have h2 := LR.w h hN (i - 1)
  have h3 := LR.w h hN (i + 2)
  unfold d3 d1 d2
  omega
theorem LR.v {f : Int → Int} {N : Int} (h : LR f N) (hN : 24 ≤ N ∧ N ≤ 120) (i : Int) : (-13546440 ≤ (lw f N (i + 1) - lw f N (i - 1)) * 113 * N ∧ (lw f N (i + 1) - lw f N (i - 1)) * 113 * N ≤ 13546440) ∧ (-9540 ≤ vV f N i ∧ vV f N i ≤ 9540) ∧ (-367379712000 ≤ d2 f N i * 12769 * N * N ∧ d2 f N i * 12769 * N * N ≤ 367379712000) ∧ (-728784 ≤ vA f N i ∧ vA f N i ≤ 728784) := by
  have h1 := LR.w h (by omega) (i + 1)
  have h2 := LR.w h (by omega) (i - 1)
  have h3 := (LR.d h (by omega) i).2.1
  have a := mrg (A := 112887) (B := 120) (a := (lw f N (i + 1) - lw f N (i - 1)) * 113) (b := N) (by omega) (by omega)
  have b1 := mrg (A := 25512462) (B := 120) (a := d2 f N i * 12769) (b := N) (by omega) (by omega)
  have b2 := mrg (A := 3061495440) (B := 120) (a := d2 f N i * 12769 * N) (b := N) (by omega) (by omega)
  unfold vV vA
  omega
theorem J_xor {a b : Int} (ha : -9223372036854775808 ≤ a ∧ a < 9223372036854775808) (hb : -9223372036854775808 ≤ b ∧ b < 9223372036854775808) : ∃ z : Int, J a ^^^ J b = J z ∧ (-9223372036854775808 ≤ z ∧ z < 9223372036854775808) ∧ (z < 0 ↔ ¬ (a < 0 ↔ b < 0)) := by
  refine ⟨(J a ^^^ J b).toInt, J_of _, ⟨by have := Int64.le_toInt (J a ^^^ J b); omega, by have := Int64.toInt_lt (J a ^^^ J b); omega⟩, ?_⟩
  have key : ∀ x : Int64, x.toInt < 0 ↔ x.toBitVec.msb = true := by
    intro x
    show x.toBitVec.toInt < 0 ↔ _
    rw [BitVec.msb_eq_toInt]
    simp
  have e : (J a ^^^ J b).toBitVec.msb = ((J a).toBitVec.msb ^^ (J b).toBitVec.msb) := by
    show ((J a).toBitVec ^^^ (J b).toBitVec).msb = _
    rw [BitVec.msb_xor]
  rw [key, e]
  have h1 := key (J a)
  have h2 := key (J b)
  rw [J_int ha] at h1
  rw [J_int hb] at h2
  cases h3 : (J a).toBitVec.msb <;> cases h4 : (J b).toBitVec.msb <;> simp_all <;> omega
section LX
variable {p : Program} {l : Launch} {e : Env} {R : Room} {s : State} {m : MethodId} {args : Array Value} {below : List Frame} {meth : Method} {c : Code} {H : Heap} {locs : List Loc} {cells slots : Nat} {Q : State → Prop}
variable {cc : ByteArray} {nL pc : Nat} {ls : Array Slot} {rest : List Value} {own : String} {G : GT} {σ : St}
theorem r_lxor (F : FX G p m c cc nL s args own) {a b : Int} (ha : -9223372036854775808 ≤ a ∧ a < 9223372036854775808) (hb : -9223372036854775808 ≤ b ∧ b < 9223372036854775808) (hdg : decode cc pc = .ok (.lxor, 1)) (k : ∀ z : Int, (-9223372036854775808 ≤ z ∧ z < 9223372036854775808) → (z < 0 ↔ ¬ (a < 0 ↔ b < 0)) → W p l e R s m args below meth c H locs cells slots Q (F0 m (pc + 1) ls (.long (J z) :: rest))) : W p l e R s m args below meth c H locs cells slots Q (F0 m pc ls (.long (J b) :: .long (J a) :: rest)) := by
  refine lv_lxor F.1.1 F.1.2.1 hdg ?_
  obtain ⟨z, hz, h1, h2⟩ := J_xor ha hb
  rw [hz]
  exact k z h1 h2
end LX
theorem td_nn {a b : Int} (ha : 0 ≤ a) : a.tdiv b = a / b := Int.tdiv_eq_ediv_of_nonneg ha
theorem td_neg {a b : Int} (ha : a < 0) (hb : 0 < b) : (a.tdiv b * b = a → a.tdiv b = a / b) ∧ (a.tdiv b * b ≠ a → a.tdiv b - 1 = a / b) := by
  have h1 := Int.tmod_add_mul_tdiv a b
  have h2 : -b < a.tmod b := Int.lt_tmod_of_pos a hb
  have h3 := Int.tmod_nonneg b (show 0 ≤ -a by omega)
  rw [Int.neg_tmod] at h3
  rw [Int.mul_comm] at h1
  generalize a.tdiv b = q at *
  generalize a.tmod b = t at *
  refine ⟨fun h => ?_, fun h => ?_⟩
  · rw [← h, Int.mul_ediv_cancel _ (by omega)]
  · have e : a = (t + b) + b * (q - 1) := by grind
    rw [e, Int.add_mul_ediv_left _ _ (by omega : b ≠ 0), Int.ediv_eq_zero_of_lt (by omega) (by omega)]
    omega
