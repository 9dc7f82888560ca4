/-! folds over 0 .. n - 1 -/
def al (p : Int → Bool) : Nat → Bool
  | 0 => true
  | n + 1 => al p n && p (n : Int)
def alI (p : Int → Bool) (n : Int) : Bool := al p n.toNat
theorem alI_0 (p : Int → Bool) : alI p 0 = true := rfl
theorem alI_succ (p : Int → Bool) {n : Int} (h : 0 ≤ n) : alI p (n + 1) = (alI p n && p n) := by
  unfold alI
  rw [show (n + 1).toNat = n.toNat + 1 by omega]
  show (al p n.toNat && p ((n.toNat : Nat) : Int)) = _
  rw [show ((n.toNat : Nat) : Int) = n by omega]
theorem alI_iff (p : Int → Bool) (n : Int) : alI p n = true ↔ ∀ i : Int, 0 ≤ i → i < n → p i = true := by
  have key : ∀ k : Nat, al p k = true ↔ ∀ i : Int, 0 ≤ i → i < (k : Int) → p i = true := by
    intro k
    induction k with
    | zero => exact ⟨fun _ i h0 h1 => by omega, fun _ => rfl⟩
    | succ k ih =>
      show (al p k && p (k : Int)) = true ↔ _
      rw [Bool.and_eq_true, ih]
      constructor
      · intro ⟨a, b⟩ i h0 h1
        rcases (show i < (k : Int) ∨ i = (k : Int) by omega) with q | q
        · exact a i h0 q
        · rw [q]; exact b
      · intro a
        exact ⟨fun i h0 h1 => a i h0 (by omega), a _ (by omega) (by omega)⟩
  unfold alI
  rw [key]
  constructor
  · intro a i h0 h1; exact a i h0 (by omega)
  · intro a i h0 h1; exact a i h0 (by omega)
theorem alI_no {p : Int → Bool} {n i : Int} (h0 : 0 ≤ i) (h1 : i < n) (h : p i = false) : alI p n = false := by
  cases q : alI p n with
  | false => rfl
  | true => rw [(alI_iff p n).mp q i h0 h1] at h; cases h
def ct (p : Int → Bool) : Nat → Int
  | 0 => 0
  | n + 1 => ct p n + (if p (n : Int) = true then 1 else 0)
def ctI (p : Int → Bool) (n : Int) : Int := ct p n.toNat
theorem ctI_succ (p : Int → Bool) {n : Int} (h : 0 ≤ n) : ctI p (n + 1) = ctI p n + (if p n = true then 1 else 0) := by
  unfold ctI
  rw [show (n + 1).toNat = n.toNat + 1 by omega]
  show ct p n.toNat + (if p ((n.toNat : Nat) : Int) = true then 1 else 0) = _
  rw [show ((n.toNat : Nat) : Int) = n by omega]
theorem ctI_rg (p : Int → Bool) {n : Int} (h : 0 ≤ n) : 0 ≤ ctI p n ∧ ctI p n ≤ n := by
  have key : ∀ k : Nat, 0 ≤ ct p k ∧ ct p k ≤ (k : Int) := by
    intro k
    induction k with
    | zero => exact ⟨Int.le_refl 0, Int.le_refl 0⟩
    | succ k ih =>
      show 0 ≤ ct p k + (if p (k : Int) = true then 1 else 0) ∧ ct p k + (if p (k : Int) = true then 1 else 0) ≤ ((k + 1 : Nat) : Int)
      split <;> omega
  have := key n.toNat
  unfold ctI
  omega
def mx (g : Int → Int) : Nat → Int
  | 0 => 0
  | n + 1 => max (mx g n) (ab (g (n : Int)))
def mxI (g : Int → Int) (n : Int) : Int := mx g n.toNat
theorem mxI_0 (g : Int → Int) : mxI g 0 = 0 := rfl
theorem mxI_succ (g : Int → Int) {n : Int} (h : 0 ≤ n) : mxI g (n + 1) = max (mxI g n) (ab (g n)) := by
  unfold mxI
  rw [show (n + 1).toNat = n.toNat + 1 by omega]
  show max (mx g n.toNat) (ab (g ((n.toNat : Nat) : Int))) = _
  rw [show ((n.toNat : Nat) : Int) = n by omega]
theorem mxI_nn (g : Int → Int) (n : Int) : 0 ≤ mxI g n := by
  have key : ∀ k : Nat, 0 ≤ mx g k := by
    intro k
    induction k with
    | zero => exact Int.le_refl 0
    | succ k ih => show 0 ≤ max (mx g k) (ab (g (k : Int))); omega
  exact key _
theorem mxI_le_iff {g : Int → Int} {n B : Int} (hB : 0 ≤ B) : mxI g n ≤ B ↔ ∀ i : Int, 0 ≤ i → i < n → ab (g i) ≤ B := by
  have key : ∀ k : Nat, mx g k ≤ B ↔ ∀ i : Int, 0 ≤ i → i < (k : Int) → ab (g i) ≤ B := by
    intro k
    induction k with
    | zero => exact ⟨fun _ i h0 h1 => by omega, fun _ => hB⟩
    | succ k ih =>
      show max (mx g k) (ab (g (k : Int))) ≤ B ↔ _
      rw [Int.max_le, ih]
      constructor
      · intro ⟨a, b⟩ i h0 h1
        rcases (show i < (k : Int) ∨ i = (k : Int) by omega) with q | q
        · exact a i h0 q
        · rw [q]; exact b
      · intro a
        exact ⟨fun i h0 h1 => a i h0 (by omega), a _ (by omega) (by omega)⟩
  unfold mxI
  rw [key]
  constructor
  · intro a i h0 h1; exact a i h0 (by omega)
  · intro a i h0 h1; exact a i h0 (by omega)
def ff (p : Int → Bool) : Nat → Int
  | 0 => -1
  | n + 1 => if ff p n < 0 then (if p (n : Int) = true then (n : Int) else -1) else ff p n
def ffI (p : Int → Bool) (n : Int) : Int := ff p n.toNat
theorem ffI_succ (p : Int → Bool) {n : Int} (h : 0 ≤ n) : ffI p (n + 1) = if ffI p n < 0 then (if p n = true then n else -1) else ffI p n := by
  unfold ffI
  rw [show (n + 1).toNat = n.toNat + 1 by omega]
  show (if ff p n.toNat < 0 then (if p ((n.toNat : Nat) : Int) = true then ((n.toNat : Nat) : Int) else -1) else ff p n.toNat) = _
  rw [show ((n.toNat : Nat) : Int) = n by omega]
theorem ff_none {p : Int → Bool} : ∀ (k : Nat), (∀ i : Int, 0 ≤ i → i < (k : Int) → p i = false) → ff p k = -1
  | 0, _ => rfl
  | k + 1, h => by
    show (if ff p k < 0 then (if p (k : Int) = true then (k : Int) else -1) else ff p k) = -1
    rw [ff_none k (fun i h0 h1 => h i h0 (by omega)), h (k : Int) (by omega) (by omega)]
    rfl
theorem ff_some {p : Int → Bool} {i : Int} (h0 : 0 ≤ i) (hp : p i = true) (hn : ∀ j : Int, 0 ≤ j → j < i → p j = false) : ∀ (k : Nat), i < (k : Int) → ff p k = i
  | 0, h => by omega
  | k + 1, h => by
    show (if ff p k < 0 then (if p (k : Int) = true then (k : Int) else -1) else ff p k) = i
    rcases (show i < (k : Int) ∨ i = (k : Int) by omega) with q | q
    · rw [ff_some h0 hp hn k q, if_neg (by omega)]
    · rw [ff_none k (fun j j0 j1 => hn j j0 (by omega)), if_pos (by omega), ← q, if_pos hp]
theorem ffI_none {p : Int → Bool} {n : Int} (h : ∀ i : Int, 0 ≤ i → i < n → p i = false) : ffI p n = -1 := ff_none _ (fun i h0 h1 => h i h0 (by omega))
theorem ffI_some {p : Int → Bool} {n i : Int} (h0 : 0 ≤ i) (h1 : i < n) (hp : p i = true) (hn : ∀ j : Int, 0 ≤ j → j < i → p j = false) : ffI p n = i := ff_some h0 hp hn _ (by omega)
def am (lt : Int → Int → Bool) : Nat → Int
  | 0 => 0
  | n + 1 => if lt (n : Int) (am lt n) = true then (n : Int) else am lt n
def amI (lt : Int → Int → Bool) (n : Int) : Int := am lt n.toNat
theorem amI_succ (lt : Int → Int → Bool) {n : Int} (h : 0 ≤ n) : amI lt (n + 1) = if lt n (amI lt n) = true then n else amI lt n := by
  unfold amI
  rw [show (n + 1).toNat = n.toNat + 1 by omega]
  show (if lt ((n.toNat : Nat) : Int) (am lt n.toNat) = true then ((n.toNat : Nat) : Int) else am lt n.toNat) = _
  rw [show ((n.toNat : Nat) : Int) = n by omega]
theorem amI_rg (lt : Int → Int → Bool) {n : Int} (h : 0 < n) : 0 ≤ amI lt n ∧ amI lt n < n := by
  have key : ∀ k : Nat, 0 ≤ am lt k ∧ (am lt k < (k : Int) ∨ am lt k = 0) := by
    intro k
    induction k with
    | zero => exact ⟨Int.le_refl 0, Or.inr rfl⟩
    | succ k ih =>
      show 0 ≤ (if lt (k : Int) (am lt k) = true then (k : Int) else am lt k) ∧ ((if lt (k : Int) (am lt k) = true then (k : Int) else am lt k) < ((k + 1 : Nat) : Int) ∨ (if lt (k : Int) (am lt k) = true then (k : Int) else am lt k) = 0)
      split <;> omega
  have := key n.toNat
  unfold amI
  omega
def sm (g : Int → Int) : Nat → Int
  | 0 => 0
  | n + 1 => sm g n + g (n : Int)
def smI (g : Int → Int) (n : Int) : Int := sm g n.toNat
theorem smI_succ (g : Int → Int) {n : Int} (h : 0 ≤ n) : smI g (n + 1) = smI g n + g n := by
  unfold smI
  rw [show (n + 1).toNat = n.toNat + 1 by omega]
  show sm g n.toNat + g ((n.toNat : Nat) : Int) = _
  rw [show ((n.toNat : Nat) : Int) = n by omega]
/-- the marks that are met, as bits -/
def bt2 (p : Int → Bool) : Nat → Int
  | 0 => 0
  | n + 1 => bt2 p n + (if p (n : Int) = true then 2 ^ n else 0)
def btI (p : Int → Bool) (n : Int) : Int := bt2 p n.toNat
theorem btI_succ (p : Int → Bool) {n : Int} (h : 0 ≤ n) : btI p (n + 1) = btI p n + (if p n = true then 2 ^ n.toNat else 0) := by
  unfold btI
  rw [show (n + 1).toNat = n.toNat + 1 by omega]
  show bt2 p n.toNat + (if p ((n.toNat : Nat) : Int) = true then 2 ^ n.toNat else 0) = _
  rw [show ((n.toNat : Nat) : Int) = n by omega]
theorem bt2_rg (p : Int → Bool) : ∀ k : Nat, 0 ≤ bt2 p k ∧ bt2 p k < 2 ^ k
  | 0 => ⟨Int.le_refl 0, show (0 : Int) < 2 ^ 0 by decide⟩
  | k + 1 => by
    have h := bt2_rg p k
    show 0 ≤ bt2 p k + (if p (k : Int) = true then 2 ^ k else 0) ∧ bt2 p k + (if p (k : Int) = true then 2 ^ k else 0) < 2 ^ (k + 1)
    have e : (2 : Int) ^ (k + 1) = 2 * 2 ^ k := by rw [Int.pow_succ]; omega
    rw [e]
    split <;> omega
theorem bt2_full (p : Int → Bool) : ∀ k : Nat, bt2 p k = 2 ^ k - 1 ↔ al p k = true
  | 0 => ⟨fun _ => rfl, fun _ => rfl⟩
  | k + 1 => by
    have h := bt2_rg p k
    have ih := bt2_full p k
    show bt2 p k + (if p (k : Int) = true then 2 ^ k else 0) = 2 ^ (k + 1) - 1 ↔ (al p k && p (k : Int)) = true
    have e : (2 : Int) ^ (k + 1) = 2 * 2 ^ k := by rw [Int.pow_succ]; omega
    rw [e, Bool.and_eq_true, ← ih]
    by_cases q : p (k : Int) = true
    · rw [if_pos q]; exact ⟨fun a => ⟨by omega, q⟩, fun a => by omega⟩
    · rw [if_neg q]; exact ⟨fun a => by omega, fun a => absurd a.2 q⟩
def DA (σ : St) (b : Nat) (N : Int) (r f : Int → Int) (i : Int) : Prop := ∀ j : Nat, j < 11 → σ (b + 2 + j) i = mval f N r i j
def DR (σ : St) (b : Nat) (N : Int) (r f : Int → Int) : Prop := σ b 2 = N ∧ ∀ i : Int, 0 ≤ i → i < N → DA σ b N r f i
def bd (f : Int → Int) (N : Int) (r : Int → Int) (what i : Int) : Bool := if what = 0 then decide (ucq (r 64) f N r i = 1) else if what = 1 then decide (ucq (r 64) f N r i = 2) else if what = 2 then decide (r 69 < pr f N r i) else decide (fo f N r i < 0)
def mo (f r : Int → Int) (m : Int) : Int := ab (f (r (36 + m)) - r (44 + m))
def mk (f r : Int → Int) (m : Int) : Bool := decide (mo f r m ≤ r (52 + m))
def ok1 (f : Int → Int) (N : Int) (r : Int → Int) (i : Int) : Bool := decide (ucq (r 64) f N r i = 0) && !bd f N r 2 i && !bd f N r 3 i
def ga (f : Int → Int) (N : Int) (r : Int → Int) (i : Int) : Bool := ok1 f N r i && alI (fun m => !decide (r (36 + m) = i) || mk f r m) (r 61)
def gd (f : Int → Int) (N : Int) (r : Int → Int) : Bool := alI (mk f r) (r 61) && alI (ok1 f N r) N
theorem gd_ga {f : Int → Int} {N : Int} {r : Int → Int} (hW : WF N r) : gd f N r = alI (ga f N r) N := by
  have hw := hW.num
  rw [Bool.eq_iff_iff, gd, Bool.and_eq_true, alI_iff, alI_iff, alI_iff]
  constructor
  · intro ⟨a, b⟩ i h0 h1
    rw [ga, Bool.and_eq_true, alI_iff]
    refine ⟨b i h0 h1, fun m m0 m1 => ?_⟩
    rw [Bool.or_eq_true]
    exact Or.inr (a m m0 m1)
  · intro a
    refine ⟨fun m m0 m1 => ?_, fun i h0 h1 => ?_⟩
    · have h := a (r (36 + m)) (hW.ms m0 (by omega)).1 (hW.mN m0 m1)
      rw [ga, Bool.and_eq_true, alI_iff] at h
      have h2 := h.2 m m0 m1
      simpa using h2
    · have h := a i h0 h1
      rw [ga, Bool.and_eq_true] at h
      exact h.1
theorem I_toBV (a : Nat) : (I (a : Int)).toBitVec = BitVec.ofNat 32 a := by
  show BitVec.ofInt 32 (a : Int) = BitVec.ofNat 32 a
  exact BitVec.ofInt_natCast 32 a
theorem I_or (a b : Nat) : I (a : Int) ||| I (b : Int) = I ((a ||| b : Nat) : Int) := by
  apply Int32.toBitVec_inj.mp
  rw [Int32.toBitVec_or, I_toBV, I_toBV, I_toBV]
  exact (BitVec.ofNat_or ..).symm
theorem I_and (a b : Nat) : I (a : Int) &&& I (b : Int) = I ((a &&& b : Nat) : Int) := by
  apply Int32.toBitVec_inj.mp
  rw [Int32.toBitVec_and, I_toBV, I_toBV, I_toBV]
  exact (BitVec.ofNat_and ..).symm
theorem I_shl : ∀ n : Nat, n < 31 → I 1 <<< (I (n : Int) &&& 31) = I ((2 ^ n : Nat) : Int) := by decide +kernel
theorem I_or2 {a b : Int} (n : Nat) (hn : n < 31) (h : 0 ≤ a ∧ a < 2 ^ n) (hb : b = 0 ∨ b = 2 ^ n) : I a ||| I b = I (a + b) := by
  obtain ⟨a', rfl⟩ : ∃ a' : Nat, a = (a' : Int) := ⟨a.toNat, by omega⟩
  have ha : a' < 2 ^ n := by
    have := h.2
    have e : ((2 ^ n : Nat) : Int) = (2 : Int) ^ n := by rw [Int.natCast_pow]; rfl
    omega
  rcases hb with rfl | rfl
  · rw [show (0 : Int) = ((0 : Nat) : Int) from rfl, I_or, Nat.or_zero]
    simp
  · have e : ((2 ^ n : Nat) : Int) = (2 : Int) ^ n := by rw [Int.natCast_pow]; rfl
    rw [← e, I_or]
    congr 1
    have h2 := Nat.two_pow_add_eq_or_of_lt ha 1
    rw [Nat.mul_one, Nat.or_comm] at h2
    omega
theorem I_shr {a : Int} (n : Nat) (hn : n < 31) (h : 0 ≤ a ∧ a < 2147483648) : I a >>> (I (n : Int) &&& 31) = I (a / 2 ^ n) := by
  obtain ⟨a', rfl⟩ : ∃ a' : Nat, a = (a' : Int) := ⟨a.toNat, by omega⟩
  have hs : ∀ n : Nat, n < 31 → ((I (n : Int) &&& 31).toBitVec.smod 32).toNat = n := by decide +kernel
  rw [I_nI, pk_shrN (by omega) _ n (hs n hn), ← I_nI]
  rw [Int.natCast_ediv, Int.natCast_pow]
  rfl
theorem I_and3 {a : Int} (h : 0 ≤ a) : I a &&& I 3 = I (a % 4) := by
  obtain ⟨a', rfl⟩ : ∃ a' : Nat, a = (a' : Int) := ⟨a.toNat, by omega⟩
  rw [show (3 : Int) = ((3 : Nat) : Int) from rfl, I_and]
  rw [show a' &&& 3 = a' % 4 from Nat.and_two_pow_sub_one_eq_mod a' 2]
  rfl
section BI
variable {p : Program} {l : Launch} {e : Env} {R : Room} {s : State} {m : MethodId} {args : Array Value} {below : List Frame} {meth : Method} {c : Code} {H : Heap} {locs : List Loc} {cells slots : Nat} {Q : State → Prop}
variable {cc : ByteArray} {nL pc : Nat} {ls : Array Slot} {rest : List Value} {own : String} {G : GT} {σ : St}
theorem r_shl1 (F : FX G p m c cc nL s args own) {a : Int} (h : 0 ≤ a ∧ a < 31) (hdg : decode cc pc = .ok (.ishl, 1)) (k : W p l e R s m args below meth c H locs cells slots Q (F0 m (pc + 1) ls (.int (I (2 ^ a.toNat)) :: rest))) : W p l e R s m args below meth c H locs cells slots Q (F0 m pc ls (.int (I a) :: .int (I 1) :: rest)) := by
  refine lv_ishl F.1.1 F.1.2.1 hdg ?_
  have e := I_shl a.toNat (by omega)
  rw [show ((a.toNat : Nat) : Int) = a by omega] at e
  rw [e, Int.natCast_pow]
  exact k
theorem r_ior (F : FX G p m c cc nL s args own) {a b : Int} (n : Nat) (hn : n < 31) (h : 0 ≤ a ∧ a < 2 ^ n) (hb : b = 0 ∨ b = 2 ^ n) (hdg : decode cc pc = .ok (.ior, 1)) (k : W p l e R s m args below meth c H locs cells slots Q (F0 m (pc + 1) ls (.int (I (a + b)) :: rest))) : W p l e R s m args below meth c H locs cells slots Q (F0 m pc ls (.int (I b) :: .int (I a) :: rest)) := by
  refine lv_ior F.1.1 F.1.2.1 hdg ?_
  rw [I_or2 n hn h hb]
  exact k
theorem r_ishr (F : FX G p m c cc nL s args own) {a b : Int} (hb : 0 ≤ b ∧ b < 31) (h : 0 ≤ a ∧ a < 2147483648) (hdg : decode cc pc = .ok (.ishr, 1)) (k : W p l e R s m args below meth c H locs cells slots Q (F0 m (pc + 1) ls (.int (I (a / 2 ^ b.toNat)) :: rest))) : W p l e R s m args below meth c H locs cells slots Q (F0 m pc ls (.int (I b) :: .int (I a) :: rest)) := by
  refine lv_ishr F.1.1 F.1.2.1 hdg ?_
  have e := I_shr (a := a) b.toNat (by omega) h
  rw [show ((b.toNat : Nat) : Int) = b by omega] at e
  rw [e]
  exact k
theorem r_and3 (F : FX G p m c cc nL s args own) {a : Int} (h : 0 ≤ a) (hdg : decode cc pc = .ok (.iand, 1)) (k : W p l e R s m args below meth c H locs cells slots Q (F0 m (pc + 1) ls (.int (I (a % 4)) :: rest))) : W p l e R s m args below meth c H locs cells slots Q (F0 m pc ls (.int (I 3) :: .int (I a) :: rest)) := by
  refine lv_iand F.1.1 F.1.2.1 hdg ?_
  rw [I_and3 h]
  exact k
end BI
