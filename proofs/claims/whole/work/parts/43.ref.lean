def MBR (σ : St) : Prop := (0 ≤ σ 36 9 ∧ σ 36 9 ≤ 3996) ∧ (0 ≤ σ 36 10 ∧ σ 36 10 ≤ 3996) ∧ (σ 36 8 = 0 ∨ σ 36 8 = 1)
def BB (σ : St) (N : Int) (r : Int → Int) (b : Int) : Prop := σ 36 9 = wS N r b ∧ σ 36 10 = wT N r b ∧ σ 36 8 = (if wG N r b = true then 1 else 0) ∧ ∀ s : Int, 0 ≤ s → s < r 60 → σ 41 s = wy r b s
theorem am_take {N : Int} {r : Int → Int} {x : Int} (h0 : 0 ≤ x) (h : x = 0 ∨ bet N r x (amI (bet N r) x) = true) : amI (bet N r) (x + 1) = x := by
  rcases h with q | q
  · rw [q]; exact amI_1 _
  · rw [amI_succ _ h0, if_pos q]
theorem am_skip {N : Int} {r : Int → Int} {x : Int} (h0 : 0 ≤ x) (h : ¬ bet N r x (amI (bet N r) x) = true) : amI (bet N r) (x + 1) = amI (bet N r) x := by rw [amI_succ _ h0, if_neg h]
theorem bet_or {N : Int} {r : Int → Int} {x y g1 s1 t1 : Int} (h1 : s1 = wS N r y) (h2 : t1 = wT N r y) (h3 : g1 = (if wG N r y = true then 1 else 0)) : bet N r x y = true ↔ (((if wG N r x = true then 1 else 0) ≠ g1 ∧ wG N r x = true) ∨ ((if wG N r x = true then 1 else 0) = g1 ∧ (wS N r x < s1 ∨ (wS N r x = s1 ∧ wT N r x < t1)))) := by
  subst h1 h2 h3
  unfold bet
  cases hx : wG N r x <;> cases hy : wG N r y <;> simp
def fr (f : Int → Int) (N : Int) (r : Int → Int) (w i : Int) : Bool := if w = 0 then decide (ucq (r 64) f N r i = 0) else !bd f N r w i
theorem al_stop {p : Int → Bool} {i N : Int} (h0 : 0 ≤ i) (h1 : i ≤ N) (h : i = N ∨ ¬ alI p i = true) : (if alI p i = true then (1 : Int) else 0) = (if alI p N = true then 1 else 0) := by
  rcases h with q | q
  · rw [q]
  · rw [if_neg q]
    refine (if_neg (fun z => q ?_)).symm
    rw [alI_iff]
    exact fun j a b => (alI_iff _ _).mp z j a (by omega)
theorem free_back {σ σ1 σ2 : St} {r : Int → Int} {a v : Int} (hr : σ 37 = r) (e1 : σ1 = up σ 37 (upI (σ 37) a v)) (e2 : σ2 = up σ1 37 (upI (σ1 37) a (r a))) : σ2 = σ := by
  rw [e2, e1, up_eq, up_up]
  have : upI (upI (σ 37) a v) a (r a) = σ 37 := by
    funext i; unfold upI
    by_cases q : i = a
    · rw [if_pos q, q, hr]
    · rw [if_neg q, if_neg q]
  rw [this, up_self]
theorem div_sw {A S X : Int} (hS : 0 ≤ S) (hX : 0 < X) : ¬ S < A / X ↔ A / (S + 1) < X := by
  have a1 : A / (S + 1) < X ↔ A < X * (S + 1) := Int.ediv_lt_iff_lt_mul (by omega)
  have b1 : A / X < S + 1 ↔ A < (S + 1) * X := Int.ediv_lt_iff_lt_mul hX
  rw [Int.mul_comm] at b1
  omega
theorem lb_pr {f : Int → Int} {N : Int} {r : Int → Int} (hW : WF N r) (hL : LR f N) {v : Int} (hv : 10 ≤ v ∧ v ≤ 9999) : alI (fr f N (upI r 63 v) 2) N = true ↔ lbI f N r N ≤ v := by
  have hn := hW.num
  rw [alI_iff, lbI_le]
  have key : ∀ i : Int, (fr f N (upI r 63 v) 2 i = true ↔ lbf f N r i ≤ v) := by
    intro i
    have hlw := hL.w (show 0 < N by omega) i
    have hab := (ab_nn (vV f N i)).1
    have e : fr f N (upI r 63 v) 2 i = !decide (r 69 < 1000 * ab (vV f N i) / (v + r 64 + lw f N i)) := by
      unfold fr bd pr fa
      rw [if_neg (by decide), if_neg (by decide), if_neg (by decide), if_pos rfl, upI_eq, upI_ne (by omega), upI_ne (by omega)]
    rw [e, Bool.not_eq_true', decide_eq_false_iff_not]
    unfold lbf
    have k2 := div_sw (A := 1000 * ab (vV f N i)) (S := r 69) (X := v + r 64 + lw f N i) (by omega) (by omega)
    omega
  constructor
  · intro h; exact ⟨hv.1, fun i a b => (key i).mp (h i a b)⟩
  · intro h i a b; exact (key i).mpr (h.2 i a b)
theorem gq_fo {f : Int → Int} {N : Int} {r : Int → Int} (hW : WF N r) (hL : LR f N) {v : Int} (hv : 0 ≤ v ∧ v ≤ 9999) : alI (fr f N (upI r 68 v) 3) N = true ↔ v * v ≤ gqI f N r N := by
  have hn := hW.num
  rw [alI_iff, gqI_ge]
  have hvv : v * v ≤ 99980001 := by have := sq_le hv.1 hv.2; omega
  have hv0 := sq_nn v
  have key : ∀ i : Int, (fr f N (upI r 68 v) 3 i = true ↔ (0 < r 67 * -(d2 f N i) → v * v ≤ 1000 * rs f N r i / (r 67 * -(d2 f N i)))) := by
    intro i
    have hrs := (fo_rg hW hL i).1
    have e : fr f N (upI r 68 v) 3 i = !decide (rs f N r i + r 67 * v * v * d2 f N i / 1000 < 0) := by
      unfold fr bd fo rs
      rw [if_neg (by decide), if_neg (by decide), if_neg (by decide), if_neg (by decide), upI_eq, upI_ne (by omega), upI_ne (by omega), upI_ne (by omega)]
    rw [e, Bool.not_eq_true', decide_eq_false_iff_not]
    have m : r 67 * v * v * d2 f N i = -(v * v * (r 67 * -(d2 f N i))) := by grind
    rw [m]
    constructor
    · intro h z
      rw [Int.le_ediv_iff_mul_le z]
      omega
    · intro h
      rcases (show 0 < r 67 * -(d2 f N i) ∨ r 67 * -(d2 f N i) ≤ 0 by omega) with z | z
      · have := (Int.le_ediv_iff_mul_le z).mp (h z)
        omega
      · have := Int.mul_nonpos_of_nonneg_of_nonpos hv0 z
        omega
  constructor
  · intro h; exact ⟨hvv, fun i a b => (key i).mp (h i a b)⟩
  · intro h i a b; exact (key i).mpr (h.2 i a b)
theorem cl_fr {f : Int → Int} {N : Int} {r : Int → Int} {v : Int} : alI (fr f N (upI r 64 v) 0) N = acl f N r v := by
  unfold acl
  refine alI_congr (fun i a b => ?_)
  unfold fr cl ucq
  rw [if_pos rfl, upI_eq, upI_ne (by omega)]
theorem c_X5_isFree (l : Launch) (G : GT) (σ : St) (N : Int) (r : Int → Int) (f : Int → Int) (a : Int) (v : Int) (w : Int) (hro : σ 37 = r) (hN : σ 36 1 = N) (hW : WF N r) (hE : EQN (σ 39) f N) (hL : LR f N) (hav : (a = 64 ∧ 1 ≤ v ∧ v ≤ 9999 ∨ a = 63 ∧ 10 ≤ v ∧ v ≤ 9999 ∨ a = 68 ∧ 0 ≤ v ∧ v ≤ 9999)) (hw2 : w = 0 ∨ w = 2 ∨ w = 3) : Ct l yX5_isFree cX5_isFree 7 (some .boolean) 9 G [.ref (gY G 36), .int (I a), .int (I v), .int (I w)] σ (QI G (fun res9 τ => res9 = (if alI (fr f N (upI r a v) w) N = true then 1 else 0) ∧ τ = σ)) := by
  refine mt (own := RX5) (plainFor_of_name rfl) rfl (Nat.le_of_ble_eq_true rfl) ?_
  intro p e s m args below meth c ls F hr hk X hl
  have hl : lv_has ls 7 [(0, .ref (gY G 36)), (1, .int (I a)), (2, .int (I v)), (3, .int (I w))] := hl
  have hw := hW.num
  have hWv : WF N (upI r a v) := hW.setn (by omega)
  refine r_aload_n F hl 0 rfl rfl dX5_isFree_0 ?_
  refine r_get F X 36 (by decide) (eK_36 G _) rfl gl_RX5 2 (by decide) rfl gf_RX5_16 rfl dX5_isFree_1 ?_
  refine r_iload_n F hl 1 rfl rfl dX5_isFree_4 ?_
  refine r_iald F X 37 (by decide) (eK_37 G) (by omega) (by decide) dX5_isFree_5 ?_
  refine r_eqI (b := r a) (by rw [hro]) ?_
  refine r_istore F hl [(4, .int (I (r a))), (0, .ref (gY G 36)), (1, .int (I a)), (2, .int (I v)), (3, .int (I w))] (by decide) rfl dX5_isFree_6 (fun ls hl => ?_)
  refine r_aload_n F hl 1 rfl rfl dX5_isFree_8 ?_
  refine r_get F X 36 (by decide) (eK_36 G _) rfl gl_RX5 2 (by decide) rfl gf_RX5_16 rfl dX5_isFree_9 ?_
  refine r_iload_n F hl 2 rfl rfl dX5_isFree_12 ?_
  refine r_iload_n F hl 3 rfl rfl dX5_isFree_13 ?_
  refine r_iast F X 37 (by decide) (eK_37 G) (by omega) (by decide) dX5_isFree_14 (fun H locs X => ?_)
  obtain ⟨σ1, eσ1⟩ : ∃ x9 : St, x9 = up σ 37 (upI (σ 37) a v) := ⟨_, rfl⟩
  rw [← eσ1] at X
  have hrσ1 : σ1 37 = upI r a v := by rw [eσ1, up_eq, hro]
  have hNσ1 : σ1 36 1 = N := by rw [eσ1, up_ne (by omega)]; exact hN
  have hEσ1 : EQN (σ1 39) f N := by rw [eσ1, up_ne (by omega)]; exact hE
  refine r_iconst F dX5_isFree_15 ?_
  refine r_eqI (b := if alI (fr f N (upI r a v) w) 0 = true then 1 else 0) (by rw [alI_0]; rfl) ?_
  refine r_istore F hl [(5, .int (I (if alI (fr f N (upI r a v) w) 0 = true then 1 else 0))), (4, .int (I (r a))), (0, .ref (gY G 36)), (1, .int (I a)), (2, .int (I v)), (3, .int (I w))] (by decide) rfl dX5_isFree_16 (fun ls hl => ?_)
  refine r_iconst F dX5_isFree_18 ?_
  refine r_istore F hl [(6, .int (I 0)), (5, .int (I (if alI (fr f N (upI r a v) w) 0 = true then 1 else 0))), (4, .int (I (r a))), (0, .ref (gY G 36)), (1, .int (I a)), (2, .int (I v)), (3, .int (I w))] (by decide) rfl dX5_isFree_19 (fun ls hl => ?_)
  have loop21 : ∀ (n : Nat) (i : Int) (ls : Array Slot) (H : Heap) (locs : List Loc) (hn : N - i < n) (hi : 0 ≤ i ∧ i ≤ N) (X : HX G σ1 s H locs) (hl : lv_has ls 7 [(0, .ref (gY G 36)), (1, .int (I a)), (2, .int (I v)), (3, .int (I w)), (4, .int (I (r a))), (5, .int (I (if alI (fr f N (upI r a v) w) i = true then 1 else 0))), (6, .int (I i))]), W p l e (rmd 9) s m args below meth c H locs 0 0 (MQ below (QI G (fun res9 τ => res9 = (if alI (fr f N (upI r a v) w) N = true then 1 else 0) ∧ τ = σ)) args s 0 0 (gA G)) (F0 m 21 ls []) := by
    intro n
    induction n with
    | zero => intro i ls H locs hn hi X hl; omega
    | succ n ih21 =>
      intro i ls H locs hn hi X hl
      refine r_iload F hl 6 rfl dX5_isFree_21 ?_
      refine r_aload_n F hl 0 rfl rfl dX5_isFree_23 ?_
      refine r_get F X 36 (by decide) (eK_36 G _) rfl gl_RX5 1 (by decide) rfl gf_RX5_13 rfl dX5_isFree_24 ?_
      refine r_eqI (b := N) (hNσ1) ?_
      refine r_icmp_ge F 79 (by decide) (by omega) (by omega) dX5_isFree_27 (fun c1 => ?_) (fun c1 => ?_)
      · skip
        refine r_aload_n F hl 0 rfl rfl dX5_isFree_79 ?_
        refine r_get F X 36 (by decide) (eK_36 G _) rfl gl_RX5 2 (by decide) rfl gf_RX5_16 rfl dX5_isFree_80 ?_
        refine r_iload_n F hl 1 rfl rfl dX5_isFree_83 ?_
        refine r_iload F hl 4 rfl dX5_isFree_84 ?_
        refine r_iast F X 37 (by decide) (eK_37 G) (by omega) (by decide) dX5_isFree_86 (fun H locs X => ?_)
        obtain ⟨σ2, eσ2⟩ : ∃ x9 : St, x9 = up σ1 37 (upI (σ1 37) a (r a)) := ⟨_, rfl⟩
        rw [← eσ2] at X
        have hrσ2 : σ2 37 = upI (upI r a v) a (r a) := by rw [eσ2, up_eq, hrσ1]
        have hNσ2 : σ2 36 1 = N := by rw [eσ2, up_ne (by omega)]; exact hNσ1
        have hEσ2 : EQN (σ2 39) f N := by rw [eσ2, up_ne (by omega)]; exact hEσ1
        refine r_iload F hl 5 rfl dX5_isFree_87 ?_
        exact r_zret F X hr hk (by split <;> simp) dX5_isFree_89 (⟨al_stop hi.1 hi.2 (by first | exact Or.inl (by omega) | exact Or.inr (by assumption)), free_back hro eσ1 eσ2⟩)
      · skip
        refine r_iload F hl 5 rfl dX5_isFree_30 ?_
        refine r_bz_eq F 79 (alI (fr f N (upI r a v) w) i = true) rfl (by decide) dX5_isFree_32 (fun c2 => ?_) (fun c2 => ?_)
        · skip
          refine r_aload_n F hl 0 rfl rfl dX5_isFree_79 ?_
          refine r_get F X 36 (by decide) (eK_36 G _) rfl gl_RX5 2 (by decide) rfl gf_RX5_16 rfl dX5_isFree_80 ?_
          refine r_iload_n F hl 1 rfl rfl dX5_isFree_83 ?_
          refine r_iload F hl 4 rfl dX5_isFree_84 ?_
          refine r_iast F X 37 (by decide) (eK_37 G) (by omega) (by decide) dX5_isFree_86 (fun H locs X => ?_)
          obtain ⟨σ3, eσ3⟩ : ∃ x9 : St, x9 = up σ1 37 (upI (σ1 37) a (r a)) := ⟨_, rfl⟩
          rw [← eσ3] at X
          have hrσ3 : σ3 37 = upI (upI r a v) a (r a) := by rw [eσ3, up_eq, hrσ1]
          have hNσ3 : σ3 36 1 = N := by rw [eσ3, up_ne (by omega)]; exact hNσ1
          have hEσ3 : EQN (σ3 39) f N := by rw [eσ3, up_ne (by omega)]; exact hEσ1
          refine r_iload F hl 5 rfl dX5_isFree_87 ?_
          exact r_zret F X hr hk (by split <;> simp) dX5_isFree_89 (⟨al_stop hi.1 hi.2 (by first | exact Or.inl (by omega) | exact Or.inr (by assumption)), free_back hro eσ1 eσ3⟩)
        · skip
          refine r_iload_n F hl 3 rfl rfl dX5_isFree_35 ?_
          refine r_if_ne F 56 (by decide) (by omega) dX5_isFree_36 (fun c3 => ?_) (fun c3 => ?_)
          · skip
            refine r_aload_n F hl 0 rfl rfl dX5_isFree_56 ?_
            refine r_iload F hl 6 rfl dX5_isFree_57 ?_
            refine r_iload_n F hl 3 rfl rfl dX5_isFree_59 ?_
            refine d_cVI F X 36 (by decide) (eK_36 G _) rfl (c_X5_isBad l G σ1 N (upI r a v) f i w hrσ1 hNσ1 (hWv) hEσ1 hL (by omega) (by omega)) gv_RX5_176 rfl nd_X5_isBad rfl (rest := []) rfl (Nat.le_of_ble_eq_true rfl) ⟨Nat.le_of_ble_eq_true rfl, Nat.le_of_ble_eq_true rfl⟩ ⟨Nat.zero_le _, Nat.zero_le _⟩ hl.1 dX5_isFree_60 (fun H locs X => ?_)
            refine r_bz_ne F 70 (bd f N (upI r a v) w i = true) rfl (by decide) dX5_isFree_63 (fun c4 => ?_) (fun c4 => ?_)
            · skip
              refine r_iconst F dX5_isFree_70 ?_
              refine r_eqI (b := if alI (fr f N (upI r a v) w) (i + 1) = true then 1 else 0) (by rw [alI_succ _ hi.1]; have h9 : fr f N (upI r a v) w i = (if w = 0 then decide (ucq (upI r a v 64) f N (upI r a v) i = 0) else !bd f N (upI r a v) w i) := rfl; grind) ?_
              refine r_istore F hl [(5, .int (I (if alI (fr f N (upI r a v) w) (i + 1) = true then 1 else 0))), (0, .ref (gY G 36)), (1, .int (I a)), (2, .int (I v)), (3, .int (I w)), (4, .int (I (r a))), (6, .int (I i))] (by decide) rfl dX5_isFree_71 (fun ls hl => ?_)
              refine r_iinc F hl [(6, .int (I (i + 1))), (5, .int (I (if alI (fr f N (upI r a v) w) (i + 1) = true then 1 else 0))), (0, .ref (gY G 36)), (1, .int (I a)), (2, .int (I v)), (3, .int (I w)), (4, .int (I (r a)))] 6 rfl (by decide) rfl dX5_isFree_73 (fun ls hl => ?_)
              refine r_goto F 21 (by decide) dX5_isFree_76 ?_
              exact ih21 (i + 1) _ _ _ (by omega) (by omega) X (lv_sub hl [2, 3, 4, 5, 6, 1, 0] rfl)
            · skip
              refine r_iconst F dX5_isFree_66 ?_
              refine r_goto F 71 (by decide) dX5_isFree_67 ?_
              refine r_eqI (b := if alI (fr f N (upI r a v) w) (i + 1) = true then 1 else 0) (by rw [alI_succ _ hi.1]; have h9 : fr f N (upI r a v) w i = (if w = 0 then decide (ucq (upI r a v 64) f N (upI r a v) i = 0) else !bd f N (upI r a v) w i) := rfl; grind) ?_
              refine r_istore F hl [(5, .int (I (if alI (fr f N (upI r a v) w) (i + 1) = true then 1 else 0))), (0, .ref (gY G 36)), (1, .int (I a)), (2, .int (I v)), (3, .int (I w)), (4, .int (I (r a))), (6, .int (I i))] (by decide) rfl dX5_isFree_71 (fun ls hl => ?_)
              refine r_iinc F hl [(6, .int (I (i + 1))), (5, .int (I (if alI (fr f N (upI r a v) w) (i + 1) = true then 1 else 0))), (0, .ref (gY G 36)), (1, .int (I a)), (2, .int (I v)), (3, .int (I w)), (4, .int (I (r a)))] 6 rfl (by decide) rfl dX5_isFree_73 (fun ls hl => ?_)
              refine r_goto F 21 (by decide) dX5_isFree_76 ?_
              exact ih21 (i + 1) _ _ _ (by omega) (by omega) X (lv_sub hl [2, 3, 4, 5, 6, 1, 0] rfl)
          · skip
            refine r_aload_n F hl 0 rfl rfl dX5_isFree_39 ?_
            refine r_iload F hl 6 rfl dX5_isFree_40 ?_
            refine d_cVI F X 36 (by decide) (eK_36 G _) rfl (c_X5_undercutAt l G σ1 N (upI r a v) f i hrσ1 hNσ1 (hWv) hEσ1 hL (by omega)) gv_RX5_167 rfl nd_X5_undercutAt rfl (rest := []) rfl (Nat.le_of_ble_eq_true rfl) ⟨Nat.le_of_ble_eq_true rfl, Nat.le_of_ble_eq_true rfl⟩ ⟨Nat.zero_le _, Nat.zero_le _⟩ hl.1 dX5_isFree_42 (fun H locs X => ?_)
            have hu2 : ucq (upI r a v 64) f N (upI r a v) i = 0 ∨ ucq (upI r a v 64) f N (upI r a v) i = 1 ∨ ucq (upI r a v 64) f N (upI r a v) i = 2 := uc_012 _ _ _
            refine r_if_ne F 52 (by decide) (by omega) dX5_isFree_45 (fun c5 => ?_) (fun c5 => ?_)
            · skip
              refine r_iconst F dX5_isFree_52 ?_
              refine r_goto F 71 (by decide) dX5_isFree_53 ?_
              refine r_eqI (b := if alI (fr f N (upI r a v) w) (i + 1) = true then 1 else 0) (by rw [alI_succ _ hi.1]; have h9 : fr f N (upI r a v) w i = (if w = 0 then decide (ucq (upI r a v 64) f N (upI r a v) i = 0) else !bd f N (upI r a v) w i) := rfl; grind) ?_
              refine r_istore F hl [(5, .int (I (if alI (fr f N (upI r a v) w) (i + 1) = true then 1 else 0))), (0, .ref (gY G 36)), (1, .int (I a)), (2, .int (I v)), (3, .int (I w)), (4, .int (I (r a))), (6, .int (I i))] (by decide) rfl dX5_isFree_71 (fun ls hl => ?_)
              refine r_iinc F hl [(6, .int (I (i + 1))), (5, .int (I (if alI (fr f N (upI r a v) w) (i + 1) = true then 1 else 0))), (0, .ref (gY G 36)), (1, .int (I a)), (2, .int (I v)), (3, .int (I w)), (4, .int (I (r a)))] 6 rfl (by decide) rfl dX5_isFree_73 (fun ls hl => ?_)
              refine r_goto F 21 (by decide) dX5_isFree_76 ?_
              exact ih21 (i + 1) _ _ _ (by omega) (by omega) X (lv_sub hl [2, 3, 4, 5, 6, 1, 0] rfl)
            · skip
              refine r_iconst F dX5_isFree_48 ?_
              refine r_goto F 71 (by decide) dX5_isFree_49 ?_
              refine r_eqI (b := if alI (fr f N (upI r a v) w) (i + 1) = true then 1 else 0) (by rw [alI_succ _ hi.1]; have h9 : fr f N (upI r a v) w i = (if w = 0 then decide (ucq (upI r a v 64) f N (upI r a v) i = 0) else !bd f N (upI r a v) w i) := rfl; grind) ?_
              refine r_istore F hl [(5, .int (I (if alI (fr f N (upI r a v) w) (i + 1) = true then 1 else 0))), (0, .ref (gY G 36)), (1, .int (I a)), (2, .int (I v)), (3, .int (I w)), (4, .int (I (r a))), (6, .int (I i))] (by decide) rfl dX5_isFree_71 (fun ls hl => ?_)
              refine r_iinc F hl [(6, .int (I (i + 1))), (5, .int (I (if alI (fr f N (upI r a v) w) (i + 1) = true then 1 else 0))), (0, .ref (gY G 36)), (1, .int (I a)), (2, .int (I v)), (3, .int (I w)), (4, .int (I (r a)))] 6 rfl (by decide) rfl dX5_isFree_73 (fun ls hl => ?_)
              refine r_goto F 21 (by decide) dX5_isFree_76 ?_
              exact ih21 (i + 1) _ _ _ (by omega) (by omega) X (lv_sub hl [2, 3, 4, 5, 6, 1, 0] rfl)
  exact loop21 (((N - 0 : Int) + 1).toNat) 0 _ _ _ (by omega) (by omega) X (lv_sub hl [3, 4, 5, 6, 2, 1, 0] rfl)
theorem c_X5_laysBest (l : Launch) (G : GT) (σ : St) (N : Int) (r : Int → Int) (mm : Int) (hro : σ 37 = r) (hN : σ 36 1 = N) (hW : WF N r) (hwh : whl N r = true) (hm : mm = mvI r (r 60) ∧ mm ≤ 6) (hmb : MBR σ) : Ct l yX5_laysBest cX5_laysBest 7 none 9 G [.ref (gY G 36), .int (I mm)] σ (QV G (fun τ9 => (∀ c : Nat, c ≠ 36 → c ≠ 37 → c ≠ 39 → c ≠ 40 → c ≠ 41 → τ9 c = σ c) ∧ τ9 37 = r ∧ (∀ i : Int, i < 8 → τ9 36 i = σ 36 i) ∧ MBR τ9 ∧ BB τ9 N r (bW N r))) := by
  refine mt (own := RX5) (plainFor_of_name rfl) rfl (Nat.le_of_ble_eq_true rfl) ?_
  intro p e s m args below meth c ls F hr hk X hl
  have hl : lv_has ls 7 [(0, .ref (gY G 36)), (1, .int (I mm))] := hl
  have hw := hW.num
  have hmr := mvI_rg r (s := r 60) (by omega)
  have hp4 := p4_rg (K := mm) (by omega)
  have hbw : bW N r = amI (bet N r) (4 ^ mm.toNat) := by rw [hm.1]; rfl
  refine r_iconst F dX5_laysBest_0 ?_
  refine r_istore_n F hl [(2, .int (I 0)), (0, .ref (gY G 36)), (1, .int (I mm))] rfl (by decide) rfl dX5_laysBest_1 (fun ls hl => ?_)
  have loop2 : ∀ (n : Nat) (t : Int) (τ : St) (ls : Array Slot) (H : Heap) (locs : List Loc) (hn : 12 - t < n) (ht : 0 ≤ t ∧ t ≤ 12) (hf0 : ∀ c : Nat, c ≠ 40 → τ c = σ c) (h40 : ∀ i : Int, 0 ≤ i → i < t → τ 40 i = r (24 + i)) (X : HX G τ s H locs) (hl : lv_has ls 7 [(0, .ref (gY G 36)), (1, .int (I mm)), (2, .int (I t))]), W p l e (rmd 9) s m args below meth c H locs 0 0 (MQ below (QV G (fun τ9 => (∀ c : Nat, c ≠ 36 → c ≠ 37 → c ≠ 39 → c ≠ 40 → c ≠ 41 → τ9 c = σ c) ∧ τ9 37 = r ∧ (∀ i : Int, i < 8 → τ9 36 i = σ 36 i) ∧ MBR τ9 ∧ BB τ9 N r (bW N r))) args s 0 0 (gA G)) (F0 m 2 ls []) := by
    intro n
    induction n with
    | zero => intro t τ ls H locs hn ht hf0 h40 X hl; omega
    | succ n ih2 =>
      intro t τ ls H locs hn ht hf0 h40 X hl
      have hrt : τ 37 = r := by rw [hf0 37 (by omega)]; exact hro
      have hNt : τ 36 1 = N := by rw [hf0 36 (by omega)]; exact hN
      refine r_iload_n F hl 2 rfl rfl dX5_laysBest_2 ?_
      refine r_bipush F (by decide) dX5_laysBest_3 ?_
      refine r_icmp_ge F 29 (by decide) (by omega) (by omega) dX5_laysBest_5 (fun c1 => ?_) (fun c1 => ?_)
      · skip
        refine r_iconst F dX5_laysBest_29 ?_
        refine r_istore_n F hl [(2, .int (I 0)), (0, .ref (gY G 36)), (1, .int (I mm))] rfl (by decide) rfl dX5_laysBest_30 (fun ls hl => ?_)
        have loop31 : ∀ (n : Nat) (x : Int) (q : Int → Int) (ρ : St) (ls : Array Slot) (H : Heap) (locs : List Loc) (hn : 4 ^ mm.toNat - x < n) (hx : 0 ≤ x ∧ x ≤ 4 ^ mm.toNat) (hrt : ρ 37 = q) (hqr : q = r ∨ ∃ y : Int, q = rgv r y (r 60)) (hfm : ∀ c : Nat, c ≠ 36 → c ≠ 37 → c ≠ 39 → c ≠ 40 → c ≠ 41 → ρ c = σ c) (h401 : ∀ i : Int, 0 ≤ i → i < 12 → ρ 40 i = r (24 + i)) (h36 : ∀ i : Int, i < 8 → ρ 36 i = σ 36 i) (hmb1 : MBR ρ) (hb : x = 0 ∨ (0 < x ∧ BB ρ N r (amI (bet N r) x))) (X : HX G ρ s H locs) (hl : lv_has ls 7 [(0, .ref (gY G 36)), (1, .int (I mm)), (2, .int (I x))]), W p l e (rmd 9) s m args below meth c H locs 0 0 (MQ below (QV G (fun τ9 => (∀ c : Nat, c ≠ 36 → c ≠ 37 → c ≠ 39 → c ≠ 40 → c ≠ 41 → τ9 c = σ c) ∧ τ9 37 = r ∧ (∀ i : Int, i < 8 → τ9 36 i = σ 36 i) ∧ MBR τ9 ∧ BB τ9 N r (bW N r))) args s 0 0 (gA G)) (F0 m 31 ls []) := by
          intro n
          induction n with
          | zero => intro x q ρ ls H locs hn hx hrt hqr hfm h401 h36 hmb1 hb X hl; omega
          | succ n ih31 =>
            intro x q ρ ls H locs hn hx hrt hqr hfm h401 h36 hmb1 hb X hl
            have hNt : ρ 36 1 = N := by rw [h36 1 (by omega)]; exact hN
            obtain ⟨hWq, hq60, hgq, hmq⟩ := RG.wf hW hqr
            refine r_iload_n F hl 2 rfl rfl dX5_laysBest_31 ?_
            refine r_iconst F dX5_laysBest_32 ?_
            refine r_iconst F dX5_laysBest_33 ?_
            refine r_iload_n F hl 1 rfl rfl dX5_laysBest_34 ?_
            refine r_imul F dX5_laysBest_35 ?_
            refine r_shl1 F (by omega) dX5_laysBest_36 ?_
            refine r_eqI (b := 4 ^ mm.toNat) (two4 (by omega)) ?_
            refine r_icmp_ge F 158 (by decide) (by omega) (by omega) dX5_laysBest_37 (fun c2 => ?_) (fun c2 => ?_)
            · skip
              refine r_iconst F dX5_laysBest_158 ?_
              refine r_istore_n F hl [(2, .int (I 0)), (0, .ref (gY G 36)), (1, .int (I mm))] rfl (by decide) rfl dX5_laysBest_159 (fun ls hl => ?_)
              have loop160 : ∀ (n : Nat) (t : Int) (τ : St) (ls : Array Slot) (H : Heap) (locs : List Loc) (hn : 12 - t < n) (ht : 0 ≤ t ∧ t ≤ 12) (hrz : τ 37 = rst r q t) (hfz : ∀ c : Nat, c ≠ 37 → τ c = ρ c) (X : HX G τ s H locs) (hl : lv_has ls 7 [(0, .ref (gY G 36)), (1, .int (I mm)), (2, .int (I t))]), W p l e (rmd 9) s m args below meth c H locs 0 0 (MQ below (QV G (fun τ9 => (∀ c : Nat, c ≠ 36 → c ≠ 37 → c ≠ 39 → c ≠ 40 → c ≠ 41 → τ9 c = σ c) ∧ τ9 37 = r ∧ (∀ i : Int, i < 8 → τ9 36 i = σ 36 i) ∧ MBR τ9 ∧ BB τ9 N r (bW N r))) args s 0 0 (gA G)) (F0 m 160 ls []) := by
                intro n
                induction n with
                | zero => intro t τ ls H locs hn ht hrz hfz X hl; omega
                | succ n ih160 =>
                  intro t τ ls H locs hn ht hrz hfz X hl
                  have hNz : τ 36 1 = N := by rw [hfz 36 (by omega)]; exact hNt
                  refine r_iload_n F hl 2 rfl rfl dX5_laysBest_160 ?_
                  refine r_bipush F (by decide) dX5_laysBest_161 ?_
                  refine r_icmp_ge F 187 (by decide) (by omega) (by omega) dX5_laysBest_163 (fun c3 => ?_) (fun c3 => ?_)
                  · skip
                    exact r_vret F X hr hk dX5_laysBest_187 (by have hxe : x = 4 ^ mm.toNat := (by omega); rw [hxe, ← hbw] at hb; have hbz := hb.resolve_left (by omega); refine ⟨fun c a b d e f9 => (by rw [hfz c b]; exact hfm c a b d e f9), ?_, fun i a => (by rw [hfz 36 (by omega)]; exact h36 i a), ?_, ?_⟩; (rw [hrz, show t = 12 by omega, rst_12 hW hqr]); (unfold MBR; rw [hfz 36 (by omega)]; exact hmb1); (unfold BB; rw [hfz 36 (by omega), hfz 41 (by omega)]; exact hbz.2))
                  · skip
                    refine r_aload_n F hl 0 rfl rfl dX5_laysBest_166 ?_
                    refine r_get F X 36 (by decide) (eK_36 G _) rfl gl_RX5 2 (by decide) rfl gf_RX5_16 rfl dX5_laysBest_167 ?_
                    refine r_bipush F (by decide) dX5_laysBest_170 ?_
                    refine r_iload_n F hl 2 rfl rfl dX5_laysBest_172 ?_
                    refine r_iadd F dX5_laysBest_173 ?_
                    refine r_aload_n F hl 0 rfl rfl dX5_laysBest_174 ?_
                    refine r_get F X 36 (by decide) (eK_36 G _) rfl gl_RX5 6 (by decide) rfl gf_RX5_26 rfl dX5_laysBest_175 ?_
                    refine r_iload_n F hl 2 rfl rfl dX5_laysBest_178 ?_
                    refine r_iald F X 40 (by decide) (eK_40 G) (by omega) (by decide) dX5_laysBest_179 ?_
                    refine r_eqI (b := r (24 + t)) (by rw [hfz 40 (by omega)]; exact h401 t ht.1 (by omega)) ?_
                    refine r_iast F X 37 (by decide) (eK_37 G) (by omega) (by decide) dX5_laysBest_180 (fun H locs X => ?_)
                    obtain ⟨σ1, eσ1⟩ : ∃ x9 : St, x9 = up τ 37 (upI (τ 37) (24 + t) (r (24 + t))) := ⟨_, rfl⟩
                    rw [← eσ1] at X
                    have hrσ1 : σ1 37 = upI (rst r q t) (24 + t) (r (24 + t)) := by rw [eσ1, up_eq, hrz]
                    have hNσ1 : σ1 36 1 = N := by rw [eσ1, up_ne (by omega)]; exact hNz
                    refine r_iinc F hl [(2, .int (I (t + 1))), (0, .ref (gY G 36)), (1, .int (I mm))] 2 rfl (by decide) rfl dX5_laysBest_181 (fun ls hl => ?_)
                    refine r_goto F 160 (by decide) dX5_laysBest_184 ?_
                    exact ih160 (t + 1) σ1 _ _ _ (by omega) (by omega) (by rw [eσ1, up_eq, hrz, rst_s ht.1]) (by intro c a; rw [eσ1, up_ne a]; exact hfz c a) X (lv_sub hl [1, 2, 0] rfl)
              exact loop160 (((12 - 0 : Int) + 1).toNat) 0 ρ _ _ _ (by omega) (by omega) (by rw [rst_0]; exact hrt) (by exact fun _ _ => rfl) X (lv_sub hl [1, 2, 0] rfl)
            · skip
              refine r_aload_n F hl 0 rfl rfl dX5_laysBest_40 ?_
              refine r_iload_n F hl 2 rfl rfl dX5_laysBest_41 ?_
              refine r_iload_n F hl 1 rfl rfl dX5_laysBest_42 ?_
              refine d_cVV F X 36 (by decide) (eK_36 G _) rfl (c_X5_gives l G ρ N q x mm hrt hNt (hWq) (⟨hx.1, by omega⟩) (by rw [hmq]; exact hm)) gv_RX5_189 rfl nd_X5_gives rfl (rest := []) rfl (Nat.le_of_ble_eq_true rfl) ⟨Nat.le_of_ble_eq_true rfl, Nat.le_of_ble_eq_true rfl⟩ ⟨Nat.zero_le _, Nat.zero_le _⟩ hl.1 dX5_laysBest_43 (fun H locs X => ?_)
              obtain ⟨σ2, eσ2⟩ : ∃ x9 : St, x9 = up ρ 37 (rgv q x (q 60)) := ⟨_, rfl⟩
              rw [← eσ2] at X
              have hrσ2 : σ2 37 = rgv q x (q 60) := by rw [eσ2, up_eq]
              have hNσ2 : σ2 36 1 = N := by rw [eσ2, up_ne (by omega)]; exact hNt
              have hr2 : σ2 37 = rgv r x (r 60) := by rw [hrσ2]; exact hgq x
              refine r_aload_n F hl 0 rfl rfl dX5_laysBest_46 ?_
              refine d_cVV F X 36 (by decide) (eK_36 G _) rfl (c_X5_lays l G σ2 N (rgv r x (r 60)) hr2 hNσ2 (hW.gv (by omega)) (whl_gv hW (by omega) hwh)) gv_RX5_118 rfl nd_X5_lays rfl (rest := []) rfl (Nat.le_of_ble_eq_true rfl) ⟨Nat.le_of_ble_eq_true rfl, Nat.le_of_ble_eq_true rfl⟩ ⟨Nat.zero_le _, Nat.zero_le _⟩ hl.1 dX5_laysBest_47 (fun H locs X => ?_)
              obtain ⟨σ3, eσ3⟩ : ∃ x9 : St, x9 = up σ2 39 (draI (σ2 39) (rgv r x (r 60)) (rlw (rgv r x (r 60))) ((rgv r x (r 60)) 60)) := ⟨_, rfl⟩
              rw [← eσ3] at X
              have hrσ3 : σ3 37 = rgv r x (r 60) := by rw [eσ3, up_ne (by omega)]; exact hr2
              have hNσ3 : σ3 36 1 = N := by rw [eσ3, up_ne (by omega)]; exact hNσ2
              have hE2 : EQN (σ3 39) (wf r x) N := by rw [eσ3, up_eq]; exact fun i a b => (draI_lf _ (hW.gv (by omega)) (whl_gv hW (by omega) hwh) a b).trans (congrFun (lf_gv hW x) i)
              have hLx : LR (wf r x) N := lfW_LR hW hwh (wy_LWS hW x)
              have hwr := wv_rg hW hwh x
              have hfs : ∀ c : Nat, c ≠ 37 → c ≠ 39 → σ3 c = ρ c := fun c a b => by rw [eσ3, up_ne b, eσ2, up_ne a]
              have hmb2 : MBR σ3 := by unfold MBR; rw [hfs 36 (by omega) (by omega)]; exact hmb1
              obtain ⟨hm29, hm210, hm28⟩ := id hmb2
              refine r_aload_n F hl 0 rfl rfl dX5_laysBest_50 ?_
              refine d_cVI F X 36 (by decide) (eK_36 G _) rfl (c_X5_isGood l G σ3 N (rgv r x (r 60)) (wf r x) hrσ3 hNσ3 (hW.gv (by omega)) hE2 (hLx)) gv_RX5_193 rfl nd_X5_isGood rfl (rest := []) rfl (Nat.le_of_ble_eq_true rfl) ⟨Nat.le_of_ble_eq_true rfl, Nat.le_of_ble_eq_true rfl⟩ ⟨Nat.zero_le _, Nat.zero_le _⟩ hl.1 dX5_laysBest_51 (fun H locs X => ?_)
              refine r_eqI (b := if wG N r x = true then 1 else 0) (by rw [gd_gv hW]; rfl) ?_
              refine r_istore_n F hl [(3, .int (I (if wG N r x = true then 1 else 0))), (0, .ref (gY G 36)), (1, .int (I mm)), (2, .int (I x))] rfl (by decide) rfl dX5_laysBest_54 (fun ls hl => ?_)
              refine r_aload_n F hl 1 rfl rfl dX5_laysBest_55 ?_
              refine r_iconst F dX5_laysBest_56 ?_
              refine d_cVI F X 36 (by decide) (eK_36 G _) rfl (c_X5_greatest l G σ3 N (rgv r x (r 60)) (wf r x) 2 hrσ3 hNσ3 (hW.gv (by omega)) hE2 (hLx) (by omega)) gv_RX5_134 rfl nd_X5_greatest rfl (rest := []) rfl (Nat.le_of_ble_eq_true rfl) ⟨Nat.le_of_ble_eq_true rfl, Nat.le_of_ble_eq_true rfl⟩ ⟨Nat.zero_le _, Nat.zero_le _⟩ hl.1 dX5_laysBest_57 (fun H locs X => ?_)
              refine r_eqI (b := wS N r x) (rfl) ?_
              refine r_istore F hl [(4, .int (I (wS N r x))), (3, .int (I (if wG N r x = true then 1 else 0))), (0, .ref (gY G 36)), (1, .int (I mm)), (2, .int (I x))] (by decide) rfl dX5_laysBest_60 (fun ls hl => ?_)
              refine r_aload_n F hl 2 rfl rfl dX5_laysBest_62 ?_
              refine r_iconst F dX5_laysBest_63 ?_
              refine d_cVI F X 36 (by decide) (eK_36 G _) rfl (c_X5_greatest l G σ3 N (rgv r x (r 60)) (wf r x) 3 hrσ3 hNσ3 (hW.gv (by omega)) hE2 (hLx) (by omega)) gv_RX5_134 rfl nd_X5_greatest rfl (rest := []) rfl (Nat.le_of_ble_eq_true rfl) ⟨Nat.le_of_ble_eq_true rfl, Nat.le_of_ble_eq_true rfl⟩ ⟨Nat.zero_le _, Nat.zero_le _⟩ hl.1 dX5_laysBest_64 (fun H locs X => ?_)
              refine r_eqI (b := wT N r x) (rfl) ?_
              refine r_istore F hl [(5, .int (I (wT N r x))), (4, .int (I (wS N r x))), (3, .int (I (if wG N r x = true then 1 else 0))), (0, .ref (gY G 36)), (1, .int (I mm)), (2, .int (I x))] (by decide) rfl dX5_laysBest_67 (fun ls hl => ?_)
              refine r_iload F hl 1 rfl dX5_laysBest_69 ?_
              refine r_aload_n F hl 3 rfl rfl dX5_laysBest_71 ?_
              refine r_get F X 36 (by decide) (eK_36 G _) rfl gl_RX5 9 (by decide) rfl gf_RX5_196 rfl dX5_laysBest_72 ?_
              refine r_icmp_lt F 96 (by decide) (by omega) (by omega) dX5_laysBest_75 (fun c4 => ?_) (fun c4 => ?_)
              · skip
                refine r_iconst F dX5_laysBest_96 ?_
                refine r_goto F 101 (by decide) dX5_laysBest_97 ?_
                refine r_eqI (b := if wS N r x < σ3 36 9 ∨ (wS N r x = σ3 36 9 ∧ wT N r x < σ3 36 10) then 1 else 0) (by first | rw [if_pos (by omega)] | rw [if_neg (by omega)]) ?_
                refine r_istore F hl [(6, .int (I (if wS N r x < σ3 36 9 ∨ (wS N r x = σ3 36 9 ∧ wT N r x < σ3 36 10) then 1 else 0))), (5, .int (I (wT N r x))), (4, .int (I (wS N r x))), (3, .int (I (if wG N r x = true then 1 else 0))), (0, .ref (gY G 36)), (1, .int (I mm)), (2, .int (I x))] (by decide) rfl dX5_laysBest_101 (fun ls hl => ?_)
                have hbt : x = 0 ∨ (bet N r x (amI (bet N r) x) = true ↔ (((if wG N r x = true then 1 else 0) ≠ σ3 36 8 ∧ wG N r x = true) ∨ ((if wG N r x = true then 1 else 0) = σ3 36 8 ∧ (wS N r x < σ3 36 9 ∨ (wS N r x = σ3 36 9 ∧ wT N r x < σ3 36 10))))) := hb.imp id (fun h9 => by rw [hfs 36 (by omega) (by omega)]; exact bet_or h9.2.1 h9.2.2.1 h9.2.2.2.1)
                refine r_iload_n F hl 6 rfl rfl dX5_laysBest_103 ?_
                refine r_if_eq F 131 (by decide) (by omega) dX5_laysBest_104 (fun c5 => ?_) (fun c5 => ?_)
                · skip
                  have htk : amI (bet N r) (x + 1) = x := am_take hx.1 (by rcases hbt with z | z; exact Or.inl z; (first | (left; omega) | (right; rw [z]; grind)))
                  refine r_aload_n F hl 4 rfl rfl dX5_laysBest_131 ?_
                  refine r_iload_n F hl 3 rfl rfl dX5_laysBest_132 ?_
                  refine r_put F X 36 (by decide) (upI (σ3 36) 8 (if wG N r x = true then 1 else 0)) (eK_36 G _) rfl gl_RX5 tyX5 tyX5_ok nmX5 8 (by decide) rfl gf_RX5_202 rfl (tyX5_ok 8 (by decide)) (nzb (by omega)) (nzf (by omega)) (Nat.le_of_ble_eq_true rfl) (eK_36 G _) dX5_laysBest_133 (fun H locs X => ?_)
                  obtain ⟨σ4, eσ4⟩ : ∃ x9 : St, x9 = up σ3 36 (upI (σ3 36) 8 (if wG N r x = true then 1 else 0)) := ⟨_, rfl⟩
                  rw [← eσ4] at X
                  have hrσ4 : σ4 37 = rgv r x (r 60) := by rw [eσ4, up_ne (by omega)]; exact hrσ3
                  have hNσ4 : σ4 36 1 = N := by rw [eσ4, up_eq, upI_ne (by omega)]; exact hNσ3
                  have hEσ4 : EQN (σ4 39) (wf r x) N := by rw [eσ4, up_ne (by omega)]; exact hE2
                  refine r_aload_n F hl 4 rfl rfl dX5_laysBest_136 ?_
                  refine r_iload F hl 2 rfl dX5_laysBest_137 ?_
                  refine r_put F X 36 (by decide) (upI (σ4 36) 9 (wS N r x)) (eK_36 G _) rfl gl_RX5 tyX5 tyX5_ok nmX5 9 (by decide) rfl gf_RX5_196 rfl (tyX5_ok 9 (by decide)) rfl rfl (Nat.le_of_ble_eq_true rfl) (eK_36 G _) dX5_laysBest_139 (fun H locs X => ?_)
                  obtain ⟨σ5, eσ5⟩ : ∃ x9 : St, x9 = up σ4 36 (upI (σ4 36) 9 (wS N r x)) := ⟨_, rfl⟩
                  rw [← eσ5] at X
                  have hrσ5 : σ5 37 = rgv r x (r 60) := by rw [eσ5, up_ne (by omega)]; exact hrσ4
                  have hNσ5 : σ5 36 1 = N := by rw [eσ5, up_eq, upI_ne (by omega)]; exact hNσ4
                  have hEσ5 : EQN (σ5 39) (wf r x) N := by rw [eσ5, up_ne (by omega)]; exact hEσ4
                  refine r_aload_n F hl 4 rfl rfl dX5_laysBest_142 ?_
                  refine r_iload F hl 1 rfl dX5_laysBest_143 ?_
                  refine r_put F X 36 (by decide) (upI (σ5 36) 10 (wT N r x)) (eK_36 G _) rfl gl_RX5 tyX5 tyX5_ok nmX5 10 (by decide) rfl gf_RX5_199 rfl (tyX5_ok 10 (by decide)) rfl rfl (Nat.le_of_ble_eq_true rfl) (eK_36 G _) dX5_laysBest_145 (fun H locs X => ?_)
                  obtain ⟨σ6, eσ6⟩ : ∃ x9 : St, x9 = up σ5 36 (upI (σ5 36) 10 (wT N r x)) := ⟨_, rfl⟩
                  rw [← eσ6] at X
                  have hrσ6 : σ6 37 = rgv r x (r 60) := by rw [eσ6, up_ne (by omega)]; exact hrσ5
                  have hNσ6 : σ6 36 1 = N := by rw [eσ6, up_eq, upI_ne (by omega)]; exact hNσ5
                  have hEσ6 : EQN (σ6 39) (wf r x) N := by rw [eσ6, up_ne (by omega)]; exact hEσ5
                  refine r_aload_n F hl 4 rfl rfl dX5_laysBest_148 ?_
                  refine r_cVV F X 36 (by decide) (eK_36 G _) rfl (c_X5_takesWay l G σ6 N (rgv r x (r 60)) hrσ6 hNσ6 (hW.gv (by omega))) gv_RX5_206 rfl nd_X5_takesWay rfl (rest := []) rfl (Nat.le_of_ble_eq_true rfl) ⟨Nat.le_of_ble_eq_true rfl, Nat.le_of_ble_eq_true rfl⟩ ⟨Nat.zero_le _, Nat.zero_le _⟩ hl.1 dX5_laysBest_149 (fun ω H locs hω X => ?_)
                  have hfω : ∀ c : Nat, c ≠ 36 → c ≠ 41 → ω c = σ3 c := fun c a d => by rw [hω.1 c d, eσ6, up_ne a, eσ5, up_ne a, eσ4, up_ne a]
                  have h36ω : ω 36 = upI (upI (upI (σ3 36) 8 (if wG N r x = true then 1 else 0)) 9 (wS N r x)) 10 (wT N r x) := by rw [hω.1 36 (by omega), eσ6, up_eq, eσ5, up_eq, eσ4, up_eq]
                  have hrω : ω 37 = rgv r x (r 60) := by rw [hfω 37 (by omega) (by omega)]; exact hrσ3
                  have hfmN : ∀ c : Nat, c ≠ 36 → c ≠ 37 → c ≠ 39 → c ≠ 40 → c ≠ 41 → ω c = σ c := fun c a b d e f9 => by rw [hfω c a f9, hfs c b d]; exact hfm c a b d e f9
                  have h40N : ∀ i : Int, 0 ≤ i → i < 12 → ω 40 i = r (24 + i) := fun i a b => by rw [hfω 40 (by omega) (by omega), hfs 40 (by omega) (by omega)]; exact h401 i a b
                  have h36N : ∀ i : Int, i < 8 → ω 36 i = σ 36 i := fun i a => by rw [h36ω, upI_ne (by omega), upI_ne (by omega), upI_ne (by omega), hfs 36 (by omega) (by omega)]; exact h36 i a
                  have hv8 : ω 36 8 = (if wG N r x = true then 1 else 0) := by rw [h36ω, upI_ne (by omega), upI_ne (by omega), upI_eq]
                  have hv9 : ω 36 9 = wS N r x := by rw [h36ω, upI_ne (by omega), upI_eq]
                  have hv10 : ω 36 10 = wT N r x := by rw [h36ω, upI_eq]
                  have hmbN : MBR ω := by unfold MBR; rw [hv8, hv9, hv10]; refine ⟨by omega, by omega, ?_⟩; split <;> simp
                  have hbN : BB ω N r (amI (bet N r) (x + 1)) := by rw [htk]; exact ⟨hv9, hv10, hv8, fun s9 a b => by rw [hω.2 s9 a (by omega)]; exact rgv_in a b⟩
                  refine r_iinc F hl [(2, .int (I (x + 1))), (6, .int (I (if wS N r x < σ3 36 9 ∨ (wS N r x = σ3 36 9 ∧ wT N r x < σ3 36 10) then 1 else 0))), (5, .int (I (wT N r x))), (4, .int (I (wS N r x))), (3, .int (I (if wG N r x = true then 1 else 0))), (0, .ref (gY G 36)), (1, .int (I mm))] 6 rfl (by decide) rfl dX5_laysBest_152 (fun ls hl => ?_)
                  refine r_goto F 31 (by decide) dX5_laysBest_155 ?_
                  exact ih31 (x + 1) (rgv r x (r 60)) ω _ _ _ (by omega) (by omega) (by exact hrω) (by exact Or.inr ⟨x, rfl⟩) (by exact hfmN) (by exact h40N) (by exact h36N) (by exact hmbN) (by exact Or.inr ⟨by omega, hbN⟩) X (lv_sub hl [5, 6, 0] rfl)
                · skip
                  refine r_iload_n F hl 3 rfl rfl dX5_laysBest_107 ?_
                  refine r_bz_eq F 118 (wG N r x = true) rfl (by decide) dX5_laysBest_108 (fun c6 => ?_) (fun c6 => ?_)
                  · skip
                    refine r_iload_n F hl 3 rfl rfl dX5_laysBest_118 ?_
                    refine r_aload_n F hl 4 rfl rfl dX5_laysBest_119 ?_
                    refine r_get F X 36 (by decide) (eK_36 G _) rfl gl_RX5 8 (by decide) rfl gf_RX5_202 rfl dX5_laysBest_120 ?_
                    refine r_icmp_ne F 152 (by decide) (by first | (split <;> omega) | omega) (by first | (split <;> omega) | omega) dX5_laysBest_123 (fun c7 => ?_) (fun c7 => ?_)
                    · skip
                      have hsk : x ≠ 0 := by omega
                      have hnb : ¬ bet N r x (amI (bet N r) x) = true := by rcases hbt with z | z; (exact absurd z hsk); (rw [z]; grind)
                      have hfmN : ∀ c : Nat, c ≠ 36 → c ≠ 37 → c ≠ 39 → c ≠ 40 → c ≠ 41 → σ3 c = σ c := fun c a b d e f9 => by rw [hfs c b d]; exact hfm c a b d e f9
                      have h40N : ∀ i : Int, 0 ≤ i → i < 12 → σ3 40 i = r (24 + i) := fun i a b => by rw [hfs 40 (by omega) (by omega)]; exact h401 i a b
                      have h36N : ∀ i : Int, i < 8 → σ3 36 i = σ 36 i := fun i a => by rw [hfs 36 (by omega) (by omega)]; exact h36 i a
                      have hmbN : MBR σ3 := hmb2
                      have hbN : BB σ3 N r (amI (bet N r) (x + 1)) := by rw [am_skip hx.1 hnb]; unfold BB; rw [hfs 36 (by omega) (by omega), hfs 41 (by omega) (by omega)]; exact (hb.resolve_left hsk).2
                      refine r_iinc F hl [(2, .int (I (x + 1))), (6, .int (I (if wS N r x < σ3 36 9 ∨ (wS N r x = σ3 36 9 ∧ wT N r x < σ3 36 10) then 1 else 0))), (5, .int (I (wT N r x))), (4, .int (I (wS N r x))), (3, .int (I (if wG N r x = true then 1 else 0))), (0, .ref (gY G 36)), (1, .int (I mm))] 6 rfl (by decide) rfl dX5_laysBest_152 (fun ls hl => ?_)
                      refine r_goto F 31 (by decide) dX5_laysBest_155 ?_
                      exact ih31 (x + 1) (rgv r x (r 60)) σ3 _ _ _ (by omega) (by omega) (by exact hrσ3) (by exact Or.inr ⟨x, rfl⟩) (by exact hfmN) (by exact h40N) (by exact h36N) (by exact hmbN) (by exact Or.inr ⟨by omega, hbN⟩) X (lv_sub hl [5, 6, 0] rfl)
                    · skip
                      refine r_iload F hl 0 rfl dX5_laysBest_126 ?_
                      refine r_bz_eq F 152 (wS N r x < σ3 36 9 ∨ (wS N r x = σ3 36 9 ∧ wT N r x < σ3 36 10)) rfl (by decide) dX5_laysBest_128 (fun c8 => ?_) (fun c8 => ?_)
                      · skip
                        have hsk : x ≠ 0 := by omega
                        have hnb : ¬ bet N r x (amI (bet N r) x) = true := by rcases hbt with z | z; (exact absurd z hsk); (rw [z]; grind)
                        have hfmN : ∀ c : Nat, c ≠ 36 → c ≠ 37 → c ≠ 39 → c ≠ 40 → c ≠ 41 → σ3 c = σ c := fun c a b d e f9 => by rw [hfs c b d]; exact hfm c a b d e f9
                        have h40N : ∀ i : Int, 0 ≤ i → i < 12 → σ3 40 i = r (24 + i) := fun i a b => by rw [hfs 40 (by omega) (by omega)]; exact h401 i a b
                        have h36N : ∀ i : Int, i < 8 → σ3 36 i = σ 36 i := fun i a => by rw [hfs 36 (by omega) (by omega)]; exact h36 i a
                        have hmbN : MBR σ3 := hmb2
                        have hbN : BB σ3 N r (amI (bet N r) (x + 1)) := by rw [am_skip hx.1 hnb]; unfold BB; rw [hfs 36 (by omega) (by omega), hfs 41 (by omega) (by omega)]; exact (hb.resolve_left hsk).2
                        refine r_iinc F hl [(2, .int (I (x + 1))), (6, .int (I (if wS N r x < σ3 36 9 ∨ (wS N r x = σ3 36 9 ∧ wT N r x < σ3 36 10) then 1 else 0))), (5, .int (I (wT N r x))), (4, .int (I (wS N r x))), (3, .int (I (if wG N r x = true then 1 else 0))), (0, .ref (gY G 36)), (1, .int (I mm))] 6 rfl (by decide) rfl dX5_laysBest_152 (fun ls hl => ?_)
                        refine r_goto F 31 (by decide) dX5_laysBest_155 ?_
                        exact ih31 (x + 1) (rgv r x (r 60)) σ3 _ _ _ (by omega) (by omega) (by exact hrσ3) (by exact Or.inr ⟨x, rfl⟩) (by exact hfmN) (by exact h40N) (by exact h36N) (by exact hmbN) (by exact Or.inr ⟨by omega, hbN⟩) X (lv_sub hl [5, 6, 0] rfl)
                      · skip
                        have htk : amI (bet N r) (x + 1) = x := am_take hx.1 (by rcases hbt with z | z; exact Or.inl z; (first | (left; omega) | (right; rw [z]; grind)))
                        refine r_aload_n F hl 4 rfl rfl dX5_laysBest_131 ?_
                        refine r_iload_n F hl 3 rfl rfl dX5_laysBest_132 ?_
                        refine r_put F X 36 (by decide) (upI (σ3 36) 8 (if wG N r x = true then 1 else 0)) (eK_36 G _) rfl gl_RX5 tyX5 tyX5_ok nmX5 8 (by decide) rfl gf_RX5_202 rfl (tyX5_ok 8 (by decide)) (nzb (by omega)) (nzf (by omega)) (Nat.le_of_ble_eq_true rfl) (eK_36 G _) dX5_laysBest_133 (fun H locs X => ?_)
                        obtain ⟨σ7, eσ7⟩ : ∃ x9 : St, x9 = up σ3 36 (upI (σ3 36) 8 (if wG N r x = true then 1 else 0)) := ⟨_, rfl⟩
                        rw [← eσ7] at X
                        have hrσ7 : σ7 37 = rgv r x (r 60) := by rw [eσ7, up_ne (by omega)]; exact hrσ3
                        have hNσ7 : σ7 36 1 = N := by rw [eσ7, up_eq, upI_ne (by omega)]; exact hNσ3
                        have hEσ7 : EQN (σ7 39) (wf r x) N := by rw [eσ7, up_ne (by omega)]; exact hE2
                        refine r_aload_n F hl 4 rfl rfl dX5_laysBest_136 ?_
                        refine r_iload F hl 2 rfl dX5_laysBest_137 ?_
                        refine r_put F X 36 (by decide) (upI (σ7 36) 9 (wS N r x)) (eK_36 G _) rfl gl_RX5 tyX5 tyX5_ok nmX5 9 (by decide) rfl gf_RX5_196 rfl (tyX5_ok 9 (by decide)) rfl rfl (Nat.le_of_ble_eq_true rfl) (eK_36 G _) dX5_laysBest_139 (fun H locs X => ?_)
                        obtain ⟨σ8, eσ8⟩ : ∃ x9 : St, x9 = up σ7 36 (upI (σ7 36) 9 (wS N r x)) := ⟨_, rfl⟩
                        rw [← eσ8] at X
                        have hrσ8 : σ8 37 = rgv r x (r 60) := by rw [eσ8, up_ne (by omega)]; exact hrσ7
                        have hNσ8 : σ8 36 1 = N := by rw [eσ8, up_eq, upI_ne (by omega)]; exact hNσ7
                        have hEσ8 : EQN (σ8 39) (wf r x) N := by rw [eσ8, up_ne (by omega)]; exact hEσ7
                        refine r_aload_n F hl 4 rfl rfl dX5_laysBest_142 ?_
                        refine r_iload F hl 1 rfl dX5_laysBest_143 ?_
                        refine r_put F X 36 (by decide) (upI (σ8 36) 10 (wT N r x)) (eK_36 G _) rfl gl_RX5 tyX5 tyX5_ok nmX5 10 (by decide) rfl gf_RX5_199 rfl (tyX5_ok 10 (by decide)) rfl rfl (Nat.le_of_ble_eq_true rfl) (eK_36 G _) dX5_laysBest_145 (fun H locs X => ?_)
                        obtain ⟨σ9, eσ9⟩ : ∃ x9 : St, x9 = up σ8 36 (upI (σ8 36) 10 (wT N r x)) := ⟨_, rfl⟩
                        rw [← eσ9] at X
                        have hrσ9 : σ9 37 = rgv r x (r 60) := by rw [eσ9, up_ne (by omega)]; exact hrσ8
                        have hNσ9 : σ9 36 1 = N := by rw [eσ9, up_eq, upI_ne (by omega)]; exact hNσ8
                        have hEσ9 : EQN (σ9 39) (wf r x) N := by rw [eσ9, up_ne (by omega)]; exact hEσ8
                        refine r_aload_n F hl 4 rfl rfl dX5_laysBest_148 ?_
                        refine r_cVV F X 36 (by decide) (eK_36 G _) rfl (c_X5_takesWay l G σ9 N (rgv r x (r 60)) hrσ9 hNσ9 (hW.gv (by omega))) gv_RX5_206 rfl nd_X5_takesWay rfl (rest := []) rfl (Nat.le_of_ble_eq_true rfl) ⟨Nat.le_of_ble_eq_true rfl, Nat.le_of_ble_eq_true rfl⟩ ⟨Nat.zero_le _, Nat.zero_le _⟩ hl.1 dX5_laysBest_149 (fun ω H locs hω X => ?_)
                        have hfω : ∀ c : Nat, c ≠ 36 → c ≠ 41 → ω c = σ3 c := fun c a d => by rw [hω.1 c d, eσ9, up_ne a, eσ8, up_ne a, eσ7, up_ne a]
                        have h36ω : ω 36 = upI (upI (upI (σ3 36) 8 (if wG N r x = true then 1 else 0)) 9 (wS N r x)) 10 (wT N r x) := by rw [hω.1 36 (by omega), eσ9, up_eq, eσ8, up_eq, eσ7, up_eq]
                        have hrω : ω 37 = rgv r x (r 60) := by rw [hfω 37 (by omega) (by omega)]; exact hrσ3
                        have hfmN : ∀ c : Nat, c ≠ 36 → c ≠ 37 → c ≠ 39 → c ≠ 40 → c ≠ 41 → ω c = σ c := fun c a b d e f9 => by rw [hfω c a f9, hfs c b d]; exact hfm c a b d e f9
                        have h40N : ∀ i : Int, 0 ≤ i → i < 12 → ω 40 i = r (24 + i) := fun i a b => by rw [hfω 40 (by omega) (by omega), hfs 40 (by omega) (by omega)]; exact h401 i a b
                        have h36N : ∀ i : Int, i < 8 → ω 36 i = σ 36 i := fun i a => by rw [h36ω, upI_ne (by omega), upI_ne (by omega), upI_ne (by omega), hfs 36 (by omega) (by omega)]; exact h36 i a
                        have hv8 : ω 36 8 = (if wG N r x = true then 1 else 0) := by rw [h36ω, upI_ne (by omega), upI_ne (by omega), upI_eq]
                        have hv9 : ω 36 9 = wS N r x := by rw [h36ω, upI_ne (by omega), upI_eq]
                        have hv10 : ω 36 10 = wT N r x := by rw [h36ω, upI_eq]
                        have hmbN : MBR ω := by unfold MBR; rw [hv8, hv9, hv10]; refine ⟨by omega, by omega, ?_⟩; split <;> simp
                        have hbN : BB ω N r (amI (bet N r) (x + 1)) := by rw [htk]; exact ⟨hv9, hv10, hv8, fun s9 a b => by rw [hω.2 s9 a (by omega)]; exact rgv_in a b⟩
                        refine r_iinc F hl [(2, .int (I (x + 1))), (6, .int (I (if wS N r x < σ3 36 9 ∨ (wS N r x = σ3 36 9 ∧ wT N r x < σ3 36 10) then 1 else 0))), (5, .int (I (wT N r x))), (4, .int (I (wS N r x))), (3, .int (I (if wG N r x = true then 1 else 0))), (0, .ref (gY G 36)), (1, .int (I mm))] 6 rfl (by decide) rfl dX5_laysBest_152 (fun ls hl => ?_)
                        refine r_goto F 31 (by decide) dX5_laysBest_155 ?_
                        exact ih31 (x + 1) (rgv r x (r 60)) ω _ _ _ (by omega) (by omega) (by exact hrω) (by exact Or.inr ⟨x, rfl⟩) (by exact hfmN) (by exact h40N) (by exact h36N) (by exact hmbN) (by exact Or.inr ⟨by omega, hbN⟩) X (lv_sub hl [5, 6, 0] rfl)
                  · skip
                    refine r_aload_n F hl 4 rfl rfl dX5_laysBest_111 ?_
                    refine r_get F X 36 (by decide) (eK_36 G _) rfl gl_RX5 8 (by decide) rfl gf_RX5_202 rfl dX5_laysBest_112 ?_
                    refine r_if_eq F 131 (by decide) (by omega) dX5_laysBest_115 (fun c9 => ?_) (fun c9 => ?_)
                    · skip
                      have htk : amI (bet N r) (x + 1) = x := am_take hx.1 (by rcases hbt with z | z; exact Or.inl z; (first | (left; omega) | (right; rw [z]; grind)))
                      refine r_aload_n F hl 4 rfl rfl dX5_laysBest_131 ?_
                      refine r_iload_n F hl 3 rfl rfl dX5_laysBest_132 ?_
                      refine r_put F X 36 (by decide) (upI (σ3 36) 8 (if wG N r x = true then 1 else 0)) (eK_36 G _) rfl gl_RX5 tyX5 tyX5_ok nmX5 8 (by decide) rfl gf_RX5_202 rfl (tyX5_ok 8 (by decide)) (nzb (by omega)) (nzf (by omega)) (Nat.le_of_ble_eq_true rfl) (eK_36 G _) dX5_laysBest_133 (fun H locs X => ?_)
                      obtain ⟨σ10, eσ10⟩ : ∃ x9 : St, x9 = up σ3 36 (upI (σ3 36) 8 (if wG N r x = true then 1 else 0)) := ⟨_, rfl⟩
                      rw [← eσ10] at X
                      have hrσ10 : σ10 37 = rgv r x (r 60) := by rw [eσ10, up_ne (by omega)]; exact hrσ3
                      have hNσ10 : σ10 36 1 = N := by rw [eσ10, up_eq, upI_ne (by omega)]; exact hNσ3
                      have hEσ10 : EQN (σ10 39) (wf r x) N := by rw [eσ10, up_ne (by omega)]; exact hE2
                      refine r_aload_n F hl 4 rfl rfl dX5_laysBest_136 ?_
                      refine r_iload F hl 2 rfl dX5_laysBest_137 ?_
                      refine r_put F X 36 (by decide) (upI (σ10 36) 9 (wS N r x)) (eK_36 G _) rfl gl_RX5 tyX5 tyX5_ok nmX5 9 (by decide) rfl gf_RX5_196 rfl (tyX5_ok 9 (by decide)) rfl rfl (Nat.le_of_ble_eq_true rfl) (eK_36 G _) dX5_laysBest_139 (fun H locs X => ?_)
                      obtain ⟨σ11, eσ11⟩ : ∃ x9 : St, x9 = up σ10 36 (upI (σ10 36) 9 (wS N r x)) := ⟨_, rfl⟩
                      rw [← eσ11] at X
                      have hrσ11 : σ11 37 = rgv r x (r 60) := by rw [eσ11, up_ne (by omega)]; exact hrσ10
                      have hNσ11 : σ11 36 1 = N := by rw [eσ11, up_eq, upI_ne (by omega)]; exact hNσ10
                      have hEσ11 : EQN (σ11 39) (wf r x) N := by rw [eσ11, up_ne (by omega)]; exact hEσ10
                      refine r_aload_n F hl 4 rfl rfl dX5_laysBest_142 ?_
                      refine r_iload F hl 1 rfl dX5_laysBest_143 ?_
                      refine r_put F X 36 (by decide) (upI (σ11 36) 10 (wT N r x)) (eK_36 G _) rfl gl_RX5 tyX5 tyX5_ok nmX5 10 (by decide) rfl gf_RX5_199 rfl (tyX5_ok 10 (by decide)) rfl rfl (Nat.le_of_ble_eq_true rfl) (eK_36 G _) dX5_laysBest_145 (fun H locs X => ?_)
                      obtain ⟨σ12, eσ12⟩ : ∃ x9 : St, x9 = up σ11 36 (upI (σ11 36) 10 (wT N r x)) := ⟨_, rfl⟩
                      rw [← eσ12] at X
                      have hrσ12 : σ12 37 = rgv r x (r 60) := by rw [eσ12, up_ne (by omega)]; exact hrσ11
                      have hNσ12 : σ12 36 1 = N := by rw [eσ12, up_eq, upI_ne (by omega)]; exact hNσ11
                      have hEσ12 : EQN (σ12 39) (wf r x) N := by rw [eσ12, up_ne (by omega)]; exact hEσ11
                      refine r_aload_n F hl 4 rfl rfl dX5_laysBest_148 ?_
                      refine r_cVV F X 36 (by decide) (eK_36 G _) rfl (c_X5_takesWay l G σ12 N (rgv r x (r 60)) hrσ12 hNσ12 (hW.gv (by omega))) gv_RX5_206 rfl nd_X5_takesWay rfl (rest := []) rfl (Nat.le_of_ble_eq_true rfl) ⟨Nat.le_of_ble_eq_true rfl, Nat.le_of_ble_eq_true rfl⟩ ⟨Nat.zero_le _, Nat.zero_le _⟩ hl.1 dX5_laysBest_149 (fun ω H locs hω X => ?_)
                      have hfω : ∀ c : Nat, c ≠ 36 → c ≠ 41 → ω c = σ3 c := fun c a d => by rw [hω.1 c d, eσ12, up_ne a, eσ11, up_ne a, eσ10, up_ne a]
                      have h36ω : ω 36 = upI (upI (upI (σ3 36) 8 (if wG N r x = true then 1 else 0)) 9 (wS N r x)) 10 (wT N r x) := by rw [hω.1 36 (by omega), eσ12, up_eq, eσ11, up_eq, eσ10, up_eq]
                      have hrω : ω 37 = rgv r x (r 60) := by rw [hfω 37 (by omega) (by omega)]; exact hrσ3
                      have hfmN : ∀ c : Nat, c ≠ 36 → c ≠ 37 → c ≠ 39 → c ≠ 40 → c ≠ 41 → ω c = σ c := fun c a b d e f9 => by rw [hfω c a f9, hfs c b d]; exact hfm c a b d e f9
                      have h40N : ∀ i : Int, 0 ≤ i → i < 12 → ω 40 i = r (24 + i) := fun i a b => by rw [hfω 40 (by omega) (by omega), hfs 40 (by omega) (by omega)]; exact h401 i a b
                      have h36N : ∀ i : Int, i < 8 → ω 36 i = σ 36 i := fun i a => by rw [h36ω, upI_ne (by omega), upI_ne (by omega), upI_ne (by omega), hfs 36 (by omega) (by omega)]; exact h36 i a
                      have hv8 : ω 36 8 = (if wG N r x = true then 1 else 0) := by rw [h36ω, upI_ne (by omega), upI_ne (by omega), upI_eq]
                      have hv9 : ω 36 9 = wS N r x := by rw [h36ω, upI_ne (by omega), upI_eq]
                      have hv10 : ω 36 10 = wT N r x := by rw [h36ω, upI_eq]
                      have hmbN : MBR ω := by unfold MBR; rw [hv8, hv9, hv10]; refine ⟨by omega, by omega, ?_⟩; split <;> simp
                      have hbN : BB ω N r (amI (bet N r) (x + 1)) := by rw [htk]; exact ⟨hv9, hv10, hv8, fun s9 a b => by rw [hω.2 s9 a (by omega)]; exact rgv_in a b⟩
                      refine r_iinc F hl [(2, .int (I (x + 1))), (6, .int (I (if wS N r x < σ3 36 9 ∨ (wS N r x = σ3 36 9 ∧ wT N r x < σ3 36 10) then 1 else 0))), (5, .int (I (wT N r x))), (4, .int (I (wS N r x))), (3, .int (I (if wG N r x = true then 1 else 0))), (0, .ref (gY G 36)), (1, .int (I mm))] 6 rfl (by decide) rfl dX5_laysBest_152 (fun ls hl => ?_)
                      refine r_goto F 31 (by decide) dX5_laysBest_155 ?_
                      exact ih31 (x + 1) (rgv r x (r 60)) ω _ _ _ (by omega) (by omega) (by exact hrω) (by exact Or.inr ⟨x, rfl⟩) (by exact hfmN) (by exact h40N) (by exact h36N) (by exact hmbN) (by exact Or.inr ⟨by omega, hbN⟩) X (lv_sub hl [5, 6, 0] rfl)
                    · skip
                      refine r_iload_n F hl 3 rfl rfl dX5_laysBest_118 ?_
                      refine r_aload_n F hl 4 rfl rfl dX5_laysBest_119 ?_
                      refine r_get F X 36 (by decide) (eK_36 G _) rfl gl_RX5 8 (by decide) rfl gf_RX5_202 rfl dX5_laysBest_120 ?_
                      refine r_icmp_ne F 152 (by decide) (by first | (split <;> omega) | omega) (by first | (split <;> omega) | omega) dX5_laysBest_123 (fun c10 => ?_) (fun c10 => ?_)
                      · skip
                        have hsk : x ≠ 0 := by omega
                        have hnb : ¬ bet N r x (amI (bet N r) x) = true := by rcases hbt with z | z; (exact absurd z hsk); (rw [z]; grind)
                        have hfmN : ∀ c : Nat, c ≠ 36 → c ≠ 37 → c ≠ 39 → c ≠ 40 → c ≠ 41 → σ3 c = σ c := fun c a b d e f9 => by rw [hfs c b d]; exact hfm c a b d e f9
                        have h40N : ∀ i : Int, 0 ≤ i → i < 12 → σ3 40 i = r (24 + i) := fun i a b => by rw [hfs 40 (by omega) (by omega)]; exact h401 i a b
                        have h36N : ∀ i : Int, i < 8 → σ3 36 i = σ 36 i := fun i a => by rw [hfs 36 (by omega) (by omega)]; exact h36 i a
                        have hmbN : MBR σ3 := hmb2
                        have hbN : BB σ3 N r (amI (bet N r) (x + 1)) := by rw [am_skip hx.1 hnb]; unfold BB; rw [hfs 36 (by omega) (by omega), hfs 41 (by omega) (by omega)]; exact (hb.resolve_left hsk).2
                        refine r_iinc F hl [(2, .int (I (x + 1))), (6, .int (I (if wS N r x < σ3 36 9 ∨ (wS N r x = σ3 36 9 ∧ wT N r x < σ3 36 10) then 1 else 0))), (5, .int (I (wT N r x))), (4, .int (I (wS N r x))), (3, .int (I (if wG N r x = true then 1 else 0))), (0, .ref (gY G 36)), (1, .int (I mm))] 6 rfl (by decide) rfl dX5_laysBest_152 (fun ls hl => ?_)
                        refine r_goto F 31 (by decide) dX5_laysBest_155 ?_
                        exact ih31 (x + 1) (rgv r x (r 60)) σ3 _ _ _ (by omega) (by omega) (by exact hrσ3) (by exact Or.inr ⟨x, rfl⟩) (by exact hfmN) (by exact h40N) (by exact h36N) (by exact hmbN) (by exact Or.inr ⟨by omega, hbN⟩) X (lv_sub hl [5, 6, 0] rfl)
                      · skip
                        refine r_iload F hl 0 rfl dX5_laysBest_126 ?_
                        refine r_bz_eq F 152 (wS N r x < σ3 36 9 ∨ (wS N r x = σ3 36 9 ∧ wT N r x < σ3 36 10)) rfl (by decide) dX5_laysBest_128 (fun c11 => ?_) (fun c11 => ?_)
                        · skip
                          have hsk : x ≠ 0 := by omega
                          have hnb : ¬ bet N r x (amI (bet N r) x) = true := by rcases hbt with z | z; (exact absurd z hsk); (rw [z]; grind)
                          have hfmN : ∀ c : Nat, c ≠ 36 → c ≠ 37 → c ≠ 39 → c ≠ 40 → c ≠ 41 → σ3 c = σ c := fun c a b d e f9 => by rw [hfs c b d]; exact hfm c a b d e f9
                          have h40N : ∀ i : Int, 0 ≤ i → i < 12 → σ3 40 i = r (24 + i) := fun i a b => by rw [hfs 40 (by omega) (by omega)]; exact h401 i a b
                          have h36N : ∀ i : Int, i < 8 → σ3 36 i = σ 36 i := fun i a => by rw [hfs 36 (by omega) (by omega)]; exact h36 i a
                          have hmbN : MBR σ3 := hmb2
                          have hbN : BB σ3 N r (amI (bet N r) (x + 1)) := by rw [am_skip hx.1 hnb]; unfold BB; rw [hfs 36 (by omega) (by omega), hfs 41 (by omega) (by omega)]; exact (hb.resolve_left hsk).2
                          refine r_iinc F hl [(2, .int (I (x + 1))), (6, .int (I (if wS N r x < σ3 36 9 ∨ (wS N r x = σ3 36 9 ∧ wT N r x < σ3 36 10) then 1 else 0))), (5, .int (I (wT N r x))), (4, .int (I (wS N r x))), (3, .int (I (if wG N r x = true then 1 else 0))), (0, .ref (gY G 36)), (1, .int (I mm))] 6 rfl (by decide) rfl dX5_laysBest_152 (fun ls hl => ?_)
                          refine r_goto F 31 (by decide) dX5_laysBest_155 ?_
                          exact ih31 (x + 1) (rgv r x (r 60)) σ3 _ _ _ (by omega) (by omega) (by exact hrσ3) (by exact Or.inr ⟨x, rfl⟩) (by exact hfmN) (by exact h40N) (by exact h36N) (by exact hmbN) (by exact Or.inr ⟨by omega, hbN⟩) X (lv_sub hl [5, 6, 0] rfl)
                        · skip
                          have htk : amI (bet N r) (x + 1) = x := am_take hx.1 (by rcases hbt with z | z; exact Or.inl z; (first | (left; omega) | (right; rw [z]; grind)))
                          refine r_aload_n F hl 4 rfl rfl dX5_laysBest_131 ?_
                          refine r_iload_n F hl 3 rfl rfl dX5_laysBest_132 ?_
                          refine r_put F X 36 (by decide) (upI (σ3 36) 8 (if wG N r x = true then 1 else 0)) (eK_36 G _) rfl gl_RX5 tyX5 tyX5_ok nmX5 8 (by decide) rfl gf_RX5_202 rfl (tyX5_ok 8 (by decide)) (nzb (by omega)) (nzf (by omega)) (Nat.le_of_ble_eq_true rfl) (eK_36 G _) dX5_laysBest_133 (fun H locs X => ?_)
                          obtain ⟨σ13, eσ13⟩ : ∃ x9 : St, x9 = up σ3 36 (upI (σ3 36) 8 (if wG N r x = true then 1 else 0)) := ⟨_, rfl⟩
                          rw [← eσ13] at X
                          have hrσ13 : σ13 37 = rgv r x (r 60) := by rw [eσ13, up_ne (by omega)]; exact hrσ3
                          have hNσ13 : σ13 36 1 = N := by rw [eσ13, up_eq, upI_ne (by omega)]; exact hNσ3
                          have hEσ13 : EQN (σ13 39) (wf r x) N := by rw [eσ13, up_ne (by omega)]; exact hE2
                          refine r_aload_n F hl 4 rfl rfl dX5_laysBest_136 ?_
                          refine r_iload F hl 2 rfl dX5_laysBest_137 ?_
                          refine r_put F X 36 (by decide) (upI (σ13 36) 9 (wS N r x)) (eK_36 G _) rfl gl_RX5 tyX5 tyX5_ok nmX5 9 (by decide) rfl gf_RX5_196 rfl (tyX5_ok 9 (by decide)) rfl rfl (Nat.le_of_ble_eq_true rfl) (eK_36 G _) dX5_laysBest_139 (fun H locs X => ?_)
                          obtain ⟨σ14, eσ14⟩ : ∃ x9 : St, x9 = up σ13 36 (upI (σ13 36) 9 (wS N r x)) := ⟨_, rfl⟩
                          rw [← eσ14] at X
                          have hrσ14 : σ14 37 = rgv r x (r 60) := by rw [eσ14, up_ne (by omega)]; exact hrσ13
                          have hNσ14 : σ14 36 1 = N := by rw [eσ14, up_eq, upI_ne (by omega)]; exact hNσ13
                          have hEσ14 : EQN (σ14 39) (wf r x) N := by rw [eσ14, up_ne (by omega)]; exact hEσ13
                          refine r_aload_n F hl 4 rfl rfl dX5_laysBest_142 ?_
                          refine r_iload F hl 1 rfl dX5_laysBest_143 ?_
                          refine r_put F X 36 (by decide) (upI (σ14 36) 10 (wT N r x)) (eK_36 G _) rfl gl_RX5 tyX5 tyX5_ok nmX5 10 (by decide) rfl gf_RX5_199 rfl (tyX5_ok 10 (by decide)) rfl rfl (Nat.le_of_ble_eq_true rfl) (eK_36 G _) dX5_laysBest_145 (fun H locs X => ?_)
                          obtain ⟨σ15, eσ15⟩ : ∃ x9 : St, x9 = up σ14 36 (upI (σ14 36) 10 (wT N r x)) := ⟨_, rfl⟩
                          rw [← eσ15] at X
                          have hrσ15 : σ15 37 = rgv r x (r 60) := by rw [eσ15, up_ne (by omega)]; exact hrσ14
                          have hNσ15 : σ15 36 1 = N := by rw [eσ15, up_eq, upI_ne (by omega)]; exact hNσ14
                          have hEσ15 : EQN (σ15 39) (wf r x) N := by rw [eσ15, up_ne (by omega)]; exact hEσ14
                          refine r_aload_n F hl 4 rfl rfl dX5_laysBest_148 ?_
                          refine r_cVV F X 36 (by decide) (eK_36 G _) rfl (c_X5_takesWay l G σ15 N (rgv r x (r 60)) hrσ15 hNσ15 (hW.gv (by omega))) gv_RX5_206 rfl nd_X5_takesWay rfl (rest := []) rfl (Nat.le_of_ble_eq_true rfl) ⟨Nat.le_of_ble_eq_true rfl, Nat.le_of_ble_eq_true rfl⟩ ⟨Nat.zero_le _, Nat.zero_le _⟩ hl.1 dX5_laysBest_149 (fun ω H locs hω X => ?_)
                          have hfω : ∀ c : Nat, c ≠ 36 → c ≠ 41 → ω c = σ3 c := fun c a d => by rw [hω.1 c d, eσ15, up_ne a, eσ14, up_ne a, eσ13, up_ne a]
                          have h36ω : ω 36 = upI (upI (upI (σ3 36) 8 (if wG N r x = true then 1 else 0)) 9 (wS N r x)) 10 (wT N r x) := by rw [hω.1 36 (by omega), eσ15, up_eq, eσ14, up_eq, eσ13, up_eq]
                          have hrω : ω 37 = rgv r x (r 60) := by rw [hfω 37 (by omega) (by omega)]; exact hrσ3
                          have hfmN : ∀ c : Nat, c ≠ 36 → c ≠ 37 → c ≠ 39 → c ≠ 40 → c ≠ 41 → ω c = σ c := fun c a b d e f9 => by rw [hfω c a f9, hfs c b d]; exact hfm c a b d e f9
                          have h40N : ∀ i : Int, 0 ≤ i → i < 12 → ω 40 i = r (24 + i) := fun i a b => by rw [hfω 40 (by omega) (by omega), hfs 40 (by omega) (by omega)]; exact h401 i a b
                          have h36N : ∀ i : Int, i < 8 → ω 36 i = σ 36 i := fun i a => by rw [h36ω, upI_ne (by omega), upI_ne (by omega), upI_ne (by omega), hfs 36 (by omega) (by omega)]; exact h36 i a
                          have hv8 : ω 36 8 = (if wG N r x = true then 1 else 0) := by rw [h36ω, upI_ne (by omega), upI_ne (by omega), upI_eq]
                          have hv9 : ω 36 9 = wS N r x := by rw [h36ω, upI_ne (by omega), upI_eq]
                          have hv10 : ω 36 10 = wT N r x := by rw [h36ω, upI_eq]
                          have hmbN : MBR ω := by unfold MBR; rw [hv8, hv9, hv10]; refine ⟨by omega, by omega, ?_⟩; split <;> simp
                          have hbN : BB ω N r (amI (bet N r) (x + 1)) := by rw [htk]; exact ⟨hv9, hv10, hv8, fun s9 a b => by rw [hω.2 s9 a (by omega)]; exact rgv_in a b⟩
                          refine r_iinc F hl [(2, .int (I (x + 1))), (6, .int (I (if wS N r x < σ3 36 9 ∨ (wS N r x = σ3 36 9 ∧ wT N r x < σ3 36 10) then 1 else 0))), (5, .int (I (wT N r x))), (4, .int (I (wS N r x))), (3, .int (I (if wG N r x = true then 1 else 0))), (0, .ref (gY G 36)), (1, .int (I mm))] 6 rfl (by decide) rfl dX5_laysBest_152 (fun ls hl => ?_)
                          refine r_goto F 31 (by decide) dX5_laysBest_155 ?_
                          exact ih31 (x + 1) (rgv r x (r 60)) ω _ _ _ (by omega) (by omega) (by exact hrω) (by exact Or.inr ⟨x, rfl⟩) (by exact hfmN) (by exact h40N) (by exact h36N) (by exact hmbN) (by exact Or.inr ⟨by omega, hbN⟩) X (lv_sub hl [5, 6, 0] rfl)
              · skip
                refine r_iload F hl 1 rfl dX5_laysBest_78 ?_
                refine r_aload_n F hl 3 rfl rfl dX5_laysBest_80 ?_
                refine r_get F X 36 (by decide) (eK_36 G _) rfl gl_RX5 9 (by decide) rfl gf_RX5_196 rfl dX5_laysBest_81 ?_
                refine r_icmp_ne F 100 (by decide) (by omega) (by omega) dX5_laysBest_84 (fun c12 => ?_) (fun c12 => ?_)
                · skip
                  refine r_iconst F dX5_laysBest_100 ?_
                  refine r_eqI (b := if wS N r x < σ3 36 9 ∨ (wS N r x = σ3 36 9 ∧ wT N r x < σ3 36 10) then 1 else 0) (by first | rw [if_pos (by omega)] | rw [if_neg (by omega)]) ?_
                  refine r_istore F hl [(6, .int (I (if wS N r x < σ3 36 9 ∨ (wS N r x = σ3 36 9 ∧ wT N r x < σ3 36 10) then 1 else 0))), (5, .int (I (wT N r x))), (4, .int (I (wS N r x))), (3, .int (I (if wG N r x = true then 1 else 0))), (0, .ref (gY G 36)), (1, .int (I mm)), (2, .int (I x))] (by decide) rfl dX5_laysBest_101 (fun ls hl => ?_)
                  have hbt : x = 0 ∨ (bet N r x (amI (bet N r) x) = true ↔ (((if wG N r x = true then 1 else 0) ≠ σ3 36 8 ∧ wG N r x = true) ∨ ((if wG N r x = true then 1 else 0) = σ3 36 8 ∧ (wS N r x < σ3 36 9 ∨ (wS N r x = σ3 36 9 ∧ wT N r x < σ3 36 10))))) := hb.imp id (fun h9 => by rw [hfs 36 (by omega) (by omega)]; exact bet_or h9.2.1 h9.2.2.1 h9.2.2.2.1)
                  refine r_iload_n F hl 6 rfl rfl dX5_laysBest_103 ?_
                  refine r_if_eq F 131 (by decide) (by omega) dX5_laysBest_104 (fun c13 => ?_) (fun c13 => ?_)
                  · skip
                    have htk : amI (bet N r) (x + 1) = x := am_take hx.1 (by rcases hbt with z | z; exact Or.inl z; (first | (left; omega) | (right; rw [z]; grind)))
                    refine r_aload_n F hl 4 rfl rfl dX5_laysBest_131 ?_
                    refine r_iload_n F hl 3 rfl rfl dX5_laysBest_132 ?_
                    refine r_put F X 36 (by decide) (upI (σ3 36) 8 (if wG N r x = true then 1 else 0)) (eK_36 G _) rfl gl_RX5 tyX5 tyX5_ok nmX5 8 (by decide) rfl gf_RX5_202 rfl (tyX5_ok 8 (by decide)) (nzb (by omega)) (nzf (by omega)) (Nat.le_of_ble_eq_true rfl) (eK_36 G _) dX5_laysBest_133 (fun H locs X => ?_)
                    obtain ⟨σ16, eσ16⟩ : ∃ x9 : St, x9 = up σ3 36 (upI (σ3 36) 8 (if wG N r x = true then 1 else 0)) := ⟨_, rfl⟩
                    rw [← eσ16] at X
                    have hrσ16 : σ16 37 = rgv r x (r 60) := by rw [eσ16, up_ne (by omega)]; exact hrσ3
                    have hNσ16 : σ16 36 1 = N := by rw [eσ16, up_eq, upI_ne (by omega)]; exact hNσ3
                    have hEσ16 : EQN (σ16 39) (wf r x) N := by rw [eσ16, up_ne (by omega)]; exact hE2
                    refine r_aload_n F hl 4 rfl rfl dX5_laysBest_136 ?_
                    refine r_iload F hl 2 rfl dX5_laysBest_137 ?_
                    refine r_put F X 36 (by decide) (upI (σ16 36) 9 (wS N r x)) (eK_36 G _) rfl gl_RX5 tyX5 tyX5_ok nmX5 9 (by decide) rfl gf_RX5_196 rfl (tyX5_ok 9 (by decide)) rfl rfl (Nat.le_of_ble_eq_true rfl) (eK_36 G _) dX5_laysBest_139 (fun H locs X => ?_)
                    obtain ⟨σ17, eσ17⟩ : ∃ x9 : St, x9 = up σ16 36 (upI (σ16 36) 9 (wS N r x)) := ⟨_, rfl⟩
                    rw [← eσ17] at X
                    have hrσ17 : σ17 37 = rgv r x (r 60) := by rw [eσ17, up_ne (by omega)]; exact hrσ16
                    have hNσ17 : σ17 36 1 = N := by rw [eσ17, up_eq, upI_ne (by omega)]; exact hNσ16
                    have hEσ17 : EQN (σ17 39) (wf r x) N := by rw [eσ17, up_ne (by omega)]; exact hEσ16
                    refine r_aload_n F hl 4 rfl rfl dX5_laysBest_142 ?_
                    refine r_iload F hl 1 rfl dX5_laysBest_143 ?_
                    refine r_put F X 36 (by decide) (upI (σ17 36) 10 (wT N r x)) (eK_36 G _) rfl gl_RX5 tyX5 tyX5_ok nmX5 10 (by decide) rfl gf_RX5_199 rfl (tyX5_ok 10 (by decide)) rfl rfl (Nat.le_of_ble_eq_true rfl) (eK_36 G _) dX5_laysBest_145 (fun H locs X => ?_)
                    obtain ⟨σ18, eσ18⟩ : ∃ x9 : St, x9 = up σ17 36 (upI (σ17 36) 10 (wT N r x)) := ⟨_, rfl⟩
                    rw [← eσ18] at X
                    have hrσ18 : σ18 37 = rgv r x (r 60) := by rw [eσ18, up_ne (by omega)]; exact hrσ17
                    have hNσ18 : σ18 36 1 = N := by rw [eσ18, up_eq, upI_ne (by omega)]; exact hNσ17
                    have hEσ18 : EQN (σ18 39) (wf r x) N := by rw [eσ18, up_ne (by omega)]; exact hEσ17
                    refine r_aload_n F hl 4 rfl rfl dX5_laysBest_148 ?_
                    refine r_cVV F X 36 (by decide) (eK_36 G _) rfl (c_X5_takesWay l G σ18 N (rgv r x (r 60)) hrσ18 hNσ18 (hW.gv (by omega))) gv_RX5_206 rfl nd_X5_takesWay rfl (rest := []) rfl (Nat.le_of_ble_eq_true rfl) ⟨Nat.le_of_ble_eq_true rfl, Nat.le_of_ble_eq_true rfl⟩ ⟨Nat.zero_le _, Nat.zero_le _⟩ hl.1 dX5_laysBest_149 (fun ω H locs hω X => ?_)
                    have hfω : ∀ c : Nat, c ≠ 36 → c ≠ 41 → ω c = σ3 c := fun c a d => by rw [hω.1 c d, eσ18, up_ne a, eσ17, up_ne a, eσ16, up_ne a]
                    have h36ω : ω 36 = upI (upI (upI (σ3 36) 8 (if wG N r x = true then 1 else 0)) 9 (wS N r x)) 10 (wT N r x) := by rw [hω.1 36 (by omega), eσ18, up_eq, eσ17, up_eq, eσ16, up_eq]
                    have hrω : ω 37 = rgv r x (r 60) := by rw [hfω 37 (by omega) (by omega)]; exact hrσ3
                    have hfmN : ∀ c : Nat, c ≠ 36 → c ≠ 37 → c ≠ 39 → c ≠ 40 → c ≠ 41 → ω c = σ c := fun c a b d e f9 => by rw [hfω c a f9, hfs c b d]; exact hfm c a b d e f9
                    have h40N : ∀ i : Int, 0 ≤ i → i < 12 → ω 40 i = r (24 + i) := fun i a b => by rw [hfω 40 (by omega) (by omega), hfs 40 (by omega) (by omega)]; exact h401 i a b
                    have h36N : ∀ i : Int, i < 8 → ω 36 i = σ 36 i := fun i a => by rw [h36ω, upI_ne (by omega), upI_ne (by omega), upI_ne (by omega), hfs 36 (by omega) (by omega)]; exact h36 i a
                    have hv8 : ω 36 8 = (if wG N r x = true then 1 else 0) := by rw [h36ω, upI_ne (by omega), upI_ne (by omega), upI_eq]
                    have hv9 : ω 36 9 = wS N r x := by rw [h36ω, upI_ne (by omega), upI_eq]
                    have hv10 : ω 36 10 = wT N r x := by rw [h36ω, upI_eq]
                    have hmbN : MBR ω := by unfold MBR; rw [hv8, hv9, hv10]; refine ⟨by omega, by omega, ?_⟩; split <;> simp
                    have hbN : BB ω N r (amI (bet N r) (x + 1)) := by rw [htk]; exact ⟨hv9, hv10, hv8, fun s9 a b => by rw [hω.2 s9 a (by omega)]; exact rgv_in a b⟩
                    refine r_iinc F hl [(2, .int (I (x + 1))), (6, .int (I (if wS N r x < σ3 36 9 ∨ (wS N r x = σ3 36 9 ∧ wT N r x < σ3 36 10) then 1 else 0))), (5, .int (I (wT N r x))), (4, .int (I (wS N r x))), (3, .int (I (if wG N r x = true then 1 else 0))), (0, .ref (gY G 36)), (1, .int (I mm))] 6 rfl (by decide) rfl dX5_laysBest_152 (fun ls hl => ?_)
                    refine r_goto F 31 (by decide) dX5_laysBest_155 ?_
                    exact ih31 (x + 1) (rgv r x (r 60)) ω _ _ _ (by omega) (by omega) (by exact hrω) (by exact Or.inr ⟨x, rfl⟩) (by exact hfmN) (by exact h40N) (by exact h36N) (by exact hmbN) (by exact Or.inr ⟨by omega, hbN⟩) X (lv_sub hl [5, 6, 0] rfl)
                  · skip
                    refine r_iload_n F hl 3 rfl rfl dX5_laysBest_107 ?_
                    refine r_bz_eq F 118 (wG N r x = true) rfl (by decide) dX5_laysBest_108 (fun c14 => ?_) (fun c14 => ?_)
                    · skip
                      refine r_iload_n F hl 3 rfl rfl dX5_laysBest_118 ?_
                      refine r_aload_n F hl 4 rfl rfl dX5_laysBest_119 ?_
                      refine r_get F X 36 (by decide) (eK_36 G _) rfl gl_RX5 8 (by decide) rfl gf_RX5_202 rfl dX5_laysBest_120 ?_
                      refine r_icmp_ne F 152 (by decide) (by first | (split <;> omega) | omega) (by first | (split <;> omega) | omega) dX5_laysBest_123 (fun c15 => ?_) (fun c15 => ?_)
                      · skip
                        have hsk : x ≠ 0 := by omega
                        have hnb : ¬ bet N r x (amI (bet N r) x) = true := by rcases hbt with z | z; (exact absurd z hsk); (rw [z]; grind)
                        have hfmN : ∀ c : Nat, c ≠ 36 → c ≠ 37 → c ≠ 39 → c ≠ 40 → c ≠ 41 → σ3 c = σ c := fun c a b d e f9 => by rw [hfs c b d]; exact hfm c a b d e f9
                        have h40N : ∀ i : Int, 0 ≤ i → i < 12 → σ3 40 i = r (24 + i) := fun i a b => by rw [hfs 40 (by omega) (by omega)]; exact h401 i a b
                        have h36N : ∀ i : Int, i < 8 → σ3 36 i = σ 36 i := fun i a => by rw [hfs 36 (by omega) (by omega)]; exact h36 i a
                        have hmbN : MBR σ3 := hmb2
                        have hbN : BB σ3 N r (amI (bet N r) (x + 1)) := by rw [am_skip hx.1 hnb]; unfold BB; rw [hfs 36 (by omega) (by omega), hfs 41 (by omega) (by omega)]; exact (hb.resolve_left hsk).2
                        refine r_iinc F hl [(2, .int (I (x + 1))), (6, .int (I (if wS N r x < σ3 36 9 ∨ (wS N r x = σ3 36 9 ∧ wT N r x < σ3 36 10) then 1 else 0))), (5, .int (I (wT N r x))), (4, .int (I (wS N r x))), (3, .int (I (if wG N r x = true then 1 else 0))), (0, .ref (gY G 36)), (1, .int (I mm))] 6 rfl (by decide) rfl dX5_laysBest_152 (fun ls hl => ?_)
                        refine r_goto F 31 (by decide) dX5_laysBest_155 ?_
                        exact ih31 (x + 1) (rgv r x (r 60)) σ3 _ _ _ (by omega) (by omega) (by exact hrσ3) (by exact Or.inr ⟨x, rfl⟩) (by exact hfmN) (by exact h40N) (by exact h36N) (by exact hmbN) (by exact Or.inr ⟨by omega, hbN⟩) X (lv_sub hl [5, 6, 0] rfl)
                      · skip
                        refine r_iload F hl 0 rfl dX5_laysBest_126 ?_
                        refine r_bz_eq F 152 (wS N r x < σ3 36 9 ∨ (wS N r x = σ3 36 9 ∧ wT N r x < σ3 36 10)) rfl (by decide) dX5_laysBest_128 (fun c16 => ?_) (fun c16 => ?_)
                        · skip
                          have hsk : x ≠ 0 := by omega
                          have hnb : ¬ bet N r x (amI (bet N r) x) = true := by rcases hbt with z | z; (exact absurd z hsk); (rw [z]; grind)
                          have hfmN : ∀ c : Nat, c ≠ 36 → c ≠ 37 → c ≠ 39 → c ≠ 40 → c ≠ 41 → σ3 c = σ c := fun c a b d e f9 => by rw [hfs c b d]; exact hfm c a b d e f9
                          have h40N : ∀ i : Int, 0 ≤ i → i < 12 → σ3 40 i = r (24 + i) := fun i a b => by rw [hfs 40 (by omega) (by omega)]; exact h401 i a b
                          have h36N : ∀ i : Int, i < 8 → σ3 36 i = σ 36 i := fun i a => by rw [hfs 36 (by omega) (by omega)]; exact h36 i a
                          have hmbN : MBR σ3 := hmb2
                          have hbN : BB σ3 N r (amI (bet N r) (x + 1)) := by rw [am_skip hx.1 hnb]; unfold BB; rw [hfs 36 (by omega) (by omega), hfs 41 (by omega) (by omega)]; exact (hb.resolve_left hsk).2
                          refine r_iinc F hl [(2, .int (I (x + 1))), (6, .int (I (if wS N r x < σ3 36 9 ∨ (wS N r x = σ3 36 9 ∧ wT N r x < σ3 36 10) then 1 else 0))), (5, .int (I (wT N r x))), (4, .int (I (wS N r x))), (3, .int (I (if wG N r x = true then 1 else 0))), (0, .ref (gY G 36)), (1, .int (I mm))] 6 rfl (by decide) rfl dX5_laysBest_152 (fun ls hl => ?_)
                          refine r_goto F 31 (by decide) dX5_laysBest_155 ?_
                          exact ih31 (x + 1) (rgv r x (r 60)) σ3 _ _ _ (by omega) (by omega) (by exact hrσ3) (by exact Or.inr ⟨x, rfl⟩) (by exact hfmN) (by exact h40N) (by exact h36N) (by exact hmbN) (by exact Or.inr ⟨by omega, hbN⟩) X (lv_sub hl [5, 6, 0] rfl)
                        · skip
                          have htk : amI (bet N r) (x + 1) = x := am_take hx.1 (by rcases hbt with z | z; exact Or.inl z; (first | (left; omega) | (right; rw [z]; grind)))
                          refine r_aload_n F hl 4 rfl rfl dX5_laysBest_131 ?_
                          refine r_iload_n F hl 3 rfl rfl dX5_laysBest_132 ?_
                          refine r_put F X 36 (by decide) (upI (σ3 36) 8 (if wG N r x = true then 1 else 0)) (eK_36 G _) rfl gl_RX5 tyX5 tyX5_ok nmX5 8 (by decide) rfl gf_RX5_202 rfl (tyX5_ok 8 (by decide)) (nzb (by omega)) (nzf (by omega)) (Nat.le_of_ble_eq_true rfl) (eK_36 G _) dX5_laysBest_133 (fun H locs X => ?_)
                          obtain ⟨σ19, eσ19⟩ : ∃ x9 : St, x9 = up σ3 36 (upI (σ3 36) 8 (if wG N r x = true then 1 else 0)) := ⟨_, rfl⟩
                          rw [← eσ19] at X
                          have hrσ19 : σ19 37 = rgv r x (r 60) := by rw [eσ19, up_ne (by omega)]; exact hrσ3
                          have hNσ19 : σ19 36 1 = N := by rw [eσ19, up_eq, upI_ne (by omega)]; exact hNσ3
                          have hEσ19 : EQN (σ19 39) (wf r x) N := by rw [eσ19, up_ne (by omega)]; exact hE2
                          refine r_aload_n F hl 4 rfl rfl dX5_laysBest_136 ?_
                          refine r_iload F hl 2 rfl dX5_laysBest_137 ?_
                          refine r_put F X 36 (by decide) (upI (σ19 36) 9 (wS N r x)) (eK_36 G _) rfl gl_RX5 tyX5 tyX5_ok nmX5 9 (by decide) rfl gf_RX5_196 rfl (tyX5_ok 9 (by decide)) rfl rfl (Nat.le_of_ble_eq_true rfl) (eK_36 G _) dX5_laysBest_139 (fun H locs X => ?_)
                          obtain ⟨σ20, eσ20⟩ : ∃ x9 : St, x9 = up σ19 36 (upI (σ19 36) 9 (wS N r x)) := ⟨_, rfl⟩
                          rw [← eσ20] at X
                          have hrσ20 : σ20 37 = rgv r x (r 60) := by rw [eσ20, up_ne (by omega)]; exact hrσ19
                          have hNσ20 : σ20 36 1 = N := by rw [eσ20, up_eq, upI_ne (by omega)]; exact hNσ19
                          have hEσ20 : EQN (σ20 39) (wf r x) N := by rw [eσ20, up_ne (by omega)]; exact hEσ19
                          refine r_aload_n F hl 4 rfl rfl dX5_laysBest_142 ?_
                          refine r_iload F hl 1 rfl dX5_laysBest_143 ?_
                          refine r_put F X 36 (by decide) (upI (σ20 36) 10 (wT N r x)) (eK_36 G _) rfl gl_RX5 tyX5 tyX5_ok nmX5 10 (by decide) rfl gf_RX5_199 rfl (tyX5_ok 10 (by decide)) rfl rfl (Nat.le_of_ble_eq_true rfl) (eK_36 G _) dX5_laysBest_145 (fun H locs X => ?_)
                          obtain ⟨σ21, eσ21⟩ : ∃ x9 : St, x9 = up σ20 36 (upI (σ20 36) 10 (wT N r x)) := ⟨_, rfl⟩
                          rw [← eσ21] at X
                          have hrσ21 : σ21 37 = rgv r x (r 60) := by rw [eσ21, up_ne (by omega)]; exact hrσ20
                          have hNσ21 : σ21 36 1 = N := by rw [eσ21, up_eq, upI_ne (by omega)]; exact hNσ20
                          have hEσ21 : EQN (σ21 39) (wf r x) N := by rw [eσ21, up_ne (by omega)]; exact hEσ20
                          refine r_aload_n F hl 4 rfl rfl dX5_laysBest_148 ?_
                          refine r_cVV F X 36 (by decide) (eK_36 G _) rfl (c_X5_takesWay l G σ21 N (rgv r x (r 60)) hrσ21 hNσ21 (hW.gv (by omega))) gv_RX5_206 rfl nd_X5_takesWay rfl (rest := []) rfl (Nat.le_of_ble_eq_true rfl) ⟨Nat.le_of_ble_eq_true rfl, Nat.le_of_ble_eq_true rfl⟩ ⟨Nat.zero_le _, Nat.zero_le _⟩ hl.1 dX5_laysBest_149 (fun ω H locs hω X => ?_)
                          have hfω : ∀ c : Nat, c ≠ 36 → c ≠ 41 → ω c = σ3 c := fun c a d => by rw [hω.1 c d, eσ21, up_ne a, eσ20, up_ne a, eσ19, up_ne a]
                          have h36ω : ω 36 = upI (upI (upI (σ3 36) 8 (if wG N r x = true then 1 else 0)) 9 (wS N r x)) 10 (wT N r x) := by rw [hω.1 36 (by omega), eσ21, up_eq, eσ20, up_eq, eσ19, up_eq]
                          have hrω : ω 37 = rgv r x (r 60) := by rw [hfω 37 (by omega) (by omega)]; exact hrσ3
                          have hfmN : ∀ c : Nat, c ≠ 36 → c ≠ 37 → c ≠ 39 → c ≠ 40 → c ≠ 41 → ω c = σ c := fun c a b d e f9 => by rw [hfω c a f9, hfs c b d]; exact hfm c a b d e f9
                          have h40N : ∀ i : Int, 0 ≤ i → i < 12 → ω 40 i = r (24 + i) := fun i a b => by rw [hfω 40 (by omega) (by omega), hfs 40 (by omega) (by omega)]; exact h401 i a b
                          have h36N : ∀ i : Int, i < 8 → ω 36 i = σ 36 i := fun i a => by rw [h36ω, upI_ne (by omega), upI_ne (by omega), upI_ne (by omega), hfs 36 (by omega) (by omega)]; exact h36 i a
                          have hv8 : ω 36 8 = (if wG N r x = true then 1 else 0) := by rw [h36ω, upI_ne (by omega), upI_ne (by omega), upI_eq]
                          have hv9 : ω 36 9 = wS N r x := by rw [h36ω, upI_ne (by omega), upI_eq]
                          have hv10 : ω 36 10 = wT N r x := by rw [h36ω, upI_eq]
                          have hmbN : MBR ω := by unfold MBR; rw [hv8, hv9, hv10]; refine ⟨by omega, by omega, ?_⟩; split <;> simp
                          have hbN : BB ω N r (amI (bet N r) (x + 1)) := by rw [htk]; exact ⟨hv9, hv10, hv8, fun s9 a b => by rw [hω.2 s9 a (by omega)]; exact rgv_in a b⟩
                          refine r_iinc F hl [(2, .int (I (x + 1))), (6, .int (I (if wS N r x < σ3 36 9 ∨ (wS N r x = σ3 36 9 ∧ wT N r x < σ3 36 10) then 1 else 0))), (5, .int (I (wT N r x))), (4, .int (I (wS N r x))), (3, .int (I (if wG N r x = true then 1 else 0))), (0, .ref (gY G 36)), (1, .int (I mm))] 6 rfl (by decide) rfl dX5_laysBest_152 (fun ls hl => ?_)
                          refine r_goto F 31 (by decide) dX5_laysBest_155 ?_
                          exact ih31 (x + 1) (rgv r x (r 60)) ω _ _ _ (by omega) (by omega) (by exact hrω) (by exact Or.inr ⟨x, rfl⟩) (by exact hfmN) (by exact h40N) (by exact h36N) (by exact hmbN) (by exact Or.inr ⟨by omega, hbN⟩) X (lv_sub hl [5, 6, 0] rfl)
                    · skip
                      refine r_aload_n F hl 4 rfl rfl dX5_laysBest_111 ?_
                      refine r_get F X 36 (by decide) (eK_36 G _) rfl gl_RX5 8 (by decide) rfl gf_RX5_202 rfl dX5_laysBest_112 ?_
                      refine r_if_eq F 131 (by decide) (by omega) dX5_laysBest_115 (fun c17 => ?_) (fun c17 => ?_)
                      · skip
                        have htk : amI (bet N r) (x + 1) = x := am_take hx.1 (by rcases hbt with z | z; exact Or.inl z; (first | (left; omega) | (right; rw [z]; grind)))
                        refine r_aload_n F hl 4 rfl rfl dX5_laysBest_131 ?_
                        refine r_iload_n F hl 3 rfl rfl dX5_laysBest_132 ?_
                        refine r_put F X 36 (by decide) (upI (σ3 36) 8 (if wG N r x = true then 1 else 0)) (eK_36 G _) rfl gl_RX5 tyX5 tyX5_ok nmX5 8 (by decide) rfl gf_RX5_202 rfl (tyX5_ok 8 (by decide)) (nzb (by omega)) (nzf (by omega)) (Nat.le_of_ble_eq_true rfl) (eK_36 G _) dX5_laysBest_133 (fun H locs X => ?_)
                        obtain ⟨σ22, eσ22⟩ : ∃ x9 : St, x9 = up σ3 36 (upI (σ3 36) 8 (if wG N r x = true then 1 else 0)) := ⟨_, rfl⟩
                        rw [← eσ22] at X
                        have hrσ22 : σ22 37 = rgv r x (r 60) := by rw [eσ22, up_ne (by omega)]; exact hrσ3
                        have hNσ22 : σ22 36 1 = N := by rw [eσ22, up_eq, upI_ne (by omega)]; exact hNσ3
                        have hEσ22 : EQN (σ22 39) (wf r x) N := by rw [eσ22, up_ne (by omega)]; exact hE2
                        refine r_aload_n F hl 4 rfl rfl dX5_laysBest_136 ?_
                        refine r_iload F hl 2 rfl dX5_laysBest_137 ?_
                        refine r_put F X 36 (by decide) (upI (σ22 36) 9 (wS N r x)) (eK_36 G _) rfl gl_RX5 tyX5 tyX5_ok nmX5 9 (by decide) rfl gf_RX5_196 rfl (tyX5_ok 9 (by decide)) rfl rfl (Nat.le_of_ble_eq_true rfl) (eK_36 G _) dX5_laysBest_139 (fun H locs X => ?_)
                        obtain ⟨σ23, eσ23⟩ : ∃ x9 : St, x9 = up σ22 36 (upI (σ22 36) 9 (wS N r x)) := ⟨_, rfl⟩
                        rw [← eσ23] at X
                        have hrσ23 : σ23 37 = rgv r x (r 60) := by rw [eσ23, up_ne (by omega)]; exact hrσ22
                        have hNσ23 : σ23 36 1 = N := by rw [eσ23, up_eq, upI_ne (by omega)]; exact hNσ22
                        have hEσ23 : EQN (σ23 39) (wf r x) N := by rw [eσ23, up_ne (by omega)]; exact hEσ22
                        refine r_aload_n F hl 4 rfl rfl dX5_laysBest_142 ?_
                        refine r_iload F hl 1 rfl dX5_laysBest_143 ?_
                        refine r_put F X 36 (by decide) (upI (σ23 36) 10 (wT N r x)) (eK_36 G _) rfl gl_RX5 tyX5 tyX5_ok nmX5 10 (by decide) rfl gf_RX5_199 rfl (tyX5_ok 10 (by decide)) rfl rfl (Nat.le_of_ble_eq_true rfl) (eK_36 G _) dX5_laysBest_145 (fun H locs X => ?_)
                        obtain ⟨σ24, eσ24⟩ : ∃ x9 : St, x9 = up σ23 36 (upI (σ23 36) 10 (wT N r x)) := ⟨_, rfl⟩
                        rw [← eσ24] at X
                        have hrσ24 : σ24 37 = rgv r x (r 60) := by rw [eσ24, up_ne (by omega)]; exact hrσ23
                        have hNσ24 : σ24 36 1 = N := by rw [eσ24, up_eq, upI_ne (by omega)]; exact hNσ23
                        have hEσ24 : EQN (σ24 39) (wf r x) N := by rw [eσ24, up_ne (by omega)]; exact hEσ23
                        refine r_aload_n F hl 4 rfl rfl dX5_laysBest_148 ?_
                        refine r_cVV F X 36 (by decide) (eK_36 G _) rfl (c_X5_takesWay l G σ24 N (rgv r x (r 60)) hrσ24 hNσ24 (hW.gv (by omega))) gv_RX5_206 rfl nd_X5_takesWay rfl (rest := []) rfl (Nat.le_of_ble_eq_true rfl) ⟨Nat.le_of_ble_eq_true rfl, Nat.le_of_ble_eq_true rfl⟩ ⟨Nat.zero_le _, Nat.zero_le _⟩ hl.1 dX5_laysBest_149 (fun ω H locs hω X => ?_)
                        have hfω : ∀ c : Nat, c ≠ 36 → c ≠ 41 → ω c = σ3 c := fun c a d => by rw [hω.1 c d, eσ24, up_ne a, eσ23, up_ne a, eσ22, up_ne a]
                        have h36ω : ω 36 = upI (upI (upI (σ3 36) 8 (if wG N r x = true then 1 else 0)) 9 (wS N r x)) 10 (wT N r x) := by rw [hω.1 36 (by omega), eσ24, up_eq, eσ23, up_eq, eσ22, up_eq]
                        have hrω : ω 37 = rgv r x (r 60) := by rw [hfω 37 (by omega) (by omega)]; exact hrσ3
                        have hfmN : ∀ c : Nat, c ≠ 36 → c ≠ 37 → c ≠ 39 → c ≠ 40 → c ≠ 41 → ω c = σ c := fun c a b d e f9 => by rw [hfω c a f9, hfs c b d]; exact hfm c a b d e f9
                        have h40N : ∀ i : Int, 0 ≤ i → i < 12 → ω 40 i = r (24 + i) := fun i a b => by rw [hfω 40 (by omega) (by omega), hfs 40 (by omega) (by omega)]; exact h401 i a b
                        have h36N : ∀ i : Int, i < 8 → ω 36 i = σ 36 i := fun i a => by rw [h36ω, upI_ne (by omega), upI_ne (by omega), upI_ne (by omega), hfs 36 (by omega) (by omega)]; exact h36 i a
                        have hv8 : ω 36 8 = (if wG N r x = true then 1 else 0) := by rw [h36ω, upI_ne (by omega), upI_ne (by omega), upI_eq]
                        have hv9 : ω 36 9 = wS N r x := by rw [h36ω, upI_ne (by omega), upI_eq]
                        have hv10 : ω 36 10 = wT N r x := by rw [h36ω, upI_eq]
                        have hmbN : MBR ω := by unfold MBR; rw [hv8, hv9, hv10]; refine ⟨by omega, by omega, ?_⟩; split <;> simp
                        have hbN : BB ω N r (amI (bet N r) (x + 1)) := by rw [htk]; exact ⟨hv9, hv10, hv8, fun s9 a b => by rw [hω.2 s9 a (by omega)]; exact rgv_in a b⟩
                        refine r_iinc F hl [(2, .int (I (x + 1))), (6, .int (I (if wS N r x < σ3 36 9 ∨ (wS N r x = σ3 36 9 ∧ wT N r x < σ3 36 10) then 1 else 0))), (5, .int (I (wT N r x))), (4, .int (I (wS N r x))), (3, .int (I (if wG N r x = true then 1 else 0))), (0, .ref (gY G 36)), (1, .int (I mm))] 6 rfl (by decide) rfl dX5_laysBest_152 (fun ls hl => ?_)
                        refine r_goto F 31 (by decide) dX5_laysBest_155 ?_
                        exact ih31 (x + 1) (rgv r x (r 60)) ω _ _ _ (by omega) (by omega) (by exact hrω) (by exact Or.inr ⟨x, rfl⟩) (by exact hfmN) (by exact h40N) (by exact h36N) (by exact hmbN) (by exact Or.inr ⟨by omega, hbN⟩) X (lv_sub hl [5, 6, 0] rfl)
                      · skip
                        refine r_iload_n F hl 3 rfl rfl dX5_laysBest_118 ?_
                        refine r_aload_n F hl 4 rfl rfl dX5_laysBest_119 ?_
                        refine r_get F X 36 (by decide) (eK_36 G _) rfl gl_RX5 8 (by decide) rfl gf_RX5_202 rfl dX5_laysBest_120 ?_
                        refine r_icmp_ne F 152 (by decide) (by first | (split <;> omega) | omega) (by first | (split <;> omega) | omega) dX5_laysBest_123 (fun c18 => ?_) (fun c18 => ?_)
                        · skip
                          have hsk : x ≠ 0 := by omega
                          have hnb : ¬ bet N r x (amI (bet N r) x) = true := by rcases hbt with z | z; (exact absurd z hsk); (rw [z]; grind)
                          have hfmN : ∀ c : Nat, c ≠ 36 → c ≠ 37 → c ≠ 39 → c ≠ 40 → c ≠ 41 → σ3 c = σ c := fun c a b d e f9 => by rw [hfs c b d]; exact hfm c a b d e f9
                          have h40N : ∀ i : Int, 0 ≤ i → i < 12 → σ3 40 i = r (24 + i) := fun i a b => by rw [hfs 40 (by omega) (by omega)]; exact h401 i a b
                          have h36N : ∀ i : Int, i < 8 → σ3 36 i = σ 36 i := fun i a => by rw [hfs 36 (by omega) (by omega)]; exact h36 i a
                          have hmbN : MBR σ3 := hmb2
                          have hbN : BB σ3 N r (amI (bet N r) (x + 1)) := by rw [am_skip hx.1 hnb]; unfold BB; rw [hfs 36 (by omega) (by omega), hfs 41 (by omega) (by omega)]; exact (hb.resolve_left hsk).2
                          refine r_iinc F hl [(2, .int (I (x + 1))), (6, .int (I (if wS N r x < σ3 36 9 ∨ (wS N r x = σ3 36 9 ∧ wT N r x < σ3 36 10) then 1 else 0))), (5, .int (I (wT N r x))), (4, .int (I (wS N r x))), (3, .int (I (if wG N r x = true then 1 else 0))), (0, .ref (gY G 36)), (1, .int (I mm))] 6 rfl (by decide) rfl dX5_laysBest_152 (fun ls hl => ?_)
                          refine r_goto F 31 (by decide) dX5_laysBest_155 ?_
                          exact ih31 (x + 1) (rgv r x (r 60)) σ3 _ _ _ (by omega) (by omega) (by exact hrσ3) (by exact Or.inr ⟨x, rfl⟩) (by exact hfmN) (by exact h40N) (by exact h36N) (by exact hmbN) (by exact Or.inr ⟨by omega, hbN⟩) X (lv_sub hl [5, 6, 0] rfl)
                        · skip
                          refine r_iload F hl 0 rfl dX5_laysBest_126 ?_
                          refine r_bz_eq F 152 (wS N r x < σ3 36 9 ∨ (wS N r x = σ3 36 9 ∧ wT N r x < σ3 36 10)) rfl (by decide) dX5_laysBest_128 (fun c19 => ?_) (fun c19 => ?_)
                          · skip
                            have hsk : x ≠ 0 := by omega
                            have hnb : ¬ bet N r x (amI (bet N r) x) = true := by rcases hbt with z | z; (exact absurd z hsk); (rw [z]; grind)
                            have hfmN : ∀ c : Nat, c ≠ 36 → c ≠ 37 → c ≠ 39 → c ≠ 40 → c ≠ 41 → σ3 c = σ c := fun c a b d e f9 => by rw [hfs c b d]; exact hfm c a b d e f9
                            have h40N : ∀ i : Int, 0 ≤ i → i < 12 → σ3 40 i = r (24 + i) := fun i a b => by rw [hfs 40 (by omega) (by omega)]; exact h401 i a b
                            have h36N : ∀ i : Int, i < 8 → σ3 36 i = σ 36 i := fun i a => by rw [hfs 36 (by omega) (by omega)]; exact h36 i a
                            have hmbN : MBR σ3 := hmb2
                            have hbN : BB σ3 N r (amI (bet N r) (x + 1)) := by rw [am_skip hx.1 hnb]; unfold BB; rw [hfs 36 (by omega) (by omega), hfs 41 (by omega) (by omega)]; exact (hb.resolve_left hsk).2
                            refine r_iinc F hl [(2, .int (I (x + 1))), (6, .int (I (if wS N r x < σ3 36 9 ∨ (wS N r x = σ3 36 9 ∧ wT N r x < σ3 36 10) then 1 else 0))), (5, .int (I (wT N r x))), (4, .int (I (wS N r x))), (3, .int (I (if wG N r x = true then 1 else 0))), (0, .ref (gY G 36)), (1, .int (I mm))] 6 rfl (by decide) rfl dX5_laysBest_152 (fun ls hl => ?_)
                            refine r_goto F 31 (by decide) dX5_laysBest_155 ?_
                            exact ih31 (x + 1) (rgv r x (r 60)) σ3 _ _ _ (by omega) (by omega) (by exact hrσ3) (by exact Or.inr ⟨x, rfl⟩) (by exact hfmN) (by exact h40N) (by exact h36N) (by exact hmbN) (by exact Or.inr ⟨by omega, hbN⟩) X (lv_sub hl [5, 6, 0] rfl)
                          · skip
                            have htk : amI (bet N r) (x + 1) = x := am_take hx.1 (by rcases hbt with z | z; exact Or.inl z; (first | (left; omega) | (right; rw [z]; grind)))
                            refine r_aload_n F hl 4 rfl rfl dX5_laysBest_131 ?_
                            refine r_iload_n F hl 3 rfl rfl dX5_laysBest_132 ?_
                            refine r_put F X 36 (by decide) (upI (σ3 36) 8 (if wG N r x = true then 1 else 0)) (eK_36 G _) rfl gl_RX5 tyX5 tyX5_ok nmX5 8 (by decide) rfl gf_RX5_202 rfl (tyX5_ok 8 (by decide)) (nzb (by omega)) (nzf (by omega)) (Nat.le_of_ble_eq_true rfl) (eK_36 G _) dX5_laysBest_133 (fun H locs X => ?_)
                            obtain ⟨σ25, eσ25⟩ : ∃ x9 : St, x9 = up σ3 36 (upI (σ3 36) 8 (if wG N r x = true then 1 else 0)) := ⟨_, rfl⟩
                            rw [← eσ25] at X
                            have hrσ25 : σ25 37 = rgv r x (r 60) := by rw [eσ25, up_ne (by omega)]; exact hrσ3
                            have hNσ25 : σ25 36 1 = N := by rw [eσ25, up_eq, upI_ne (by omega)]; exact hNσ3
                            have hEσ25 : EQN (σ25 39) (wf r x) N := by rw [eσ25, up_ne (by omega)]; exact hE2
                            refine r_aload_n F hl 4 rfl rfl dX5_laysBest_136 ?_
                            refine r_iload F hl 2 rfl dX5_laysBest_137 ?_
                            refine r_put F X 36 (by decide) (upI (σ25 36) 9 (wS N r x)) (eK_36 G _) rfl gl_RX5 tyX5 tyX5_ok nmX5 9 (by decide) rfl gf_RX5_196 rfl (tyX5_ok 9 (by decide)) rfl rfl (Nat.le_of_ble_eq_true rfl) (eK_36 G _) dX5_laysBest_139 (fun H locs X => ?_)
                            obtain ⟨σ26, eσ26⟩ : ∃ x9 : St, x9 = up σ25 36 (upI (σ25 36) 9 (wS N r x)) := ⟨_, rfl⟩
                            rw [← eσ26] at X
                            have hrσ26 : σ26 37 = rgv r x (r 60) := by rw [eσ26, up_ne (by omega)]; exact hrσ25
                            have hNσ26 : σ26 36 1 = N := by rw [eσ26, up_eq, upI_ne (by omega)]; exact hNσ25
                            have hEσ26 : EQN (σ26 39) (wf r x) N := by rw [eσ26, up_ne (by omega)]; exact hEσ25
                            refine r_aload_n F hl 4 rfl rfl dX5_laysBest_142 ?_
                            refine r_iload F hl 1 rfl dX5_laysBest_143 ?_
                            refine r_put F X 36 (by decide) (upI (σ26 36) 10 (wT N r x)) (eK_36 G _) rfl gl_RX5 tyX5 tyX5_ok nmX5 10 (by decide) rfl gf_RX5_199 rfl (tyX5_ok 10 (by decide)) rfl rfl (Nat.le_of_ble_eq_true rfl) (eK_36 G _) dX5_laysBest_145 (fun H locs X => ?_)
                            obtain ⟨σ27, eσ27⟩ : ∃ x9 : St, x9 = up σ26 36 (upI (σ26 36) 10 (wT N r x)) := ⟨_, rfl⟩
                            rw [← eσ27] at X
                            have hrσ27 : σ27 37 = rgv r x (r 60) := by rw [eσ27, up_ne (by omega)]; exact hrσ26
                            have hNσ27 : σ27 36 1 = N := by rw [eσ27, up_eq, upI_ne (by omega)]; exact hNσ26
                            have hEσ27 : EQN (σ27 39) (wf r x) N := by rw [eσ27, up_ne (by omega)]; exact hEσ26
                            refine r_aload_n F hl 4 rfl rfl dX5_laysBest_148 ?_
                            refine r_cVV F X 36 (by decide) (eK_36 G _) rfl (c_X5_takesWay l G σ27 N (rgv r x (r 60)) hrσ27 hNσ27 (hW.gv (by omega))) gv_RX5_206 rfl nd_X5_takesWay rfl (rest := []) rfl (Nat.le_of_ble_eq_true rfl) ⟨Nat.le_of_ble_eq_true rfl, Nat.le_of_ble_eq_true rfl⟩ ⟨Nat.zero_le _, Nat.zero_le _⟩ hl.1 dX5_laysBest_149 (fun ω H locs hω X => ?_)
                            have hfω : ∀ c : Nat, c ≠ 36 → c ≠ 41 → ω c = σ3 c := fun c a d => by rw [hω.1 c d, eσ27, up_ne a, eσ26, up_ne a, eσ25, up_ne a]
                            have h36ω : ω 36 = upI (upI (upI (σ3 36) 8 (if wG N r x = true then 1 else 0)) 9 (wS N r x)) 10 (wT N r x) := by rw [hω.1 36 (by omega), eσ27, up_eq, eσ26, up_eq, eσ25, up_eq]
                            have hrω : ω 37 = rgv r x (r 60) := by rw [hfω 37 (by omega) (by omega)]; exact hrσ3
                            have hfmN : ∀ c : Nat, c ≠ 36 → c ≠ 37 → c ≠ 39 → c ≠ 40 → c ≠ 41 → ω c = σ c := fun c a b d e f9 => by rw [hfω c a f9, hfs c b d]; exact hfm c a b d e f9
                            have h40N : ∀ i : Int, 0 ≤ i → i < 12 → ω 40 i = r (24 + i) := fun i a b => by rw [hfω 40 (by omega) (by omega), hfs 40 (by omega) (by omega)]; exact h401 i a b
                            have h36N : ∀ i : Int, i < 8 → ω 36 i = σ 36 i := fun i a => by rw [h36ω, upI_ne (by omega), upI_ne (by omega), upI_ne (by omega), hfs 36 (by omega) (by omega)]; exact h36 i a
                            have hv8 : ω 36 8 = (if wG N r x = true then 1 else 0) := by rw [h36ω, upI_ne (by omega), upI_ne (by omega), upI_eq]
                            have hv9 : ω 36 9 = wS N r x := by rw [h36ω, upI_ne (by omega), upI_eq]
                            have hv10 : ω 36 10 = wT N r x := by rw [h36ω, upI_eq]
                            have hmbN : MBR ω := by unfold MBR; rw [hv8, hv9, hv10]; refine ⟨by omega, by omega, ?_⟩; split <;> simp
                            have hbN : BB ω N r (amI (bet N r) (x + 1)) := by rw [htk]; exact ⟨hv9, hv10, hv8, fun s9 a b => by rw [hω.2 s9 a (by omega)]; exact rgv_in a b⟩
                            refine r_iinc F hl [(2, .int (I (x + 1))), (6, .int (I (if wS N r x < σ3 36 9 ∨ (wS N r x = σ3 36 9 ∧ wT N r x < σ3 36 10) then 1 else 0))), (5, .int (I (wT N r x))), (4, .int (I (wS N r x))), (3, .int (I (if wG N r x = true then 1 else 0))), (0, .ref (gY G 36)), (1, .int (I mm))] 6 rfl (by decide) rfl dX5_laysBest_152 (fun ls hl => ?_)
                            refine r_goto F 31 (by decide) dX5_laysBest_155 ?_
                            exact ih31 (x + 1) (rgv r x (r 60)) ω _ _ _ (by omega) (by omega) (by exact hrω) (by exact Or.inr ⟨x, rfl⟩) (by exact hfmN) (by exact h40N) (by exact h36N) (by exact hmbN) (by exact Or.inr ⟨by omega, hbN⟩) X (lv_sub hl [5, 6, 0] rfl)
                · skip
                  refine r_iload F hl 0 rfl dX5_laysBest_87 ?_
                  refine r_aload_n F hl 3 rfl rfl dX5_laysBest_89 ?_
                  refine r_get F X 36 (by decide) (eK_36 G _) rfl gl_RX5 10 (by decide) rfl gf_RX5_199 rfl dX5_laysBest_90 ?_
                  refine r_icmp_ge F 100 (by decide) (by omega) (by omega) dX5_laysBest_93 (fun c20 => ?_) (fun c20 => ?_)
                  · skip
                    refine r_iconst F dX5_laysBest_100 ?_
                    refine r_eqI (b := if wS N r x < σ3 36 9 ∨ (wS N r x = σ3 36 9 ∧ wT N r x < σ3 36 10) then 1 else 0) (by first | rw [if_pos (by omega)] | rw [if_neg (by omega)]) ?_
                    refine r_istore F hl [(6, .int (I (if wS N r x < σ3 36 9 ∨ (wS N r x = σ3 36 9 ∧ wT N r x < σ3 36 10) then 1 else 0))), (5, .int (I (wT N r x))), (4, .int (I (wS N r x))), (3, .int (I (if wG N r x = true then 1 else 0))), (0, .ref (gY G 36)), (1, .int (I mm)), (2, .int (I x))] (by decide) rfl dX5_laysBest_101 (fun ls hl => ?_)
                    have hbt : x = 0 ∨ (bet N r x (amI (bet N r) x) = true ↔ (((if wG N r x = true then 1 else 0) ≠ σ3 36 8 ∧ wG N r x = true) ∨ ((if wG N r x = true then 1 else 0) = σ3 36 8 ∧ (wS N r x < σ3 36 9 ∨ (wS N r x = σ3 36 9 ∧ wT N r x < σ3 36 10))))) := hb.imp id (fun h9 => by rw [hfs 36 (by omega) (by omega)]; exact bet_or h9.2.1 h9.2.2.1 h9.2.2.2.1)
                    refine r_iload_n F hl 6 rfl rfl dX5_laysBest_103 ?_
                    refine r_if_eq F 131 (by decide) (by omega) dX5_laysBest_104 (fun c21 => ?_) (fun c21 => ?_)
                    · skip
                      have htk : amI (bet N r) (x + 1) = x := am_take hx.1 (by rcases hbt with z | z; exact Or.inl z; (first | (left; omega) | (right; rw [z]; grind)))
                      refine r_aload_n F hl 4 rfl rfl dX5_laysBest_131 ?_
                      refine r_iload_n F hl 3 rfl rfl dX5_laysBest_132 ?_
                      refine r_put F X 36 (by decide) (upI (σ3 36) 8 (if wG N r x = true then 1 else 0)) (eK_36 G _) rfl gl_RX5 tyX5 tyX5_ok nmX5 8 (by decide) rfl gf_RX5_202 rfl (tyX5_ok 8 (by decide)) (nzb (by omega)) (nzf (by omega)) (Nat.le_of_ble_eq_true rfl) (eK_36 G _) dX5_laysBest_133 (fun H locs X => ?_)
                      obtain ⟨σ28, eσ28⟩ : ∃ x9 : St, x9 = up σ3 36 (upI (σ3 36) 8 (if wG N r x = true then 1 else 0)) := ⟨_, rfl⟩
                      rw [← eσ28] at X
                      have hrσ28 : σ28 37 = rgv r x (r 60) := by rw [eσ28, up_ne (by omega)]; exact hrσ3
                      have hNσ28 : σ28 36 1 = N := by rw [eσ28, up_eq, upI_ne (by omega)]; exact hNσ3
                      have hEσ28 : EQN (σ28 39) (wf r x) N := by rw [eσ28, up_ne (by omega)]; exact hE2
                      refine r_aload_n F hl 4 rfl rfl dX5_laysBest_136 ?_
                      refine r_iload F hl 2 rfl dX5_laysBest_137 ?_
                      refine r_put F X 36 (by decide) (upI (σ28 36) 9 (wS N r x)) (eK_36 G _) rfl gl_RX5 tyX5 tyX5_ok nmX5 9 (by decide) rfl gf_RX5_196 rfl (tyX5_ok 9 (by decide)) rfl rfl (Nat.le_of_ble_eq_true rfl) (eK_36 G _) dX5_laysBest_139 (fun H locs X => ?_)
                      obtain ⟨σ29, eσ29⟩ : ∃ x9 : St, x9 = up σ28 36 (upI (σ28 36) 9 (wS N r x)) := ⟨_, rfl⟩
                      rw [← eσ29] at X
                      have hrσ29 : σ29 37 = rgv r x (r 60) := by rw [eσ29, up_ne (by omega)]; exact hrσ28
                      have hNσ29 : σ29 36 1 = N := by rw [eσ29, up_eq, upI_ne (by omega)]; exact hNσ28
                      have hEσ29 : EQN (σ29 39) (wf r x) N := by rw [eσ29, up_ne (by omega)]; exact hEσ28
                      refine r_aload_n F hl 4 rfl rfl dX5_laysBest_142 ?_
                      refine r_iload F hl 1 rfl dX5_laysBest_143 ?_
                      refine r_put F X 36 (by decide) (upI (σ29 36) 10 (wT N r x)) (eK_36 G _) rfl gl_RX5 tyX5 tyX5_ok nmX5 10 (by decide) rfl gf_RX5_199 rfl (tyX5_ok 10 (by decide)) rfl rfl (Nat.le_of_ble_eq_true rfl) (eK_36 G _) dX5_laysBest_145 (fun H locs X => ?_)
                      obtain ⟨σ30, eσ30⟩ : ∃ x9 : St, x9 = up σ29 36 (upI (σ29 36) 10 (wT N r x)) := ⟨_, rfl⟩
                      rw [← eσ30] at X
                      have hrσ30 : σ30 37 = rgv r x (r 60) := by rw [eσ30, up_ne (by omega)]; exact hrσ29
                      have hNσ30 : σ30 36 1 = N := by rw [eσ30, up_eq, upI_ne (by omega)]; exact hNσ29
                      have hEσ30 : EQN (σ30 39) (wf r x) N := by rw [eσ30, up_ne (by omega)]; exact hEσ29
                      refine r_aload_n F hl 4 rfl rfl dX5_laysBest_148 ?_
                      refine r_cVV F X 36 (by decide) (eK_36 G _) rfl (c_X5_takesWay l G σ30 N (rgv r x (r 60)) hrσ30 hNσ30 (hW.gv (by omega))) gv_RX5_206 rfl nd_X5_takesWay rfl (rest := []) rfl (Nat.le_of_ble_eq_true rfl) ⟨Nat.le_of_ble_eq_true rfl, Nat.le_of_ble_eq_true rfl⟩ ⟨Nat.zero_le _, Nat.zero_le _⟩ hl.1 dX5_laysBest_149 (fun ω H locs hω X => ?_)
                      have hfω : ∀ c : Nat, c ≠ 36 → c ≠ 41 → ω c = σ3 c := fun c a d => by rw [hω.1 c d, eσ30, up_ne a, eσ29, up_ne a, eσ28, up_ne a]
                      have h36ω : ω 36 = upI (upI (upI (σ3 36) 8 (if wG N r x = true then 1 else 0)) 9 (wS N r x)) 10 (wT N r x) := by rw [hω.1 36 (by omega), eσ30, up_eq, eσ29, up_eq, eσ28, up_eq]
                      have hrω : ω 37 = rgv r x (r 60) := by rw [hfω 37 (by omega) (by omega)]; exact hrσ3
                      have hfmN : ∀ c : Nat, c ≠ 36 → c ≠ 37 → c ≠ 39 → c ≠ 40 → c ≠ 41 → ω c = σ c := fun c a b d e f9 => by rw [hfω c a f9, hfs c b d]; exact hfm c a b d e f9
                      have h40N : ∀ i : Int, 0 ≤ i → i < 12 → ω 40 i = r (24 + i) := fun i a b => by rw [hfω 40 (by omega) (by omega), hfs 40 (by omega) (by omega)]; exact h401 i a b
                      have h36N : ∀ i : Int, i < 8 → ω 36 i = σ 36 i := fun i a => by rw [h36ω, upI_ne (by omega), upI_ne (by omega), upI_ne (by omega), hfs 36 (by omega) (by omega)]; exact h36 i a
                      have hv8 : ω 36 8 = (if wG N r x = true then 1 else 0) := by rw [h36ω, upI_ne (by omega), upI_ne (by omega), upI_eq]
                      have hv9 : ω 36 9 = wS N r x := by rw [h36ω, upI_ne (by omega), upI_eq]
                      have hv10 : ω 36 10 = wT N r x := by rw [h36ω, upI_eq]
                      have hmbN : MBR ω := by unfold MBR; rw [hv8, hv9, hv10]; refine ⟨by omega, by omega, ?_⟩; split <;> simp
                      have hbN : BB ω N r (amI (bet N r) (x + 1)) := by rw [htk]; exact ⟨hv9, hv10, hv8, fun s9 a b => by rw [hω.2 s9 a (by omega)]; exact rgv_in a b⟩
                      refine r_iinc F hl [(2, .int (I (x + 1))), (6, .int (I (if wS N r x < σ3 36 9 ∨ (wS N r x = σ3 36 9 ∧ wT N r x < σ3 36 10) then 1 else 0))), (5, .int (I (wT N r x))), (4, .int (I (wS N r x))), (3, .int (I (if wG N r x = true then 1 else 0))), (0, .ref (gY G 36)), (1, .int (I mm))] 6 rfl (by decide) rfl dX5_laysBest_152 (fun ls hl => ?_)
                      refine r_goto F 31 (by decide) dX5_laysBest_155 ?_
                      exact ih31 (x + 1) (rgv r x (r 60)) ω _ _ _ (by omega) (by omega) (by exact hrω) (by exact Or.inr ⟨x, rfl⟩) (by exact hfmN) (by exact h40N) (by exact h36N) (by exact hmbN) (by exact Or.inr ⟨by omega, hbN⟩) X (lv_sub hl [5, 6, 0] rfl)
                    · skip
                      refine r_iload_n F hl 3 rfl rfl dX5_laysBest_107 ?_
                      refine r_bz_eq F 118 (wG N r x = true) rfl (by decide) dX5_laysBest_108 (fun c22 => ?_) (fun c22 => ?_)
                      · skip
                        refine r_iload_n F hl 3 rfl rfl dX5_laysBest_118 ?_
                        refine r_aload_n F hl 4 rfl rfl dX5_laysBest_119 ?_
                        refine r_get F X 36 (by decide) (eK_36 G _) rfl gl_RX5 8 (by decide) rfl gf_RX5_202 rfl dX5_laysBest_120 ?_
                        refine r_icmp_ne F 152 (by decide) (by first | (split <;> omega) | omega) (by first | (split <;> omega) | omega) dX5_laysBest_123 (fun c23 => ?_) (fun c23 => ?_)
                        · skip
                          have hsk : x ≠ 0 := by omega
                          have hnb : ¬ bet N r x (amI (bet N r) x) = true := by rcases hbt with z | z; (exact absurd z hsk); (rw [z]; grind)
                          have hfmN : ∀ c : Nat, c ≠ 36 → c ≠ 37 → c ≠ 39 → c ≠ 40 → c ≠ 41 → σ3 c = σ c := fun c a b d e f9 => by rw [hfs c b d]; exact hfm c a b d e f9
                          have h40N : ∀ i : Int, 0 ≤ i → i < 12 → σ3 40 i = r (24 + i) := fun i a b => by rw [hfs 40 (by omega) (by omega)]; exact h401 i a b
                          have h36N : ∀ i : Int, i < 8 → σ3 36 i = σ 36 i := fun i a => by rw [hfs 36 (by omega) (by omega)]; exact h36 i a
                          have hmbN : MBR σ3 := hmb2
                          have hbN : BB σ3 N r (amI (bet N r) (x + 1)) := by rw [am_skip hx.1 hnb]; unfold BB; rw [hfs 36 (by omega) (by omega), hfs 41 (by omega) (by omega)]; exact (hb.resolve_left hsk).2
                          refine r_iinc F hl [(2, .int (I (x + 1))), (6, .int (I (if wS N r x < σ3 36 9 ∨ (wS N r x = σ3 36 9 ∧ wT N r x < σ3 36 10) then 1 else 0))), (5, .int (I (wT N r x))), (4, .int (I (wS N r x))), (3, .int (I (if wG N r x = true then 1 else 0))), (0, .ref (gY G 36)), (1, .int (I mm))] 6 rfl (by decide) rfl dX5_laysBest_152 (fun ls hl => ?_)
                          refine r_goto F 31 (by decide) dX5_laysBest_155 ?_
                          exact ih31 (x + 1) (rgv r x (r 60)) σ3 _ _ _ (by omega) (by omega) (by exact hrσ3) (by exact Or.inr ⟨x, rfl⟩) (by exact hfmN) (by exact h40N) (by exact h36N) (by exact hmbN) (by exact Or.inr ⟨by omega, hbN⟩) X (lv_sub hl [5, 6, 0] rfl)
                        · skip
                          refine r_iload F hl 0 rfl dX5_laysBest_126 ?_
                          refine r_bz_eq F 152 (wS N r x < σ3 36 9 ∨ (wS N r x = σ3 36 9 ∧ wT N r x < σ3 36 10)) rfl (by decide) dX5_laysBest_128 (fun c24 => ?_) (fun c24 => ?_)
                          · skip
                            have hsk : x ≠ 0 := by omega
                            have hnb : ¬ bet N r x (amI (bet N r) x) = true := by rcases hbt with z | z; (exact absurd z hsk); (rw [z]; grind)
                            have hfmN : ∀ c : Nat, c ≠ 36 → c ≠ 37 → c ≠ 39 → c ≠ 40 → c ≠ 41 → σ3 c = σ c := fun c a b d e f9 => by rw [hfs c b d]; exact hfm c a b d e f9
                            have h40N : ∀ i : Int, 0 ≤ i → i < 12 → σ3 40 i = r (24 + i) := fun i a b => by rw [hfs 40 (by omega) (by omega)]; exact h401 i a b
                            have h36N : ∀ i : Int, i < 8 → σ3 36 i = σ 36 i := fun i a => by rw [hfs 36 (by omega) (by omega)]; exact h36 i a
                            have hmbN : MBR σ3 := hmb2
                            have hbN : BB σ3 N r (amI (bet N r) (x + 1)) := by rw [am_skip hx.1 hnb]; unfold BB; rw [hfs 36 (by omega) (by omega), hfs 41 (by omega) (by omega)]; exact (hb.resolve_left hsk).2
                            refine r_iinc F hl [(2, .int (I (x + 1))), (6, .int (I (if wS N r x < σ3 36 9 ∨ (wS N r x = σ3 36 9 ∧ wT N r x < σ3 36 10) then 1 else 0))), (5, .int (I (wT N r x))), (4, .int (I (wS N r x))), (3, .int (I (if wG N r x = true then 1 else 0))), (0, .ref (gY G 36)), (1, .int (I mm))] 6 rfl (by decide) rfl dX5_laysBest_152 (fun ls hl => ?_)
                            refine r_goto F 31 (by decide) dX5_laysBest_155 ?_
                            exact ih31 (x + 1) (rgv r x (r 60)) σ3 _ _ _ (by omega) (by omega) (by exact hrσ3) (by exact Or.inr ⟨x, rfl⟩) (by exact hfmN) (by exact h40N) (by exact h36N) (by exact hmbN) (by exact Or.inr ⟨by omega, hbN⟩) X (lv_sub hl [5, 6, 0] rfl)
                          · skip
                            have htk : amI (bet N r) (x + 1) = x := am_take hx.1 (by rcases hbt with z | z; exact Or.inl z; (first | (left; omega) | (right; rw [z]; grind)))
                            refine r_aload_n F hl 4 rfl rfl dX5_laysBest_131 ?_
                            refine r_iload_n F hl 3 rfl rfl dX5_laysBest_132 ?_
                            refine r_put F X 36 (by decide) (upI (σ3 36) 8 (if wG N r x = true then 1 else 0)) (eK_36 G _) rfl gl_RX5 tyX5 tyX5_ok nmX5 8 (by decide) rfl gf_RX5_202 rfl (tyX5_ok 8 (by decide)) (nzb (by omega)) (nzf (by omega)) (Nat.le_of_ble_eq_true rfl) (eK_36 G _) dX5_laysBest_133 (fun H locs X => ?_)
                            obtain ⟨σ31, eσ31⟩ : ∃ x9 : St, x9 = up σ3 36 (upI (σ3 36) 8 (if wG N r x = true then 1 else 0)) := ⟨_, rfl⟩
                            rw [← eσ31] at X
                            have hrσ31 : σ31 37 = rgv r x (r 60) := by rw [eσ31, up_ne (by omega)]; exact hrσ3
                            have hNσ31 : σ31 36 1 = N := by rw [eσ31, up_eq, upI_ne (by omega)]; exact hNσ3
                            have hEσ31 : EQN (σ31 39) (wf r x) N := by rw [eσ31, up_ne (by omega)]; exact hE2
                            refine r_aload_n F hl 4 rfl rfl dX5_laysBest_136 ?_
                            refine r_iload F hl 2 rfl dX5_laysBest_137 ?_
                            refine r_put F X 36 (by decide) (upI (σ31 36) 9 (wS N r x)) (eK_36 G _) rfl gl_RX5 tyX5 tyX5_ok nmX5 9 (by decide) rfl gf_RX5_196 rfl (tyX5_ok 9 (by decide)) rfl rfl (Nat.le_of_ble_eq_true rfl) (eK_36 G _) dX5_laysBest_139 (fun H locs X => ?_)
                            obtain ⟨σ32, eσ32⟩ : ∃ x9 : St, x9 = up σ31 36 (upI (σ31 36) 9 (wS N r x)) := ⟨_, rfl⟩
                            rw [← eσ32] at X
                            have hrσ32 : σ32 37 = rgv r x (r 60) := by rw [eσ32, up_ne (by omega)]; exact hrσ31
                            have hNσ32 : σ32 36 1 = N := by rw [eσ32, up_eq, upI_ne (by omega)]; exact hNσ31
                            have hEσ32 : EQN (σ32 39) (wf r x) N := by rw [eσ32, up_ne (by omega)]; exact hEσ31
                            refine r_aload_n F hl 4 rfl rfl dX5_laysBest_142 ?_
                            refine r_iload F hl 1 rfl dX5_laysBest_143 ?_
                            refine r_put F X 36 (by decide) (upI (σ32 36) 10 (wT N r x)) (eK_36 G _) rfl gl_RX5 tyX5 tyX5_ok nmX5 10 (by decide) rfl gf_RX5_199 rfl (tyX5_ok 10 (by decide)) rfl rfl (Nat.le_of_ble_eq_true rfl) (eK_36 G _) dX5_laysBest_145 (fun H locs X => ?_)
                            obtain ⟨σ33, eσ33⟩ : ∃ x9 : St, x9 = up σ32 36 (upI (σ32 36) 10 (wT N r x)) := ⟨_, rfl⟩
                            rw [← eσ33] at X
                            have hrσ33 : σ33 37 = rgv r x (r 60) := by rw [eσ33, up_ne (by omega)]; exact hrσ32
                            have hNσ33 : σ33 36 1 = N := by rw [eσ33, up_eq, upI_ne (by omega)]; exact hNσ32
                            have hEσ33 : EQN (σ33 39) (wf r x) N := by rw [eσ33, up_ne (by omega)]; exact hEσ32
                            refine r_aload_n F hl 4 rfl rfl dX5_laysBest_148 ?_
                            refine r_cVV F X 36 (by decide) (eK_36 G _) rfl (c_X5_takesWay l G σ33 N (rgv r x (r 60)) hrσ33 hNσ33 (hW.gv (by omega))) gv_RX5_206 rfl nd_X5_takesWay rfl (rest := []) rfl (Nat.le_of_ble_eq_true rfl) ⟨Nat.le_of_ble_eq_true rfl, Nat.le_of_ble_eq_true rfl⟩ ⟨Nat.zero_le _, Nat.zero_le _⟩ hl.1 dX5_laysBest_149 (fun ω H locs hω X => ?_)
                            have hfω : ∀ c : Nat, c ≠ 36 → c ≠ 41 → ω c = σ3 c := fun c a d => by rw [hω.1 c d, eσ33, up_ne a, eσ32, up_ne a, eσ31, up_ne a]
                            have h36ω : ω 36 = upI (upI (upI (σ3 36) 8 (if wG N r x = true then 1 else 0)) 9 (wS N r x)) 10 (wT N r x) := by rw [hω.1 36 (by omega), eσ33, up_eq, eσ32, up_eq, eσ31, up_eq]
                            have hrω : ω 37 = rgv r x (r 60) := by rw [hfω 37 (by omega) (by omega)]; exact hrσ3
                            have hfmN : ∀ c : Nat, c ≠ 36 → c ≠ 37 → c ≠ 39 → c ≠ 40 → c ≠ 41 → ω c = σ c := fun c a b d e f9 => by rw [hfω c a f9, hfs c b d]; exact hfm c a b d e f9
                            have h40N : ∀ i : Int, 0 ≤ i → i < 12 → ω 40 i = r (24 + i) := fun i a b => by rw [hfω 40 (by omega) (by omega), hfs 40 (by omega) (by omega)]; exact h401 i a b
                            have h36N : ∀ i : Int, i < 8 → ω 36 i = σ 36 i := fun i a => by rw [h36ω, upI_ne (by omega), upI_ne (by omega), upI_ne (by omega), hfs 36 (by omega) (by omega)]; exact h36 i a
                            have hv8 : ω 36 8 = (if wG N r x = true then 1 else 0) := by rw [h36ω, upI_ne (by omega), upI_ne (by omega), upI_eq]
                            have hv9 : ω 36 9 = wS N r x := by rw [h36ω, upI_ne (by omega), upI_eq]
                            have hv10 : ω 36 10 = wT N r x := by rw [h36ω, upI_eq]
                            have hmbN : MBR ω := by unfold MBR; rw [hv8, hv9, hv10]; refine ⟨by omega, by omega, ?_⟩; split <;> simp
                            have hbN : BB ω N r (amI (bet N r) (x + 1)) := by rw [htk]; exact ⟨hv9, hv10, hv8, fun s9 a b => by rw [hω.2 s9 a (by omega)]; exact rgv_in a b⟩
                            refine r_iinc F hl [(2, .int (I (x + 1))), (6, .int (I (if wS N r x < σ3 36 9 ∨ (wS N r x = σ3 36 9 ∧ wT N r x < σ3 36 10) then 1 else 0))), (5, .int (I (wT N r x))), (4, .int (I (wS N r x))), (3, .int (I (if wG N r x = true then 1 else 0))), (0, .ref (gY G 36)), (1, .int (I mm))] 6 rfl (by decide) rfl dX5_laysBest_152 (fun ls hl => ?_)
                            refine r_goto F 31 (by decide) dX5_laysBest_155 ?_
                            exact ih31 (x + 1) (rgv r x (r 60)) ω _ _ _ (by omega) (by omega) (by exact hrω) (by exact Or.inr ⟨x, rfl⟩) (by exact hfmN) (by exact h40N) (by exact h36N) (by exact hmbN) (by exact Or.inr ⟨by omega, hbN⟩) X (lv_sub hl [5, 6, 0] rfl)
                      · skip
                        refine r_aload_n F hl 4 rfl rfl dX5_laysBest_111 ?_
                        refine r_get F X 36 (by decide) (eK_36 G _) rfl gl_RX5 8 (by decide) rfl gf_RX5_202 rfl dX5_laysBest_112 ?_
                        refine r_if_eq F 131 (by decide) (by omega) dX5_laysBest_115 (fun c25 => ?_) (fun c25 => ?_)
                        · skip
                          have htk : amI (bet N r) (x + 1) = x := am_take hx.1 (by rcases hbt with z | z; exact Or.inl z; (first | (left; omega) | (right; rw [z]; grind)))
                          refine r_aload_n F hl 4 rfl rfl dX5_laysBest_131 ?_
                          refine r_iload_n F hl 3 rfl rfl dX5_laysBest_132 ?_
                          refine r_put F X 36 (by decide) (upI (σ3 36) 8 (if wG N r x = true then 1 else 0)) (eK_36 G _) rfl gl_RX5 tyX5 tyX5_ok nmX5 8 (by decide) rfl gf_RX5_202 rfl (tyX5_ok 8 (by decide)) (nzb (by omega)) (nzf (by omega)) (Nat.le_of_ble_eq_true rfl) (eK_36 G _) dX5_laysBest_133 (fun H locs X => ?_)
                          obtain ⟨σ34, eσ34⟩ : ∃ x9 : St, x9 = up σ3 36 (upI (σ3 36) 8 (if wG N r x = true then 1 else 0)) := ⟨_, rfl⟩
                          rw [← eσ34] at X
                          have hrσ34 : σ34 37 = rgv r x (r 60) := by rw [eσ34, up_ne (by omega)]; exact hrσ3
                          have hNσ34 : σ34 36 1 = N := by rw [eσ34, up_eq, upI_ne (by omega)]; exact hNσ3
                          have hEσ34 : EQN (σ34 39) (wf r x) N := by rw [eσ34, up_ne (by omega)]; exact hE2
                          refine r_aload_n F hl 4 rfl rfl dX5_laysBest_136 ?_
                          refine r_iload F hl 2 rfl dX5_laysBest_137 ?_
                          refine r_put F X 36 (by decide) (upI (σ34 36) 9 (wS N r x)) (eK_36 G _) rfl gl_RX5 tyX5 tyX5_ok nmX5 9 (by decide) rfl gf_RX5_196 rfl (tyX5_ok 9 (by decide)) rfl rfl (Nat.le_of_ble_eq_true rfl) (eK_36 G _) dX5_laysBest_139 (fun H locs X => ?_)
                          obtain ⟨σ35, eσ35⟩ : ∃ x9 : St, x9 = up σ34 36 (upI (σ34 36) 9 (wS N r x)) := ⟨_, rfl⟩
                          rw [← eσ35] at X
                          have hrσ35 : σ35 37 = rgv r x (r 60) := by rw [eσ35, up_ne (by omega)]; exact hrσ34
                          have hNσ35 : σ35 36 1 = N := by rw [eσ35, up_eq, upI_ne (by omega)]; exact hNσ34
                          have hEσ35 : EQN (σ35 39) (wf r x) N := by rw [eσ35, up_ne (by omega)]; exact hEσ34
                          refine r_aload_n F hl 4 rfl rfl dX5_laysBest_142 ?_
                          refine r_iload F hl 1 rfl dX5_laysBest_143 ?_
                          refine r_put F X 36 (by decide) (upI (σ35 36) 10 (wT N r x)) (eK_36 G _) rfl gl_RX5 tyX5 tyX5_ok nmX5 10 (by decide) rfl gf_RX5_199 rfl (tyX5_ok 10 (by decide)) rfl rfl (Nat.le_of_ble_eq_true rfl) (eK_36 G _) dX5_laysBest_145 (fun H locs X => ?_)
                          obtain ⟨σ36, eσ36⟩ : ∃ x9 : St, x9 = up σ35 36 (upI (σ35 36) 10 (wT N r x)) := ⟨_, rfl⟩
                          rw [← eσ36] at X
                          have hrσ36 : σ36 37 = rgv r x (r 60) := by rw [eσ36, up_ne (by omega)]; exact hrσ35
                          have hNσ36 : σ36 36 1 = N := by rw [eσ36, up_eq, upI_ne (by omega)]; exact hNσ35
                          have hEσ36 : EQN (σ36 39) (wf r x) N := by rw [eσ36, up_ne (by omega)]; exact hEσ35
                          refine r_aload_n F hl 4 rfl rfl dX5_laysBest_148 ?_
                          refine r_cVV F X 36 (by decide) (eK_36 G _) rfl (c_X5_takesWay l G σ36 N (rgv r x (r 60)) hrσ36 hNσ36 (hW.gv (by omega))) gv_RX5_206 rfl nd_X5_takesWay rfl (rest := []) rfl (Nat.le_of_ble_eq_true rfl) ⟨Nat.le_of_ble_eq_true rfl, Nat.le_of_ble_eq_true rfl⟩ ⟨Nat.zero_le _, Nat.zero_le _⟩ hl.1 dX5_laysBest_149 (fun ω H locs hω X => ?_)
                          have hfω : ∀ c : Nat, c ≠ 36 → c ≠ 41 → ω c = σ3 c := fun c a d => by rw [hω.1 c d, eσ36, up_ne a, eσ35, up_ne a, eσ34, up_ne a]
                          have h36ω : ω 36 = upI (upI (upI (σ3 36) 8 (if wG N r x = true then 1 else 0)) 9 (wS N r x)) 10 (wT N r x) := by rw [hω.1 36 (by omega), eσ36, up_eq, eσ35, up_eq, eσ34, up_eq]
                          have hrω : ω 37 = rgv r x (r 60) := by rw [hfω 37 (by omega) (by omega)]; exact hrσ3
                          have hfmN : ∀ c : Nat, c ≠ 36 → c ≠ 37 → c ≠ 39 → c ≠ 40 → c ≠ 41 → ω c = σ c := fun c a b d e f9 => by rw [hfω c a f9, hfs c b d]; exact hfm c a b d e f9
                          have h40N : ∀ i : Int, 0 ≤ i → i < 12 → ω 40 i = r (24 + i) := fun i a b => by rw [hfω 40 (by omega) (by omega), hfs 40 (by omega) (by omega)]; exact h401 i a b
                          have h36N : ∀ i : Int, i < 8 → ω 36 i = σ 36 i := fun i a => by rw [h36ω, upI_ne (by omega), upI_ne (by omega), upI_ne (by omega), hfs 36 (by omega) (by omega)]; exact h36 i a
                          have hv8 : ω 36 8 = (if wG N r x = true then 1 else 0) := by rw [h36ω, upI_ne (by omega), upI_ne (by omega), upI_eq]
                          have hv9 : ω 36 9 = wS N r x := by rw [h36ω, upI_ne (by omega), upI_eq]
                          have hv10 : ω 36 10 = wT N r x := by rw [h36ω, upI_eq]
                          have hmbN : MBR ω := by unfold MBR; rw [hv8, hv9, hv10]; refine ⟨by omega, by omega, ?_⟩; split <;> simp
                          have hbN : BB ω N r (amI (bet N r) (x + 1)) := by rw [htk]; exact ⟨hv9, hv10, hv8, fun s9 a b => by rw [hω.2 s9 a (by omega)]; exact rgv_in a b⟩
                          refine r_iinc F hl [(2, .int (I (x + 1))), (6, .int (I (if wS N r x < σ3 36 9 ∨ (wS N r x = σ3 36 9 ∧ wT N r x < σ3 36 10) then 1 else 0))), (5, .int (I (wT N r x))), (4, .int (I (wS N r x))), (3, .int (I (if wG N r x = true then 1 else 0))), (0, .ref (gY G 36)), (1, .int (I mm))] 6 rfl (by decide) rfl dX5_laysBest_152 (fun ls hl => ?_)
                          refine r_goto F 31 (by decide) dX5_laysBest_155 ?_
                          exact ih31 (x + 1) (rgv r x (r 60)) ω _ _ _ (by omega) (by omega) (by exact hrω) (by exact Or.inr ⟨x, rfl⟩) (by exact hfmN) (by exact h40N) (by exact h36N) (by exact hmbN) (by exact Or.inr ⟨by omega, hbN⟩) X (lv_sub hl [5, 6, 0] rfl)
                        · skip
                          refine r_iload_n F hl 3 rfl rfl dX5_laysBest_118 ?_
                          refine r_aload_n F hl 4 rfl rfl dX5_laysBest_119 ?_
                          refine r_get F X 36 (by decide) (eK_36 G _) rfl gl_RX5 8 (by decide) rfl gf_RX5_202 rfl dX5_laysBest_120 ?_
                          refine r_icmp_ne F 152 (by decide) (by first | (split <;> omega) | omega) (by first | (split <;> omega) | omega) dX5_laysBest_123 (fun c26 => ?_) (fun c26 => ?_)
                          · skip
                            have hsk : x ≠ 0 := by omega
                            have hnb : ¬ bet N r x (amI (bet N r) x) = true := by rcases hbt with z | z; (exact absurd z hsk); (rw [z]; grind)
                            have hfmN : ∀ c : Nat, c ≠ 36 → c ≠ 37 → c ≠ 39 → c ≠ 40 → c ≠ 41 → σ3 c = σ c := fun c a b d e f9 => by rw [hfs c b d]; exact hfm c a b d e f9
                            have h40N : ∀ i : Int, 0 ≤ i → i < 12 → σ3 40 i = r (24 + i) := fun i a b => by rw [hfs 40 (by omega) (by omega)]; exact h401 i a b
                            have h36N : ∀ i : Int, i < 8 → σ3 36 i = σ 36 i := fun i a => by rw [hfs 36 (by omega) (by omega)]; exact h36 i a
                            have hmbN : MBR σ3 := hmb2
                            have hbN : BB σ3 N r (amI (bet N r) (x + 1)) := by rw [am_skip hx.1 hnb]; unfold BB; rw [hfs 36 (by omega) (by omega), hfs 41 (by omega) (by omega)]; exact (hb.resolve_left hsk).2
                            refine r_iinc F hl [(2, .int (I (x + 1))), (6, .int (I (if wS N r x < σ3 36 9 ∨ (wS N r x = σ3 36 9 ∧ wT N r x < σ3 36 10) then 1 else 0))), (5, .int (I (wT N r x))), (4, .int (I (wS N r x))), (3, .int (I (if wG N r x = true then 1 else 0))), (0, .ref (gY G 36)), (1, .int (I mm))] 6 rfl (by decide) rfl dX5_laysBest_152 (fun ls hl => ?_)
                            refine r_goto F 31 (by decide) dX5_laysBest_155 ?_
                            exact ih31 (x + 1) (rgv r x (r 60)) σ3 _ _ _ (by omega) (by omega) (by exact hrσ3) (by exact Or.inr ⟨x, rfl⟩) (by exact hfmN) (by exact h40N) (by exact h36N) (by exact hmbN) (by exact Or.inr ⟨by omega, hbN⟩) X (lv_sub hl [5, 6, 0] rfl)
                          · skip
                            refine r_iload F hl 0 rfl dX5_laysBest_126 ?_
                            refine r_bz_eq F 152 (wS N r x < σ3 36 9 ∨ (wS N r x = σ3 36 9 ∧ wT N r x < σ3 36 10)) rfl (by decide) dX5_laysBest_128 (fun c27 => ?_) (fun c27 => ?_)
                            · skip
                              have hsk : x ≠ 0 := by omega
                              have hnb : ¬ bet N r x (amI (bet N r) x) = true := by rcases hbt with z | z; (exact absurd z hsk); (rw [z]; grind)
                              have hfmN : ∀ c : Nat, c ≠ 36 → c ≠ 37 → c ≠ 39 → c ≠ 40 → c ≠ 41 → σ3 c = σ c := fun c a b d e f9 => by rw [hfs c b d]; exact hfm c a b d e f9
                              have h40N : ∀ i : Int, 0 ≤ i → i < 12 → σ3 40 i = r (24 + i) := fun i a b => by rw [hfs 40 (by omega) (by omega)]; exact h401 i a b
                              have h36N : ∀ i : Int, i < 8 → σ3 36 i = σ 36 i := fun i a => by rw [hfs 36 (by omega) (by omega)]; exact h36 i a
                              have hmbN : MBR σ3 := hmb2
                              have hbN : BB σ3 N r (amI (bet N r) (x + 1)) := by rw [am_skip hx.1 hnb]; unfold BB; rw [hfs 36 (by omega) (by omega), hfs 41 (by omega) (by omega)]; exact (hb.resolve_left hsk).2
                              refine r_iinc F hl [(2, .int (I (x + 1))), (6, .int (I (if wS N r x < σ3 36 9 ∨ (wS N r x = σ3 36 9 ∧ wT N r x < σ3 36 10) then 1 else 0))), (5, .int (I (wT N r x))), (4, .int (I (wS N r x))), (3, .int (I (if wG N r x = true then 1 else 0))), (0, .ref (gY G 36)), (1, .int (I mm))] 6 rfl (by decide) rfl dX5_laysBest_152 (fun ls hl => ?_)
                              refine r_goto F 31 (by decide) dX5_laysBest_155 ?_
                              exact ih31 (x + 1) (rgv r x (r 60)) σ3 _ _ _ (by omega) (by omega) (by exact hrσ3) (by exact Or.inr ⟨x, rfl⟩) (by exact hfmN) (by exact h40N) (by exact h36N) (by exact hmbN) (by exact Or.inr ⟨by omega, hbN⟩) X (lv_sub hl [5, 6, 0] rfl)
                            · skip
                              have htk : amI (bet N r) (x + 1) = x := am_take hx.1 (by rcases hbt with z | z; exact Or.inl z; (first | (left; omega) | (right; rw [z]; grind)))
                              refine r_aload_n F hl 4 rfl rfl dX5_laysBest_131 ?_
                              refine r_iload_n F hl 3 rfl rfl dX5_laysBest_132 ?_
                              refine r_put F X 36 (by decide) (upI (σ3 36) 8 (if wG N r x = true then 1 else 0)) (eK_36 G _) rfl gl_RX5 tyX5 tyX5_ok nmX5 8 (by decide) rfl gf_RX5_202 rfl (tyX5_ok 8 (by decide)) (nzb (by omega)) (nzf (by omega)) (Nat.le_of_ble_eq_true rfl) (eK_36 G _) dX5_laysBest_133 (fun H locs X => ?_)
                              obtain ⟨σ37, eσ37⟩ : ∃ x9 : St, x9 = up σ3 36 (upI (σ3 36) 8 (if wG N r x = true then 1 else 0)) := ⟨_, rfl⟩
                              rw [← eσ37] at X
                              have hrσ37 : σ37 37 = rgv r x (r 60) := by rw [eσ37, up_ne (by omega)]; exact hrσ3
                              have hNσ37 : σ37 36 1 = N := by rw [eσ37, up_eq, upI_ne (by omega)]; exact hNσ3
                              have hEσ37 : EQN (σ37 39) (wf r x) N := by rw [eσ37, up_ne (by omega)]; exact hE2
                              refine r_aload_n F hl 4 rfl rfl dX5_laysBest_136 ?_
                              refine r_iload F hl 2 rfl dX5_laysBest_137 ?_
                              refine r_put F X 36 (by decide) (upI (σ37 36) 9 (wS N r x)) (eK_36 G _) rfl gl_RX5 tyX5 tyX5_ok nmX5 9 (by decide) rfl gf_RX5_196 rfl (tyX5_ok 9 (by decide)) rfl rfl (Nat.le_of_ble_eq_true rfl) (eK_36 G _) dX5_laysBest_139 (fun H locs X => ?_)
                              obtain ⟨σ38, eσ38⟩ : ∃ x9 : St, x9 = up σ37 36 (upI (σ37 36) 9 (wS N r x)) := ⟨_, rfl⟩
                              rw [← eσ38] at X
                              have hrσ38 : σ38 37 = rgv r x (r 60) := by rw [eσ38, up_ne (by omega)]; exact hrσ37
                              have hNσ38 : σ38 36 1 = N := by rw [eσ38, up_eq, upI_ne (by omega)]; exact hNσ37
                              have hEσ38 : EQN (σ38 39) (wf r x) N := by rw [eσ38, up_ne (by omega)]; exact hEσ37
                              refine r_aload_n F hl 4 rfl rfl dX5_laysBest_142 ?_
                              refine r_iload F hl 1 rfl dX5_laysBest_143 ?_
                              refine r_put F X 36 (by decide) (upI (σ38 36) 10 (wT N r x)) (eK_36 G _) rfl gl_RX5 tyX5 tyX5_ok nmX5 10 (by decide) rfl gf_RX5_199 rfl (tyX5_ok 10 (by decide)) rfl rfl (Nat.le_of_ble_eq_true rfl) (eK_36 G _) dX5_laysBest_145 (fun H locs X => ?_)
                              obtain ⟨σ39, eσ39⟩ : ∃ x9 : St, x9 = up σ38 36 (upI (σ38 36) 10 (wT N r x)) := ⟨_, rfl⟩
                              rw [← eσ39] at X
                              have hrσ39 : σ39 37 = rgv r x (r 60) := by rw [eσ39, up_ne (by omega)]; exact hrσ38
                              have hNσ39 : σ39 36 1 = N := by rw [eσ39, up_eq, upI_ne (by omega)]; exact hNσ38
                              have hEσ39 : EQN (σ39 39) (wf r x) N := by rw [eσ39, up_ne (by omega)]; exact hEσ38
                              refine r_aload_n F hl 4 rfl rfl dX5_laysBest_148 ?_
                              refine r_cVV F X 36 (by decide) (eK_36 G _) rfl (c_X5_takesWay l G σ39 N (rgv r x (r 60)) hrσ39 hNσ39 (hW.gv (by omega))) gv_RX5_206 rfl nd_X5_takesWay rfl (rest := []) rfl (Nat.le_of_ble_eq_true rfl) ⟨Nat.le_of_ble_eq_true rfl, Nat.le_of_ble_eq_true rfl⟩ ⟨Nat.zero_le _, Nat.zero_le _⟩ hl.1 dX5_laysBest_149 (fun ω H locs hω X => ?_)
                              have hfω : ∀ c : Nat, c ≠ 36 → c ≠ 41 → ω c = σ3 c := fun c a d => by rw [hω.1 c d, eσ39, up_ne a, eσ38, up_ne a, eσ37, up_ne a]
                              have h36ω : ω 36 = upI (upI (upI (σ3 36) 8 (if wG N r x = true then 1 else 0)) 9 (wS N r x)) 10 (wT N r x) := by rw [hω.1 36 (by omega), eσ39, up_eq, eσ38, up_eq, eσ37, up_eq]
                              have hrω : ω 37 = rgv r x (r 60) := by rw [hfω 37 (by omega) (by omega)]; exact hrσ3
                              have hfmN : ∀ c : Nat, c ≠ 36 → c ≠ 37 → c ≠ 39 → c ≠ 40 → c ≠ 41 → ω c = σ c := fun c a b d e f9 => by rw [hfω c a f9, hfs c b d]; exact hfm c a b d e f9
                              have h40N : ∀ i : Int, 0 ≤ i → i < 12 → ω 40 i = r (24 + i) := fun i a b => by rw [hfω 40 (by omega) (by omega), hfs 40 (by omega) (by omega)]; exact h401 i a b
                              have h36N : ∀ i : Int, i < 8 → ω 36 i = σ 36 i := fun i a => by rw [h36ω, upI_ne (by omega), upI_ne (by omega), upI_ne (by omega), hfs 36 (by omega) (by omega)]; exact h36 i a
                              have hv8 : ω 36 8 = (if wG N r x = true then 1 else 0) := by rw [h36ω, upI_ne (by omega), upI_ne (by omega), upI_eq]
                              have hv9 : ω 36 9 = wS N r x := by rw [h36ω, upI_ne (by omega), upI_eq]
                              have hv10 : ω 36 10 = wT N r x := by rw [h36ω, upI_eq]
                              have hmbN : MBR ω := by unfold MBR; rw [hv8, hv9, hv10]; refine ⟨by omega, by omega, ?_⟩; split <;> simp
                              have hbN : BB ω N r (amI (bet N r) (x + 1)) := by rw [htk]; exact ⟨hv9, hv10, hv8, fun s9 a b => by rw [hω.2 s9 a (by omega)]; exact rgv_in a b⟩
                              refine r_iinc F hl [(2, .int (I (x + 1))), (6, .int (I (if wS N r x < σ3 36 9 ∨ (wS N r x = σ3 36 9 ∧ wT N r x < σ3 36 10) then 1 else 0))), (5, .int (I (wT N r x))), (4, .int (I (wS N r x))), (3, .int (I (if wG N r x = true then 1 else 0))), (0, .ref (gY G 36)), (1, .int (I mm))] 6 rfl (by decide) rfl dX5_laysBest_152 (fun ls hl => ?_)
                              refine r_goto F 31 (by decide) dX5_laysBest_155 ?_
                              exact ih31 (x + 1) (rgv r x (r 60)) ω _ _ _ (by omega) (by omega) (by exact hrω) (by exact Or.inr ⟨x, rfl⟩) (by exact hfmN) (by exact h40N) (by exact h36N) (by exact hmbN) (by exact Or.inr ⟨by omega, hbN⟩) X (lv_sub hl [5, 6, 0] rfl)
                  · skip
                    refine r_iconst F dX5_laysBest_96 ?_
                    refine r_goto F 101 (by decide) dX5_laysBest_97 ?_
                    refine r_eqI (b := if wS N r x < σ3 36 9 ∨ (wS N r x = σ3 36 9 ∧ wT N r x < σ3 36 10) then 1 else 0) (by first | rw [if_pos (by omega)] | rw [if_neg (by omega)]) ?_
                    refine r_istore F hl [(6, .int (I (if wS N r x < σ3 36 9 ∨ (wS N r x = σ3 36 9 ∧ wT N r x < σ3 36 10) then 1 else 0))), (5, .int (I (wT N r x))), (4, .int (I (wS N r x))), (3, .int (I (if wG N r x = true then 1 else 0))), (0, .ref (gY G 36)), (1, .int (I mm)), (2, .int (I x))] (by decide) rfl dX5_laysBest_101 (fun ls hl => ?_)
                    have hbt : x = 0 ∨ (bet N r x (amI (bet N r) x) = true ↔ (((if wG N r x = true then 1 else 0) ≠ σ3 36 8 ∧ wG N r x = true) ∨ ((if wG N r x = true then 1 else 0) = σ3 36 8 ∧ (wS N r x < σ3 36 9 ∨ (wS N r x = σ3 36 9 ∧ wT N r x < σ3 36 10))))) := hb.imp id (fun h9 => by rw [hfs 36 (by omega) (by omega)]; exact bet_or h9.2.1 h9.2.2.1 h9.2.2.2.1)
                    refine r_iload_n F hl 6 rfl rfl dX5_laysBest_103 ?_
                    refine r_if_eq F 131 (by decide) (by omega) dX5_laysBest_104 (fun c28 => ?_) (fun c28 => ?_)
                    · skip
                      have htk : amI (bet N r) (x + 1) = x := am_take hx.1 (by rcases hbt with z | z; exact Or.inl z; (first | (left; omega) | (right; rw [z]; grind)))
                      refine r_aload_n F hl 4 rfl rfl dX5_laysBest_131 ?_
                      refine r_iload_n F hl 3 rfl rfl dX5_laysBest_132 ?_
                      refine r_put F X 36 (by decide) (upI (σ3 36) 8 (if wG N r x = true then 1 else 0)) (eK_36 G _) rfl gl_RX5 tyX5 tyX5_ok nmX5 8 (by decide) rfl gf_RX5_202 rfl (tyX5_ok 8 (by decide)) (nzb (by omega)) (nzf (by omega)) (Nat.le_of_ble_eq_true rfl) (eK_36 G _) dX5_laysBest_133 (fun H locs X => ?_)
                      obtain ⟨σ40, eσ40⟩ : ∃ x9 : St, x9 = up σ3 36 (upI (σ3 36) 8 (if wG N r x = true then 1 else 0)) := ⟨_, rfl⟩
                      rw [← eσ40] at X
                      have hrσ40 : σ40 37 = rgv r x (r 60) := by rw [eσ40, up_ne (by omega)]; exact hrσ3
                      have hNσ40 : σ40 36 1 = N := by rw [eσ40, up_eq, upI_ne (by omega)]; exact hNσ3
                      have hEσ40 : EQN (σ40 39) (wf r x) N := by rw [eσ40, up_ne (by omega)]; exact hE2
                      refine r_aload_n F hl 4 rfl rfl dX5_laysBest_136 ?_
                      refine r_iload F hl 2 rfl dX5_laysBest_137 ?_
                      refine r_put F X 36 (by decide) (upI (σ40 36) 9 (wS N r x)) (eK_36 G _) rfl gl_RX5 tyX5 tyX5_ok nmX5 9 (by decide) rfl gf_RX5_196 rfl (tyX5_ok 9 (by decide)) rfl rfl (Nat.le_of_ble_eq_true rfl) (eK_36 G _) dX5_laysBest_139 (fun H locs X => ?_)
                      obtain ⟨σ41, eσ41⟩ : ∃ x9 : St, x9 = up σ40 36 (upI (σ40 36) 9 (wS N r x)) := ⟨_, rfl⟩
                      rw [← eσ41] at X
                      have hrσ41 : σ41 37 = rgv r x (r 60) := by rw [eσ41, up_ne (by omega)]; exact hrσ40
                      have hNσ41 : σ41 36 1 = N := by rw [eσ41, up_eq, upI_ne (by omega)]; exact hNσ40
                      have hEσ41 : EQN (σ41 39) (wf r x) N := by rw [eσ41, up_ne (by omega)]; exact hEσ40
                      refine r_aload_n F hl 4 rfl rfl dX5_laysBest_142 ?_
                      refine r_iload F hl 1 rfl dX5_laysBest_143 ?_
                      refine r_put F X 36 (by decide) (upI (σ41 36) 10 (wT N r x)) (eK_36 G _) rfl gl_RX5 tyX5 tyX5_ok nmX5 10 (by decide) rfl gf_RX5_199 rfl (tyX5_ok 10 (by decide)) rfl rfl (Nat.le_of_ble_eq_true rfl) (eK_36 G _) dX5_laysBest_145 (fun H locs X => ?_)
                      obtain ⟨σ42, eσ42⟩ : ∃ x9 : St, x9 = up σ41 36 (upI (σ41 36) 10 (wT N r x)) := ⟨_, rfl⟩
                      rw [← eσ42] at X
                      have hrσ42 : σ42 37 = rgv r x (r 60) := by rw [eσ42, up_ne (by omega)]; exact hrσ41
                      have hNσ42 : σ42 36 1 = N := by rw [eσ42, up_eq, upI_ne (by omega)]; exact hNσ41
                      have hEσ42 : EQN (σ42 39) (wf r x) N := by rw [eσ42, up_ne (by omega)]; exact hEσ41
                      refine r_aload_n F hl 4 rfl rfl dX5_laysBest_148 ?_
                      refine r_cVV F X 36 (by decide) (eK_36 G _) rfl (c_X5_takesWay l G σ42 N (rgv r x (r 60)) hrσ42 hNσ42 (hW.gv (by omega))) gv_RX5_206 rfl nd_X5_takesWay rfl (rest := []) rfl (Nat.le_of_ble_eq_true rfl) ⟨Nat.le_of_ble_eq_true rfl, Nat.le_of_ble_eq_true rfl⟩ ⟨Nat.zero_le _, Nat.zero_le _⟩ hl.1 dX5_laysBest_149 (fun ω H locs hω X => ?_)
                      have hfω : ∀ c : Nat, c ≠ 36 → c ≠ 41 → ω c = σ3 c := fun c a d => by rw [hω.1 c d, eσ42, up_ne a, eσ41, up_ne a, eσ40, up_ne a]
                      have h36ω : ω 36 = upI (upI (upI (σ3 36) 8 (if wG N r x = true then 1 else 0)) 9 (wS N r x)) 10 (wT N r x) := by rw [hω.1 36 (by omega), eσ42, up_eq, eσ41, up_eq, eσ40, up_eq]
                      have hrω : ω 37 = rgv r x (r 60) := by rw [hfω 37 (by omega) (by omega)]; exact hrσ3
                      have hfmN : ∀ c : Nat, c ≠ 36 → c ≠ 37 → c ≠ 39 → c ≠ 40 → c ≠ 41 → ω c = σ c := fun c a b d e f9 => by rw [hfω c a f9, hfs c b d]; exact hfm c a b d e f9
                      have h40N : ∀ i : Int, 0 ≤ i → i < 12 → ω 40 i = r (24 + i) := fun i a b => by rw [hfω 40 (by omega) (by omega), hfs 40 (by omega) (by omega)]; exact h401 i a b
                      have h36N : ∀ i : Int, i < 8 → ω 36 i = σ 36 i := fun i a => by rw [h36ω, upI_ne (by omega), upI_ne (by omega), upI_ne (by omega), hfs 36 (by omega) (by omega)]; exact h36 i a
                      have hv8 : ω 36 8 = (if wG N r x = true then 1 else 0) := by rw [h36ω, upI_ne (by omega), upI_ne (by omega), upI_eq]
                      have hv9 : ω 36 9 = wS N r x := by rw [h36ω, upI_ne (by omega), upI_eq]
                      have hv10 : ω 36 10 = wT N r x := by rw [h36ω, upI_eq]
                      have hmbN : MBR ω := by unfold MBR; rw [hv8, hv9, hv10]; refine ⟨by omega, by omega, ?_⟩; split <;> simp
                      have hbN : BB ω N r (amI (bet N r) (x + 1)) := by rw [htk]; exact ⟨hv9, hv10, hv8, fun s9 a b => by rw [hω.2 s9 a (by omega)]; exact rgv_in a b⟩
                      refine r_iinc F hl [(2, .int (I (x + 1))), (6, .int (I (if wS N r x < σ3 36 9 ∨ (wS N r x = σ3 36 9 ∧ wT N r x < σ3 36 10) then 1 else 0))), (5, .int (I (wT N r x))), (4, .int (I (wS N r x))), (3, .int (I (if wG N r x = true then 1 else 0))), (0, .ref (gY G 36)), (1, .int (I mm))] 6 rfl (by decide) rfl dX5_laysBest_152 (fun ls hl => ?_)
                      refine r_goto F 31 (by decide) dX5_laysBest_155 ?_
                      exact ih31 (x + 1) (rgv r x (r 60)) ω _ _ _ (by omega) (by omega) (by exact hrω) (by exact Or.inr ⟨x, rfl⟩) (by exact hfmN) (by exact h40N) (by exact h36N) (by exact hmbN) (by exact Or.inr ⟨by omega, hbN⟩) X (lv_sub hl [5, 6, 0] rfl)
                    · skip
                      refine r_iload_n F hl 3 rfl rfl dX5_laysBest_107 ?_
                      refine r_bz_eq F 118 (wG N r x = true) rfl (by decide) dX5_laysBest_108 (fun c29 => ?_) (fun c29 => ?_)
                      · skip
                        refine r_iload_n F hl 3 rfl rfl dX5_laysBest_118 ?_
                        refine r_aload_n F hl 4 rfl rfl dX5_laysBest_119 ?_
                        refine r_get F X 36 (by decide) (eK_36 G _) rfl gl_RX5 8 (by decide) rfl gf_RX5_202 rfl dX5_laysBest_120 ?_
                        refine r_icmp_ne F 152 (by decide) (by first | (split <;> omega) | omega) (by first | (split <;> omega) | omega) dX5_laysBest_123 (fun c30 => ?_) (fun c30 => ?_)
                        · skip
                          have hsk : x ≠ 0 := by omega
                          have hnb : ¬ bet N r x (amI (bet N r) x) = true := by rcases hbt with z | z; (exact absurd z hsk); (rw [z]; grind)
                          have hfmN : ∀ c : Nat, c ≠ 36 → c ≠ 37 → c ≠ 39 → c ≠ 40 → c ≠ 41 → σ3 c = σ c := fun c a b d e f9 => by rw [hfs c b d]; exact hfm c a b d e f9
                          have h40N : ∀ i : Int, 0 ≤ i → i < 12 → σ3 40 i = r (24 + i) := fun i a b => by rw [hfs 40 (by omega) (by omega)]; exact h401 i a b
                          have h36N : ∀ i : Int, i < 8 → σ3 36 i = σ 36 i := fun i a => by rw [hfs 36 (by omega) (by omega)]; exact h36 i a
                          have hmbN : MBR σ3 := hmb2
                          have hbN : BB σ3 N r (amI (bet N r) (x + 1)) := by rw [am_skip hx.1 hnb]; unfold BB; rw [hfs 36 (by omega) (by omega), hfs 41 (by omega) (by omega)]; exact (hb.resolve_left hsk).2
                          refine r_iinc F hl [(2, .int (I (x + 1))), (6, .int (I (if wS N r x < σ3 36 9 ∨ (wS N r x = σ3 36 9 ∧ wT N r x < σ3 36 10) then 1 else 0))), (5, .int (I (wT N r x))), (4, .int (I (wS N r x))), (3, .int (I (if wG N r x = true then 1 else 0))), (0, .ref (gY G 36)), (1, .int (I mm))] 6 rfl (by decide) rfl dX5_laysBest_152 (fun ls hl => ?_)
                          refine r_goto F 31 (by decide) dX5_laysBest_155 ?_
                          exact ih31 (x + 1) (rgv r x (r 60)) σ3 _ _ _ (by omega) (by omega) (by exact hrσ3) (by exact Or.inr ⟨x, rfl⟩) (by exact hfmN) (by exact h40N) (by exact h36N) (by exact hmbN) (by exact Or.inr ⟨by omega, hbN⟩) X (lv_sub hl [5, 6, 0] rfl)
                        · skip
                          refine r_iload F hl 0 rfl dX5_laysBest_126 ?_
                          refine r_bz_eq F 152 (wS N r x < σ3 36 9 ∨ (wS N r x = σ3 36 9 ∧ wT N r x < σ3 36 10)) rfl (by decide) dX5_laysBest_128 (fun c31 => ?_) (fun c31 => ?_)
                          · skip
                            have hsk : x ≠ 0 := by omega
                            have hnb : ¬ bet N r x (amI (bet N r) x) = true := by rcases hbt with z | z; (exact absurd z hsk); (rw [z]; grind)
                            have hfmN : ∀ c : Nat, c ≠ 36 → c ≠ 37 → c ≠ 39 → c ≠ 40 → c ≠ 41 → σ3 c = σ c := fun c a b d e f9 => by rw [hfs c b d]; exact hfm c a b d e f9
                            have h40N : ∀ i : Int, 0 ≤ i → i < 12 → σ3 40 i = r (24 + i) := fun i a b => by rw [hfs 40 (by omega) (by omega)]; exact h401 i a b
                            have h36N : ∀ i : Int, i < 8 → σ3 36 i = σ 36 i := fun i a => by rw [hfs 36 (by omega) (by omega)]; exact h36 i a
                            have hmbN : MBR σ3 := hmb2
                            have hbN : BB σ3 N r (amI (bet N r) (x + 1)) := by rw [am_skip hx.1 hnb]; unfold BB; rw [hfs 36 (by omega) (by omega), hfs 41 (by omega) (by omega)]; exact (hb.resolve_left hsk).2
                            refine r_iinc F hl [(2, .int (I (x + 1))), (6, .int (I (if wS N r x < σ3 36 9 ∨ (wS N r x = σ3 36 9 ∧ wT N r x < σ3 36 10) then 1 else 0))), (5, .int (I (wT N r x))), (4, .int (I (wS N r x))), (3, .int (I (if wG N r x = true then 1 else 0))), (0, .ref (gY G 36)), (1, .int (I mm))] 6 rfl (by decide) rfl dX5_laysBest_152 (fun ls hl => ?_)
                            refine r_goto F 31 (by decide) dX5_laysBest_155 ?_
                            exact ih31 (x + 1) (rgv r x (r 60)) σ3 _ _ _ (by omega) (by omega) (by exact hrσ3) (by exact Or.inr ⟨x, rfl⟩) (by exact hfmN) (by exact h40N) (by exact h36N) (by exact hmbN) (by exact Or.inr ⟨by omega, hbN⟩) X (lv_sub hl [5, 6, 0] rfl)
                          · skip
                            have htk : amI (bet N r) (x + 1) = x := am_take hx.1 (by rcases hbt with z | z; exact Or.inl z; (first | (left; omega) | (right; rw [z]; grind)))
                            refine r_aload_n F hl 4 rfl rfl dX5_laysBest_131 ?_
                            refine r_iload_n F hl 3 rfl rfl dX5_laysBest_132 ?_
                            refine r_put F X 36 (by decide) (upI (σ3 36) 8 (if wG N r x = true then 1 else 0)) (eK_36 G _) rfl gl_RX5 tyX5 tyX5_ok nmX5 8 (by decide) rfl gf_RX5_202 rfl (tyX5_ok 8 (by decide)) (nzb (by omega)) (nzf (by omega)) (Nat.le_of_ble_eq_true rfl) (eK_36 G _) dX5_laysBest_133 (fun H locs X => ?_)
                            obtain ⟨σ43, eσ43⟩ : ∃ x9 : St, x9 = up σ3 36 (upI (σ3 36) 8 (if wG N r x = true then 1 else 0)) := ⟨_, rfl⟩
                            rw [← eσ43] at X
                            have hrσ43 : σ43 37 = rgv r x (r 60) := by rw [eσ43, up_ne (by omega)]; exact hrσ3
                            have hNσ43 : σ43 36 1 = N := by rw [eσ43, up_eq, upI_ne (by omega)]; exact hNσ3
                            have hEσ43 : EQN (σ43 39) (wf r x) N := by rw [eσ43, up_ne (by omega)]; exact hE2
                            refine r_aload_n F hl 4 rfl rfl dX5_laysBest_136 ?_
                            refine r_iload F hl 2 rfl dX5_laysBest_137 ?_
                            refine r_put F X 36 (by decide) (upI (σ43 36) 9 (wS N r x)) (eK_36 G _) rfl gl_RX5 tyX5 tyX5_ok nmX5 9 (by decide) rfl gf_RX5_196 rfl (tyX5_ok 9 (by decide)) rfl rfl (Nat.le_of_ble_eq_true rfl) (eK_36 G _) dX5_laysBest_139 (fun H locs X => ?_)
                            obtain ⟨σ44, eσ44⟩ : ∃ x9 : St, x9 = up σ43 36 (upI (σ43 36) 9 (wS N r x)) := ⟨_, rfl⟩
                            rw [← eσ44] at X
                            have hrσ44 : σ44 37 = rgv r x (r 60) := by rw [eσ44, up_ne (by omega)]; exact hrσ43
                            have hNσ44 : σ44 36 1 = N := by rw [eσ44, up_eq, upI_ne (by omega)]; exact hNσ43
                            have hEσ44 : EQN (σ44 39) (wf r x) N := by rw [eσ44, up_ne (by omega)]; exact hEσ43
                            refine r_aload_n F hl 4 rfl rfl dX5_laysBest_142 ?_
                            refine r_iload F hl 1 rfl dX5_laysBest_143 ?_
                            refine r_put F X 36 (by decide) (upI (σ44 36) 10 (wT N r x)) (eK_36 G _) rfl gl_RX5 tyX5 tyX5_ok nmX5 10 (by decide) rfl gf_RX5_199 rfl (tyX5_ok 10 (by decide)) rfl rfl (Nat.le_of_ble_eq_true rfl) (eK_36 G _) dX5_laysBest_145 (fun H locs X => ?_)
                            obtain ⟨σ45, eσ45⟩ : ∃ x9 : St, x9 = up σ44 36 (upI (σ44 36) 10 (wT N r x)) := ⟨_, rfl⟩
                            rw [← eσ45] at X
                            have hrσ45 : σ45 37 = rgv r x (r 60) := by rw [eσ45, up_ne (by omega)]; exact hrσ44
                            have hNσ45 : σ45 36 1 = N := by rw [eσ45, up_eq, upI_ne (by omega)]; exact hNσ44
                            have hEσ45 : EQN (σ45 39) (wf r x) N := by rw [eσ45, up_ne (by omega)]; exact hEσ44
                            refine r_aload_n F hl 4 rfl rfl dX5_laysBest_148 ?_
                            refine r_cVV F X 36 (by decide) (eK_36 G _) rfl (c_X5_takesWay l G σ45 N (rgv r x (r 60)) hrσ45 hNσ45 (hW.gv (by omega))) gv_RX5_206 rfl nd_X5_takesWay rfl (rest := []) rfl (Nat.le_of_ble_eq_true rfl) ⟨Nat.le_of_ble_eq_true rfl, Nat.le_of_ble_eq_true rfl⟩ ⟨Nat.zero_le _, Nat.zero_le _⟩ hl.1 dX5_laysBest_149 (fun ω H locs hω X => ?_)
                            have hfω : ∀ c : Nat, c ≠ 36 → c ≠ 41 → ω c = σ3 c := fun c a d => by rw [hω.1 c d, eσ45, up_ne a, eσ44, up_ne a, eσ43, up_ne a]
                            have h36ω : ω 36 = upI (upI (upI (σ3 36) 8 (if wG N r x = true then 1 else 0)) 9 (wS N r x)) 10 (wT N r x) := by rw [hω.1 36 (by omega), eσ45, up_eq, eσ44, up_eq, eσ43, up_eq]
                            have hrω : ω 37 = rgv r x (r 60) := by rw [hfω 37 (by omega) (by omega)]; exact hrσ3
                            have hfmN : ∀ c : Nat, c ≠ 36 → c ≠ 37 → c ≠ 39 → c ≠ 40 → c ≠ 41 → ω c = σ c := fun c a b d e f9 => by rw [hfω c a f9, hfs c b d]; exact hfm c a b d e f9
                            have h40N : ∀ i : Int, 0 ≤ i → i < 12 → ω 40 i = r (24 + i) := fun i a b => by rw [hfω 40 (by omega) (by omega), hfs 40 (by omega) (by omega)]; exact h401 i a b
                            have h36N : ∀ i : Int, i < 8 → ω 36 i = σ 36 i := fun i a => by rw [h36ω, upI_ne (by omega), upI_ne (by omega), upI_ne (by omega), hfs 36 (by omega) (by omega)]; exact h36 i a
                            have hv8 : ω 36 8 = (if wG N r x = true then 1 else 0) := by rw [h36ω, upI_ne (by omega), upI_ne (by omega), upI_eq]
                            have hv9 : ω 36 9 = wS N r x := by rw [h36ω, upI_ne (by omega), upI_eq]
                            have hv10 : ω 36 10 = wT N r x := by rw [h36ω, upI_eq]
                            have hmbN : MBR ω := by unfold MBR; rw [hv8, hv9, hv10]; refine ⟨by omega, by omega, ?_⟩; split <;> simp
                            have hbN : BB ω N r (amI (bet N r) (x + 1)) := by rw [htk]; exact ⟨hv9, hv10, hv8, fun s9 a b => by rw [hω.2 s9 a (by omega)]; exact rgv_in a b⟩
                            refine r_iinc F hl [(2, .int (I (x + 1))), (6, .int (I (if wS N r x < σ3 36 9 ∨ (wS N r x = σ3 36 9 ∧ wT N r x < σ3 36 10) then 1 else 0))), (5, .int (I (wT N r x))), (4, .int (I (wS N r x))), (3, .int (I (if wG N r x = true then 1 else 0))), (0, .ref (gY G 36)), (1, .int (I mm))] 6 rfl (by decide) rfl dX5_laysBest_152 (fun ls hl => ?_)
                            refine r_goto F 31 (by decide) dX5_laysBest_155 ?_
                            exact ih31 (x + 1) (rgv r x (r 60)) ω _ _ _ (by omega) (by omega) (by exact hrω) (by exact Or.inr ⟨x, rfl⟩) (by exact hfmN) (by exact h40N) (by exact h36N) (by exact hmbN) (by exact Or.inr ⟨by omega, hbN⟩) X (lv_sub hl [5, 6, 0] rfl)
                      · skip
                        refine r_aload_n F hl 4 rfl rfl dX5_laysBest_111 ?_
                        refine r_get F X 36 (by decide) (eK_36 G _) rfl gl_RX5 8 (by decide) rfl gf_RX5_202 rfl dX5_laysBest_112 ?_
                        refine r_if_eq F 131 (by decide) (by omega) dX5_laysBest_115 (fun c32 => ?_) (fun c32 => ?_)
                        · skip
                          have htk : amI (bet N r) (x + 1) = x := am_take hx.1 (by rcases hbt with z | z; exact Or.inl z; (first | (left; omega) | (right; rw [z]; grind)))
                          refine r_aload_n F hl 4 rfl rfl dX5_laysBest_131 ?_
                          refine r_iload_n F hl 3 rfl rfl dX5_laysBest_132 ?_
                          refine r_put F X 36 (by decide) (upI (σ3 36) 8 (if wG N r x = true then 1 else 0)) (eK_36 G _) rfl gl_RX5 tyX5 tyX5_ok nmX5 8 (by decide) rfl gf_RX5_202 rfl (tyX5_ok 8 (by decide)) (nzb (by omega)) (nzf (by omega)) (Nat.le_of_ble_eq_true rfl) (eK_36 G _) dX5_laysBest_133 (fun H locs X => ?_)
                          obtain ⟨σ46, eσ46⟩ : ∃ x9 : St, x9 = up σ3 36 (upI (σ3 36) 8 (if wG N r x = true then 1 else 0)) := ⟨_, rfl⟩
                          rw [← eσ46] at X
                          have hrσ46 : σ46 37 = rgv r x (r 60) := by rw [eσ46, up_ne (by omega)]; exact hrσ3
                          have hNσ46 : σ46 36 1 = N := by rw [eσ46, up_eq, upI_ne (by omega)]; exact hNσ3
                          have hEσ46 : EQN (σ46 39) (wf r x) N := by rw [eσ46, up_ne (by omega)]; exact hE2
                          refine r_aload_n F hl 4 rfl rfl dX5_laysBest_136 ?_
                          refine r_iload F hl 2 rfl dX5_laysBest_137 ?_
                          refine r_put F X 36 (by decide) (upI (σ46 36) 9 (wS N r x)) (eK_36 G _) rfl gl_RX5 tyX5 tyX5_ok nmX5 9 (by decide) rfl gf_RX5_196 rfl (tyX5_ok 9 (by decide)) rfl rfl (Nat.le_of_ble_eq_true rfl) (eK_36 G _) dX5_laysBest_139 (fun H locs X => ?_)
                          obtain ⟨σ47, eσ47⟩ : ∃ x9 : St, x9 = up σ46 36 (upI (σ46 36) 9 (wS N r x)) := ⟨_, rfl⟩
                          rw [← eσ47] at X
                          have hrσ47 : σ47 37 = rgv r x (r 60) := by rw [eσ47, up_ne (by omega)]; exact hrσ46
                          have hNσ47 : σ47 36 1 = N := by rw [eσ47, up_eq, upI_ne (by omega)]; exact hNσ46
                          have hEσ47 : EQN (σ47 39) (wf r x) N := by rw [eσ47, up_ne (by omega)]; exact hEσ46
                          refine r_aload_n F hl 4 rfl rfl dX5_laysBest_142 ?_
                          refine r_iload F hl 1 rfl dX5_laysBest_143 ?_
                          refine r_put F X 36 (by decide) (upI (σ47 36) 10 (wT N r x)) (eK_36 G _) rfl gl_RX5 tyX5 tyX5_ok nmX5 10 (by decide) rfl gf_RX5_199 rfl (tyX5_ok 10 (by decide)) rfl rfl (Nat.le_of_ble_eq_true rfl) (eK_36 G _) dX5_laysBest_145 (fun H locs X => ?_)
                          obtain ⟨σ48, eσ48⟩ : ∃ x9 : St, x9 = up σ47 36 (upI (σ47 36) 10 (wT N r x)) := ⟨_, rfl⟩
                          rw [← eσ48] at X
                          have hrσ48 : σ48 37 = rgv r x (r 60) := by rw [eσ48, up_ne (by omega)]; exact hrσ47
                          have hNσ48 : σ48 36 1 = N := by rw [eσ48, up_eq, upI_ne (by omega)]; exact hNσ47
                          have hEσ48 : EQN (σ48 39) (wf r x) N := by rw [eσ48, up_ne (by omega)]; exact hEσ47
                          refine r_aload_n F hl 4 rfl rfl dX5_laysBest_148 ?_
                          refine r_cVV F X 36 (by decide) (eK_36 G _) rfl (c_X5_takesWay l G σ48 N (rgv r x (r 60)) hrσ48 hNσ48 (hW.gv (by omega))) gv_RX5_206 rfl nd_X5_takesWay rfl (rest := []) rfl (Nat.le_of_ble_eq_true rfl) ⟨Nat.le_of_ble_eq_true rfl, Nat.le_of_ble_eq_true rfl⟩ ⟨Nat.zero_le _, Nat.zero_le _⟩ hl.1 dX5_laysBest_149 (fun ω H locs hω X => ?_)
                          have hfω : ∀ c : Nat, c ≠ 36 → c ≠ 41 → ω c = σ3 c := fun c a d => by rw [hω.1 c d, eσ48, up_ne a, eσ47, up_ne a, eσ46, up_ne a]
                          have h36ω : ω 36 = upI (upI (upI (σ3 36) 8 (if wG N r x = true then 1 else 0)) 9 (wS N r x)) 10 (wT N r x) := by rw [hω.1 36 (by omega), eσ48, up_eq, eσ47, up_eq, eσ46, up_eq]
                          have hrω : ω 37 = rgv r x (r 60) := by rw [hfω 37 (by omega) (by omega)]; exact hrσ3
                          have hfmN : ∀ c : Nat, c ≠ 36 → c ≠ 37 → c ≠ 39 → c ≠ 40 → c ≠ 41 → ω c = σ c := fun c a b d e f9 => by rw [hfω c a f9, hfs c b d]; exact hfm c a b d e f9
                          have h40N : ∀ i : Int, 0 ≤ i → i < 12 → ω 40 i = r (24 + i) := fun i a b => by rw [hfω 40 (by omega) (by omega), hfs 40 (by omega) (by omega)]; exact h401 i a b
                          have h36N : ∀ i : Int, i < 8 → ω 36 i = σ 36 i := fun i a => by rw [h36ω, upI_ne (by omega), upI_ne (by omega), upI_ne (by omega), hfs 36 (by omega) (by omega)]; exact h36 i a
                          have hv8 : ω 36 8 = (if wG N r x = true then 1 else 0) := by rw [h36ω, upI_ne (by omega), upI_ne (by omega), upI_eq]
                          have hv9 : ω 36 9 = wS N r x := by rw [h36ω, upI_ne (by omega), upI_eq]
                          have hv10 : ω 36 10 = wT N r x := by rw [h36ω, upI_eq]
                          have hmbN : MBR ω := by unfold MBR; rw [hv8, hv9, hv10]; refine ⟨by omega, by omega, ?_⟩; split <;> simp
                          have hbN : BB ω N r (amI (bet N r) (x + 1)) := by rw [htk]; exact ⟨hv9, hv10, hv8, fun s9 a b => by rw [hω.2 s9 a (by omega)]; exact rgv_in a b⟩
                          refine r_iinc F hl [(2, .int (I (x + 1))), (6, .int (I (if wS N r x < σ3 36 9 ∨ (wS N r x = σ3 36 9 ∧ wT N r x < σ3 36 10) then 1 else 0))), (5, .int (I (wT N r x))), (4, .int (I (wS N r x))), (3, .int (I (if wG N r x = true then 1 else 0))), (0, .ref (gY G 36)), (1, .int (I mm))] 6 rfl (by decide) rfl dX5_laysBest_152 (fun ls hl => ?_)
                          refine r_goto F 31 (by decide) dX5_laysBest_155 ?_
                          exact ih31 (x + 1) (rgv r x (r 60)) ω _ _ _ (by omega) (by omega) (by exact hrω) (by exact Or.inr ⟨x, rfl⟩) (by exact hfmN) (by exact h40N) (by exact h36N) (by exact hmbN) (by exact Or.inr ⟨by omega, hbN⟩) X (lv_sub hl [5, 6, 0] rfl)
                        · skip
                          refine r_iload_n F hl 3 rfl rfl dX5_laysBest_118 ?_
                          refine r_aload_n F hl 4 rfl rfl dX5_laysBest_119 ?_
                          refine r_get F X 36 (by decide) (eK_36 G _) rfl gl_RX5 8 (by decide) rfl gf_RX5_202 rfl dX5_laysBest_120 ?_
                          refine r_icmp_ne F 152 (by decide) (by first | (split <;> omega) | omega) (by first | (split <;> omega) | omega) dX5_laysBest_123 (fun c33 => ?_) (fun c33 => ?_)
                          · skip
                            have hsk : x ≠ 0 := by omega
                            have hnb : ¬ bet N r x (amI (bet N r) x) = true := by rcases hbt with z | z; (exact absurd z hsk); (rw [z]; grind)
                            have hfmN : ∀ c : Nat, c ≠ 36 → c ≠ 37 → c ≠ 39 → c ≠ 40 → c ≠ 41 → σ3 c = σ c := fun c a b d e f9 => by rw [hfs c b d]; exact hfm c a b d e f9
                            have h40N : ∀ i : Int, 0 ≤ i → i < 12 → σ3 40 i = r (24 + i) := fun i a b => by rw [hfs 40 (by omega) (by omega)]; exact h401 i a b
                            have h36N : ∀ i : Int, i < 8 → σ3 36 i = σ 36 i := fun i a => by rw [hfs 36 (by omega) (by omega)]; exact h36 i a
                            have hmbN : MBR σ3 := hmb2
                            have hbN : BB σ3 N r (amI (bet N r) (x + 1)) := by rw [am_skip hx.1 hnb]; unfold BB; rw [hfs 36 (by omega) (by omega), hfs 41 (by omega) (by omega)]; exact (hb.resolve_left hsk).2
                            refine r_iinc F hl [(2, .int (I (x + 1))), (6, .int (I (if wS N r x < σ3 36 9 ∨ (wS N r x = σ3 36 9 ∧ wT N r x < σ3 36 10) then 1 else 0))), (5, .int (I (wT N r x))), (4, .int (I (wS N r x))), (3, .int (I (if wG N r x = true then 1 else 0))), (0, .ref (gY G 36)), (1, .int (I mm))] 6 rfl (by decide) rfl dX5_laysBest_152 (fun ls hl => ?_)
                            refine r_goto F 31 (by decide) dX5_laysBest_155 ?_
                            exact ih31 (x + 1) (rgv r x (r 60)) σ3 _ _ _ (by omega) (by omega) (by exact hrσ3) (by exact Or.inr ⟨x, rfl⟩) (by exact hfmN) (by exact h40N) (by exact h36N) (by exact hmbN) (by exact Or.inr ⟨by omega, hbN⟩) X (lv_sub hl [5, 6, 0] rfl)
                          · skip
                            refine r_iload F hl 0 rfl dX5_laysBest_126 ?_
                            refine r_bz_eq F 152 (wS N r x < σ3 36 9 ∨ (wS N r x = σ3 36 9 ∧ wT N r x < σ3 36 10)) rfl (by decide) dX5_laysBest_128 (fun c34 => ?_) (fun c34 => ?_)
                            · skip
                              have hsk : x ≠ 0 := by omega
                              have hnb : ¬ bet N r x (amI (bet N r) x) = true := by rcases hbt with z | z; (exact absurd z hsk); (rw [z]; grind)
                              have hfmN : ∀ c : Nat, c ≠ 36 → c ≠ 37 → c ≠ 39 → c ≠ 40 → c ≠ 41 → σ3 c = σ c := fun c a b d e f9 => by rw [hfs c b d]; exact hfm c a b d e f9
                              have h40N : ∀ i : Int, 0 ≤ i → i < 12 → σ3 40 i = r (24 + i) := fun i a b => by rw [hfs 40 (by omega) (by omega)]; exact h401 i a b
                              have h36N : ∀ i : Int, i < 8 → σ3 36 i = σ 36 i := fun i a => by rw [hfs 36 (by omega) (by omega)]; exact h36 i a
                              have hmbN : MBR σ3 := hmb2
                              have hbN : BB σ3 N r (amI (bet N r) (x + 1)) := by rw [am_skip hx.1 hnb]; unfold BB; rw [hfs 36 (by omega) (by omega), hfs 41 (by omega) (by omega)]; exact (hb.resolve_left hsk).2
                              refine r_iinc F hl [(2, .int (I (x + 1))), (6, .int (I (if wS N r x < σ3 36 9 ∨ (wS N r x = σ3 36 9 ∧ wT N r x < σ3 36 10) then 1 else 0))), (5, .int (I (wT N r x))), (4, .int (I (wS N r x))), (3, .int (I (if wG N r x = true then 1 else 0))), (0, .ref (gY G 36)), (1, .int (I mm))] 6 rfl (by decide) rfl dX5_laysBest_152 (fun ls hl => ?_)
                              refine r_goto F 31 (by decide) dX5_laysBest_155 ?_
                              exact ih31 (x + 1) (rgv r x (r 60)) σ3 _ _ _ (by omega) (by omega) (by exact hrσ3) (by exact Or.inr ⟨x, rfl⟩) (by exact hfmN) (by exact h40N) (by exact h36N) (by exact hmbN) (by exact Or.inr ⟨by omega, hbN⟩) X (lv_sub hl [5, 6, 0] rfl)
                            · skip
                              have htk : amI (bet N r) (x + 1) = x := am_take hx.1 (by rcases hbt with z | z; exact Or.inl z; (first | (left; omega) | (right; rw [z]; grind)))
                              refine r_aload_n F hl 4 rfl rfl dX5_laysBest_131 ?_
                              refine r_iload_n F hl 3 rfl rfl dX5_laysBest_132 ?_
                              refine r_put F X 36 (by decide) (upI (σ3 36) 8 (if wG N r x = true then 1 else 0)) (eK_36 G _) rfl gl_RX5 tyX5 tyX5_ok nmX5 8 (by decide) rfl gf_RX5_202 rfl (tyX5_ok 8 (by decide)) (nzb (by omega)) (nzf (by omega)) (Nat.le_of_ble_eq_true rfl) (eK_36 G _) dX5_laysBest_133 (fun H locs X => ?_)
                              obtain ⟨σ49, eσ49⟩ : ∃ x9 : St, x9 = up σ3 36 (upI (σ3 36) 8 (if wG N r x = true then 1 else 0)) := ⟨_, rfl⟩
                              rw [← eσ49] at X
                              have hrσ49 : σ49 37 = rgv r x (r 60) := by rw [eσ49, up_ne (by omega)]; exact hrσ3
                              have hNσ49 : σ49 36 1 = N := by rw [eσ49, up_eq, upI_ne (by omega)]; exact hNσ3
                              have hEσ49 : EQN (σ49 39) (wf r x) N := by rw [eσ49, up_ne (by omega)]; exact hE2
                              refine r_aload_n F hl 4 rfl rfl dX5_laysBest_136 ?_
                              refine r_iload F hl 2 rfl dX5_laysBest_137 ?_
                              refine r_put F X 36 (by decide) (upI (σ49 36) 9 (wS N r x)) (eK_36 G _) rfl gl_RX5 tyX5 tyX5_ok nmX5 9 (by decide) rfl gf_RX5_196 rfl (tyX5_ok 9 (by decide)) rfl rfl (Nat.le_of_ble_eq_true rfl) (eK_36 G _) dX5_laysBest_139 (fun H locs X => ?_)
                              obtain ⟨σ50, eσ50⟩ : ∃ x9 : St, x9 = up σ49 36 (upI (σ49 36) 9 (wS N r x)) := ⟨_, rfl⟩
                              rw [← eσ50] at X
                              have hrσ50 : σ50 37 = rgv r x (r 60) := by rw [eσ50, up_ne (by omega)]; exact hrσ49
                              have hNσ50 : σ50 36 1 = N := by rw [eσ50, up_eq, upI_ne (by omega)]; exact hNσ49
                              have hEσ50 : EQN (σ50 39) (wf r x) N := by rw [eσ50, up_ne (by omega)]; exact hEσ49
                              refine r_aload_n F hl 4 rfl rfl dX5_laysBest_142 ?_
                              refine r_iload F hl 1 rfl dX5_laysBest_143 ?_
                              refine r_put F X 36 (by decide) (upI (σ50 36) 10 (wT N r x)) (eK_36 G _) rfl gl_RX5 tyX5 tyX5_ok nmX5 10 (by decide) rfl gf_RX5_199 rfl (tyX5_ok 10 (by decide)) rfl rfl (Nat.le_of_ble_eq_true rfl) (eK_36 G _) dX5_laysBest_145 (fun H locs X => ?_)
                              obtain ⟨σ51, eσ51⟩ : ∃ x9 : St, x9 = up σ50 36 (upI (σ50 36) 10 (wT N r x)) := ⟨_, rfl⟩
                              rw [← eσ51] at X
                              have hrσ51 : σ51 37 = rgv r x (r 60) := by rw [eσ51, up_ne (by omega)]; exact hrσ50
                              have hNσ51 : σ51 36 1 = N := by rw [eσ51, up_eq, upI_ne (by omega)]; exact hNσ50
                              have hEσ51 : EQN (σ51 39) (wf r x) N := by rw [eσ51, up_ne (by omega)]; exact hEσ50
                              refine r_aload_n F hl 4 rfl rfl dX5_laysBest_148 ?_
                              refine r_cVV F X 36 (by decide) (eK_36 G _) rfl (c_X5_takesWay l G σ51 N (rgv r x (r 60)) hrσ51 hNσ51 (hW.gv (by omega))) gv_RX5_206 rfl nd_X5_takesWay rfl (rest := []) rfl (Nat.le_of_ble_eq_true rfl) ⟨Nat.le_of_ble_eq_true rfl, Nat.le_of_ble_eq_true rfl⟩ ⟨Nat.zero_le _, Nat.zero_le _⟩ hl.1 dX5_laysBest_149 (fun ω H locs hω X => ?_)
                              have hfω : ∀ c : Nat, c ≠ 36 → c ≠ 41 → ω c = σ3 c := fun c a d => by rw [hω.1 c d, eσ51, up_ne a, eσ50, up_ne a, eσ49, up_ne a]
                              have h36ω : ω 36 = upI (upI (upI (σ3 36) 8 (if wG N r x = true then 1 else 0)) 9 (wS N r x)) 10 (wT N r x) := by rw [hω.1 36 (by omega), eσ51, up_eq, eσ50, up_eq, eσ49, up_eq]
                              have hrω : ω 37 = rgv r x (r 60) := by rw [hfω 37 (by omega) (by omega)]; exact hrσ3
                              have hfmN : ∀ c : Nat, c ≠ 36 → c ≠ 37 → c ≠ 39 → c ≠ 40 → c ≠ 41 → ω c = σ c := fun c a b d e f9 => by rw [hfω c a f9, hfs c b d]; exact hfm c a b d e f9
                              have h40N : ∀ i : Int, 0 ≤ i → i < 12 → ω 40 i = r (24 + i) := fun i a b => by rw [hfω 40 (by omega) (by omega), hfs 40 (by omega) (by omega)]; exact h401 i a b
                              have h36N : ∀ i : Int, i < 8 → ω 36 i = σ 36 i := fun i a => by rw [h36ω, upI_ne (by omega), upI_ne (by omega), upI_ne (by omega), hfs 36 (by omega) (by omega)]; exact h36 i a
                              have hv8 : ω 36 8 = (if wG N r x = true then 1 else 0) := by rw [h36ω, upI_ne (by omega), upI_ne (by omega), upI_eq]
                              have hv9 : ω 36 9 = wS N r x := by rw [h36ω, upI_ne (by omega), upI_eq]
                              have hv10 : ω 36 10 = wT N r x := by rw [h36ω, upI_eq]
                              have hmbN : MBR ω := by unfold MBR; rw [hv8, hv9, hv10]; refine ⟨by omega, by omega, ?_⟩; split <;> simp
                              have hbN : BB ω N r (amI (bet N r) (x + 1)) := by rw [htk]; exact ⟨hv9, hv10, hv8, fun s9 a b => by rw [hω.2 s9 a (by omega)]; exact rgv_in a b⟩
                              refine r_iinc F hl [(2, .int (I (x + 1))), (6, .int (I (if wS N r x < σ3 36 9 ∨ (wS N r x = σ3 36 9 ∧ wT N r x < σ3 36 10) then 1 else 0))), (5, .int (I (wT N r x))), (4, .int (I (wS N r x))), (3, .int (I (if wG N r x = true then 1 else 0))), (0, .ref (gY G 36)), (1, .int (I mm))] 6 rfl (by decide) rfl dX5_laysBest_152 (fun ls hl => ?_)
                              refine r_goto F 31 (by decide) dX5_laysBest_155 ?_
                              exact ih31 (x + 1) (rgv r x (r 60)) ω _ _ _ (by omega) (by omega) (by exact hrω) (by exact Or.inr ⟨x, rfl⟩) (by exact hfmN) (by exact h40N) (by exact h36N) (by exact hmbN) (by exact Or.inr ⟨by omega, hbN⟩) X (lv_sub hl [5, 6, 0] rfl)
        exact loop31 (((4 ^ mm.toNat - 0 : Int) + 1).toNat) 0 r τ _ _ _ (by omega) (by omega) (by rw [hf0 37 (by omega)]; exact hro) (by exact Or.inl rfl) (by intro c a b d e f9; exact hf0 c e) (by intro i a b; exact h40 i a (by omega)) (by intro i a; rw [hf0 36 (by omega)]) (by unfold MBR; rw [hf0 36 (by omega)]; exact hmb) (by left; rfl) X (lv_sub hl [1, 2, 0] rfl)
      · skip
        refine r_aload_n F hl 0 rfl rfl dX5_laysBest_8 ?_
        refine r_get F X 36 (by decide) (eK_36 G _) rfl gl_RX5 6 (by decide) rfl gf_RX5_26 rfl dX5_laysBest_9 ?_
        refine r_iload_n F hl 2 rfl rfl dX5_laysBest_12 ?_
        refine r_aload_n F hl 0 rfl rfl dX5_laysBest_13 ?_
        refine r_get F X 36 (by decide) (eK_36 G _) rfl gl_RX5 2 (by decide) rfl gf_RX5_16 rfl dX5_laysBest_14 ?_
        refine r_bipush F (by decide) dX5_laysBest_17 ?_
        refine r_iload_n F hl 2 rfl rfl dX5_laysBest_19 ?_
        refine r_iadd F dX5_laysBest_20 ?_
        refine r_iald F X 37 (by decide) (eK_37 G) (by omega) (by decide) dX5_laysBest_21 ?_
        refine r_eqI (b := r (24 + t)) (by rw [hrt]) ?_
        refine r_iast F X 40 (by decide) (eK_40 G) (by omega) (by decide) dX5_laysBest_22 (fun H locs X => ?_)
        obtain ⟨σ52, eσ52⟩ : ∃ x9 : St, x9 = up τ 40 (upI (τ 40) t (r (24 + t))) := ⟨_, rfl⟩
        rw [← eσ52] at X
        have hrσ52 : σ52 37 = r := by rw [eσ52, up_ne (by omega)]; exact hrt
        have hNσ52 : σ52 36 1 = N := by rw [eσ52, up_ne (by omega)]; exact hNt
        refine r_iinc F hl [(2, .int (I (t + 1))), (0, .ref (gY G 36)), (1, .int (I mm))] 2 rfl (by decide) rfl dX5_laysBest_23 (fun ls hl => ?_)
        refine r_goto F 2 (by decide) dX5_laysBest_26 ?_
        exact ih2 (t + 1) σ52 _ _ _ (by omega) (by omega) (by intro c a; rw [eσ52, up_ne a]; exact hf0 c a) (by intro i a b; rw [eσ52, up_eq]; rcases (show i < t ∨ i = t by omega) with q | q; (rw [upI_ne (by omega)]; exact h40 i a q); (rw [q, upI_eq])) X (lv_sub hl [1, 2, 0] rfl)
  exact loop2 (((12 - 0 : Int) + 1).toNat) 0 σ _ _ _ (by omega) (by omega) (by exact fun _ _ => rfl) (by intro i a b; omega) X (lv_sub hl [1, 2, 0] rfl)
