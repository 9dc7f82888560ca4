theorem tm_em {N i : Int} (h : 0 ≤ i + N) : (i + N).tmod N = i % N := by
  rw [Int.tmod_eq_emod_of_nonneg h, Int.add_emod_right]
theorem d2_d1 (f : Int → Int) (N i : Int) : d1 f N i - d1 f N (i + N - 1) = d2 f N i := by
  unfold d1 d2
  rw [show i + N - 1 + 1 = i + N by omega, lw_per, show i + N - 1 = i - 1 + N by omega, lw_per]
  omega
theorem d3_d2 (f : Int → Int) (N i : Int) : d2 f N (i + 1) - d2 f N i = d3 f N i := by
  unfold d3
  rw [show d2 f N (i + 1) = lw f N (i + 2) - 2 * lw f N (i + 1) + lw f N i by unfold d2; rw [show i + 1 + 1 = i + 2 by omega, show i + 1 - 1 = i by omega]]
def pd (a b : Int) : Int := if 0 ≤ a ∧ 0 ≤ b ∧ a * b ≤ 9223372036854775807 then a * b else -1
theorem pd_div {a b : Int} (ha : 0 ≤ a) (hb : 0 < b) : (9223372036854775807 : Int).tdiv b < a ↔ ¬ a * b ≤ 9223372036854775807 := by
  rw [td_nn (by decide)]
  have := Int.le_ediv_iff_mul_le (a := a) (b := 9223372036854775807) hb
  omega
theorem pd_rg (a b : Int) : -1 ≤ pd a b ∧ pd a b < 9223372036854775808 := by
  unfold pd
  split
  · rename_i h
    have := mnn h.1 h.2.1
    omega
  · omega
theorem cube_hi {s : Int} (h : 2097151 < s) : ¬ s * s * s ≤ 9223372036854775807 := by
  have h1 : 2097152 * 2097152 ≤ s * s := Int.mul_le_mul (by omega) (by omega) (by omega) (by omega)
  have h2 : 2097152 * 2097152 * 2097152 ≤ s * s * s := Int.mul_le_mul h1 (by omega) (by omega) (by omega)
  omega
theorem cube_lo {s : Int} (h0 : 0 ≤ s) (h : s ≤ 2097151) : s * s ≤ 9223372036854775807 ∧ s * s * s ≤ 9223372036854775807 := by
  have h1 : s * s ≤ 2097151 * 2097151 := Int.mul_le_mul h h (by omega) (by omega)
  have h2 : s * s * s ≤ 2097151 * 2097151 * 2097151 := Int.mul_le_mul h1 h (by omega) (by omega)
  omega
theorem uc_pd {q s b third other : Int} (hq : 1 ≤ q ∧ q ≤ 9999) (hb : 0 < b) (hs : 0 ≤ s) (h3 : third = pd (pd s s) s) (h4 : other = pd (q * q) (pd b b)) : (third < 0 → 2 = uc q s b) ∧ (other < 0 → 2 = uc q s b) ∧ (0 ≤ third → 0 ≤ other → third < other → 1 = uc q s b) ∧ (0 ≤ third → 0 ≤ other → ¬ third < other → 0 = uc q s b) := by
  have hqq : 0 ≤ q * q := mnn (by omega) (by omega)
  have hbb : 0 ≤ b * b := mnn (by omega) (by omega)
  have hss : 0 ≤ s * s := mnn hs hs
  have hqb : 0 ≤ q * b := mnn (by omega) (by omega)
  have e1 : q * q * (b * b) = q * b * (q * b) := by grind
  have A1 : (third < 0 ∧ 2097151 < s) ∨ (third = s * s * s ∧ 0 ≤ third ∧ s ≤ 2097151) := by
    rcases (show 2097151 < s ∨ s ≤ 2097151 by omega) with z | z
    · left
      refine ⟨?_, z⟩
      rw [h3]
      by_cases y : s * s ≤ 9223372036854775807
      · have e : pd s s = s * s := if_pos ⟨hs, hs, y⟩
        rw [e, show pd (s * s) s = -1 from if_neg (fun t => cube_hi z t.2.2)]; decide
      · have e : pd s s = -1 := if_neg (fun t => y t.2.2)
        rw [e, show pd (-1) s = -1 from if_neg (fun t => absurd t.1 (by decide))]; decide
    · right
      have c := cube_lo hs z
      have e : pd s s = s * s := if_pos ⟨hs, hs, c.1⟩
      rw [h3, e, show pd (s * s) s = s * s * s from if_pos ⟨hss, hs, c.2⟩]
      exact ⟨rfl, mnn hss hs, z⟩
  have A2 : (other < 0 ∧ 3037000499 < q * b) ∨ (other = q * b * (q * b) ∧ 0 ≤ other ∧ q * b ≤ 3037000499) := by
    rcases (show 3037000499 < q * b ∨ q * b ≤ 3037000499 by omega) with z | z
    · left
      refine ⟨?_, z⟩
      have m : 3037000500 * 3037000500 ≤ q * b * (q * b) := Int.mul_le_mul (by omega) (by omega) (by omega) (by omega)
      rw [h4]
      by_cases y : b * b ≤ 9223372036854775807
      · have e : pd b b = b * b := if_pos ⟨by omega, by omega, y⟩
        rw [e, show pd (q * q) (b * b) = -1 from if_neg (fun t => by have := t.2.2; rw [e1] at this; omega)]; decide
      · have e : pd b b = -1 := if_neg (fun t => y t.2.2)
        rw [e, show pd (q * q) (-1) = -1 from if_neg (fun t => absurd t.2.1 (by decide))]; decide
    · right
      have m : q * b * (q * b) ≤ 3037000499 * 3037000499 := Int.mul_le_mul z z hqb (by omega)
      have hb1 : b * 1 ≤ b * q := Int.mul_le_mul_of_nonneg_left hq.1 (by omega)
      rw [Int.mul_comm b q] at hb1
      have m2 : b * b ≤ 3037000499 * 3037000499 := Int.mul_le_mul (by omega) (by omega) (by omega) (by omega)
      have e : pd b b = b * b := if_pos ⟨by omega, by omega, by omega⟩
      rw [h4, e, show pd (q * q) (b * b) = q * q * (b * b) from if_pos ⟨hqq, hbb, by rw [e1]; omega⟩, e1]
      exact ⟨rfl, mnn hqb hqb, z⟩
  unfold uc
  rw [if_neg (by omega)]
  rcases A1 with ⟨a1, a2⟩ | ⟨a1, a2, a3⟩
  · rw [if_pos (Or.inl a2)]
    exact ⟨fun _ => rfl, fun _ => rfl, fun y => by omega, fun y => by omega⟩
  · rcases A2 with ⟨b1, b2⟩ | ⟨b1, b2, b3⟩
    · rw [if_pos (Or.inr b2)]
      exact ⟨fun _ => rfl, fun _ => rfl, fun _ y => by omega, fun _ y => by omega⟩
    · rw [if_neg (by omega), ← a1, ← b1]
      exact ⟨fun y => by omega, fun y => by omega, fun _ _ y => by rw [if_pos y], fun _ _ y => by rw [if_neg y]⟩
theorem c_X5_isLaid (l : Launch) (G : GT) (σ : St) (N : Int) (r : Int → Int) (hro : σ 37 = r) (hN : σ 36 1 = N) (hW : WF N r) : Ct l yX5_isLaid cX5_isLaid 2 (some .boolean) 4 G [.ref (gY G 36)] σ (QI G (fun x9 τ9 => x9 = (if whl N r = true then 1 else 0) ∧ (∀ c : Nat, c ≠ 39 → τ9 c = σ c) ∧ (whl N r = true → EQN (τ9 39) (lfI r) N))) := by
  refine mt (own := RX5) (plainFor_of_name rfl) rfl (Nat.le_of_ble_eq_true rfl) ?_
  intro p e s m args below meth c ls F hr hk X hl
  have hl : lv_has ls 2 [(0, .ref (gY G 36))] := hl
  have hw := hW.num
  refine r_aload_n F hl 0 rfl rfl dX5_isLaid_0 ?_
  refine d_cVI F X 36 (by decide) (eK_36 G _) rfl (c_X5_isWhole l G σ N r hro hN hW) gv_RX5_114 rfl nd_X5_isWhole rfl (rest := []) rfl (Nat.le_of_ble_eq_true rfl) ⟨Nat.le_of_ble_eq_true rfl, Nat.le_of_ble_eq_true rfl⟩ ⟨Nat.zero_le _, Nat.zero_le _⟩ hl.1 dX5_isLaid_1 (fun H locs X => ?_)
  refine r_istore_n F hl [(1, .int (I (if whl N r = true then 1 else 0))), (0, .ref (gY G 36))] rfl (by decide) rfl dX5_isLaid_4 (fun ls hl => ?_)
  refine r_iload_n F hl 0 rfl rfl dX5_isLaid_5 ?_
  refine r_bz_eq F 13 (whl N r = true) rfl (by decide) dX5_isLaid_6 (fun c1 => ?_) (fun c1 => ?_)
  · skip
    refine r_iload_n F hl 0 rfl rfl dX5_isLaid_13 ?_
    exact r_zret F X hr hk (by split <;> simp) dX5_isLaid_14 (by first | exact ⟨rfl, fun _ _ => rfl, fun z => absurd z (by assumption)⟩ | exact ⟨rfl, fun c a => by rw [eσ, up_ne a], fun z => by rw [eσ, up_eq]; exact fun i a b => draI_lf _ hW z a b⟩)
  · skip
    refine r_aload_n F hl 1 rfl rfl dX5_isLaid_9 ?_
    refine d_cVV F X 36 (by decide) (eK_36 G _) rfl (c_X5_lays l G σ N r hro hN hW (by assumption)) gv_RX5_118 rfl nd_X5_lays rfl (rest := []) rfl (Nat.le_of_ble_eq_true rfl) ⟨Nat.le_of_ble_eq_true rfl, Nat.le_of_ble_eq_true rfl⟩ ⟨Nat.zero_le _, Nat.zero_le _⟩ hl.1 dX5_isLaid_10 (fun H locs X => ?_)
    obtain ⟨σ1, eσ1⟩ : ∃ x9 : St, x9 = up σ 39 (draI (σ 39) r (rlw r) (r 60)) := ⟨_, rfl⟩
    rw [← eσ1] at X
    have hrσ1 : σ1 37 = r := by rw [eσ1, up_ne (by omega)]; exact hro
    have hNσ1 : σ1 36 1 = N := by rw [eσ1, up_ne (by omega)]; exact hN
    refine r_iload_n F hl 0 rfl rfl dX5_isLaid_13 ?_
    exact r_zret F X hr hk (by split <;> simp) dX5_isLaid_14 (by first | exact ⟨rfl, fun _ _ => rfl, fun z => absurd z (by assumption)⟩ | exact ⟨rfl, fun c a => by rw [eσ1, up_ne a], fun z => by rw [eσ1, up_eq]; exact fun i a b => draI_lf _ hW z a b⟩)
theorem c_X5_liftAt (l : Launch) (G : GT) (σ : St) (N : Int) (r : Int → Int) (f : Int → Int) (i : Int) (hro : σ 37 = r) (hN : σ 36 1 = N) (hW : WF N r) (hE : EQN (σ 39) f N) (hL : LR f N) (hi : -N ≤ i ∧ i ≤ 4 * N) : Ct l yX5_liftAt cX5_liftAt 2 (some .int) 1 G [.ref (gY G 36), .int (I i)] σ (QI G (fun res9 τ => res9 = (lw f N i) ∧ τ = σ)) := by
  refine mt (own := RX5) (plainFor_of_name rfl) rfl (Nat.le_of_ble_eq_true rfl) ?_
  intro p e s m args below meth c ls F hr hk X hl
  have hl : lv_has ls 2 [(0, .ref (gY G 36)), (1, .int (I i))] := hl
  have hw := hW.num
  have hm0 := Int.emod_nonneg i (show N ≠ 0 by omega)
  have hm1 := Int.emod_lt_of_pos i (show 0 < N by omega)
  refine r_aload_n F hl 0 rfl rfl dX5_liftAt_0 ?_
  refine r_get F X 36 (by decide) (eK_36 G _) rfl gl_RX5 5 (by decide) rfl gf_RX5_23 rfl dX5_liftAt_1 ?_
  refine r_iload_n F hl 1 rfl rfl dX5_liftAt_4 ?_
  refine r_aload_n F hl 0 rfl rfl dX5_liftAt_5 ?_
  refine r_get F X 36 (by decide) (eK_36 G _) rfl gl_RX5 1 (by decide) rfl gf_RX5_13 rfl dX5_liftAt_6 ?_
  refine r_eqI (b := N) (hN) ?_
  refine r_iadd F dX5_liftAt_9 ?_
  refine r_aload_n F hl 0 rfl rfl dX5_liftAt_10 ?_
  refine r_get F X 36 (by decide) (eK_36 G _) rfl gl_RX5 1 (by decide) rfl gf_RX5_13 rfl dX5_liftAt_11 ?_
  refine r_eqI (b := N) (hN) ?_
  refine r_irem F (by omega) (by omega) dX5_liftAt_14 ?_
  refine r_eqI (b := i % N) (tm_em (by omega)) ?_
  refine r_iald F X 39 (by decide) (eK_39 G) (by omega) (by decide) dX5_liftAt_15 ?_
  refine r_eqI (b := f (i % N)) (hE _ (by omega) (by omega)) ?_
  exact r_iret F X hr hk dX5_liftAt_16 (⟨rfl, rfl⟩)
theorem c_X5_diffAt1 (l : Launch) (G : GT) (σ : St) (N : Int) (r : Int → Int) (f : Int → Int) (i : Int) (hro : σ 37 = r) (hN : σ 36 1 = N) (hW : WF N r) (hE : EQN (σ 39) f N) (hL : LR f N) (hi : 0 ≤ i ∧ i ≤ 3 * N) : Ct l yX5_diffAt cX5_diffAt 3 (some .int) 2 G [.ref (gY G 36), .int (I i), .int (I 1)] σ (QI G (fun res9 τ => res9 = (d1 f N i) ∧ τ = σ)) := by
  refine mt (own := RX5) (plainFor_of_name rfl) rfl (Nat.le_of_ble_eq_true rfl) ?_
  intro p e s m args below meth c ls F hr hk X hl
  have hl : lv_has ls 3 [(0, .ref (gY G 36)), (1, .int (I i)), (2, .int (I 1))] := hl
  have hw := hW.num
  refine r_iload_n F hl 2 rfl rfl dX5_diffAt_0 ?_
  refine r_look F 28 (v := 1) rfl (by decide) rfl rfl (by decide) dX5_diffAt_1 ?_
  refine r_aload_n F hl 0 rfl rfl dX5_diffAt_28 ?_
  refine r_iload_n F hl 1 rfl rfl dX5_diffAt_29 ?_
  refine r_iconst F dX5_diffAt_30 ?_
  refine r_iadd F dX5_diffAt_31 ?_
  refine d_cVI F X 36 (by decide) (eK_36 G _) rfl (c_X5_liftAt l G σ N r f (i + 1) hro hN hW hE hL (by omega)) gv_RX5_121 rfl nd_X5_liftAt rfl (rest := []) rfl (Nat.le_of_ble_eq_true rfl) ⟨Nat.le_of_ble_eq_true rfl, Nat.le_of_ble_eq_true rfl⟩ ⟨Nat.zero_le _, Nat.zero_le _⟩ hl.1 dX5_diffAt_32 (fun H locs X => ?_)
  refine r_aload_n F hl 0 rfl rfl dX5_diffAt_35 ?_
  refine r_iload_n F hl 1 rfl rfl dX5_diffAt_36 ?_
  refine d_cVI F X 36 (by decide) (eK_36 G _) rfl (c_X5_liftAt l G σ N r f i hro hN hW hE hL (by omega)) gv_RX5_121 rfl nd_X5_liftAt rfl (rest := [.int (I (lw f N (i + 1)))]) rfl (Nat.le_of_ble_eq_true rfl) ⟨Nat.le_of_ble_eq_true rfl, Nat.le_of_ble_eq_true rfl⟩ ⟨Nat.zero_le _, Nat.zero_le _⟩ hl.1 dX5_diffAt_37 (fun H locs X => ?_)
  refine r_isub F dX5_diffAt_40 ?_
  exact r_iret F X hr hk dX5_diffAt_41 (⟨rfl, rfl⟩)
theorem c_X5_diffAt1b (l : Launch) (G : GT) (σ : St) (N : Int) (r : Int → Int) (f : Int → Int) (i : Int) (hro : σ 37 = r) (hN : σ 36 1 = N) (hW : WF N r) (hE : EQN (σ 39) f N) (hL : LR f N) (hi : 0 ≤ i ∧ i ≤ 3 * N) : Ct l yX5_diffAt cX5_diffAt 3 (some .int) 4 G [.ref (gY G 36), .int (I i), .int (I 1)] σ (QI G (fun res9 τ => res9 = (d1 f N i) ∧ τ = σ)) := by
  refine mt (own := RX5) (plainFor_of_name rfl) rfl (Nat.le_of_ble_eq_true rfl) ?_
  intro p e s m args below meth c ls F hr hk X hl
  have hl : lv_has ls 3 [(0, .ref (gY G 36)), (1, .int (I i)), (2, .int (I 1))] := hl
  have hw := hW.num
  refine r_iload_n F hl 2 rfl rfl dX5_diffAt_0 ?_
  refine r_look F 28 (v := 1) rfl (by decide) rfl rfl (by decide) dX5_diffAt_1 ?_
  refine r_aload_n F hl 0 rfl rfl dX5_diffAt_28 ?_
  refine r_iload_n F hl 1 rfl rfl dX5_diffAt_29 ?_
  refine r_iconst F dX5_diffAt_30 ?_
  refine r_iadd F dX5_diffAt_31 ?_
  refine d_cVI F X 36 (by decide) (eK_36 G _) rfl (c_X5_liftAt l G σ N r f (i + 1) hro hN hW hE hL (by omega)) gv_RX5_121 rfl nd_X5_liftAt rfl (rest := []) rfl (Nat.le_of_ble_eq_true rfl) ⟨Nat.le_of_ble_eq_true rfl, Nat.le_of_ble_eq_true rfl⟩ ⟨Nat.zero_le _, Nat.zero_le _⟩ hl.1 dX5_diffAt_32 (fun H locs X => ?_)
  refine r_aload_n F hl 0 rfl rfl dX5_diffAt_35 ?_
  refine r_iload_n F hl 1 rfl rfl dX5_diffAt_36 ?_
  refine d_cVI F X 36 (by decide) (eK_36 G _) rfl (c_X5_liftAt l G σ N r f i hro hN hW hE hL (by omega)) gv_RX5_121 rfl nd_X5_liftAt rfl (rest := [.int (I (lw f N (i + 1)))]) rfl (Nat.le_of_ble_eq_true rfl) ⟨Nat.le_of_ble_eq_true rfl, Nat.le_of_ble_eq_true rfl⟩ ⟨Nat.zero_le _, Nat.zero_le _⟩ hl.1 dX5_diffAt_37 (fun H locs X => ?_)
  refine r_isub F dX5_diffAt_40 ?_
  exact r_iret F X hr hk dX5_diffAt_41 (⟨rfl, rfl⟩)
theorem c_X5_diffAt2 (l : Launch) (G : GT) (σ : St) (N : Int) (r : Int → Int) (f : Int → Int) (i : Int) (hro : σ 37 = r) (hN : σ 36 1 = N) (hW : WF N r) (hE : EQN (σ 39) f N) (hL : LR f N) (hi : 0 ≤ i ∧ i ≤ 2 * N) : Ct l yX5_diffAt cX5_diffAt 3 (some .int) 3 G [.ref (gY G 36), .int (I i), .int (I 2)] σ (QI G (fun res9 τ => res9 = (d2 f N i) ∧ τ = σ)) := by
  refine mt (own := RX5) (plainFor_of_name rfl) rfl (Nat.le_of_ble_eq_true rfl) ?_
  intro p e s m args below meth c ls F hr hk X hl
  have hl : lv_has ls 3 [(0, .ref (gY G 36)), (1, .int (I i)), (2, .int (I 2))] := hl
  have hw := hW.num
  refine r_iload_n F hl 2 rfl rfl dX5_diffAt_0 ?_
  refine r_look F 42 (v := 2) rfl (by decide) rfl rfl (by decide) dX5_diffAt_1 ?_
  refine r_aload_n F hl 0 rfl rfl dX5_diffAt_42 ?_
  refine r_iload_n F hl 1 rfl rfl dX5_diffAt_43 ?_
  refine r_iconst F dX5_diffAt_44 ?_
  refine d_cVI F X 36 (by decide) (eK_36 G _) rfl (c_X5_diffAt1 l G σ N r f i hro hN hW hE hL (by omega)) gv_RX5_124 rfl nd_X5_diffAt rfl (rest := []) rfl (Nat.le_of_ble_eq_true rfl) ⟨Nat.le_of_ble_eq_true rfl, Nat.le_of_ble_eq_true rfl⟩ ⟨Nat.zero_le _, Nat.zero_le _⟩ hl.1 dX5_diffAt_45 (fun H locs X => ?_)
  refine r_aload_n F hl 0 rfl rfl dX5_diffAt_48 ?_
  refine r_iload_n F hl 1 rfl rfl dX5_diffAt_49 ?_
  refine r_aload_n F hl 0 rfl rfl dX5_diffAt_50 ?_
  refine r_get F X 36 (by decide) (eK_36 G _) rfl gl_RX5 1 (by decide) rfl gf_RX5_13 rfl dX5_diffAt_51 ?_
  refine r_eqI (b := N) (hN) ?_
  refine r_iadd F dX5_diffAt_54 ?_
  refine r_iconst F dX5_diffAt_55 ?_
  refine r_isub F dX5_diffAt_56 ?_
  refine r_iconst F dX5_diffAt_57 ?_
  refine d_cVI F X 36 (by decide) (eK_36 G _) rfl (c_X5_diffAt1 l G σ N r f ((i + N) - 1) hro hN hW hE hL (by omega)) gv_RX5_124 rfl nd_X5_diffAt rfl (rest := [.int (I (d1 f N i))]) rfl (Nat.le_of_ble_eq_true rfl) ⟨Nat.le_of_ble_eq_true rfl, Nat.le_of_ble_eq_true rfl⟩ ⟨Nat.zero_le _, Nat.zero_le _⟩ hl.1 dX5_diffAt_58 (fun H locs X => ?_)
  refine r_isub F dX5_diffAt_61 ?_
  exact r_iret F X hr hk dX5_diffAt_62 (⟨d2_d1 f N i, rfl⟩)
theorem c_X5_diffAt2b (l : Launch) (G : GT) (σ : St) (N : Int) (r : Int → Int) (f : Int → Int) (i : Int) (hro : σ 37 = r) (hN : σ 36 1 = N) (hW : WF N r) (hE : EQN (σ 39) f N) (hL : LR f N) (hi : 0 ≤ i ∧ i ≤ 2 * N) : Ct l yX5_diffAt cX5_diffAt 3 (some .int) 4 G [.ref (gY G 36), .int (I i), .int (I 2)] σ (QI G (fun res9 τ => res9 = (d2 f N i) ∧ τ = σ)) := by
  refine mt (own := RX5) (plainFor_of_name rfl) rfl (Nat.le_of_ble_eq_true rfl) ?_
  intro p e s m args below meth c ls F hr hk X hl
  have hl : lv_has ls 3 [(0, .ref (gY G 36)), (1, .int (I i)), (2, .int (I 2))] := hl
  have hw := hW.num
  refine r_iload_n F hl 2 rfl rfl dX5_diffAt_0 ?_
  refine r_look F 42 (v := 2) rfl (by decide) rfl rfl (by decide) dX5_diffAt_1 ?_
  refine r_aload_n F hl 0 rfl rfl dX5_diffAt_42 ?_
  refine r_iload_n F hl 1 rfl rfl dX5_diffAt_43 ?_
  refine r_iconst F dX5_diffAt_44 ?_
  refine d_cVI F X 36 (by decide) (eK_36 G _) rfl (c_X5_diffAt1 l G σ N r f i hro hN hW hE hL (by omega)) gv_RX5_124 rfl nd_X5_diffAt rfl (rest := []) rfl (Nat.le_of_ble_eq_true rfl) ⟨Nat.le_of_ble_eq_true rfl, Nat.le_of_ble_eq_true rfl⟩ ⟨Nat.zero_le _, Nat.zero_le _⟩ hl.1 dX5_diffAt_45 (fun H locs X => ?_)
  refine r_aload_n F hl 0 rfl rfl dX5_diffAt_48 ?_
  refine r_iload_n F hl 1 rfl rfl dX5_diffAt_49 ?_
  refine r_aload_n F hl 0 rfl rfl dX5_diffAt_50 ?_
  refine r_get F X 36 (by decide) (eK_36 G _) rfl gl_RX5 1 (by decide) rfl gf_RX5_13 rfl dX5_diffAt_51 ?_
  refine r_eqI (b := N) (hN) ?_
  refine r_iadd F dX5_diffAt_54 ?_
  refine r_iconst F dX5_diffAt_55 ?_
  refine r_isub F dX5_diffAt_56 ?_
  refine r_iconst F dX5_diffAt_57 ?_
  refine d_cVI F X 36 (by decide) (eK_36 G _) rfl (c_X5_diffAt1 l G σ N r f ((i + N) - 1) hro hN hW hE hL (by omega)) gv_RX5_124 rfl nd_X5_diffAt rfl (rest := [.int (I (d1 f N i))]) rfl (Nat.le_of_ble_eq_true rfl) ⟨Nat.le_of_ble_eq_true rfl, Nat.le_of_ble_eq_true rfl⟩ ⟨Nat.zero_le _, Nat.zero_le _⟩ hl.1 dX5_diffAt_58 (fun H locs X => ?_)
  refine r_isub F dX5_diffAt_61 ?_
  exact r_iret F X hr hk dX5_diffAt_62 (⟨d2_d1 f N i, rfl⟩)
theorem c_X5_diffAt3 (l : Launch) (G : GT) (σ : St) (N : Int) (r : Int → Int) (f : Int → Int) (i : Int) (hro : σ 37 = r) (hN : σ 36 1 = N) (hW : WF N r) (hE : EQN (σ 39) f N) (hL : LR f N) (hi : 0 ≤ i ∧ i < 2 * N) : Ct l yX5_diffAt cX5_diffAt 3 (some .int) 4 G [.ref (gY G 36), .int (I i), .int (I 3)] σ (QI G (fun res9 τ => res9 = (d3 f N i) ∧ τ = σ)) := by
  refine mt (own := RX5) (plainFor_of_name rfl) rfl (Nat.le_of_ble_eq_true rfl) ?_
  intro p e s m args below meth c ls F hr hk X hl
  have hl : lv_has ls 3 [(0, .ref (gY G 36)), (1, .int (I i)), (2, .int (I 3))] := hl
  have hw := hW.num
  refine r_iload_n F hl 2 rfl rfl dX5_diffAt_0 ?_
  refine r_look F 63 (v := 3) rfl (by decide) rfl rfl (by decide) dX5_diffAt_1 ?_
  refine r_aload_n F hl 0 rfl rfl dX5_diffAt_63 ?_
  refine r_iload_n F hl 1 rfl rfl dX5_diffAt_64 ?_
  refine r_iconst F dX5_diffAt_65 ?_
  refine r_iadd F dX5_diffAt_66 ?_
  refine r_iconst F dX5_diffAt_67 ?_
  refine d_cVI F X 36 (by decide) (eK_36 G _) rfl (c_X5_diffAt2 l G σ N r f (i + 1) hro hN hW hE hL (by omega)) gv_RX5_124 rfl nd_X5_diffAt rfl (rest := []) rfl (Nat.le_of_ble_eq_true rfl) ⟨Nat.le_of_ble_eq_true rfl, Nat.le_of_ble_eq_true rfl⟩ ⟨Nat.zero_le _, Nat.zero_le _⟩ hl.1 dX5_diffAt_68 (fun H locs X => ?_)
  refine r_aload_n F hl 0 rfl rfl dX5_diffAt_71 ?_
  refine r_iload_n F hl 1 rfl rfl dX5_diffAt_72 ?_
  refine r_iconst F dX5_diffAt_73 ?_
  refine d_cVI F X 36 (by decide) (eK_36 G _) rfl (c_X5_diffAt2 l G σ N r f i hro hN hW hE hL (by omega)) gv_RX5_124 rfl nd_X5_diffAt rfl (rest := [.int (I (d2 f N (i + 1)))]) rfl (Nat.le_of_ble_eq_true rfl) ⟨Nat.le_of_ble_eq_true rfl, Nat.le_of_ble_eq_true rfl⟩ ⟨Nat.zero_le _, Nat.zero_le _⟩ hl.1 dX5_diffAt_74 (fun H locs X => ?_)
  refine r_isub F dX5_diffAt_77 ?_
  exact r_iret F X hr hk dX5_diffAt_78 (⟨d3_d2 f N i, rfl⟩)
theorem c_X5_diffAt (l : Launch) (G : GT) (σ : St) (N : Int) (r : Int → Int) (f : Int → Int) (i : Int) (k : Nat) (hro : σ 37 = r) (hN : σ 36 1 = N) (hW : WF N r) (hE : EQN (σ 39) f N) (hL : LR f N) (hi : 0 ≤ i ∧ i < 2 * N) (hk3 : 1 ≤ k ∧ k ≤ 3) : Ct l yX5_diffAt cX5_diffAt 3 (some .int) 4 G [.ref (gY G 36), .int (I i), .int (I (k : Int))] σ (QI G (fun res9 τ => res9 = mval f N r i k ∧ τ = σ)) := by
  have hw := hW.num
  rcases (show k = 1 ∨ k = 2 ∨ k = 3 by omega) with q | q | q <;> subst q
  · exact c_X5_diffAt1b l G σ N r f i hro hN hW hE hL (by omega)
  · exact c_X5_diffAt2b l G σ N r f i hro hN hW hE hL (by omega)
  · exact c_X5_diffAt3 l G σ N r f i hro hN hW hE hL hi
theorem c_X5_greatest (l : Launch) (G : GT) (σ : St) (N : Int) (r : Int → Int) (f : Int → Int) (k : Nat) (hro : σ 37 = r) (hN : σ 36 1 = N) (hW : WF N r) (hE : EQN (σ 39) f N) (hL : LR f N) (hk3 : 1 ≤ k ∧ k ≤ 3) : Ct l yX5_greatest cX5_greatest 5 (some .int) 5 G [.ref (gY G 36), .int (I (k : Int))] σ (QI G (fun res9 τ => res9 = (mxI (fun j => mval f N r j k) N) ∧ τ = σ)) := by
  refine mt (own := RX5) (plainFor_of_name rfl) rfl (Nat.le_of_ble_eq_true rfl) ?_
  intro p e s m args below meth c ls F hr hk X hl
  have hl : lv_has ls 5 [(0, .ref (gY G 36)), (1, .int (I (k : Int)))] := hl
  have hw := hW.num
  refine r_iconst F dX5_greatest_0 ?_
  refine r_istore_n F hl [(2, .int (I 0)), (0, .ref (gY G 36)), (1, .int (I (k : Int)))] rfl (by decide) rfl dX5_greatest_1 (fun ls hl => ?_)
  refine r_iconst F dX5_greatest_2 ?_
  refine r_istore_n F hl [(3, .int (I 0)), (2, .int (I 0)), (0, .ref (gY G 36)), (1, .int (I (k : Int)))] rfl (by decide) rfl dX5_greatest_3 (fun ls hl => ?_)
  have loop4 : ∀ (n : Nat) (i : Int) (ls : Array Slot) (H : Heap) (locs : List Loc) (hn : N - i < n) (hi : 0 ≤ i ∧ i ≤ N) (X : HX G σ s H locs) (hl : lv_has ls 5 [(0, .ref (gY G 36)), (1, .int (I (k : Int))), (2, .int (I (mxI (fun j => mval f N r j k) i))), (3, .int (I i))]), W p l e (rmd 5) s m args below meth c H locs 0 0 (MQ below (QI G (fun res9 τ => res9 = (mxI (fun j => mval f N r j k) N) ∧ τ = σ)) args s 0 0 (gA G)) (F0 m 4 ls []) := by
    intro n
    induction n with
    | zero => intro i ls H locs hn hi X hl; omega
    | succ n ih4 =>
      intro i ls H locs hn hi X hl
      refine r_iload_n F hl 3 rfl rfl dX5_greatest_4 ?_
      refine r_aload_n F hl 0 rfl rfl dX5_greatest_5 ?_
      refine r_get F X 36 (by decide) (eK_36 G _) rfl gl_RX5 1 (by decide) rfl gf_RX5_13 rfl dX5_greatest_6 ?_
      refine r_eqI (b := N) (hN) ?_
      refine r_icmp_ge F 42 (by decide) (by omega) (by omega) dX5_greatest_9 (fun c1 => ?_) (fun c1 => ?_)
      · skip
        refine r_iload_n F hl 2 rfl rfl dX5_greatest_42 ?_
        exact r_iret F X hr hk dX5_greatest_43 (⟨by rw [show i = N by omega], rfl⟩)
      · skip
        refine r_aload_n F hl 0 rfl rfl dX5_greatest_12 ?_
        refine r_iload_n F hl 3 rfl rfl dX5_greatest_13 ?_
        refine r_iload_n F hl 1 rfl rfl dX5_greatest_14 ?_
        refine d_cVI F X 36 (by decide) (eK_36 G _) rfl (c_X5_diffAt l G σ N r f i k hro hN hW hE hL (by omega) (by omega)) gv_RX5_124 rfl nd_X5_diffAt rfl (rest := []) rfl (Nat.le_of_ble_eq_true rfl) ⟨Nat.le_of_ble_eq_true rfl, Nat.le_of_ble_eq_true rfl⟩ ⟨Nat.zero_le _, Nat.zero_le _⟩ hl.1 dX5_greatest_15 (fun H locs X => ?_)
        refine d_cSI F X (c_X5_size l G σ (mval f N r i k) (by have := mval_rg (r := r) hL (show 0 < N by omega) i hk3; omega)) gv_RX5_131 nd_X5_size rfl (rest := []) rfl (Nat.le_of_ble_eq_true rfl) ⟨Nat.le_of_ble_eq_true rfl, Nat.le_of_ble_eq_true rfl⟩ ⟨Nat.zero_le _, Nat.zero_le _⟩ hl.1 dX5_greatest_18 (fun H locs X => ?_)
        refine r_istore F hl [(4, .int (I (ab (mval f N r i k)))), (0, .ref (gY G 36)), (1, .int (I (k : Int))), (2, .int (I (mxI (fun j => mval f N r j k) i))), (3, .int (I i))] (by decide) rfl dX5_greatest_21 (fun ls hl => ?_)
        refine r_iload F hl 0 rfl dX5_greatest_23 ?_
        refine r_iload_n F hl 3 rfl rfl dX5_greatest_25 ?_
        have hq8 := mval_rg (r := r) hL (show 0 < N by omega) i hk3
        have hq7 := ab_nn (mval f N r i k)
        have hq9 := mxI_rg (n := i) (g := fun j => mval f N r j k) (show (0 : Int) ≤ 3996 by omega) (fun j => mval_rg hL (show 0 < N by omega) j hk3)
        refine r_icmp_le F 34 (by decide) (by omega) (by omega) dX5_greatest_26 (fun c2 => ?_) (fun c2 => ?_)
        · skip
          refine r_iload_n F hl 3 rfl rfl dX5_greatest_34 ?_
          refine r_eqI (b := mxI (fun j => mval f N r j k) (i + 1)) (by rw [mxI_succ _ hi.1]; omega) ?_
          refine r_istore_n F hl [(2, .int (I (mxI (fun j => mval f N r j k) (i + 1)))), (4, .int (I (ab (mval f N r i k)))), (0, .ref (gY G 36)), (1, .int (I (k : Int))), (3, .int (I i))] rfl (by decide) rfl dX5_greatest_35 (fun ls hl => ?_)
          refine r_iinc F hl [(3, .int (I (i + 1))), (2, .int (I (mxI (fun j => mval f N r j k) (i + 1)))), (4, .int (I (ab (mval f N r i k)))), (0, .ref (gY G 36)), (1, .int (I (k : Int)))] 4 rfl (by decide) rfl dX5_greatest_36 (fun ls hl => ?_)
          refine r_goto F 4 (by decide) dX5_greatest_39 ?_
          exact ih4 (i + 1) _ _ _ (by omega) (by omega) X (lv_sub hl [3, 4, 1, 0] rfl)
        · skip
          refine r_iload F hl 0 rfl dX5_greatest_29 ?_
          refine r_goto F 35 (by decide) dX5_greatest_31 ?_
          refine r_eqI (b := mxI (fun j => mval f N r j k) (i + 1)) (by rw [mxI_succ _ hi.1]; omega) ?_
          refine r_istore_n F hl [(2, .int (I (mxI (fun j => mval f N r j k) (i + 1)))), (4, .int (I (ab (mval f N r i k)))), (0, .ref (gY G 36)), (1, .int (I (k : Int))), (3, .int (I i))] rfl (by decide) rfl dX5_greatest_35 (fun ls hl => ?_)
          refine r_iinc F hl [(3, .int (I (i + 1))), (2, .int (I (mxI (fun j => mval f N r j k) (i + 1)))), (4, .int (I (ab (mval f N r i k)))), (0, .ref (gY G 36)), (1, .int (I (k : Int)))] 4 rfl (by decide) rfl dX5_greatest_36 (fun ls hl => ?_)
          refine r_goto F 4 (by decide) dX5_greatest_39 ?_
          exact ih4 (i + 1) _ _ _ (by omega) (by omega) X (lv_sub hl [3, 4, 1, 0] rfl)
  exact loop4 (((N - 0 : Int) + 1).toNat) 0 _ _ _ (by omega) (by omega) X (lv_sub hl [2, 3, 1, 0] rfl)
theorem c_X5_farOf (l : Launch) (G : GT) (σ : St) (N : Int) (r : Int → Int) (f : Int → Int) (i : Int) (hro : σ 37 = r) (hN : σ 36 1 = N) (hW : WF N r) (hE : EQN (σ 39) f N) (hL : LR f N) (hi : 0 ≤ i ∧ i < N) : Ct l yX5_farOf cX5_farOf 2 (some .long) 2 G [.ref (gY G 36), .int (I i)] σ (QJ G (fun res9 τ => res9 = (fa f N r i) ∧ τ = σ)) := by
  refine mt (own := RX5) (plainFor_of_name rfl) rfl (Nat.le_of_ble_eq_true rfl) ?_
  intro p e s m args below meth c ls F hr hk X hl
  have hl : lv_has ls 2 [(0, .ref (gY G 36)), (1, .int (I i))] := hl
  have hw := hW.num
  have hlw := hL.w (show 0 < N by omega) i
  refine r_aload_n F hl 0 rfl rfl dX5_farOf_0 ?_
  refine r_get F X 36 (by decide) (eK_36 G _) rfl gl_RX5 2 (by decide) rfl gf_RX5_16 rfl dX5_farOf_1 ?_
  refine r_bipush F (by decide) dX5_farOf_4 ?_
  refine r_iald F X 37 (by decide) (eK_37 G) (by omega) (by decide) dX5_farOf_6 ?_
  refine r_eqI (b := r 63) (by rw [hro]) ?_
  refine r_aload_n F hl 0 rfl rfl dX5_farOf_7 ?_
  refine r_get F X 36 (by decide) (eK_36 G _) rfl gl_RX5 2 (by decide) rfl gf_RX5_16 rfl dX5_farOf_8 ?_
  refine r_bipush F (by decide) dX5_farOf_11 ?_
  refine r_iald F X 37 (by decide) (eK_37 G) (by omega) (by decide) dX5_farOf_13 ?_
  refine r_eqI (b := r 64) (by rw [hro]) ?_
  refine r_iadd F dX5_farOf_14 ?_
  refine r_aload_n F hl 0 rfl rfl dX5_farOf_15 ?_
  refine r_iload_n F hl 1 rfl rfl dX5_farOf_16 ?_
  refine d_cVI F X 36 (by decide) (eK_36 G _) rfl (c_X5_liftAt l G σ N r f i hro hN hW hE hL (by omega)) gv_RX5_121 rfl nd_X5_liftAt rfl (rest := [.int (I ((r 63) + (r 64)))]) rfl (Nat.le_of_ble_eq_true rfl) ⟨Nat.le_of_ble_eq_true rfl, Nat.le_of_ble_eq_true rfl⟩ ⟨Nat.zero_le _, Nat.zero_le _⟩ hl.1 dX5_farOf_17 (fun H locs X => ?_)
  refine r_iadd F dX5_farOf_20 ?_
  refine r_i2l F (by omega) dX5_farOf_21 ?_
  exact r_lret F X hr hk dX5_farOf_22 (⟨rfl, rfl⟩)
theorem c_X5_quick (l : Launch) (G : GT) (σ : St) (N : Int) (r : Int → Int) (f : Int → Int) (i : Int) (hro : σ 37 = r) (hN : σ 36 1 = N) (hW : WF N r) (hE : EQN (σ 39) f N) (hL : LR f N) (hi : 0 ≤ i ∧ i < N) : Ct l yX5_quick cX5_quick 2 (some .long) 2 G [.ref (gY G 36), .int (I i)] σ (QJ G (fun res9 τ => res9 = (vV f N i) ∧ τ = σ)) := by
  refine mt (own := RX5) (plainFor_of_name rfl) rfl (Nat.le_of_ble_eq_true rfl) ?_
  intro p e s m args below meth c ls F hr hk X hl
  have hl : lv_has ls 2 [(0, .ref (gY G 36)), (1, .int (I i))] := hl
  have hw := hW.num
  have hla := hL.w (show 0 < N by omega) (i + 1)
  have hlb := hL.w (show 0 < N by omega) (i - 1)
  have hvv := hL.v ⟨by omega, by omega⟩ i
  refine r_aload_n F hl 0 rfl rfl dX5_quick_0 ?_
  refine r_iload_n F hl 1 rfl rfl dX5_quick_1 ?_
  refine r_iconst F dX5_quick_2 ?_
  refine r_iadd F dX5_quick_3 ?_
  refine d_cVI F X 36 (by decide) (eK_36 G _) rfl (c_X5_liftAt l G σ N r f (i + 1) hro hN hW hE hL (by omega)) gv_RX5_121 rfl nd_X5_liftAt rfl (rest := []) rfl (Nat.le_of_ble_eq_true rfl) ⟨Nat.le_of_ble_eq_true rfl, Nat.le_of_ble_eq_true rfl⟩ ⟨Nat.zero_le _, Nat.zero_le _⟩ hl.1 dX5_quick_4 (fun H locs X => ?_)
  refine r_aload_n F hl 0 rfl rfl dX5_quick_7 ?_
  refine r_iload_n F hl 1 rfl rfl dX5_quick_8 ?_
  refine r_aload_n F hl 0 rfl rfl dX5_quick_9 ?_
  refine r_get F X 36 (by decide) (eK_36 G _) rfl gl_RX5 1 (by decide) rfl gf_RX5_13 rfl dX5_quick_10 ?_
  refine r_eqI (b := N) (hN) ?_
  refine r_iadd F dX5_quick_13 ?_
  refine r_iconst F dX5_quick_14 ?_
  refine r_isub F dX5_quick_15 ?_
  refine d_cVI F X 36 (by decide) (eK_36 G _) rfl (c_X5_liftAt l G σ N r f ((i + N) - 1) hro hN hW hE hL (by omega)) gv_RX5_121 rfl nd_X5_liftAt rfl (rest := [.int (I (lw f N (i + 1)))]) rfl (Nat.le_of_ble_eq_true rfl) ⟨Nat.le_of_ble_eq_true rfl, Nat.le_of_ble_eq_true rfl⟩ ⟨Nat.zero_le _, Nat.zero_le _⟩ hl.1 dX5_quick_16 (fun H locs X => ?_)
  refine r_eqI (b := lw f N (i - 1)) (by rw [show i + N - 1 = i - 1 + N by omega, lw_per]) ?_
  refine r_isub F dX5_quick_19 ?_
  refine r_i2l F (by omega) dX5_quick_20 ?_
  refine r_ldc2 F 113 gk_RX5_137 (by decide +kernel) dX5_quick_21 ?_
  refine r_lmul F dX5_quick_24 ?_
  refine r_aload_n F hl 0 rfl rfl dX5_quick_25 ?_
  refine r_get F X 36 (by decide) (eK_36 G _) rfl gl_RX5 1 (by decide) rfl gf_RX5_13 rfl dX5_quick_26 ?_
  refine r_eqI (b := N) (hN) ?_
  refine r_i2l F (by omega) dX5_quick_29 ?_
  refine r_lmul F dX5_quick_30 ?_
  refine r_ldc2 F 1420 gk_RX5_139 (by decide +kernel) dX5_quick_31 ?_
  refine d_cSJ F X (c_X5_cut l G σ ((((lw f N (i + 1)) - (lw f N (i - 1))) * 113) * N) 1420 (by omega) (by omega)) gv_RX5_110 nd_X5_cut rfl (rest := []) rfl (Nat.le_of_ble_eq_true rfl) ⟨Nat.le_of_ble_eq_true rfl, Nat.le_of_ble_eq_true rfl⟩ ⟨Nat.zero_le _, Nat.zero_le _⟩ hl.1 dX5_quick_34 (fun H locs X => ?_)
  exact r_lret F X hr hk dX5_quick_37 (⟨rfl, rfl⟩)
theorem c_X5_bent (l : Launch) (G : GT) (σ : St) (N : Int) (r : Int → Int) (f : Int → Int) (i : Int) (hro : σ 37 = r) (hN : σ 36 1 = N) (hW : WF N r) (hE : EQN (σ 39) f N) (hL : LR f N) (hi : 0 ≤ i ∧ i < N) : Ct l yX5_bent cX5_bent 2 (some .long) 4 G [.ref (gY G 36), .int (I i)] σ (QJ G (fun res9 τ => res9 = (vA f N i) ∧ τ = σ)) := by
  refine mt (own := RX5) (plainFor_of_name rfl) rfl (Nat.le_of_ble_eq_true rfl) ?_
  intro p e s m args below meth c ls F hr hk X hl
  have hl : lv_has ls 2 [(0, .ref (gY G 36)), (1, .int (I i))] := hl
  have hw := hW.num
  have hvv := hL.v ⟨by omega, by omega⟩ i
  have hld := hL.d (show 0 < N by omega) (i)
  refine r_aload_n F hl 0 rfl rfl dX5_bent_0 ?_
  refine r_iload_n F hl 1 rfl rfl dX5_bent_1 ?_
  refine r_iconst F dX5_bent_2 ?_
  refine d_cVI F X 36 (by decide) (eK_36 G _) rfl (c_X5_diffAt2 l G σ N r f i hro hN hW hE hL (by omega)) gv_RX5_124 rfl nd_X5_diffAt rfl (rest := []) rfl (Nat.le_of_ble_eq_true rfl) ⟨Nat.le_of_ble_eq_true rfl, Nat.le_of_ble_eq_true rfl⟩ ⟨Nat.zero_le _, Nat.zero_le _⟩ hl.1 dX5_bent_3 (fun H locs X => ?_)
  refine r_i2l F (by omega) dX5_bent_6 ?_
  refine r_ldc2 F 12769 gk_RX5_141 (by decide +kernel) dX5_bent_7 ?_
  refine r_lmul F dX5_bent_10 ?_
  refine r_aload_n F hl 0 rfl rfl dX5_bent_11 ?_
  refine r_get F X 36 (by decide) (eK_36 G _) rfl gl_RX5 1 (by decide) rfl gf_RX5_13 rfl dX5_bent_12 ?_
  refine r_eqI (b := N) (hN) ?_
  refine r_i2l F (by omega) dX5_bent_15 ?_
  refine r_lmul F dX5_bent_16 ?_
  refine r_aload_n F hl 0 rfl rfl dX5_bent_17 ?_
  refine r_get F X 36 (by decide) (eK_36 G _) rfl gl_RX5 1 (by decide) rfl gf_RX5_13 rfl dX5_bent_18 ?_
  refine r_eqI (b := N) (hN) ?_
  refine r_i2l F (by omega) dX5_bent_21 ?_
  refine r_lmul F dX5_bent_22 ?_
  refine r_ldc2 F 504100 gk_RX5_143 (by decide +kernel) dX5_bent_23 ?_
  refine d_cSJ F X (c_X5_cut l G σ ((((d2 f N i) * 12769) * N) * N) 504100 (by omega) (by omega)) gv_RX5_110 nd_X5_cut rfl (rest := []) rfl (Nat.le_of_ble_eq_true rfl) ⟨Nat.le_of_ble_eq_true rfl, Nat.le_of_ble_eq_true rfl⟩ ⟨Nat.zero_le _, Nat.zero_le _⟩ hl.1 dX5_bent_26 (fun H locs X => ?_)
  exact r_lret F X hr hk dX5_bent_29 (⟨rfl, rfl⟩)
theorem c_X5_bend (l : Launch) (G : GT) (σ : St) (N : Int) (r : Int → Int) (f : Int → Int) (i : Int) (hro : σ 37 = r) (hN : σ 36 1 = N) (hW : WF N r) (hE : EQN (σ 39) f N) (hL : LR f N) (hi : 0 ≤ i ∧ i < N) : Ct l yX5_bend cX5_bend 2 (some .long) 5 G [.ref (gY G 36), .int (I i)] σ (QJ G (fun res9 τ => res9 = (bn (fa f N r i) (vV f N i) (vA f N i)) ∧ τ = σ)) := by
  refine mt (own := RX5) (plainFor_of_name rfl) rfl (Nat.le_of_ble_eq_true rfl) ?_
  intro p e s m args below meth c ls F hr hk X hl
  have hl : lv_has ls 2 [(0, .ref (gY G 36)), (1, .int (I i))] := hl
  have hw := hW.num
  refine r_aload_n F hl 0 rfl rfl dX5_bend_0 ?_
  refine r_iload_n F hl 1 rfl rfl dX5_bend_1 ?_
  refine d_cVJ F X 36 (by decide) (eK_36 G _) rfl (c_X5_farOf l G σ N r f i hro hN hW hE hL (by omega)) gv_RX5_145 rfl nd_X5_farOf rfl (rest := []) rfl (Nat.le_of_ble_eq_true rfl) ⟨Nat.le_of_ble_eq_true rfl, Nat.le_of_ble_eq_true rfl⟩ ⟨Nat.zero_le _, Nat.zero_le _⟩ hl.1 dX5_bend_2 (fun H locs X => ?_)
  refine r_aload_n F hl 0 rfl rfl dX5_bend_5 ?_
  refine r_iload_n F hl 1 rfl rfl dX5_bend_6 ?_
  refine d_cVJ F X 36 (by decide) (eK_36 G _) rfl (c_X5_farOf l G σ N r f i hro hN hW hE hL (by omega)) gv_RX5_145 rfl nd_X5_farOf rfl (rest := [.long (J (fa f N r i))]) rfl (Nat.le_of_ble_eq_true rfl) ⟨Nat.le_of_ble_eq_true rfl, Nat.le_of_ble_eq_true rfl⟩ ⟨Nat.zero_le _, Nat.zero_le _⟩ hl.1 dX5_bend_7 (fun H locs X => ?_)
  refine r_lmul F dX5_bend_10 ?_
  refine r_ldc2 F 2 gk_RX5_84 (by decide +kernel) dX5_bend_11 ?_
  refine r_aload_n F hl 0 rfl rfl dX5_bend_14 ?_
  refine r_iload_n F hl 1 rfl rfl dX5_bend_15 ?_
  refine d_cVJ F X 36 (by decide) (eK_36 G _) rfl (c_X5_quick l G σ N r f i hro hN hW hE hL (by omega)) gv_RX5_149 rfl nd_X5_quick rfl (rest := [.long (J 2), .long (J ((fa f N r i) * (fa f N r i)))]) rfl (Nat.le_of_ble_eq_true rfl) ⟨Nat.le_of_ble_eq_true rfl, Nat.le_of_ble_eq_true rfl⟩ ⟨Nat.zero_le _, Nat.zero_le _⟩ hl.1 dX5_bend_16 (fun H locs X => ?_)
  refine r_lmul F dX5_bend_19 ?_
  refine r_aload_n F hl 0 rfl rfl dX5_bend_20 ?_
  refine r_iload_n F hl 1 rfl rfl dX5_bend_21 ?_
  refine d_cVJ F X 36 (by decide) (eK_36 G _) rfl (c_X5_quick l G σ N r f i hro hN hW hE hL (by omega)) gv_RX5_149 rfl nd_X5_quick rfl (rest := [.long (J (2 * (vV f N i))), .long (J ((fa f N r i) * (fa f N r i)))]) rfl (Nat.le_of_ble_eq_true rfl) ⟨Nat.le_of_ble_eq_true rfl, Nat.le_of_ble_eq_true rfl⟩ ⟨Nat.zero_le _, Nat.zero_le _⟩ hl.1 dX5_bend_22 (fun H locs X => ?_)
  refine r_lmul F dX5_bend_25 ?_
  refine r_ladd F dX5_bend_26 ?_
  refine r_aload_n F hl 0 rfl rfl dX5_bend_27 ?_
  refine r_iload_n F hl 1 rfl rfl dX5_bend_28 ?_
  refine d_cVJ F X 36 (by decide) (eK_36 G _) rfl (c_X5_farOf l G σ N r f i hro hN hW hE hL (by omega)) gv_RX5_145 rfl nd_X5_farOf rfl (rest := [.long (J (((fa f N r i) * (fa f N r i)) + ((2 * (vV f N i)) * (vV f N i))))]) rfl (Nat.le_of_ble_eq_true rfl) ⟨Nat.le_of_ble_eq_true rfl, Nat.le_of_ble_eq_true rfl⟩ ⟨Nat.zero_le _, Nat.zero_le _⟩ hl.1 dX5_bend_29 (fun H locs X => ?_)
  refine r_aload_n F hl 0 rfl rfl dX5_bend_32 ?_
  refine r_iload_n F hl 1 rfl rfl dX5_bend_33 ?_
  refine d_cVJ F X 36 (by decide) (eK_36 G _) rfl (c_X5_bent l G σ N r f i hro hN hW hE hL (by omega)) gv_RX5_152 rfl nd_X5_bent rfl (rest := [.long (J (fa f N r i)), .long (J (((fa f N r i) * (fa f N r i)) + ((2 * (vV f N i)) * (vV f N i))))]) rfl (Nat.le_of_ble_eq_true rfl) ⟨Nat.le_of_ble_eq_true rfl, Nat.le_of_ble_eq_true rfl⟩ ⟨Nat.zero_le _, Nat.zero_le _⟩ hl.1 dX5_bend_34 (fun H locs X => ?_)
  refine r_lmul F dX5_bend_37 ?_
  refine r_lsub F dX5_bend_38 ?_
  exact r_lret F X hr hk dX5_bend_39 (⟨rfl, rfl⟩)
theorem c_X5_product (l : Launch) (G : GT) (σ : St) (a : Int) (b : Int) (ha : -1 ≤ a ∧ a < 9223372036854775808) (hb : (b = -1 ∨ 0 < b) ∧ b < 9223372036854775808) : Ct l yX5_product cX5_product 4 (some .long) 1 G [.long (J a), .long (J b)] σ (QJ G (fun res9 τ => res9 = (pd a b) ∧ τ = σ)) := by
  refine mt (own := RX5) (plainFor_of_name rfl) rfl (Nat.le_of_ble_eq_true rfl) ?_
  intro p e s m args below meth c ls F hr hk X hl
  have hl : lv_has ls 4 [(0, .long (J a)), (2, .long (J b))] := hl
  refine r_lload_n F hl 0 rfl rfl dX5_product_0 ?_
  refine r_lconst F 0 (by decide +kernel) dX5_product_1 ?_
  refine r_lcmp_lt F 22 (by decide) (by omega) (by omega) dX5_product_2 dX5_product_3 (fun c1 => ?_) (fun c1 => ?_)
  · skip
    refine r_ldc2 F (-1) gk_RX5_160 (by decide +kernel) dX5_product_22 ?_
    refine r_goto F 31 (by decide) dX5_product_25 ?_
    exact r_lret F X hr hk dX5_product_31 (⟨by unfold pd; first | rw [if_pos ⟨by omega, by omega, Decidable.byContradiction (fun z => by have := hpd.mpr z; omega)⟩] | rw [if_neg (fun z => by omega)] | rw [if_neg (fun z => by have := hpd.mp (by omega); exact this z.2.2)], rfl⟩)
  · skip
    refine r_lload_n F hl 1 rfl rfl dX5_product_6 ?_
    refine r_lconst F 0 (by decide +kernel) dX5_product_7 ?_
    refine r_lcmp_lt F 22 (by decide) (by omega) (by omega) dX5_product_8 dX5_product_9 (fun c2 => ?_) (fun c2 => ?_)
    · skip
      refine r_ldc2 F (-1) gk_RX5_160 (by decide +kernel) dX5_product_22 ?_
      refine r_goto F 31 (by decide) dX5_product_25 ?_
      exact r_lret F X hr hk dX5_product_31 (⟨by unfold pd; first | rw [if_pos ⟨by omega, by omega, Decidable.byContradiction (fun z => by have := hpd.mpr z; omega)⟩] | rw [if_neg (fun z => by omega)] | rw [if_neg (fun z => by have := hpd.mp (by omega); exact this z.2.2)], rfl⟩)
    · skip
      have hpd := pd_div (a := a) (b := b) (by omega) (by omega)
      refine r_lload_n F hl 0 rfl rfl dX5_product_12 ?_
      refine r_ldc2 F 9223372036854775807 gk_RX5_158 (by decide +kernel) dX5_product_13 ?_
      refine r_lload_n F hl 1 rfl rfl dX5_product_16 ?_
      refine r_ldiv F (by omega) (by omega) dX5_product_17 ?_
      refine r_lcmp_le F 28 (by decide) (by have hz1 := Int.tdiv_nonneg (show (0 : Int) ≤ 9223372036854775807 by decide) (show 0 ≤ b by omega); have hz2 := Int.tdiv_le_self b (show (0 : Int) ≤ 9223372036854775807 by decide); omega) (by have hz1 := Int.tdiv_nonneg (show (0 : Int) ≤ 9223372036854775807 by decide) (show 0 ≤ b by omega); have hz2 := Int.tdiv_le_self b (show (0 : Int) ≤ 9223372036854775807 by decide); omega) dX5_product_18 dX5_product_19 (fun c3 => ?_) (fun c3 => ?_)
      · skip
        refine r_lload_n F hl 0 rfl rfl dX5_product_28 ?_
        refine r_lload_n F hl 1 rfl rfl dX5_product_29 ?_
        refine r_lmul F dX5_product_30 ?_
        exact r_lret F X hr hk dX5_product_31 (⟨by unfold pd; first | rw [if_pos ⟨by omega, by omega, Decidable.byContradiction (fun z => by have := hpd.mpr z; omega)⟩] | rw [if_neg (fun z => by omega)] | rw [if_neg (fun z => by have := hpd.mp (by omega); exact this z.2.2)], rfl⟩)
      · skip
        refine r_ldc2 F (-1) gk_RX5_160 (by decide +kernel) dX5_product_22 ?_
        refine r_goto F 31 (by decide) dX5_product_25 ?_
        exact r_lret F X hr hk dX5_product_31 (⟨by unfold pd; first | rw [if_pos ⟨by omega, by omega, Decidable.byContradiction (fun z => by have := hpd.mpr z; omega)⟩] | rw [if_neg (fun z => by omega)] | rw [if_neg (fun z => by have := hpd.mp (by omega); exact this z.2.2)], rfl⟩)
theorem c_X5_pressAt (l : Launch) (G : GT) (σ : St) (N : Int) (r : Int → Int) (f : Int → Int) (i : Int) (hro : σ 37 = r) (hN : σ 36 1 = N) (hW : WF N r) (hE : EQN (σ 39) f N) (hL : LR f N) (hi : 0 ≤ i ∧ i < N) : Ct l yX5_pressAt cX5_pressAt 4 (some .int) 3 G [.ref (gY G 36), .int (I i)] σ (QI G (fun res9 τ => res9 = (pr f N r i) ∧ τ = σ)) := by
  refine mt (own := RX5) (plainFor_of_name rfl) rfl (Nat.le_of_ble_eq_true rfl) ?_
  intro p e s m args below meth c ls F hr hk X hl
  have hl : lv_has ls 4 [(0, .ref (gY G 36)), (1, .int (I i))] := hl
  have hw := hW.num
  have hvv := (hL.v ⟨by omega, by omega⟩ i).2.1
  have hfa := fa_rg hW hL i
  have hab := ab_nn (vV f N i)
  refine r_aload_n F hl 0 rfl rfl dX5_pressAt_0 ?_
  refine r_iload_n F hl 1 rfl rfl dX5_pressAt_1 ?_
  refine d_cVJ F X 36 (by decide) (eK_36 G _) rfl (c_X5_quick l G σ N r f i hro hN hW hE hL (by omega)) gv_RX5_149 rfl nd_X5_quick rfl (rest := []) rfl (Nat.le_of_ble_eq_true rfl) ⟨Nat.le_of_ble_eq_true rfl, Nat.le_of_ble_eq_true rfl⟩ ⟨Nat.zero_le _, Nat.zero_le _⟩ hl.1 dX5_pressAt_2 (fun H locs X => ?_)
  refine r_lstore_n F hl [(2, .long (J (vV f N i))), (0, .ref (gY G 36)), (1, .int (I i))] rfl (by decide) rfl dX5_pressAt_5 (fun ls hl => ?_)
  refine r_ldc2 F 1000 gk_RX5_165 (by decide +kernel) dX5_pressAt_6 ?_
  refine r_lload_n F hl 0 rfl rfl dX5_pressAt_9 ?_
  refine r_lconst F 0 (by decide +kernel) dX5_pressAt_10 ?_
  refine r_lcmp_ge F 20 (by decide) (by omega) (by omega) dX5_pressAt_11 dX5_pressAt_12 (fun c1 => ?_) (fun c1 => ?_)
  · skip
    refine r_lload_n F hl 0 rfl rfl dX5_pressAt_20 ?_
    refine r_eqJ (b := ab (vV f N i)) (by unfold ab; first | rw [if_pos (by omega)] | rw [if_neg (by omega)]) ?_
    refine r_lmul F dX5_pressAt_21 ?_
    refine r_aload_n F hl 1 rfl rfl dX5_pressAt_22 ?_
    refine r_iload_n F hl 2 rfl rfl dX5_pressAt_23 ?_
    refine d_cVJ F X 36 (by decide) (eK_36 G _) rfl (c_X5_farOf l G σ N r f i hro hN hW hE hL (by omega)) gv_RX5_145 rfl nd_X5_farOf rfl (rest := [.long (J (1000 * (ab (vV f N i))))]) rfl (Nat.le_of_ble_eq_true rfl) ⟨Nat.le_of_ble_eq_true rfl, Nat.le_of_ble_eq_true rfl⟩ ⟨Nat.zero_le _, Nat.zero_le _⟩ hl.1 dX5_pressAt_24 (fun H locs X => ?_)
    refine r_ldiv F (by omega) (by omega) dX5_pressAt_27 ?_
    refine r_eqJ (b := pr f N r i) (td_nn (by omega)) ?_
    refine r_l2i F dX5_pressAt_28 ?_
    exact r_iret F X hr hk dX5_pressAt_29 (⟨rfl, rfl⟩)
  · skip
    refine r_lload_n F hl 0 rfl rfl dX5_pressAt_15 ?_
    refine r_lneg F dX5_pressAt_16 ?_
    refine r_goto F 21 (by decide) dX5_pressAt_17 ?_
    refine r_eqJ (b := ab (vV f N i)) (by unfold ab; first | rw [if_pos (by omega)] | rw [if_neg (by omega)]) ?_
    refine r_lmul F dX5_pressAt_21 ?_
    refine r_aload_n F hl 1 rfl rfl dX5_pressAt_22 ?_
    refine r_iload_n F hl 2 rfl rfl dX5_pressAt_23 ?_
    refine d_cVJ F X 36 (by decide) (eK_36 G _) rfl (c_X5_farOf l G σ N r f i hro hN hW hE hL (by omega)) gv_RX5_145 rfl nd_X5_farOf rfl (rest := [.long (J (1000 * (ab (vV f N i))))]) rfl (Nat.le_of_ble_eq_true rfl) ⟨Nat.le_of_ble_eq_true rfl, Nat.le_of_ble_eq_true rfl⟩ ⟨Nat.zero_le _, Nat.zero_le _⟩ hl.1 dX5_pressAt_24 (fun H locs X => ?_)
    refine r_ldiv F (by omega) (by omega) dX5_pressAt_27 ?_
    refine r_eqJ (b := pr f N r i) (td_nn (by omega)) ?_
    refine r_l2i F dX5_pressAt_28 ?_
    exact r_iret F X hr hk dX5_pressAt_29 (⟨rfl, rfl⟩)
theorem c_X5_forceAt (l : Launch) (G : GT) (σ : St) (N : Int) (r : Int → Int) (f : Int → Int) (i : Int) (hro : σ 37 = r) (hN : σ 36 1 = N) (hW : WF N r) (hE : EQN (σ 39) f N) (hL : LR f N) (hi : 0 ≤ i ∧ i < N) : Ct l yX5_forceAt cX5_forceAt 4 (some .long) 4 G [.ref (gY G 36), .int (I i)] σ (QJ G (fun res9 τ => res9 = (fo f N r i) ∧ τ = σ)) := by
  refine mt (own := RX5) (plainFor_of_name rfl) rfl (Nat.le_of_ble_eq_true rfl) ?_
  intro p e s m args below meth c ls F hr hk X hl
  have hl : lv_has ls 4 [(0, .ref (gY G 36)), (1, .int (I i))] := hl
  have hw := hW.num
  have hfo := fo_rg hW hL i
  have hld := hL.d (show 0 < N by omega) (i)
  have hlw := hL.w (show 0 < N by omega) i
  refine r_aload_n F hl 0 rfl rfl dX5_forceAt_0 ?_
  refine r_get F X 36 (by decide) (eK_36 G _) rfl gl_RX5 2 (by decide) rfl gf_RX5_16 rfl dX5_forceAt_1 ?_
  refine r_bipush F (by decide) dX5_forceAt_4 ?_
  refine r_iald F X 37 (by decide) (eK_37 G) (by omega) (by decide) dX5_forceAt_6 ?_
  refine r_eqI (b := r 68) (by rw [hro]) ?_
  refine r_i2l F (by omega) dX5_forceAt_7 ?_
  refine r_lstore_n F hl [(2, .long (J (r 68))), (0, .ref (gY G 36)), (1, .int (I i))] rfl (by decide) rfl dX5_forceAt_8 (fun ls hl => ?_)
  refine r_aload_n F hl 1 rfl rfl dX5_forceAt_9 ?_
  refine r_get F X 36 (by decide) (eK_36 G _) rfl gl_RX5 2 (by decide) rfl gf_RX5_16 rfl dX5_forceAt_10 ?_
  refine r_bipush F (by decide) dX5_forceAt_13 ?_
  refine r_iald F X 37 (by decide) (eK_37 G) (by omega) (by decide) dX5_forceAt_15 ?_
  refine r_eqI (b := r 65) (by rw [hro]) ?_
  refine r_i2l F (by omega) dX5_forceAt_16 ?_
  refine r_aload_n F hl 1 rfl rfl dX5_forceAt_17 ?_
  refine r_get F X 36 (by decide) (eK_36 G _) rfl gl_RX5 2 (by decide) rfl gf_RX5_16 rfl dX5_forceAt_18 ?_
  refine r_bipush F (by decide) dX5_forceAt_21 ?_
  refine r_iald F X 37 (by decide) (eK_37 G) (by omega) (by decide) dX5_forceAt_23 ?_
  refine r_eqI (b := r 66) (by rw [hro]) ?_
  refine r_i2l F (by omega) dX5_forceAt_24 ?_
  refine r_aload_n F hl 1 rfl rfl dX5_forceAt_25 ?_
  refine r_iload_n F hl 2 rfl rfl dX5_forceAt_26 ?_
  refine d_cVI F X 36 (by decide) (eK_36 G _) rfl (c_X5_liftAt l G σ N r f i hro hN hW hE hL (by omega)) gv_RX5_121 rfl nd_X5_liftAt rfl (rest := [.long (J (r 66)), .long (J (r 65))]) rfl (Nat.le_of_ble_eq_true rfl) ⟨Nat.le_of_ble_eq_true rfl, Nat.le_of_ble_eq_true rfl⟩ ⟨Nat.zero_le _, Nat.zero_le _⟩ hl.1 dX5_forceAt_27 (fun H locs X => ?_)
  refine r_i2l F (by omega) dX5_forceAt_30 ?_
  refine r_lmul F dX5_forceAt_31 ?_
  refine r_ladd F dX5_forceAt_32 ?_
  refine r_aload_n F hl 1 rfl rfl dX5_forceAt_33 ?_
  refine r_get F X 36 (by decide) (eK_36 G _) rfl gl_RX5 2 (by decide) rfl gf_RX5_16 rfl dX5_forceAt_34 ?_
  refine r_bipush F (by decide) dX5_forceAt_37 ?_
  refine r_iald F X 37 (by decide) (eK_37 G) (by omega) (by decide) dX5_forceAt_39 ?_
  refine r_eqI (b := r 67) (by rw [hro]) ?_
  refine r_i2l F (by omega) dX5_forceAt_40 ?_
  refine r_lload_n F hl 0 rfl rfl dX5_forceAt_41 ?_
  refine r_lmul F dX5_forceAt_42 ?_
  refine r_lload_n F hl 0 rfl rfl dX5_forceAt_43 ?_
  refine r_lmul F dX5_forceAt_44 ?_
  refine r_aload_n F hl 1 rfl rfl dX5_forceAt_45 ?_
  refine r_iload_n F hl 2 rfl rfl dX5_forceAt_46 ?_
  refine r_iconst F dX5_forceAt_47 ?_
  refine d_cVI F X 36 (by decide) (eK_36 G _) rfl (c_X5_diffAt2 l G σ N r f i hro hN hW hE hL (by omega)) gv_RX5_124 rfl nd_X5_diffAt rfl (rest := [.long (J (((r 67) * (r 68)) * (r 68))), .long (J ((r 65) + ((r 66) * (lw f N i))))]) rfl (Nat.le_of_ble_eq_true rfl) ⟨Nat.le_of_ble_eq_true rfl, Nat.le_of_ble_eq_true rfl⟩ ⟨Nat.zero_le _, Nat.zero_le _⟩ hl.1 dX5_forceAt_48 (fun H locs X => ?_)
  refine r_i2l F (by omega) dX5_forceAt_51 ?_
  refine r_lmul F dX5_forceAt_52 ?_
  refine r_ldc2 F 1000 gk_RX5_165 (by decide +kernel) dX5_forceAt_53 ?_
  refine d_cSJ F X (c_X5_cut l G σ ((((r 67) * (r 68)) * (r 68)) * (d2 f N i)) 1000 (by omega) (by omega)) gv_RX5_110 nd_X5_cut rfl (rest := [.long (J ((r 65) + ((r 66) * (lw f N i))))]) rfl (Nat.le_of_ble_eq_true rfl) ⟨Nat.le_of_ble_eq_true rfl, Nat.le_of_ble_eq_true rfl⟩ ⟨Nat.zero_le _, Nat.zero_le _⟩ hl.1 dX5_forceAt_56 (fun H locs X => ?_)
  refine r_ladd F dX5_forceAt_59 ?_
  exact r_lret F X hr hk dX5_forceAt_60 (⟨rfl, rfl⟩)
theorem c_X5_undercutAt (l : Launch) (G : GT) (σ : St) (N : Int) (r : Int → Int) (f : Int → Int) (i : Int) (hro : σ 37 = r) (hN : σ 36 1 = N) (hW : WF N r) (hE : EQN (σ 39) f N) (hL : LR f N) (hi : 0 ≤ i ∧ i < N) : Ct l yX5_undercutAt cX5_undercutAt 12 (some .int) 6 G [.ref (gY G 36), .int (I i)] σ (QI G (fun res9 τ => res9 = (ucq (r 64) f N r i) ∧ τ = σ)) := by
  refine mt (own := RX5) (plainFor_of_name rfl) rfl (Nat.le_of_ble_eq_true rfl) ?_
  intro p e s m args below meth c ls F hr hk X hl
  have hl : lv_has ls 12 [(0, .ref (gY G 36)), (1, .int (I i))] := hl
  have hw := hW.num
  have hvv := hL.v ⟨by omega, by omega⟩ i
  have hfa := fa_rg hW hL i
  obtain ⟨x9, hx9⟩ : ∃ x9 : Int, fa f N r i = x9 := ⟨_, rfl⟩
  obtain ⟨v9, hv9⟩ : ∃ v9 : Int, vV f N i = v9 := ⟨_, rfl⟩
  obtain ⟨a9, ha9⟩ : ∃ a9 : Int, vA f N i = a9 := ⟨_, rfl⟩
  have hrg := uc_rg (x := x9) (v := v9) (a := a9) (by omega) (by omega) (by omega)
  have hgo : ucq (r 64) f N r i = uc (r 64) (x9 * x9 + v9 * v9) (bn x9 v9 a9) := by unfold ucq; rw [← hx9, ← hv9, ← ha9]; rfl
  have hsp : 0 < x9 * x9 + v9 * v9 := by have := mnn (a := x9 - 1) (b := x9 - 1) (by omega) (by omega); have h8 := sq_nn v9; grind
  refine r_aload_n F hl 0 rfl rfl dX5_undercutAt_0 ?_
  refine r_iload_n F hl 1 rfl rfl dX5_undercutAt_1 ?_
  refine d_cVJ F X 36 (by decide) (eK_36 G _) rfl (c_X5_bend l G σ N r f i hro hN hW hE hL (by omega)) gv_RX5_155 rfl nd_X5_bend rfl (rest := []) rfl (Nat.le_of_ble_eq_true rfl) ⟨Nat.le_of_ble_eq_true rfl, Nat.le_of_ble_eq_true rfl⟩ ⟨Nat.zero_le _, Nat.zero_le _⟩ hl.1 dX5_undercutAt_2 (fun H locs X => ?_)
  refine r_eqJ (b := bn x9 v9 a9) (by rw [← hx9, ← hv9, ← ha9]) ?_
  refine r_lstore_n F hl [(2, .long (J (bn x9 v9 a9))), (0, .ref (gY G 36)), (1, .int (I i))] rfl (by decide) rfl dX5_undercutAt_5 (fun ls hl => ?_)
  refine r_lload_n F hl 0 rfl rfl dX5_undercutAt_6 ?_
  refine r_lconst F 0 (by decide +kernel) dX5_undercutAt_7 ?_
  refine r_lcmp_gt F 14 (by decide) (by omega) (by omega) dX5_undercutAt_8 dX5_undercutAt_9 (fun c1 => ?_) (fun c1 => ?_)
  · skip
    refine r_aload_n F hl 1 rfl rfl dX5_undercutAt_14 ?_
    refine r_iload_n F hl 2 rfl rfl dX5_undercutAt_15 ?_
    refine d_cVJ F X 36 (by decide) (eK_36 G _) rfl (c_X5_farOf l G σ N r f i hro hN hW hE hL (by omega)) gv_RX5_145 rfl nd_X5_farOf rfl (rest := []) rfl (Nat.le_of_ble_eq_true rfl) ⟨Nat.le_of_ble_eq_true rfl, Nat.le_of_ble_eq_true rfl⟩ ⟨Nat.zero_le _, Nat.zero_le _⟩ hl.1 dX5_undercutAt_16 (fun H locs X => ?_)
    refine r_eqJ (b := x9) (hx9) ?_
    refine r_aload_n F hl 1 rfl rfl dX5_undercutAt_19 ?_
    refine r_iload_n F hl 2 rfl rfl dX5_undercutAt_20 ?_
    refine d_cVJ F X 36 (by decide) (eK_36 G _) rfl (c_X5_farOf l G σ N r f i hro hN hW hE hL (by omega)) gv_RX5_145 rfl nd_X5_farOf rfl (rest := [.long (J x9)]) rfl (Nat.le_of_ble_eq_true rfl) ⟨Nat.le_of_ble_eq_true rfl, Nat.le_of_ble_eq_true rfl⟩ ⟨Nat.zero_le _, Nat.zero_le _⟩ hl.1 dX5_undercutAt_21 (fun H locs X => ?_)
    refine r_eqJ (b := x9) (hx9) ?_
    refine r_lmul F dX5_undercutAt_24 ?_
    refine r_aload_n F hl 1 rfl rfl dX5_undercutAt_25 ?_
    refine r_iload_n F hl 2 rfl rfl dX5_undercutAt_26 ?_
    refine d_cVJ F X 36 (by decide) (eK_36 G _) rfl (c_X5_quick l G σ N r f i hro hN hW hE hL (by omega)) gv_RX5_149 rfl nd_X5_quick rfl (rest := [.long (J (x9 * x9))]) rfl (Nat.le_of_ble_eq_true rfl) ⟨Nat.le_of_ble_eq_true rfl, Nat.le_of_ble_eq_true rfl⟩ ⟨Nat.zero_le _, Nat.zero_le _⟩ hl.1 dX5_undercutAt_27 (fun H locs X => ?_)
    refine r_eqJ (b := v9) (hv9) ?_
    refine r_aload_n F hl 1 rfl rfl dX5_undercutAt_30 ?_
    refine r_iload_n F hl 2 rfl rfl dX5_undercutAt_31 ?_
    refine d_cVJ F X 36 (by decide) (eK_36 G _) rfl (c_X5_quick l G σ N r f i hro hN hW hE hL (by omega)) gv_RX5_149 rfl nd_X5_quick rfl (rest := [.long (J v9), .long (J (x9 * x9))]) rfl (Nat.le_of_ble_eq_true rfl) ⟨Nat.le_of_ble_eq_true rfl, Nat.le_of_ble_eq_true rfl⟩ ⟨Nat.zero_le _, Nat.zero_le _⟩ hl.1 dX5_undercutAt_32 (fun H locs X => ?_)
    refine r_eqJ (b := v9) (hv9) ?_
    refine r_lmul F dX5_undercutAt_35 ?_
    refine r_ladd F dX5_undercutAt_36 ?_
    refine r_lstore F hl [(4, .long (J ((x9 * x9) + (v9 * v9)))), (2, .long (J (bn x9 v9 a9))), (0, .ref (gY G 36)), (1, .int (I i))] (by decide) rfl dX5_undercutAt_37 (fun ls hl => ?_)
    refine r_lload F hl 0 rfl dX5_undercutAt_39 ?_
    refine r_lload F hl 0 rfl dX5_undercutAt_41 ?_
    refine d_cSJ F X (c_X5_product l G σ ((x9 * x9) + (v9 * v9)) ((x9 * x9) + (v9 * v9)) (by omega) (by omega)) gv_RX5_162 nd_X5_product rfl (rest := []) rfl (Nat.le_of_ble_eq_true rfl) ⟨Nat.le_of_ble_eq_true rfl, Nat.le_of_ble_eq_true rfl⟩ ⟨Nat.zero_le _, Nat.zero_le _⟩ hl.1 dX5_undercutAt_43 (fun H locs X => ?_)
    refine r_lload F hl 0 rfl dX5_undercutAt_46 ?_
    refine d_cSJ F X (c_X5_product l G σ (pd ((x9 * x9) + (v9 * v9)) ((x9 * x9) + (v9 * v9))) ((x9 * x9) + (v9 * v9)) (pd_rg _ _) (by omega)) gv_RX5_162 nd_X5_product rfl (rest := []) rfl (Nat.le_of_ble_eq_true rfl) ⟨Nat.le_of_ble_eq_true rfl, Nat.le_of_ble_eq_true rfl⟩ ⟨Nat.zero_le _, Nat.zero_le _⟩ hl.1 dX5_undercutAt_48 (fun H locs X => ?_)
    refine r_eqJ (b := pd (pd (x9 * x9 + v9 * v9) (x9 * x9 + v9 * v9)) (x9 * x9 + v9 * v9)) (rfl) ?_
    refine r_lstore F hl [(6, .long (J (pd (pd (x9 * x9 + v9 * v9) (x9 * x9 + v9 * v9)) (x9 * x9 + v9 * v9)))), (4, .long (J ((x9 * x9) + (v9 * v9)))), (2, .long (J (bn x9 v9 a9))), (0, .ref (gY G 36)), (1, .int (I i))] (by decide) rfl dX5_undercutAt_51 (fun ls hl => ?_)
    refine r_aload_n F hl 3 rfl rfl dX5_undercutAt_53 ?_
    refine r_get F X 36 (by decide) (eK_36 G _) rfl gl_RX5 2 (by decide) rfl gf_RX5_16 rfl dX5_undercutAt_54 ?_
    refine r_bipush F (by decide) dX5_undercutAt_57 ?_
    refine r_iald F X 37 (by decide) (eK_37 G) (by omega) (by decide) dX5_undercutAt_59 ?_
    refine r_eqI (b := r 64) (by rw [hro]) ?_
    refine r_i2l F (by omega) dX5_undercutAt_60 ?_
    refine r_lstore F hl [(8, .long (J (r 64))), (6, .long (J (pd (pd (x9 * x9 + v9 * v9) (x9 * x9 + v9 * v9)) (x9 * x9 + v9 * v9)))), (4, .long (J ((x9 * x9) + (v9 * v9)))), (2, .long (J (bn x9 v9 a9))), (0, .ref (gY G 36)), (1, .int (I i))] (by decide) rfl dX5_undercutAt_61 (fun ls hl => ?_)
    refine r_lload F hl 0 rfl dX5_undercutAt_63 ?_
    refine r_lload F hl 0 rfl dX5_undercutAt_65 ?_
    refine r_lmul F dX5_undercutAt_67 ?_
    refine r_lload_n F hl 3 rfl rfl dX5_undercutAt_68 ?_
    refine r_lload_n F hl 3 rfl rfl dX5_undercutAt_69 ?_
    refine d_cSJ F X (c_X5_product l G σ (bn x9 v9 a9) (bn x9 v9 a9) (by omega) (by omega)) gv_RX5_162 nd_X5_product rfl (rest := [.long (J ((r 64) * (r 64)))]) rfl (Nat.le_of_ble_eq_true rfl) ⟨Nat.le_of_ble_eq_true rfl, Nat.le_of_ble_eq_true rfl⟩ ⟨Nat.zero_le _, Nat.zero_le _⟩ hl.1 dX5_undercutAt_70 (fun H locs X => ?_)
    refine d_cSJ F X (c_X5_product l G σ ((r 64) * (r 64)) (pd (bn x9 v9 a9) (bn x9 v9 a9)) (by have := mrg (a := r 64) (b := r 64) (A := 9999) (B := 9999) (by omega) (by omega); have h8 := sq_nn (r 64); omega) (by have h7 := pd_rg (bn x9 v9 a9) (bn x9 v9 a9); refine ⟨?_, h7.2⟩; unfold pd; split; (right; exact Int.mul_pos (by omega) (by omega)); exact Or.inl rfl)) gv_RX5_162 nd_X5_product rfl (rest := []) rfl (Nat.le_of_ble_eq_true rfl) ⟨Nat.le_of_ble_eq_true rfl, Nat.le_of_ble_eq_true rfl⟩ ⟨Nat.zero_le _, Nat.zero_le _⟩ hl.1 dX5_undercutAt_73 (fun H locs X => ?_)
    refine r_eqJ (b := pd (r 64 * r 64) (pd (bn x9 v9 a9) (bn x9 v9 a9))) (rfl) ?_
    refine r_lstore F hl [(10, .long (J (pd (r 64 * r 64) (pd (bn x9 v9 a9) (bn x9 v9 a9))))), (8, .long (J (r 64))), (6, .long (J (pd (pd (x9 * x9 + v9 * v9) (x9 * x9 + v9 * v9)) (x9 * x9 + v9 * v9)))), (4, .long (J ((x9 * x9) + (v9 * v9)))), (2, .long (J (bn x9 v9 a9))), (0, .ref (gY G 36)), (1, .int (I i))] (by decide) rfl dX5_undercutAt_76 (fun ls hl => ?_)
    obtain ⟨t9, ht9⟩ : ∃ t9 : Int, t9 = pd (pd (x9 * x9 + v9 * v9) (x9 * x9 + v9 * v9)) (x9 * x9 + v9 * v9) := ⟨_, rfl⟩
    obtain ⟨o9, ho9⟩ : ∃ o9 : Int, o9 = pd (r 64 * r 64) (pd (bn x9 v9 a9) (bn x9 v9 a9)) := ⟨_, rfl⟩
    rw [← ht9, ← ho9] at hl
    have huc := uc_pd (q := r 64) (s := x9 * x9 + v9 * v9) (b := bn x9 v9 a9) (by omega) (by omega) (by omega) ht9 ho9
    have ht8 := pd_rg (pd (x9 * x9 + v9 * v9) (x9 * x9 + v9 * v9)) (x9 * x9 + v9 * v9)
    have ho8 := pd_rg (r 64 * r 64) (pd (bn x9 v9 a9) (bn x9 v9 a9))
    rw [← ht9] at ht8; rw [← ho9] at ho8
    refine r_lload F hl 2 rfl dX5_undercutAt_78 ?_
    refine r_lconst F 0 (by decide +kernel) dX5_undercutAt_80 ?_
    refine r_lcmp_lt F 92 (by decide) (by omega) (by omega) dX5_undercutAt_81 dX5_undercutAt_82 (fun c2 => ?_) (fun c2 => ?_)
    · skip
      refine r_iconst F dX5_undercutAt_92 ?_
      refine r_goto F 109 (by decide) dX5_undercutAt_93 ?_
      exact r_iret F X hr hk dX5_undercutAt_109 (⟨by rw [hgo]; first | exact huc.1 (by omega) | exact huc.2.1 (by omega) | exact huc.2.2.1 (by omega) (by omega) (by omega) | exact huc.2.2.2 (by omega) (by omega) (by omega), rfl⟩)
    · skip
      refine r_lload F hl 0 rfl dX5_undercutAt_85 ?_
      refine r_lconst F 0 (by decide +kernel) dX5_undercutAt_87 ?_
      refine r_lcmp_ge F 96 (by decide) (by omega) (by omega) dX5_undercutAt_88 dX5_undercutAt_89 (fun c3 => ?_) (fun c3 => ?_)
      · skip
        refine r_lload F hl 2 rfl dX5_undercutAt_96 ?_
        refine r_lload F hl 0 rfl dX5_undercutAt_98 ?_
        refine r_lcmp_ge F 108 (by decide) (by omega) (by omega) dX5_undercutAt_100 dX5_undercutAt_101 (fun c4 => ?_) (fun c4 => ?_)
        · skip
          refine r_iconst F dX5_undercutAt_108 ?_
          exact r_iret F X hr hk dX5_undercutAt_109 (⟨by rw [hgo]; first | exact huc.1 (by omega) | exact huc.2.1 (by omega) | exact huc.2.2.1 (by omega) (by omega) (by omega) | exact huc.2.2.2 (by omega) (by omega) (by omega), rfl⟩)
        · skip
          refine r_iconst F dX5_undercutAt_104 ?_
          refine r_goto F 109 (by decide) dX5_undercutAt_105 ?_
          exact r_iret F X hr hk dX5_undercutAt_109 (⟨by rw [hgo]; first | exact huc.1 (by omega) | exact huc.2.1 (by omega) | exact huc.2.2.1 (by omega) (by omega) (by omega) | exact huc.2.2.2 (by omega) (by omega) (by omega), rfl⟩)
      · skip
        refine r_iconst F dX5_undercutAt_92 ?_
        refine r_goto F 109 (by decide) dX5_undercutAt_93 ?_
        exact r_iret F X hr hk dX5_undercutAt_109 (⟨by rw [hgo]; first | exact huc.1 (by omega) | exact huc.2.1 (by omega) | exact huc.2.2.1 (by omega) (by omega) (by omega) | exact huc.2.2.2 (by omega) (by omega) (by omega), rfl⟩)
  · skip
    refine r_iconst F dX5_undercutAt_12 ?_
    exact r_iret F X hr hk dX5_undercutAt_13 (⟨by rw [hgo]; unfold uc; rw [if_pos (by omega)], rfl⟩)
