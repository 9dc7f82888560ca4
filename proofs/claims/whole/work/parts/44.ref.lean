/-! the reference's state -/
def MX (σ : St) (N : Int) (r : Int → Int) (n : Int) (hs : Int → Int → Int) : Prop := σ 36 1 = N ∧ σ 37 = r ∧ σ 36 4 = n ∧ (0 ≤ n ∧ n ≤ 20) ∧ MBR σ ∧ ∀ j : Int, 0 ≤ j → j < n → ∀ p : Int, hs j p = if 0 ≤ p ∧ p < 71 then σ 38 (71 * (n - 1 - j) + p) else r p
theorem MX.row {σ τ : St} {N : Int} {r q : Int → Int} {n : Int} {hs : Int → Int → Int} (h : MX σ N r n hs) (e36 : ∀ i : Int, 1 ≤ i → i ≤ 10 → τ 36 i = σ 36 i) (e38 : τ 38 = σ 38) (e37 : τ 37 = q) (hq : ∀ p : Int, (p < 0 ∨ 71 ≤ p) → q p = r p) : MX τ N q n hs := by
  obtain ⟨h1, h2, h3, h4, h5, h6⟩ := h
  refine ⟨by rw [e36 1 (by omega) (by omega)]; exact h1, e37, by rw [e36 4 (by omega) (by omega)]; exact h3, h4, ?_, fun j a b p => ?_⟩
  · unfold MBR; rw [e36 9 (by omega) (by omega), e36 10 (by omega) (by omega), e36 8 (by omega) (by omega)]; exact h5
  · rw [h6 j a b p, e38]
    by_cases z : 0 ≤ p ∧ p < 71
    · rw [if_pos z, if_pos z]
    · rw [if_neg z, if_neg z, hq p (by omega)]
theorem MX.th {σ τ : St} {N : Int} {r : Int → Int} {n : Int} {hs : Int → Int → Int} (h : MX σ N r n hs) {v : Int} (e : τ = up σ 36 (upI (σ 36) 0 v)) : MX τ N r n hs ∧ KY σ τ ∧ τ 36 0 = v := by
  subst e
  exact ⟨h.row (fun i a b => by rw [up_eq, upI_ne (by omega)]) (by rw [up_ne (by omega)]) (by rw [up_ne (by omega)]; exact h.2.1) (fun _ _ => rfl), fun k a => by rw [up_ne (by omega)], by rw [up_eq, upI_eq]⟩
theorem MX.laid {σ ρ τ : St} {N : Int} {r : Int → Int} {n v : Int} {hs : Int → Int → Int} (h : MX ρ N r n hs ∧ KY σ ρ ∧ ρ 36 0 = v) (e : ∀ c : Nat, c ≠ 39 → τ c = ρ c) : MX τ N r n hs ∧ KY σ τ ∧ τ 36 0 = v := by
  refine ⟨h.1.row (fun i a b => by rw [e 36 (by omega)]) (e 38 (by omega)) (by rw [e 37 (by omega)]; exact h.1.2.1) (fun _ _ => rfl), fun k a => by rw [e k (by omega)]; exact h.2.1 k a, by rw [e 36 (by omega)]; exact h.2.2⟩
theorem MX.upd {σ ρ τ : St} {N : Int} {r : Int → Int} {n v : Int} {hs : Int → Int → Int} (h : MX ρ N r n hs ∧ KY σ ρ ∧ ρ 36 0 = v) {a w : Int} (ha : 0 ≤ a ∧ a < 71) (e : τ = up ρ 37 (upI (ρ 37) a w)) : MX τ N (upI r a w) n hs ∧ KY σ τ ∧ τ 36 0 = v := by
  subst e
  exact ⟨h.1.row (fun i a b => by rw [up_ne (by omega)]) (by rw [up_ne (by omega)]) (by rw [up_eq, h.1.2.1]) (fun p q => upI_ne (by omega)), fun k a => by rw [up_ne (by omega)]; exact h.2.1 k a, by rw [up_ne (by omega)]; exact h.2.2⟩
def KP (σ τ : St) : Prop := (∀ c : Nat, c ≠ 36 → c ≠ 38 → τ c = σ c) ∧ ∀ i : Int, i ≠ 4 → τ 36 i = σ 36 i
theorem MX.kp {σ ρ τ : St} {N : Int} {r : Int → Int} {n n' v : Int} {hs hs' : Int → Int → Int} (h : MX ρ N r n hs ∧ KY σ ρ ∧ ρ 36 0 = v) (hk : KP ρ τ) (hm : MX τ N r n' hs') : MX τ N r n' hs' ∧ KY σ τ ∧ τ 36 0 = v :=
  ⟨hm, fun k a => by rw [hk.1 k (by omega) (by omega)]; exact h.2.1 k a, by rw [hk.2 0 (by omega)]; exact h.2.2⟩
def um (r : Int → Int) (m k : Int) : Int → Int := fun i => if i = 61 then r 61 - 1 else if (36 + m ≤ i ∧ i < 36 + k) ∨ (44 + m ≤ i ∧ i < 44 + k) ∨ (52 + m ≤ i ∧ i < 52 + k) then r (i + 1) else r i
theorem um_0 (r : Int → Int) (m : Int) : upI r 61 (r 61 - 1) = um r m m := by
  funext i; unfold um upI
  split
  · rfl
  · rw [if_neg (by omega)]
theorem um_s {r : Int → Int} {m k : Int} (hm : 0 ≤ m) (hk : m ≤ k ∧ k < 7) : upI (upI (upI (um r m k) (36 + k) (r (36 + k + 1))) (44 + k) (r (44 + k + 1))) (52 + k) (r (52 + k + 1)) = um r m (k + 1) := by
  funext i; unfold um upI
  by_cases a1 : i = 52 + k
  · rw [if_pos a1, if_neg (by omega), if_pos (by omega), a1]
  · rw [if_neg a1]
    by_cases a2 : i = 44 + k
    · rw [if_pos a2, if_neg (by omega), if_pos (by omega), a2]
    · rw [if_neg a2]
      by_cases a3 : i = 36 + k
      · rw [if_pos a3, if_neg (by omega), if_pos (by omega), a3]
      · rw [if_neg a3]
        by_cases a4 : i = 61
        · rw [if_pos a4]; exact if_pos a4
        · rw [if_neg a4]
          refine (if_neg a4).trans ?_
          by_cases a5 : (36 + m ≤ i ∧ i < 36 + k) ∨ (44 + m ≤ i ∧ i < 44 + k) ∨ (52 + m ≤ i ∧ i < 52 + k)
          · rw [if_pos a5, if_pos (by omega)]
          · rw [if_neg a5, if_neg (by omega)]
theorem um_e (r : Int → Int) (m : Int) : um r m (r 61 - 1) = unm r m := rfl
def bk (b r : Int → Int) (n k : Int) : Int → Int := fun p => if 0 ≤ p ∧ p < k then b (71 * (n - 1) + p) else r p
theorem bk_0 (b r : Int → Int) (n : Int) : bk b r n 0 = r := by funext p; unfold bk; rw [if_neg (by omega)]
theorem bk_s {b r : Int → Int} {n k : Int} (hk : 0 ≤ k) : upI (bk b r n k) k (b (71 * (n - 1) + k)) = bk b r n (k + 1) := by
  funext p; unfold upI bk
  by_cases q : p = k
  · rw [if_pos q, if_pos (by omega), q]
  · rw [if_neg q]
    by_cases z : 0 ≤ p ∧ p < k
    · rw [if_pos z, if_pos (by omega)]
    · rw [if_neg z, if_neg (by omega)]
theorem MX.back {σ ρ τ : St} {N : Int} {r : Int → Int} {n : Int} {hs : Int → Int → Int} (h : MX σ N r n hs) (hn : 0 < n) (e36 : ∀ i : Int, i ≠ 0 → i ≠ 4 → τ 36 i = σ 36 i) (e4 : τ 36 4 = n - 1) (e38 : τ 38 = σ 38) (e37 : τ 37 = bk (σ 38) r n 71) : MX τ N (hs 0) (n - 1) (hpop hs) := by
  obtain ⟨h1, h2, h3, h4, h5, h6⟩ := h
  have e0 : bk (σ 38) r n 71 = hs 0 := by
    funext p
    rw [h6 0 (by omega) hn p]
    unfold bk
    rw [show n - 1 - 0 = n - 1 by omega]
  refine ⟨by rw [e36 1 (by omega) (by omega)]; exact h1, by rw [e37, e0], e4, by omega, ?_, fun j a b p => ?_⟩
  · unfold MBR; rw [e36 9 (by omega) (by omega), e36 10 (by omega) (by omega), e36 8 (by omega) (by omega)]; exact h5
  · show hs (j + 1) p = _
    rw [h6 (j + 1) (by omega) (by omega) p, e38, show n - 1 - (j + 1) = n - 1 - 1 - j by omega]
    by_cases z : 0 ≤ p ∧ p < 71
    · rw [if_pos z, if_pos z]
    · rw [if_neg z, if_neg z, h6 0 (by omega) hn p, if_neg z]
theorem c_X5_keeps (l : Launch) (G : GT) (σ : St) (N : Int) (r : Int → Int) (n : Int) (hs : Int → Int → Int) (hM : MX σ N r n hs) (hW : WF N r) : Ct l yX5_keeps cX5_keeps 2 none 1 G [.ref (gY G 36)] σ (QV G (fun τ9 => KP σ τ9 ∧ MX τ9 N r (min (n + 1) 20) (hpush r hs))) := by
  refine mt (own := RX5) (plainFor_of_name rfl) rfl (Nat.le_of_ble_eq_true rfl) ?_
  intro p e s m args below meth c ls F hr hk X hl
  have hl : lv_has ls 2 [(0, .ref (gY G 36))] := hl
  have hw := hW.num
  have hro := hM.2.1
  have hN := hM.1
  obtain ⟨g1, g2, g3, g4, g5, g6⟩ := id hM
  have join49 : ∀ (n1 : Int) (ρ : St) (ls : Array Slot) (H : Heap) (locs : List Loc) (hn1 : n1 = min n 19) (hj : KP σ ρ) (hj4 : ρ 36 4 = n1) (hj8 : ∀ j : Int, 0 ≤ j → j < n1 → ∀ p : Int, 0 ≤ p → p < 71 → ρ 38 (71 * (n1 - 1 - j) + p) = hs j p) (X : HX G ρ s H locs) (hl : lv_has ls 2 [(0, .ref (gY G 36))]), W p l e (rmd 1) s m args below meth c H locs 0 0 (MQ below (QV G (fun τ9 => KP σ τ9 ∧ MX τ9 N r (min (n + 1) 20) (hpush r hs))) args s 0 0 (gA G)) (F0 m 49 ls []) := by
    intro n1 ρ ls H locs hn1 hj hj4 hj8 X hl
    have hrρ : ρ 37 = r := by rw [hj.1 37 (by omega) (by omega)]; exact hro
    have hNρ : ρ 36 1 = N := by rw [hj.2 1 (by omega)]; exact hN
    refine r_iconst F dX5_keeps_49 ?_
    refine r_istore_n F hl [(1, .int (I 0)), (0, .ref (gY G 36))] rfl (by decide) rfl dX5_keeps_50 (fun ls hl => ?_)
    have loop51 : ∀ (n_ : Nat) (k : Int) (τ : St) (ls : Array Slot) (H : Heap) (locs : List Loc) (hn_ : 71 - k < n_) (hk2 : 0 ≤ k ∧ k ≤ 71) (hfk : ∀ c : Nat, c ≠ 38 → τ c = ρ c) (hnew : ∀ p : Int, 0 ≤ p → p < k → τ 38 (71 * n1 + p) = r p) (hold : ∀ p : Int, p < 71 * n1 → τ 38 p = ρ 38 p) (X : HX G τ s H locs) (hl : lv_has ls 2 [(0, .ref (gY G 36)), (1, .int (I k))]), W p l e (rmd 1) s m args below meth c H locs 0 0 (MQ below (QV G (fun τ9 => KP σ τ9 ∧ MX τ9 N r (min (n + 1) 20) (hpush r hs))) args s 0 0 (gA G)) (F0 m 51 ls []) := by
      intro n_
      induction n_ with
      | zero => intro k τ ls H locs hn_ hk2 hfk hnew hold X hl; omega
      | succ n_ ih51 =>
        intro k τ ls H locs hn_ hk2 hfk hnew hold X hl
        have hrt : τ 37 = r := by rw [hfk 37 (by omega)]; exact hrρ
        have hNt : τ 36 1 = N := by rw [hfk 36 (by omega)]; exact hNρ
        refine r_iload_n F hl 1 rfl rfl dX5_keeps_51 ?_
        refine r_bipush F (by decide) dX5_keeps_52 ?_
        refine r_icmp_ge F 83 (by decide) (by omega) (by omega) dX5_keeps_54 (fun c1 => ?_) (fun c1 => ?_)
        · skip
          refine r_aload_n F hl 0 rfl rfl dX5_keeps_83 ?_
          refine r_dup F rfl dX5_keeps_84 ?_
          refine r_get F X 36 (by decide) (eK_36 G _) rfl gl_RX5 4 (by decide) rfl gf_RX5_32 rfl dX5_keeps_85 ?_
          refine r_eqI (b := n1) (by rw [hfk 36 (by omega)]; exact hj4) ?_
          refine r_iconst F dX5_keeps_88 ?_
          refine r_iadd F dX5_keeps_89 ?_
          refine r_put F X 36 (by decide) (upI (τ 36) 4 (n1 + 1)) (eK_36 G _) rfl gl_RX5 tyX5 tyX5_ok nmX5 4 (by decide) rfl gf_RX5_32 rfl (tyX5_ok 4 (by decide)) rfl rfl (Nat.le_of_ble_eq_true rfl) (eK_36 G _) dX5_keeps_90 (fun H locs X => ?_)
          obtain ⟨σ1, eσ1⟩ : ∃ x9 : St, x9 = up τ 36 (upI (τ 36) 4 (n1 + 1)) := ⟨_, rfl⟩
          rw [← eσ1] at X
          have hrσ1 : σ1 37 = r := by rw [eσ1, up_ne (by omega)]; exact hrt
          have hNσ1 : σ1 36 1 = N := by rw [eσ1, up_eq, upI_ne (by omega)]; exact hNt
          exact r_vret F X hr hk dX5_keeps_93 (by
      have e36 : ∀ i : Int, i ≠ 4 → σ1 36 i = σ 36 i := fun i a => by rw [eσ1, up_eq, upI_ne a, hfk 36 (by omega), hj.2 i a]
      refine ⟨⟨fun c a b => by rw [eσ1, up_ne a, hfk c b, hj.1 c a b], e36⟩, by rw [e36 1 (by omega)]; exact g1, by rw [eσ1, up_ne (by omega)]; exact hrt, by rw [eσ1, up_eq, upI_eq]; omega, by omega, ?_, fun j a b p9 => ?_⟩
      · unfold MBR; rw [e36 9 (by omega), e36 10 (by omega), e36 8 (by omega)]; exact g5
      · rw [eσ1, up_ne (by omega)]
        unfold hpush
        by_cases z : 0 ≤ p9 ∧ p9 < 71
        · rw [if_pos z]
          by_cases y : j = 0
          · rw [if_pos y, y, show 71 * (min (n + 1) 20 - 1 - 0) + p9 = 71 * n1 + p9 by omega, hnew p9 z.1 (by omega)]
          · rw [if_neg y, show 71 * (min (n + 1) 20 - 1 - j) + p9 = 71 * (n1 - 1 - (j - 1)) + p9 by omega, hold _ (by omega), hj8 (j - 1) (by omega) (by omega) p9 z.1 z.2]
        · rw [if_neg z]
          by_cases y : j = 0
          · rw [if_pos y]
          · rw [if_neg y, g6 (j - 1) (by omega) (by omega) p9, if_neg z])
        · skip
          refine r_aload_n F hl 0 rfl rfl dX5_keeps_57 ?_
          refine r_get F X 36 (by decide) (eK_36 G _) rfl gl_RX5 3 (by decide) rfl gf_RX5_20 rfl dX5_keeps_58 ?_
          refine r_bipush F (by decide) dX5_keeps_61 ?_
          refine r_aload_n F hl 0 rfl rfl dX5_keeps_63 ?_
          refine r_get F X 36 (by decide) (eK_36 G _) rfl gl_RX5 4 (by decide) rfl gf_RX5_32 rfl dX5_keeps_64 ?_
          refine r_eqI (b := n1) (by rw [hfk 36 (by omega)]; exact hj4) ?_
          refine r_imul F dX5_keeps_67 ?_
          refine r_iload_n F hl 1 rfl rfl dX5_keeps_68 ?_
          refine r_iadd F dX5_keeps_69 ?_
          refine r_aload_n F hl 0 rfl rfl dX5_keeps_70 ?_
          refine r_get F X 36 (by decide) (eK_36 G _) rfl gl_RX5 2 (by decide) rfl gf_RX5_16 rfl dX5_keeps_71 ?_
          refine r_iload_n F hl 1 rfl rfl dX5_keeps_74 ?_
          refine r_iald F X 37 (by decide) (eK_37 G) (by omega) (by decide) dX5_keeps_75 ?_
          refine r_eqI (b := r k) (by rw [hrt]) ?_
          refine r_iast F X 38 (by decide) (eK_38 G) (by omega) (by decide) dX5_keeps_76 (fun H locs X => ?_)
          obtain ⟨σ2, eσ2⟩ : ∃ x9 : St, x9 = up τ 38 (upI (τ 38) ((71 * n1) + k) (r k)) := ⟨_, rfl⟩
          rw [← eσ2] at X
          have hrσ2 : σ2 37 = r := by rw [eσ2, up_ne (by omega)]; exact hrt
          have hNσ2 : σ2 36 1 = N := by rw [eσ2, up_ne (by omega)]; exact hNt
          refine r_iinc F hl [(1, .int (I (k + 1))), (0, .ref (gY G 36))] 1 rfl (by decide) rfl dX5_keeps_77 (fun ls hl => ?_)
          refine r_goto F 51 (by decide) dX5_keeps_80 ?_
          exact ih51 (k + 1) σ2 _ _ _ (by omega) (by omega) (by intro c a; rw [eσ2, up_ne a]; exact hfk c a) (by intro p9 a b; rw [eσ2, up_eq]; rcases (show p9 < k ∨ p9 = k by omega) with z | z; (rw [upI_ne (by omega)]; exact hnew p9 a z); (rw [z, upI_eq])) (by intro p9 a; rw [eσ2, up_eq, upI_ne (by omega)]; exact hold p9 a) X (lv_sub hl [1, 0] rfl)
    exact loop51 (((71 - 0 : Int) + 1).toNat) 0 ρ _ _ _ (by omega) (by omega) (by exact fun _ _ => rfl) (by intro p9 a b; omega) (by exact fun _ _ => rfl) X (lv_sub hl [1, 0] rfl)
  refine r_aload_n F hl 0 rfl rfl dX5_keeps_0 ?_
  refine r_get F X 36 (by decide) (eK_36 G _) rfl gl_RX5 4 (by decide) rfl gf_RX5_32 rfl dX5_keeps_1 ?_
  refine r_eqI (b := n) (g3) ?_
  refine r_bipush F (by decide) dX5_keeps_4 ?_
  refine r_icmp_ne F 49 (by decide) (by omega) (by omega) dX5_keeps_6 (fun c2 => ?_) (fun c2 => ?_)
  · skip
    exact join49 n σ _ _ _ (by omega) (by first | exact ⟨fun _ _ _ => rfl, fun _ _ => rfl⟩ | exact ⟨fun c a b => by rw [eσ, up_ne a]; exact hfc c b, fun i a => by rw [eσ, up_eq, upI_ne a, hfc 36 (by omega)]⟩) (by first | exact g3 | (rw [eσ, up_eq, upI_eq])) (by first | (intro j a b p9 c d; rw [g6 j a b p9, if_pos ⟨c, d⟩]) | (intro j a b p9 c d; rw [g6 j a (by omega) p9, if_pos ⟨c, d⟩, eσ, up_ne (by omega), hcp _ (by omega) (by omega)]; congr 1; omega)) X (lv_sub hl [0] rfl)
  · skip
    refine r_iconst F dX5_keeps_9 ?_
    refine r_istore_n F hl [(1, .int (I 0)), (0, .ref (gY G 36))] rfl (by decide) rfl dX5_keeps_10 (fun ls hl => ?_)
    have loop11 : ∀ (n_ : Nat) (k : Int) (τ : St) (ls : Array Slot) (H : Heap) (locs : List Loc) (hn_ : 1349 - k < n_) (hk2 : 0 ≤ k ∧ k ≤ 1349) (hfc : ∀ c : Nat, c ≠ 38 → τ c = σ c) (hcp : ∀ p : Int, 0 ≤ p → p < k → τ 38 p = σ 38 (p + 71)) (hcq : ∀ p : Int, k ≤ p → τ 38 p = σ 38 p) (X : HX G τ s H locs) (hl : lv_has ls 2 [(0, .ref (gY G 36)), (1, .int (I k))]), W p l e (rmd 1) s m args below meth c H locs 0 0 (MQ below (QV G (fun τ9 => KP σ τ9 ∧ MX τ9 N r (min (n + 1) 20) (hpush r hs))) args s 0 0 (gA G)) (F0 m 11 ls []) := by
      intro n_
      induction n_ with
      | zero => intro k τ ls H locs hn_ hk2 hfc hcp hcq X hl; omega
      | succ n_ ih11 =>
        intro k τ ls H locs hn_ hk2 hfc hcp hcq X hl
        have hrt : τ 37 = r := by rw [hfc 37 (by omega)]; exact hro
        have hNt : τ 36 1 = N := by rw [hfc 36 (by omega)]; exact hN
        refine r_iload_n F hl 1 rfl rfl dX5_keeps_11 ?_
        refine r_sipush F (by decide) dX5_keeps_12 ?_
        refine r_icmp_ge F 39 (by decide) (by omega) (by omega) dX5_keeps_15 (fun c3 => ?_) (fun c3 => ?_)
        · skip
          refine r_aload_n F hl 0 rfl rfl dX5_keeps_39 ?_
          refine r_dup F rfl dX5_keeps_40 ?_
          refine r_get F X 36 (by decide) (eK_36 G _) rfl gl_RX5 4 (by decide) rfl gf_RX5_32 rfl dX5_keeps_41 ?_
          refine r_eqI (b := n) (by rw [hfc 36 (by omega)]; exact g3) ?_
          refine r_iconst F dX5_keeps_44 ?_
          refine r_isub F dX5_keeps_45 ?_
          refine r_put F X 36 (by decide) (upI (τ 36) 4 (n - 1)) (eK_36 G _) rfl gl_RX5 tyX5 tyX5_ok nmX5 4 (by decide) rfl gf_RX5_32 rfl (tyX5_ok 4 (by decide)) rfl rfl (Nat.le_of_ble_eq_true rfl) (eK_36 G _) dX5_keeps_46 (fun H locs X => ?_)
          obtain ⟨σ3, eσ3⟩ : ∃ x9 : St, x9 = up τ 36 (upI (τ 36) 4 (n - 1)) := ⟨_, rfl⟩
          rw [← eσ3] at X
          have hrσ3 : σ3 37 = r := by rw [eσ3, up_ne (by omega)]; exact hrt
          have hNσ3 : σ3 36 1 = N := by rw [eσ3, up_eq, upI_ne (by omega)]; exact hNt
          exact join49 (n - 1) σ3 _ _ _ (by omega) (by first | exact ⟨fun _ _ _ => rfl, fun _ _ => rfl⟩ | exact ⟨fun c a b => by rw [eσ3, up_ne a]; exact hfc c b, fun i a => by rw [eσ3, up_eq, upI_ne a, hfc 36 (by omega)]⟩) (by first | exact g3 | (rw [eσ3, up_eq, upI_eq])) (by first | (intro j a b p9 c d; rw [g6 j a b p9, if_pos ⟨c, d⟩]) | (intro j a b p9 c d; rw [g6 j a (by omega) p9, if_pos ⟨c, d⟩, eσ3, up_ne (by omega), hcp _ (by omega) (by omega)]; congr 1; omega)) X (lv_sub hl [0] rfl)
        · skip
          refine r_aload_n F hl 0 rfl rfl dX5_keeps_18 ?_
          refine r_get F X 36 (by decide) (eK_36 G _) rfl gl_RX5 3 (by decide) rfl gf_RX5_20 rfl dX5_keeps_19 ?_
          refine r_iload_n F hl 1 rfl rfl dX5_keeps_22 ?_
          refine r_aload_n F hl 0 rfl rfl dX5_keeps_23 ?_
          refine r_get F X 36 (by decide) (eK_36 G _) rfl gl_RX5 3 (by decide) rfl gf_RX5_20 rfl dX5_keeps_24 ?_
          refine r_iload_n F hl 1 rfl rfl dX5_keeps_27 ?_
          refine r_bipush F (by decide) dX5_keeps_28 ?_
          refine r_iadd F dX5_keeps_30 ?_
          refine r_iald F X 38 (by decide) (eK_38 G) (by omega) (by decide) dX5_keeps_31 ?_
          refine r_iast F X 38 (by decide) (eK_38 G) (by omega) (by decide) dX5_keeps_32 (fun H locs X => ?_)
          obtain ⟨σ4, eσ4⟩ : ∃ x9 : St, x9 = up τ 38 (upI (τ 38) k (τ 38 (k + 71))) := ⟨_, rfl⟩
          rw [← eσ4] at X
          have hrσ4 : σ4 37 = r := by rw [eσ4, up_ne (by omega)]; exact hrt
          have hNσ4 : σ4 36 1 = N := by rw [eσ4, up_ne (by omega)]; exact hNt
          refine r_iinc F hl [(1, .int (I (k + 1))), (0, .ref (gY G 36))] 1 rfl (by decide) rfl dX5_keeps_33 (fun ls hl => ?_)
          refine r_goto F 11 (by decide) dX5_keeps_36 ?_
          exact ih11 (k + 1) σ4 _ _ _ (by omega) (by omega) (by intro c a; rw [eσ4, up_ne a]; exact hfc c a) (by intro p9 a b; rw [eσ4, up_eq]; rcases (show p9 < k ∨ p9 = k by omega) with z | z; (rw [upI_ne (by omega)]; exact hcp p9 a z); (rw [z, upI_eq]; exact hcq (k + 71) (by omega))) (by intro p9 a; rw [eσ4, up_eq, upI_ne (by omega)]; exact hcq p9 (by omega)) X (lv_sub hl [1, 0] rfl)
    exact loop11 (((1349 - 0 : Int) + 1).toNat) 0 σ _ _ _ (by omega) (by omega) (by exact fun _ _ => rfl) (by intro p9 a b; omega) (by exact fun _ _ => rfl) X (lv_sub hl [1, 0] rfl)
