section LK
variable {p : Program} {l : Launch} {e : Env} {R : Room} {s : State} {m : MethodId} {args : Array Value} {below : List Frame} {meth : Method} {c : Code} {H : Heap} {locs : List Loc} {cells slots : Nat} {Q : State → Prop}
variable {cc : ByteArray} {nL pc : Nat} {ls : Array Slot} {rest : List Value} {own : String} {G : GT} {σ : St}
theorem r_look (F : FX G p m c cc nL s args own) {dflt : Int} {ps : Array (Int × Int)} {len : Nat} {a v off : Int} (tgt : Nat) (hv : a = v) (hr : -2147483648 ≤ v ∧ v < 2147483648) (hp : (ps.toList.zip (ps.toList.drop 1)).all (fun (a, next) => a.1 < next.1) = true) (ho : Op.lookupswitch.offset ps.toList dflt v = off) (ht : (pc : Int) + off = (tgt : Int)) (hdg : decode cc pc = .ok (.lookupswitch dflt ps, len)) (k : W p l e R s m args below meth c H locs cells slots Q (F0 m tgt ls rest)) : W p l e R s m args below meth c H locs cells slots Q (F0 m pc ls (.int (I a) :: rest)) := by
  subst hv
  exact lv_lookup F.1.1 F.1.2.1 hdg hp (by rw [I_int hr]; exact ho) ht k
end LK
theorem cut_eq {a b : Int} (hb : 0 < b) : (a.tmod b < 0 → a.tdiv b - 1 = a / b) ∧ (¬ a.tmod b < 0 → a.tdiv b = a / b) := by
  have h1 := Int.tmod_add_mul_tdiv a b
  rcases (show 0 ≤ a ∨ a < 0 by omega) with q | q
  · have := Int.tmod_nonneg b q
    refine ⟨fun z => by omega, fun _ => td_nn q⟩
  · have h2 := td_neg q hb
    have h3 : a.tdiv b * b = b * a.tdiv b := Int.mul_comm _ _
    have h4 : a.tmod b ≤ 0 := by have := Int.tmod_nonneg b (show 0 ≤ -a by omega); rw [Int.neg_tmod] at this; omega
    refine ⟨fun z => h2.2 (by omega), fun z => h2.1 (by omega)⟩
theorem pw_s (v : Int) {k : Int} (h : 0 ≤ k) : v ^ (k + 1).toNat = v ^ k.toNat * v := by rw [show (k + 1).toNat = k.toNat + 1 by omega, Int.pow_succ]
theorem pw1 (v : Int) : v ^ (1 : Int).toNat = v := by show v ^ 1 = v; rw [Int.pow_succ, Int.pow_zero, Int.one_mul]
theorem pw2 (v : Int) : v ^ (2 : Int).toNat = v * v := by show v ^ (1 + 1) = _; rw [Int.pow_succ]; exact congrArg (· * v) (pw1 v)
theorem pw3 (v : Int) : v ^ (3 : Int).toNat = v * v * v := by show v ^ (2 + 1) = _; rw [Int.pow_succ]; exact congrArg (· * v) (pw2 v)
theorem pw4 (v : Int) : v ^ (4 : Int).toNat = v * v * v * v := by show v ^ (3 + 1) = _; rw [Int.pow_succ]; exact congrArg (· * v) (pw3 v)
theorem pw5 (v : Int) : v ^ (5 : Int).toNat = v * v * v * v * v := by show v ^ (4 + 1) = _; rw [Int.pow_succ]; exact congrArg (· * v) (pw4 v)
theorem pw7 (v : Int) : v ^ (7 : Int).toNat = v * v * v * v * v * v * v := by show v ^ (5 + 1 + 1) = _; rw [Int.pow_succ, Int.pow_succ]; exact congrArg (· * v * v) (pw5 v)
def KY (σ τ : St) : Prop := ∀ k : Nat, (k < 36 ∨ k = 42) → τ k = σ k
theorem c_X5_thrown (l : Launch) (G : GT) (σ : St) : Ct l yX5_thrown cX5_thrown 1 (some .int) 1 G [.ref (gY G 36)] σ (QI G (fun res9 τ => res9 = (σ 36 0) ∧ τ = σ)) := by
  refine mt (own := RX5) (plainFor_of_name rfl) rfl (Nat.le_of_ble_eq_true rfl) ?_
  intro p e s m args below meth c ls F hr hk X hl
  have hl : lv_has ls 1 [(0, .ref (gY G 36))] := hl
  refine r_aload_n F hl 0 rfl rfl dX5_thrown_0 ?_
  refine r_get F X 36 (by decide) (eK_36 G _) rfl gl_RX5 0 (by decide) rfl gf_RX5_1 rfl dX5_thrown_1 ?_
  exact r_iret F X hr hk dX5_thrown_4 (⟨rfl, rfl⟩)
theorem c_X5_within (l : Launch) (G : GT) (σ : St) (v : Int) (lo2 : Int) (hi2 : Int) (hv : -9223372036854775808 ≤ v ∧ v < 9223372036854775808) (h1 : -9223372036854775808 ≤ lo2 ∧ lo2 < 9223372036854775808) (h2 : -9223372036854775808 ≤ hi2 ∧ hi2 < 9223372036854775808) : Ct l yX5_within cX5_within 6 (some .boolean) 1 G [.long (J v), .long (J lo2), .long (J hi2)] σ (QI G (fun res9 τ => res9 = (if lo2 ≤ v ∧ v ≤ hi2 then 1 else 0) ∧ τ = σ)) := by
  refine mt (own := RX5) (plainFor_of_name rfl) rfl (Nat.le_of_ble_eq_true rfl) ?_
  intro p e s m args below meth c ls F hr hk X hl
  have hl : lv_has ls 6 [(0, .long (J v)), (2, .long (J lo2)), (4, .long (J hi2))] := hl
  refine r_lload_n F hl 0 rfl rfl dX5_within_0 ?_
  refine r_lload_n F hl 1 rfl rfl dX5_within_1 ?_
  refine r_lcmp_lt F 17 (by decide) (by omega) (by omega) dX5_within_2 dX5_within_3 (fun c1 => ?_) (fun c1 => ?_)
  · skip
    refine r_iconst F dX5_within_17 ?_
    exact r_zret F X hr hk (by omega) dX5_within_18 (⟨by first | rw [if_pos (by omega)] | rw [if_neg (by omega)], rfl⟩)
  · skip
    refine r_lload_n F hl 0 rfl rfl dX5_within_6 ?_
    refine r_lload F hl 2 rfl dX5_within_7 ?_
    refine r_lcmp_gt F 17 (by decide) (by omega) (by omega) dX5_within_9 dX5_within_10 (fun c2 => ?_) (fun c2 => ?_)
    · skip
      refine r_iconst F dX5_within_17 ?_
      exact r_zret F X hr hk (by omega) dX5_within_18 (⟨by first | rw [if_pos (by omega)] | rw [if_neg (by omega)], rfl⟩)
    · skip
      refine r_iconst F dX5_within_13 ?_
      refine r_goto F 18 (by decide) dX5_within_14 ?_
      exact r_zret F X hr hk (by omega) dX5_within_18 (⟨by first | rw [if_pos (by omega)] | rw [if_neg (by omega)], rfl⟩)
theorem c_X5_power (l : Launch) (G : GT) (σ : St) (v : Int) (z2 : Int) (hn : 0 ≤ z2 ∧ z2 ≤ 7) : Ct l yX5_power cX5_power 6 (some .long) 1 G [.long (J v), .int (I z2)] σ (QJ G (fun res9 τ => res9 = (v ^ z2.toNat) ∧ τ = σ)) := by
  refine mt (own := RX5) (plainFor_of_name rfl) rfl (Nat.le_of_ble_eq_true rfl) ?_
  intro p e s m args below meth c ls F hr hk X hl
  have hl : lv_has ls 6 [(0, .long (J v)), (2, .int (I z2))] := hl
  refine r_lconst F 1 (by decide +kernel) dX5_power_0 ?_
  refine r_eqJ (b := v ^ (0 : Int).toNat) (by show (1 : Int) = v ^ 0; rw [Int.pow_zero]) ?_
  refine r_lstore_n F hl [(3, .long (J (v ^ (0 : Int).toNat))), (0, .long (J v)), (2, .int (I z2))] rfl (by decide) rfl dX5_power_1 (fun ls hl => ?_)
  refine r_iconst F dX5_power_2 ?_
  refine r_istore F hl [(5, .int (I 0)), (3, .long (J (v ^ (0 : Int).toNat))), (0, .long (J v)), (2, .int (I z2))] (by decide) rfl dX5_power_3 (fun ls hl => ?_)
  have loop5 : ∀ (n : Nat) (k : Int) (ls : Array Slot) (H : Heap) (locs : List Loc) (hn : z2 - k < n) (hk2 : 0 ≤ k ∧ k ≤ z2) (X : HX G σ s H locs) (hl : lv_has ls 6 [(0, .long (J v)), (2, .int (I z2)), (3, .long (J (v ^ k.toNat))), (5, .int (I k))]), W p l e (rmd 1) s m args below meth c H locs 0 0 (MQ below (QJ G (fun res9 τ => res9 = (v ^ z2.toNat) ∧ τ = σ)) args s 0 0 (gA G)) (F0 m 5 ls []) := by
    intro n
    induction n with
    | zero => intro k ls H locs hn hk2 X hl; omega
    | succ n ih5 =>
      intro k ls H locs hn hk2 X hl
      refine r_iload F hl 3 rfl dX5_power_5 ?_
      refine r_iload_n F hl 1 rfl rfl dX5_power_7 ?_
      refine r_icmp_ge F 21 (by decide) (by omega) (by omega) dX5_power_8 (fun c1 => ?_) (fun c1 => ?_)
      · skip
        refine r_lload_n F hl 2 rfl rfl dX5_power_21 ?_
        exact r_lret F X hr hk dX5_power_22 (⟨by rw [show k = z2 by omega], rfl⟩)
      · skip
        refine r_lload_n F hl 2 rfl rfl dX5_power_11 ?_
        refine r_lload_n F hl 0 rfl rfl dX5_power_12 ?_
        refine r_lmul F dX5_power_13 ?_
        refine r_eqJ (b := v ^ (k + 1).toNat) ((pw_s v (by omega)).symm) ?_
        refine r_lstore_n F hl [(3, .long (J (v ^ (k + 1).toNat))), (0, .long (J v)), (2, .int (I z2)), (5, .int (I k))] rfl (by decide) rfl dX5_power_14 (fun ls hl => ?_)
        refine r_iinc F hl [(5, .int (I (k + 1))), (3, .long (J (v ^ (k + 1).toNat))), (0, .long (J v)), (2, .int (I z2))] 3 rfl (by decide) rfl dX5_power_15 (fun ls hl => ?_)
        refine r_goto F 5 (by decide) dX5_power_18 ?_
        exact ih5 (k + 1) _ _ _ (by omega) (by omega) X (lv_sub hl [2, 3, 1, 0] rfl)
  exact loop5 (((z2 - 0 : Int) + 1).toNat) 0 _ _ _ (by omega) (by omega) X (lv_sub hl [2, 3, 1, 0] rfl)
theorem c_X5_above (l : Launch) (G : GT) (σ : St) (law : Int) (k : Int) (n : Int) (hl2 : 0 ≤ law ∧ law ≤ 3) (hk2 : 0 ≤ k ∧ k < n ∧ n ≤ 60) : Ct l yX5_above cX5_above 5 (some .long) 2 G [.int (I law), .long (J k), .long (J n)] σ (QJ G (fun res9 τ => res9 = (nu law k n) ∧ τ = σ)) := by
  refine mt (own := RX5) (plainFor_of_name rfl) rfl (Nat.le_of_ble_eq_true rfl) ?_
  intro p e s m args below meth c ls F hr hk X hl
  have hl : lv_has ls 5 [(0, .int (I law)), (1, .long (J k)), (3, .long (J n))] := hl
  refine r_iload_n F hl 0 rfl rfl dX5_above_0 ?_
  rcases (show law = 0 ∨ law = 1 ∨ law = 2 ∨ (law < 0 ∨ 2 < law) by omega) with q1 | q1 | q1 | q1
  · skip
    refine r_tabIn F 0 28 q1 (by decide) (by decide) (by decide) rfl (by decide) dX5_above_1 ?_
    refine r_lload_n F hl 1 rfl rfl dX5_above_28 ?_
    exact r_lret F X hr hk dX5_above_29 (⟨by subst law; rfl, rfl⟩)
  · skip
    refine r_tabIn F 1 30 q1 (by decide) (by decide) (by decide) rfl (by decide) dX5_above_1 ?_
    refine r_ldc2 F 2 gk_RX5_84 (by decide +kernel) dX5_above_30 ?_
    refine r_lload_n F hl 1 rfl rfl dX5_above_33 ?_
    refine r_lmul F dX5_above_34 ?_
    refine r_lload_n F hl 2 rfl rfl dX5_above_35 ?_
    refine r_lcmp_gt F 50 (by decide) (by omega) (by omega) dX5_above_36 dX5_above_37 (fun c1 => ?_) (fun c1 => ?_)
    · skip
      refine r_lload_n F hl 2 rfl rfl dX5_above_50 ?_
      refine r_lload_n F hl 2 rfl rfl dX5_above_51 ?_
      refine r_lmul F dX5_above_52 ?_
      refine r_ldc2 F 2 gk_RX5_84 (by decide +kernel) dX5_above_53 ?_
      refine r_lload_n F hl 2 rfl rfl dX5_above_56 ?_
      refine r_lload_n F hl 1 rfl rfl dX5_above_57 ?_
      refine r_lsub F dX5_above_58 ?_
      refine r_lmul F dX5_above_59 ?_
      refine r_lload_n F hl 2 rfl rfl dX5_above_60 ?_
      refine r_lload_n F hl 1 rfl rfl dX5_above_61 ?_
      refine r_lsub F dX5_above_62 ?_
      refine r_lmul F dX5_above_63 ?_
      refine r_lsub F dX5_above_64 ?_
      exact r_lret F X hr hk dX5_above_65 (⟨by subst law; unfold nu; rw [if_pos rfl]; first | rw [if_pos (by omega)] | rw [if_neg (by omega)], rfl⟩)
    · skip
      refine r_ldc2 F 2 gk_RX5_84 (by decide +kernel) dX5_above_40 ?_
      refine r_lload_n F hl 1 rfl rfl dX5_above_43 ?_
      refine r_lmul F dX5_above_44 ?_
      refine r_lload_n F hl 1 rfl rfl dX5_above_45 ?_
      refine r_lmul F dX5_above_46 ?_
      refine r_goto F 65 (by decide) dX5_above_47 ?_
      exact r_lret F X hr hk dX5_above_65 (⟨by subst law; unfold nu; rw [if_pos rfl]; first | rw [if_pos (by omega)] | rw [if_neg (by omega)], rfl⟩)
  · skip
    refine r_tabIn F 2 66 q1 (by decide) (by decide) (by decide) rfl (by decide) dX5_above_1 ?_
    refine r_lload_n F hl 1 rfl rfl dX5_above_66 ?_
    refine r_iconst F dX5_above_67 ?_
    refine d_cSJ F X (c_X5_power l G σ k 3 (by omega)) gv_RX5_86 nd_X5_power rfl (rest := []) rfl (Nat.le_of_ble_eq_true rfl) ⟨Nat.le_of_ble_eq_true rfl, Nat.le_of_ble_eq_true rfl⟩ ⟨Nat.zero_le _, Nat.zero_le _⟩ hl.1 dX5_above_68 (fun H locs X => ?_)
    refine r_eqJ (b := k * k * k) (pw3 k) ?_
    refine r_ldc2 F 10 gk_RX5_60 (by decide +kernel) dX5_above_71 ?_
    refine r_lload_n F hl 2 rfl rfl dX5_above_74 ?_
    refine r_lmul F dX5_above_75 ?_
    refine r_lload_n F hl 2 rfl rfl dX5_above_76 ?_
    refine r_lmul F dX5_above_77 ?_
    refine r_ldc2 F 15 gk_RX5_90 (by decide +kernel) dX5_above_78 ?_
    refine r_lload_n F hl 1 rfl rfl dX5_above_81 ?_
    refine r_lmul F dX5_above_82 ?_
    refine r_lload_n F hl 2 rfl rfl dX5_above_83 ?_
    refine r_lmul F dX5_above_84 ?_
    refine r_lsub F dX5_above_85 ?_
    refine r_ldc2 F 6 gk_RX5_92 (by decide +kernel) dX5_above_86 ?_
    refine r_lload_n F hl 1 rfl rfl dX5_above_89 ?_
    refine r_lmul F dX5_above_90 ?_
    refine r_lload_n F hl 1 rfl rfl dX5_above_91 ?_
    refine r_lmul F dX5_above_92 ?_
    refine r_ladd F dX5_above_93 ?_
    refine r_lmul F dX5_above_94 ?_
    exact r_lret F X hr hk dX5_above_95 (⟨by subst law; unfold nu; rw [if_neg (by decide), if_pos rfl], rfl⟩)
  · skip
    refine r_tabOut F 96 (by omega) q1 (by decide) dX5_above_1 ?_
    refine r_lload_n F hl 1 rfl rfl dX5_above_96 ?_
    refine r_iconst F dX5_above_97 ?_
    refine d_cSJ F X (c_X5_power l G σ k 4 (by omega)) gv_RX5_86 nd_X5_power rfl (rest := []) rfl (Nat.le_of_ble_eq_true rfl) ⟨Nat.le_of_ble_eq_true rfl, Nat.le_of_ble_eq_true rfl⟩ ⟨Nat.zero_le _, Nat.zero_le _⟩ hl.1 dX5_above_98 (fun H locs X => ?_)
    refine r_eqJ (b := k * k * k * k) (pw4 k) ?_
    refine r_ldc2 F 35 gk_RX5_94 (by decide +kernel) dX5_above_101 ?_
    refine r_lload_n F hl 2 rfl rfl dX5_above_104 ?_
    refine r_iconst F dX5_above_105 ?_
    refine d_cSJ F X (c_X5_power l G σ n 3 (by omega)) gv_RX5_86 nd_X5_power rfl (rest := [.long (J 35), .long (J (k * k * k * k))]) rfl (Nat.le_of_ble_eq_true rfl) ⟨Nat.le_of_ble_eq_true rfl, Nat.le_of_ble_eq_true rfl⟩ ⟨Nat.zero_le _, Nat.zero_le _⟩ hl.1 dX5_above_106 (fun H locs X => ?_)
    refine r_eqJ (b := n * n * n) (pw3 n) ?_
    refine r_lmul F dX5_above_109 ?_
    refine r_ldc2 F 84 gk_RX5_96 (by decide +kernel) dX5_above_110 ?_
    refine r_lload_n F hl 1 rfl rfl dX5_above_113 ?_
    refine r_lmul F dX5_above_114 ?_
    refine r_lload_n F hl 2 rfl rfl dX5_above_115 ?_
    refine r_lmul F dX5_above_116 ?_
    refine r_lload_n F hl 2 rfl rfl dX5_above_117 ?_
    refine r_lmul F dX5_above_118 ?_
    refine r_lsub F dX5_above_119 ?_
    refine r_ldc2 F 70 gk_RX5_98 (by decide +kernel) dX5_above_120 ?_
    refine r_lload_n F hl 1 rfl rfl dX5_above_123 ?_
    refine r_lmul F dX5_above_124 ?_
    refine r_lload_n F hl 1 rfl rfl dX5_above_125 ?_
    refine r_lmul F dX5_above_126 ?_
    refine r_lload_n F hl 2 rfl rfl dX5_above_127 ?_
    refine r_lmul F dX5_above_128 ?_
    refine r_ladd F dX5_above_129 ?_
    refine r_ldc2 F 20 gk_RX5_100 (by decide +kernel) dX5_above_130 ?_
    refine r_lload_n F hl 1 rfl rfl dX5_above_133 ?_
    refine r_iconst F dX5_above_134 ?_
    refine d_cSJ F X (c_X5_power l G σ k 3 (by omega)) gv_RX5_86 nd_X5_power rfl (rest := [.long (J 20), .long (J (((35 * (n * n * n)) - (((84 * k) * n) * n)) + (((70 * k) * k) * n))), .long (J (k * k * k * k))]) rfl (Nat.le_of_ble_eq_true rfl) ⟨Nat.le_of_ble_eq_true rfl, Nat.le_of_ble_eq_true rfl⟩ ⟨Nat.zero_le _, Nat.zero_le _⟩ hl.1 dX5_above_135 (fun H locs X => ?_)
    refine r_eqJ (b := k * k * k) (pw3 k) ?_
    refine r_lmul F dX5_above_138 ?_
    refine r_lsub F dX5_above_139 ?_
    refine r_lmul F dX5_above_140 ?_
    exact r_lret F X hr hk dX5_above_141 (⟨by rw [show law = 3 by omega]; unfold nu; rw [if_neg (by decide), if_neg (by decide), if_pos rfl]; grind, rfl⟩)
theorem c_X5_below (l : Launch) (G : GT) (σ : St) (law : Int) (n : Int) (hl2 : 0 ≤ law ∧ law ≤ 3) : Ct l yX5_below cX5_below 3 (some .long) 2 G [.int (I law), .long (J n)] σ (QJ G (fun res9 τ => res9 = (de law n) ∧ τ = σ)) := by
  refine mt (own := RX5) (plainFor_of_name rfl) rfl (Nat.le_of_ble_eq_true rfl) ?_
  intro p e s m args below meth c ls F hr hk X hl
  have hl : lv_has ls 3 [(0, .int (I law)), (1, .long (J n))] := hl
  refine r_lload_n F hl 1 rfl rfl dX5_below_0 ?_
  refine r_iload_n F hl 0 rfl rfl dX5_below_1 ?_
  refine r_if_ne F 9 (by decide) (by omega) dX5_below_2 (fun c1 => ?_) (fun c1 => ?_)
  · skip
    refine r_iload_n F hl 0 rfl rfl dX5_below_9 ?_
    refine r_iconst F dX5_below_10 ?_
    refine r_icmp_ne F 18 (by decide) (by omega) (by omega) dX5_below_11 (fun c2 => ?_) (fun c2 => ?_)
    · skip
      refine r_iload_n F hl 0 rfl rfl dX5_below_18 ?_
      refine r_iconst F dX5_below_19 ?_
      refine r_icmp_ne F 27 (by decide) (by omega) (by omega) dX5_below_20 (fun c3 => ?_) (fun c3 => ?_)
      · skip
        refine r_bipush F (by decide) dX5_below_27 ?_
        refine d_cSJ F X (c_X5_power l G σ n 7 (by omega)) gv_RX5_86 nd_X5_power rfl (rest := []) rfl (Nat.le_of_ble_eq_true rfl) ⟨Nat.le_of_ble_eq_true rfl, Nat.le_of_ble_eq_true rfl⟩ ⟨Nat.zero_le _, Nat.zero_le _⟩ hl.1 dX5_below_29 (fun H locs X => ?_)
        exact r_lret F X hr hk dX5_below_32 (⟨by unfold de; simp only [pw1, pw2, pw5, pw7]; grind, rfl⟩)
      · skip
        refine r_iconst F dX5_below_23 ?_
        refine r_goto F 29 (by decide) dX5_below_24 ?_
        refine d_cSJ F X (c_X5_power l G σ n 5 (by omega)) gv_RX5_86 nd_X5_power rfl (rest := []) rfl (Nat.le_of_ble_eq_true rfl) ⟨Nat.le_of_ble_eq_true rfl, Nat.le_of_ble_eq_true rfl⟩ ⟨Nat.zero_le _, Nat.zero_le _⟩ hl.1 dX5_below_29 (fun H locs X => ?_)
        exact r_lret F X hr hk dX5_below_32 (⟨by unfold de; simp only [pw1, pw2, pw5, pw7]; grind, rfl⟩)
    · skip
      refine r_iconst F dX5_below_14 ?_
      refine r_goto F 29 (by decide) dX5_below_15 ?_
      refine d_cSJ F X (c_X5_power l G σ n 2 (by omega)) gv_RX5_86 nd_X5_power rfl (rest := []) rfl (Nat.le_of_ble_eq_true rfl) ⟨Nat.le_of_ble_eq_true rfl, Nat.le_of_ble_eq_true rfl⟩ ⟨Nat.zero_le _, Nat.zero_le _⟩ hl.1 dX5_below_29 (fun H locs X => ?_)
      exact r_lret F X hr hk dX5_below_32 (⟨by unfold de; simp only [pw1, pw2, pw5, pw7]; grind, rfl⟩)
  · skip
    refine r_iconst F dX5_below_5 ?_
    refine r_goto F 29 (by decide) dX5_below_6 ?_
    refine d_cSJ F X (c_X5_power l G σ n 1 (by omega)) gv_RX5_86 nd_X5_power rfl (rest := []) rfl (Nat.le_of_ble_eq_true rfl) ⟨Nat.le_of_ble_eq_true rfl, Nat.le_of_ble_eq_true rfl⟩ ⟨Nat.zero_le _, Nat.zero_le _⟩ hl.1 dX5_below_29 (fun H locs X => ?_)
    exact r_lret F X hr hk dX5_below_32 (⟨by unfold de; simp only [pw1, pw2, pw5, pw7]; grind, rfl⟩)
theorem c_X5_cut (l : Launch) (G : GT) (σ : St) (a : Int) (b : Int) (ha : -9223372036854775808 < a ∧ a < 9223372036854775808) (hb : 0 < b ∧ b < 9223372036854775808) : Ct l yX5_cut cX5_cut 6 (some .long) 1 G [.long (J a), .long (J b)] σ (QJ G (fun res9 τ => res9 = (a / b) ∧ τ = σ)) := by
  refine mt (own := RX5) (plainFor_of_name rfl) rfl (Nat.le_of_ble_eq_true rfl) ?_
  intro p e s m args below meth c ls F hr hk X hl
  have hl : lv_has ls 6 [(0, .long (J a)), (2, .long (J b))] := hl
  refine r_lload_n F hl 0 rfl rfl dX5_cut_0 ?_
  refine r_lload_n F hl 1 rfl rfl dX5_cut_1 ?_
  refine r_ldiv F (by omega) (by omega) dX5_cut_2 ?_
  refine r_lstore F hl [(4, .long (J (a.tdiv b))), (0, .long (J a)), (2, .long (J b))] (by decide) rfl dX5_cut_3 (fun ls hl => ?_)
  refine r_lload_n F hl 1 rfl rfl dX5_cut_5 ?_
  refine r_lload_n F hl 2 rfl rfl dX5_cut_6 ?_
  refine r_lrem F (by omega) (by omega) dX5_cut_7 ?_
  refine r_lconst F 0 (by decide +kernel) dX5_cut_8 ?_
  refine r_lcmp_ge F 20 (by decide) (by have hm1 := Int.tmod_lt_of_pos a hb.1; have hm2 := Int.lt_tmod_of_pos a hb.1; omega) (by have hm1 := Int.tmod_lt_of_pos a hb.1; have hm2 := Int.lt_tmod_of_pos a hb.1; omega) dX5_cut_9 dX5_cut_10 (fun c1 => ?_) (fun c1 => ?_)
  · skip
    refine r_lload F hl 0 rfl dX5_cut_20 ?_
    exact r_lret F X hr hk dX5_cut_22 (⟨by first | exact (cut_eq hb.1).1 (by assumption) | exact (cut_eq hb.1).2 (by omega), rfl⟩)
  · skip
    refine r_lload F hl 0 rfl dX5_cut_13 ?_
    refine r_lconst F 1 (by decide +kernel) dX5_cut_15 ?_
    refine r_lsub F dX5_cut_16 ?_
    refine r_goto F 22 (by decide) dX5_cut_17 ?_
    exact r_lret F X hr hk dX5_cut_22 (⟨by first | exact (cut_eq hb.1).1 (by assumption) | exact (cut_eq hb.1).2 (by omega), rfl⟩)
theorem c_X5_size (l : Launch) (G : GT) (σ : St) (a : Int) (ha : -2147483648 ≤ a ∧ a < 2147483648) : Ct l yX5_size cX5_size 1 (some .int) 1 G [.int (I a)] σ (QI G (fun res9 τ => res9 = (ab a) ∧ τ = σ)) := by
  refine mt (own := RX5) (plainFor_of_name rfl) rfl (Nat.le_of_ble_eq_true rfl) ?_
  intro p e s m args below meth c ls F hr hk X hl
  have hl : lv_has ls 1 [(0, .int (I a))] := hl
  refine r_iload_n F hl 0 rfl rfl dX5_size_0 ?_
  refine r_if_ge F 9 (by decide) (by omega) dX5_size_1 (fun c1 => ?_) (fun c1 => ?_)
  · skip
    refine r_iload_n F hl 0 rfl rfl dX5_size_9 ?_
    exact r_iret F X hr hk dX5_size_10 (⟨by unfold ab; first | rw [if_pos (by omega)] | rw [if_neg (by omega)], rfl⟩)
  · skip
    refine r_iload_n F hl 0 rfl rfl dX5_size_4 ?_
    refine r_ineg F dX5_size_5 ?_
    refine r_goto F 10 (by decide) dX5_size_6 ?_
    exact r_iret F X hr hk dX5_size_10 (⟨by unfold ab; first | rw [if_pos (by omega)] | rw [if_neg (by omega)], rfl⟩)
theorem c_X5_isSegment (l : Launch) (G : GT) (σ : St) (N : Int) (r : Int → Int) (a : Int) (hro : σ 37 = r) (hN : σ 36 1 = N) (hW : WF N r) (ha : -2147483648 ≤ a ∧ a < 2147483648) : Ct l yX5_isSegment cX5_isSegment 2 (some .boolean) 1 G [.ref (gY G 36), .int (I a)] σ (QI G (fun res9 τ => res9 = (if 0 ≤ a ∧ a < r 60 then 1 else 0) ∧ τ = σ)) := by
  refine mt (own := RX5) (plainFor_of_name rfl) rfl (Nat.le_of_ble_eq_true rfl) ?_
  intro p e s m args below meth c ls F hr hk X hl
  have hl : lv_has ls 2 [(0, .ref (gY G 36)), (1, .int (I a))] := hl
  have hw := hW.num
  refine r_iload_n F hl 1 rfl rfl dX5_isSegment_0 ?_
  refine r_if_lt F 19 (by decide) (by omega) dX5_isSegment_1 (fun c1 => ?_) (fun c1 => ?_)
  · skip
    refine r_iconst F dX5_isSegment_19 ?_
    exact r_zret F X hr hk (by omega) dX5_isSegment_20 (⟨by first | rw [if_pos (by omega)] | rw [if_neg (by omega)], rfl⟩)
  · skip
    refine r_iload_n F hl 1 rfl rfl dX5_isSegment_4 ?_
    refine r_aload_n F hl 0 rfl rfl dX5_isSegment_5 ?_
    refine r_get F X 36 (by decide) (eK_36 G _) rfl gl_RX5 2 (by decide) rfl gf_RX5_16 rfl dX5_isSegment_6 ?_
    refine r_bipush F (by decide) dX5_isSegment_9 ?_
    refine r_iald F X 37 (by decide) (eK_37 G) (by omega) (by decide) dX5_isSegment_11 ?_
    refine r_eqI (b := r 60) (by rw [hro]) ?_
    refine r_icmp_ge F 19 (by decide) (by omega) (by omega) dX5_isSegment_12 (fun c2 => ?_) (fun c2 => ?_)
    · skip
      refine r_iconst F dX5_isSegment_19 ?_
      exact r_zret F X hr hk (by omega) dX5_isSegment_20 (⟨by first | rw [if_pos (by omega)] | rw [if_neg (by omega)], rfl⟩)
    · skip
      refine r_iconst F dX5_isSegment_15 ?_
      refine r_goto F 20 (by decide) dX5_isSegment_16 ?_
      exact r_zret F X hr hk (by omega) dX5_isSegment_20 (⟨by first | rw [if_pos (by omega)] | rw [if_neg (by omega)], rfl⟩)
theorem c_X5_isMark (l : Launch) (G : GT) (σ : St) (N : Int) (r : Int → Int) (a : Int) (hro : σ 37 = r) (hN : σ 36 1 = N) (hW : WF N r) (ha : -2147483648 ≤ a ∧ a < 2147483648) : Ct l yX5_isMark cX5_isMark 2 (some .boolean) 1 G [.ref (gY G 36), .int (I a)] σ (QI G (fun res9 τ => res9 = (if 0 ≤ a ∧ a < r 61 then 1 else 0) ∧ τ = σ)) := by
  refine mt (own := RX5) (plainFor_of_name rfl) rfl (Nat.le_of_ble_eq_true rfl) ?_
  intro p e s m args below meth c ls F hr hk X hl
  have hl : lv_has ls 2 [(0, .ref (gY G 36)), (1, .int (I a))] := hl
  have hw := hW.num
  refine r_iload_n F hl 1 rfl rfl dX5_isMark_0 ?_
  refine r_if_lt F 19 (by decide) (by omega) dX5_isMark_1 (fun c1 => ?_) (fun c1 => ?_)
  · skip
    refine r_iconst F dX5_isMark_19 ?_
    exact r_zret F X hr hk (by omega) dX5_isMark_20 (⟨by first | rw [if_pos (by omega)] | rw [if_neg (by omega)], rfl⟩)
  · skip
    refine r_iload_n F hl 1 rfl rfl dX5_isMark_4 ?_
    refine r_aload_n F hl 0 rfl rfl dX5_isMark_5 ?_
    refine r_get F X 36 (by decide) (eK_36 G _) rfl gl_RX5 2 (by decide) rfl gf_RX5_16 rfl dX5_isMark_6 ?_
    refine r_bipush F (by decide) dX5_isMark_9 ?_
    refine r_iald F X 37 (by decide) (eK_37 G) (by omega) (by decide) dX5_isMark_11 ?_
    refine r_eqI (b := r 61) (by rw [hro]) ?_
    refine r_icmp_ge F 19 (by decide) (by omega) (by omega) dX5_isMark_12 (fun c2 => ?_) (fun c2 => ?_)
    · skip
      refine r_iconst F dX5_isMark_19 ?_
      exact r_zret F X hr hk (by omega) dX5_isMark_20 (⟨by first | rw [if_pos (by omega)] | rw [if_neg (by omega)], rfl⟩)
    · skip
      refine r_iconst F dX5_isMark_15 ?_
      refine r_goto F 20 (by decide) dX5_isMark_16 ?_
      exact r_zret F X hr hk (by omega) dX5_isMark_20 (⟨by first | rw [if_pos (by omega)] | rw [if_neg (by omega)], rfl⟩)
theorem c_X5_isStep (l : Launch) (G : GT) (σ : St) (N : Int) (r : Int → Int) (a : Int) (hro : σ 37 = r) (hN : σ 36 1 = N) (hW : WF N r) (ha : -2147483648 ≤ a ∧ a < 2147483648) : Ct l yX5_isStep cX5_isStep 2 (some .boolean) 1 G [.ref (gY G 36), .int (I a)] σ (QI G (fun res9 τ => res9 = (if 0 ≤ a ∧ a < N then 1 else 0) ∧ τ = σ)) := by
  refine mt (own := RX5) (plainFor_of_name rfl) rfl (Nat.le_of_ble_eq_true rfl) ?_
  intro p e s m args below meth c ls F hr hk X hl
  have hl : lv_has ls 2 [(0, .ref (gY G 36)), (1, .int (I a))] := hl
  have hw := hW.num
  refine r_iload_n F hl 1 rfl rfl dX5_isStep_0 ?_
  refine r_if_lt F 16 (by decide) (by omega) dX5_isStep_1 (fun c1 => ?_) (fun c1 => ?_)
  · skip
    refine r_iconst F dX5_isStep_16 ?_
    exact r_zret F X hr hk (by omega) dX5_isStep_17 (⟨by first | rw [if_pos (by omega)] | rw [if_neg (by omega)], rfl⟩)
  · skip
    refine r_iload_n F hl 1 rfl rfl dX5_isStep_4 ?_
    refine r_aload_n F hl 0 rfl rfl dX5_isStep_5 ?_
    refine r_get F X 36 (by decide) (eK_36 G _) rfl gl_RX5 1 (by decide) rfl gf_RX5_13 rfl dX5_isStep_6 ?_
    refine r_eqI (b := N) (hN) ?_
    refine r_icmp_ge F 16 (by decide) (by omega) (by omega) dX5_isStep_9 (fun c2 => ?_) (fun c2 => ?_)
    · skip
      refine r_iconst F dX5_isStep_16 ?_
      exact r_zret F X hr hk (by omega) dX5_isStep_17 (⟨by first | rw [if_pos (by omega)] | rw [if_neg (by omega)], rfl⟩)
    · skip
      refine r_iconst F dX5_isStep_12 ?_
      refine r_goto F 17 (by decide) dX5_isStep_13 ?_
      exact r_zret F X hr hk (by omega) dX5_isStep_17 (⟨by first | rw [if_pos (by omega)] | rw [if_neg (by omega)], rfl⟩)
theorem c_X5_comesFrom (l : Launch) (G : GT) (σ : St) (N : Int) (r : Int → Int) (a : Int) (hro : σ 37 = r) (hN : σ 36 1 = N) (hW : WF N r) (ha : 0 ≤ a ∧ a < 12) : Ct l yX5_comesFrom cX5_comesFrom 2 (some .int) 1 G [.ref (gY G 36), .int (I a)] σ (QI G (fun res9 τ => res9 = (og r a) ∧ τ = σ)) := by
  refine mt (own := RX5) (plainFor_of_name rfl) rfl (Nat.le_of_ble_eq_true rfl) ?_
  intro p e s m args below meth c ls F hr hk X hl
  have hl : lv_has ls 2 [(0, .ref (gY G 36)), (1, .int (I a))] := hl
  have hw := hW.num
  refine r_iload_n F hl 1 rfl rfl dX5_comesFrom_0 ?_
  refine r_if_ne F 14 (by decide) (by omega) dX5_comesFrom_1 (fun c1 => ?_) (fun c1 => ?_)
  · skip
    refine r_aload_n F hl 0 rfl rfl dX5_comesFrom_14 ?_
    refine r_get F X 36 (by decide) (eK_36 G _) rfl gl_RX5 2 (by decide) rfl gf_RX5_16 rfl dX5_comesFrom_15 ?_
    refine r_bipush F (by decide) dX5_comesFrom_18 ?_
    refine r_iload_n F hl 1 rfl rfl dX5_comesFrom_20 ?_
    refine r_iadd F dX5_comesFrom_21 ?_
    refine r_iconst F dX5_comesFrom_22 ?_
    refine r_isub F dX5_comesFrom_23 ?_
    refine r_iald F X 37 (by decide) (eK_37 G) (by omega) (by decide) dX5_comesFrom_24 ?_
    refine r_eqI (b := r ((12 + a) - 1)) (by rw [hro]) ?_
    exact r_iret F X hr hk dX5_comesFrom_25 (⟨by unfold og; first | rw [if_pos (by omega)] | (rw [if_neg (by omega)]; congr 1; omega), rfl⟩)
  · skip
    refine r_aload_n F hl 0 rfl rfl dX5_comesFrom_4 ?_
    refine r_get F X 36 (by decide) (eK_36 G _) rfl gl_RX5 2 (by decide) rfl gf_RX5_16 rfl dX5_comesFrom_5 ?_
    refine r_bipush F (by decide) dX5_comesFrom_8 ?_
    refine r_iald F X 37 (by decide) (eK_37 G) (by omega) (by decide) dX5_comesFrom_10 ?_
    refine r_eqI (b := r 62) (by rw [hro]) ?_
    refine r_goto F 25 (by decide) dX5_comesFrom_11 ?_
    exact r_iret F X hr hk dX5_comesFrom_25 (⟨by unfold og; first | rw [if_pos (by omega)] | (rw [if_neg (by omega)]; congr 1; omega), rfl⟩)
theorem c_X5_begins (l : Launch) (G : GT) (σ : St) (N : Int) (r : Int → Int) (a : Int) (hro : σ 37 = r) (hN : σ 36 1 = N) (hW : WF N r) (ha : 0 ≤ a ∧ a ≤ 12) : Ct l yX5_begins cX5_begins 4 (some .int) 1 G [.ref (gY G 36), .int (I a)] σ (QI G (fun res9 τ => res9 = (bgI r a) ∧ τ = σ)) := by
  refine mt (own := RX5) (plainFor_of_name rfl) rfl (Nat.le_of_ble_eq_true rfl) ?_
  intro p e s m args below meth c ls F hr hk X hl
  have hl : lv_has ls 4 [(0, .ref (gY G 36)), (1, .int (I a))] := hl
  have hw := hW.num
  refine r_iconst F dX5_begins_0 ?_
  refine r_istore_n F hl [(2, .int (I 0)), (0, .ref (gY G 36)), (1, .int (I a))] rfl (by decide) rfl dX5_begins_1 (fun ls hl => ?_)
  refine r_iconst F dX5_begins_2 ?_
  refine r_istore_n F hl [(3, .int (I 0)), (2, .int (I 0)), (0, .ref (gY G 36)), (1, .int (I a))] rfl (by decide) rfl dX5_begins_3 (fun ls hl => ?_)
  have loop4 : ∀ (n : Nat) (k : Int) (ls : Array Slot) (H : Heap) (locs : List Loc) (hn : a - k < n) (hk2 : 0 ≤ k ∧ k ≤ a) (X : HX G σ s H locs) (hl : lv_has ls 4 [(0, .ref (gY G 36)), (1, .int (I a)), (2, .int (I (bgI r k))), (3, .int (I k))]), W p l e (rmd 1) s m args below meth c H locs 0 0 (MQ below (QI G (fun res9 τ => res9 = (bgI r a) ∧ τ = σ)) args s 0 0 (gA G)) (F0 m 4 ls []) := by
    intro n
    induction n with
    | zero => intro k ls H locs hn hk2 X hl; omega
    | succ n ih4 =>
      intro k ls H locs hn hk2 X hl
      refine r_iload_n F hl 3 rfl rfl dX5_begins_4 ?_
      refine r_iload_n F hl 1 rfl rfl dX5_begins_5 ?_
      refine r_icmp_ge F 26 (by decide) (by omega) (by omega) dX5_begins_6 (fun c1 => ?_) (fun c1 => ?_)
      · skip
        refine r_iload_n F hl 2 rfl rfl dX5_begins_26 ?_
        exact r_iret F X hr hk dX5_begins_27 (⟨by rw [show k = a by omega], rfl⟩)
      · skip
        refine r_iload_n F hl 2 rfl rfl dX5_begins_9 ?_
        refine r_aload_n F hl 0 rfl rfl dX5_begins_10 ?_
        refine r_get F X 36 (by decide) (eK_36 G _) rfl gl_RX5 2 (by decide) rfl gf_RX5_16 rfl dX5_begins_11 ?_
        refine r_iconst F dX5_begins_14 ?_
        refine r_iload_n F hl 3 rfl rfl dX5_begins_15 ?_
        refine r_iadd F dX5_begins_16 ?_
        refine r_iald F X 37 (by decide) (eK_37 G) (by omega) (by decide) dX5_begins_17 ?_
        refine r_eqI (b := r (0 + k)) (by rw [hro]) ?_
        refine r_eqI (b := r k) (by rw [show (0 : Int) + k = k by omega]) ?_
        refine r_iadd F dX5_begins_18 ?_
        refine r_eqI (b := bgI r (k + 1)) ((bgI_succ r (by omega)).symm) ?_
        refine r_istore_n F hl [(2, .int (I (bgI r (k + 1)))), (0, .ref (gY G 36)), (1, .int (I a)), (3, .int (I k))] rfl (by decide) rfl dX5_begins_19 (fun ls hl => ?_)
        refine r_iinc F hl [(3, .int (I (k + 1))), (2, .int (I (bgI r (k + 1)))), (0, .ref (gY G 36)), (1, .int (I a))] 3 rfl (by decide) rfl dX5_begins_20 (fun ls hl => ?_)
        refine r_goto F 4 (by decide) dX5_begins_23 ?_
        exact ih4 (k + 1) _ _ _ (by omega) (by omega) X (lv_sub hl [2, 3, 1, 0] rfl)
  exact loop4 (((a - 0 : Int) + 1).toNat) 0 _ _ _ (by omega) (by omega) X (lv_sub hl [2, 3, 1, 0] rfl)
theorem c_X5_isDwell (l : Launch) (G : GT) (σ : St) (N : Int) (r : Int → Int) (a : Int) (hro : σ 37 = r) (hN : σ 36 1 = N) (hW : WF N r) (ha : 0 ≤ a ∧ a < 12) : Ct l yX5_isDwell cX5_isDwell 2 (some .boolean) 2 G [.ref (gY G 36), .int (I a)] σ (QI G (fun res9 τ => res9 = (if dwl r a = true then 1 else 0) ∧ τ = σ)) := by
  refine mt (own := RX5) (plainFor_of_name rfl) rfl (Nat.le_of_ble_eq_true rfl) ?_
  intro p e s m args below meth c ls F hr hk X hl
  have hl : lv_has ls 2 [(0, .ref (gY G 36)), (1, .int (I a))] := hl
  have hw := hW.num
  have hog := hW.ogr (s := a) (by omega) (by omega)
  have hen := hW.en (i := a) (by omega) (by omega)
  refine r_aload_n F hl 0 rfl rfl dX5_isDwell_0 ?_
  refine r_iload_n F hl 1 rfl rfl dX5_isDwell_1 ?_
  refine d_cVI F X 36 (by decide) (eK_36 G _) rfl (c_X5_comesFrom l G σ N r a hro hN hW (by omega)) gv_RX5_74 rfl nd_X5_comesFrom rfl (rest := []) rfl (Nat.le_of_ble_eq_true rfl) ⟨Nat.le_of_ble_eq_true rfl, Nat.le_of_ble_eq_true rfl⟩ ⟨Nat.zero_le _, Nat.zero_le _⟩ hl.1 dX5_isDwell_2 (fun H locs X => ?_)
  refine r_aload_n F hl 0 rfl rfl dX5_isDwell_5 ?_
  refine r_get F X 36 (by decide) (eK_36 G _) rfl gl_RX5 2 (by decide) rfl gf_RX5_16 rfl dX5_isDwell_6 ?_
  refine r_bipush F (by decide) dX5_isDwell_9 ?_
  refine r_iload_n F hl 1 rfl rfl dX5_isDwell_11 ?_
  refine r_iadd F dX5_isDwell_12 ?_
  refine r_iald F X 37 (by decide) (eK_37 G) (by omega) (by decide) dX5_isDwell_13 ?_
  refine r_eqI (b := r (12 + a)) (by rw [hro]) ?_
  refine r_icmp_ne F 21 (by decide) (by omega) (by omega) dX5_isDwell_14 (fun c1 => ?_) (fun c1 => ?_)
  · skip
    refine r_iconst F dX5_isDwell_21 ?_
    exact r_zret F X hr hk (by omega) dX5_isDwell_22 (⟨by unfold dwl; grind, rfl⟩)
  · skip
    refine r_iconst F dX5_isDwell_17 ?_
    refine r_goto F 22 (by decide) dX5_isDwell_18 ?_
    exact r_zret F X hr hk (by omega) dX5_isDwell_22 (⟨by unfold dwl; grind, rfl⟩)
theorem c_X5_isWhole (l : Launch) (G : GT) (σ : St) (N : Int) (r : Int → Int) (hro : σ 37 = r) (hN : σ 36 1 = N) (hW : WF N r) : Ct l yX5_isWhole cX5_isWhole 2 (some .boolean) 2 G [.ref (gY G 36)] σ (QI G (fun res9 τ => res9 = (if whl N r = true then 1 else 0) ∧ τ = σ)) := by
  refine mt (own := RX5) (plainFor_of_name rfl) rfl (Nat.le_of_ble_eq_true rfl) ?_
  intro p e s m args below meth c ls F hr hk X hl
  have hl : lv_has ls 2 [(0, .ref (gY G 36))] := hl
  have hw := hW.num
  have hbg := hW.bgr (s := r 60) (by omega) (by omega)
  refine r_aload_n F hl 0 rfl rfl dX5_isWhole_0 ?_
  refine r_get F X 36 (by decide) (eK_36 G _) rfl gl_RX5 2 (by decide) rfl gf_RX5_16 rfl dX5_isWhole_1 ?_
  refine r_bipush F (by decide) dX5_isWhole_4 ?_
  refine r_iald F X 37 (by decide) (eK_37 G) (by omega) (by decide) dX5_isWhole_6 ?_
  refine r_eqI (b := r 60) (by rw [hro]) ?_
  refine r_istore_n F hl [(1, .int (I (r 60))), (0, .ref (gY G 36))] rfl (by decide) rfl dX5_isWhole_7 (fun ls hl => ?_)
  refine r_iload_n F hl 0 rfl rfl dX5_isWhole_8 ?_
  refine r_if_le F 49 (by decide) (by omega) dX5_isWhole_9 (fun c1 => ?_) (fun c1 => ?_)
  · skip
    refine r_iconst F dX5_isWhole_49 ?_
    exact r_zret F X hr hk (by omega) dX5_isWhole_50 (⟨by have hq9 := @whl_iff N r; grind, rfl⟩)
  · skip
    have hen := hW.en (i := r 60 - 1) (by omega) (by omega)
    refine r_aload_n F hl 1 rfl rfl dX5_isWhole_12 ?_
    refine r_iload_n F hl 0 rfl rfl dX5_isWhole_13 ?_
    refine d_cVI F X 36 (by decide) (eK_36 G _) rfl (c_X5_begins l G σ N r (r 60) hro hN hW (by omega)) gv_RX5_78 rfl nd_X5_begins rfl (rest := []) rfl (Nat.le_of_ble_eq_true rfl) ⟨Nat.le_of_ble_eq_true rfl, Nat.le_of_ble_eq_true rfl⟩ ⟨Nat.zero_le _, Nat.zero_le _⟩ hl.1 dX5_isWhole_14 (fun H locs X => ?_)
    refine r_aload_n F hl 1 rfl rfl dX5_isWhole_17 ?_
    refine r_get F X 36 (by decide) (eK_36 G _) rfl gl_RX5 1 (by decide) rfl gf_RX5_13 rfl dX5_isWhole_18 ?_
    refine r_eqI (b := N) (hN) ?_
    refine r_icmp_ne F 49 (by decide) (by omega) (by omega) dX5_isWhole_21 (fun c2 => ?_) (fun c2 => ?_)
    · skip
      refine r_iconst F dX5_isWhole_49 ?_
      exact r_zret F X hr hk (by omega) dX5_isWhole_50 (⟨by have hq9 := @whl_iff N r; grind, rfl⟩)
    · skip
      refine r_aload_n F hl 1 rfl rfl dX5_isWhole_24 ?_
      refine r_get F X 36 (by decide) (eK_36 G _) rfl gl_RX5 2 (by decide) rfl gf_RX5_16 rfl dX5_isWhole_25 ?_
      refine r_bipush F (by decide) dX5_isWhole_28 ?_
      refine r_iload_n F hl 0 rfl rfl dX5_isWhole_30 ?_
      refine r_iadd F dX5_isWhole_31 ?_
      refine r_iconst F dX5_isWhole_32 ?_
      refine r_isub F dX5_isWhole_33 ?_
      refine r_iald F X 37 (by decide) (eK_37 G) (by omega) (by decide) dX5_isWhole_34 ?_
      refine r_eqI (b := r ((12 + (r 60)) - 1)) (by rw [hro]) ?_
      refine r_eqI (b := r (12 + (r 60 - 1))) (by congr 1; omega) ?_
      refine r_aload_n F hl 1 rfl rfl dX5_isWhole_35 ?_
      refine r_get F X 36 (by decide) (eK_36 G _) rfl gl_RX5 2 (by decide) rfl gf_RX5_16 rfl dX5_isWhole_36 ?_
      refine r_bipush F (by decide) dX5_isWhole_39 ?_
      refine r_iald F X 37 (by decide) (eK_37 G) (by omega) (by decide) dX5_isWhole_41 ?_
      refine r_eqI (b := r 62) (by rw [hro]) ?_
      refine r_icmp_ne F 49 (by decide) (by omega) (by omega) dX5_isWhole_42 (fun c3 => ?_) (fun c3 => ?_)
      · skip
        refine r_iconst F dX5_isWhole_49 ?_
        exact r_zret F X hr hk (by omega) dX5_isWhole_50 (⟨by have hq9 := @whl_iff N r; grind, rfl⟩)
      · skip
        refine r_iconst F dX5_isWhole_45 ?_
        refine r_goto F 50 (by decide) dX5_isWhole_46 ?_
        exact r_zret F X hr hk (by omega) dX5_isWhole_50 (⟨by have hq9 := @whl_iff N r; grind, rfl⟩)
theorem c_X5_lays (l : Launch) (G : GT) (σ : St) (N : Int) (r : Int → Int) (hro : σ 37 = r) (hN : σ 36 1 = N) (hW : WF N r) (hwh : whl N r = true) : Ct l yX5_lays cX5_lays 10 none 3 G [.ref (gY G 36)] σ (QV G (fun τ => τ = up σ 39 (draI (σ 39) r (rlw r) (r 60)))) := by
  refine mt (own := RX5) (plainFor_of_name rfl) rfl (Nat.le_of_ble_eq_true rfl) ?_
  intro p e s m args below meth c ls F hr hk X hl
  have hl : lv_has ls 10 [(0, .ref (gY G 36))] := hl
  have hw := hW.num
  refine r_iconst F dX5_lays_0 ?_
  refine r_istore_n F hl [(1, .int (I 0)), (0, .ref (gY G 36))] rfl (by decide) rfl dX5_lays_1 (fun ls hl => ?_)
  refine r_iconst F dX5_lays_2 ?_
  refine r_istore_n F hl [(2, .int (I 0)), (1, .int (I 0)), (0, .ref (gY G 36))] rfl (by decide) rfl dX5_lays_3 (fun ls hl => ?_)
  have loop4 : ∀ (n : Nat) (t : Int) (τ : St) (ls : Array Slot) (H : Heap) (locs : List Loc) (hn : r 60 - t < n) (ht : 0 ≤ t ∧ t ≤ r 60) (hτ : τ = up σ 39 (draI (σ 39) r (rlw r) t)) (X : HX G τ s H locs) (hl : lv_has ls 10 [(0, .ref (gY G 36)), (1, .int (I (bgI r t))), (2, .int (I t))]), W p l e (rmd 3) s m args below meth c H locs 0 0 (MQ below (QV G (fun τ => τ = up σ 39 (draI (σ 39) r (rlw r) (r 60)))) args s 0 0 (gA G)) (F0 m 4 ls []) := by
    intro n
    induction n with
    | zero => intro t τ ls H locs hn ht hτ X hl; omega
    | succ n ih4 =>
      intro t τ ls H locs hn ht hτ X hl
      have hrt : τ 37 = r := by rw [hτ, up_ne (by omega)]; exact hro
      have hNt : τ 36 1 = N := by rw [hτ, up_ne (by omega)]; exact hN
      refine r_iload_n F hl 2 rfl rfl dX5_lays_4 ?_
      refine r_aload_n F hl 0 rfl rfl dX5_lays_5 ?_
      refine r_get F X 36 (by decide) (eK_36 G _) rfl gl_RX5 2 (by decide) rfl gf_RX5_16 rfl dX5_lays_6 ?_
      refine r_bipush F (by decide) dX5_lays_9 ?_
      refine r_iald F X 37 (by decide) (eK_37 G) (by omega) (by decide) dX5_lays_11 ?_
      refine r_eqI (b := r 60) (by rw [hrt]) ?_
      refine r_icmp_ge F 133 (by decide) (by omega) (by omega) dX5_lays_12 (fun c1 => ?_) (fun c1 => ?_)
      · skip
        exact r_vret F X hr hk dX5_lays_133 (by rw [hτ, show t = r 60 by omega])
      · skip
        have hbg := whl_bg hW hwh (s := t) (by omega) (by omega)
        have hen := hW.en (i := t) (by omega) (by omega)
        have hog := hW.ogr (s := t) (by omega) (by omega)
        have hla := hW.la (i := t) (by omega) (by omega)
        have hlo := hW.lo (i := t) (by omega) (by omega)
        refine r_aload_n F hl 0 rfl rfl dX5_lays_15 ?_
        refine r_iload_n F hl 2 rfl rfl dX5_lays_16 ?_
        refine d_cVI F X 36 (by decide) (eK_36 G _) rfl (c_X5_comesFrom l G τ N r t hrt hNt hW (by omega)) gv_RX5_74 rfl nd_X5_comesFrom rfl (rest := []) rfl (Nat.le_of_ble_eq_true rfl) ⟨Nat.le_of_ble_eq_true rfl, Nat.le_of_ble_eq_true rfl⟩ ⟨Nat.zero_le _, Nat.zero_le _⟩ hl.1 dX5_lays_17 (fun H locs X => ?_)
        refine r_istore_n F hl [(3, .int (I (og r t))), (0, .ref (gY G 36)), (1, .int (I (bgI r t))), (2, .int (I t))] rfl (by decide) rfl dX5_lays_20 (fun ls hl => ?_)
        refine r_aload_n F hl 1 rfl rfl dX5_lays_21 ?_
        refine r_get F X 36 (by decide) (eK_36 G _) rfl gl_RX5 2 (by decide) rfl gf_RX5_16 rfl dX5_lays_22 ?_
        refine r_bipush F (by decide) dX5_lays_25 ?_
        refine r_iload_n F hl 3 rfl rfl dX5_lays_27 ?_
        refine r_iadd F dX5_lays_28 ?_
        refine r_iald F X 37 (by decide) (eK_37 G) (by omega) (by decide) dX5_lays_29 ?_
        refine r_eqI (b := r (12 + t)) (by rw [hrt]) ?_
        refine r_iload_n F hl 0 rfl rfl dX5_lays_30 ?_
        refine r_isub F dX5_lays_31 ?_
        refine r_i2l F (by omega) dX5_lays_32 ?_
        refine r_lstore F hl [(4, .long (J ((r (12 + t)) - (og r t)))), (3, .int (I (og r t))), (0, .ref (gY G 36)), (1, .int (I (bgI r t))), (2, .int (I t))] (by decide) rfl dX5_lays_33 (fun ls hl => ?_)
        refine r_aload_n F hl 2 rfl rfl dX5_lays_35 ?_
        refine r_get F X 36 (by decide) (eK_36 G _) rfl gl_RX5 2 (by decide) rfl gf_RX5_16 rfl dX5_lays_36 ?_
        refine r_iconst F dX5_lays_39 ?_
        refine r_iload_n F hl 4 rfl rfl dX5_lays_40 ?_
        refine r_iadd F dX5_lays_41 ?_
        refine r_iald F X 37 (by decide) (eK_37 G) (by omega) (by decide) dX5_lays_42 ?_
        refine r_eqI (b := r (0 + t)) (by rw [hrt]) ?_
        refine r_eqI (b := r t) (by rw [show (0 : Int) + t = t by omega]) ?_
        refine r_istore F hl [(6, .int (I (r t))), (4, .long (J ((r (12 + t)) - (og r t)))), (3, .int (I (og r t))), (0, .ref (gY G 36)), (1, .int (I (bgI r t))), (2, .int (I t))] (by decide) rfl dX5_lays_43 (fun ls hl => ?_)
        have hl : lv_has ls 10 [(6, .int (I (r t))), (4, .long (J ((r (12 + t)) - (og r t)))), (3, .int (I (og r t))), (0, .ref (gY G 36)), (1, .int (I (bgI r t + 0))), (2, .int (I t))] := by rw [Int.add_zero]; exact hl
        refine r_iconst F dX5_lays_45 ?_
        refine r_istore F hl [(7, .int (I 0)), (6, .int (I (r t))), (4, .long (J ((r (12 + t)) - (og r t)))), (3, .int (I (og r t))), (0, .ref (gY G 36)), (1, .int (I (bgI r t + 0))), (2, .int (I t))] (by decide) rfl dX5_lays_46 (fun ls hl => ?_)
        have loop48 : ∀ (n : Nat) (k : Int) (τ : St) (ls : Array Slot) (H : Heap) (locs : List Loc) (hn : r t - k < n) (hk2 : 0 ≤ k ∧ k ≤ r t) (hτ : τ = up σ 39 (drk (draI (σ 39) r (rlw r) t) r (r (24 + t)) t k)) (X : HX G τ s H locs) (hl : lv_has ls 10 [(0, .ref (gY G 36)), (1, .int (I (bgI r t + k))), (2, .int (I t)), (3, .int (I (og r t))), (4, .long (J (r (12 + t) - og r t))), (6, .int (I (r t))), (7, .int (I k))]), W p l e (rmd 3) s m args below meth c H locs 0 0 (MQ below (QV G (fun τ => τ = up σ 39 (draI (σ 39) r (rlw r) (r 60)))) args s 0 0 (gA G)) (F0 m 48 ls []) := by
          intro n
          induction n with
          | zero => intro k τ ls H locs hn hk2 hτ X hl; omega
          | succ n ih48 =>
            intro k τ ls H locs hn hk2 hτ X hl
            have hrt : τ 37 = r := by rw [hτ, up_ne (by omega)]; exact hro
            have hNt : τ 36 1 = N := by rw [hτ, up_ne (by omega)]; exact hN
            refine r_iload F hl 6 rfl dX5_lays_48 ?_
            refine r_iload F hl 5 rfl dX5_lays_50 ?_
            refine r_icmp_ge F 127 (by decide) (by omega) (by omega) dX5_lays_52 (fun c2 => ?_) (fun c2 => ?_)
            · skip
              have hl : lv_has ls 10 [(0, .ref (gY G 36)), (1, .int (I (bgI r (t + 1)))), (2, .int (I t)), (3, .int (I (og r t))), (4, .long (J (r (12 + t) - og r t))), (6, .int (I (r t))), (7, .int (I k))] := by rw [show bgI r t + k = bgI r (t + 1) by rw [bgI_succ r ht.1]; omega] at hl; exact hl
              refine r_iinc F hl [(2, .int (I (t + 1))), (0, .ref (gY G 36)), (1, .int (I (bgI r (t + 1)))), (3, .int (I (og r t))), (4, .long (J (r (12 + t) - og r t))), (6, .int (I (r t))), (7, .int (I k))] 2 rfl (by decide) rfl dX5_lays_127 (fun ls hl => ?_)
              refine r_goto F 4 (by decide) dX5_lays_130 ?_
              exact ih4 (t + 1) τ _ _ _ (by omega) (by omega) (by rw [hτ, draI_succ _ _ _ ht.1, show k = r t by omega]; rfl) X (lv_sub hl [1, 2, 0] rfl)
            · skip
              have hnd := nude (r (24 + t)) k (r t) hla.1 hla.2 (by omega) (by omega) (by omega)
              have hm9 := mrg (a := r (12 + t) - og r t) (b := nu (r (24 + t)) k (r t)) (A := 999) (B := 2799360000000) (by omega) (by omega)
              refine r_aload_n F hl 0 rfl rfl dX5_lays_55 ?_
              refine r_get F X 36 (by decide) (eK_36 G _) rfl gl_RX5 2 (by decide) rfl gf_RX5_16 rfl dX5_lays_56 ?_
              refine r_bipush F (by decide) dX5_lays_59 ?_
              refine r_iload_n F hl 2 rfl rfl dX5_lays_61 ?_
              refine r_iadd F dX5_lays_62 ?_
              refine r_iald F X 37 (by decide) (eK_37 G) (by omega) (by decide) dX5_lays_63 ?_
              refine r_eqI (b := r (24 + t)) (by rw [hrt]) ?_
              refine r_iload F hl 5 rfl dX5_lays_64 ?_
              refine r_i2l F (by omega) dX5_lays_66 ?_
              refine d_cSJ F X (c_X5_below l G τ (r (24 + t)) (r t) (by omega)) gv_RX5_102 nd_X5_below rfl (rest := []) rfl (Nat.le_of_ble_eq_true rfl) ⟨Nat.le_of_ble_eq_true rfl, Nat.le_of_ble_eq_true rfl⟩ ⟨Nat.zero_le _, Nat.zero_le _⟩ hl.1 dX5_lays_67 (fun H locs X => ?_)
              refine r_lstore F hl [(8, .long (J (de (r (24 + t)) (r t)))), (0, .ref (gY G 36)), (1, .int (I (bgI r t + k))), (2, .int (I t)), (3, .int (I (og r t))), (4, .long (J (r (12 + t) - og r t))), (6, .int (I (r t))), (7, .int (I k))] (by decide) rfl dX5_lays_70 (fun ls hl => ?_)
              refine r_aload_n F hl 1 rfl rfl dX5_lays_72 ?_
              refine r_get F X 36 (by decide) (eK_36 G _) rfl gl_RX5 5 (by decide) rfl gf_RX5_23 rfl dX5_lays_73 ?_
              refine r_iload_n F hl 2 rfl rfl dX5_lays_76 ?_
              refine r_iload_n F hl 4 rfl rfl dX5_lays_77 ?_
              refine r_ldc2 F 2 gk_RX5_84 (by decide +kernel) dX5_lays_78 ?_
              refine r_lload F hl 5 rfl dX5_lays_81 ?_
              refine r_lmul F dX5_lays_83 ?_
              refine r_aload_n F hl 1 rfl rfl dX5_lays_84 ?_
              refine r_get F X 36 (by decide) (eK_36 G _) rfl gl_RX5 2 (by decide) rfl gf_RX5_16 rfl dX5_lays_85 ?_
              refine r_bipush F (by decide) dX5_lays_88 ?_
              refine r_iload_n F hl 3 rfl rfl dX5_lays_90 ?_
              refine r_iadd F dX5_lays_91 ?_
              refine r_iald F X 37 (by decide) (eK_37 G) (by omega) (by decide) dX5_lays_92 ?_
              refine r_eqI (b := r (24 + t)) (by rw [hrt]) ?_
              refine r_iload F hl 7 rfl dX5_lays_93 ?_
              refine r_i2l F (by omega) dX5_lays_95 ?_
              refine r_iload F hl 6 rfl dX5_lays_96 ?_
              refine r_i2l F (by omega) dX5_lays_98 ?_
              refine d_cSJ F X (c_X5_above l G τ (r (24 + t)) k (r t) (by omega) (by omega)) gv_RX5_106 nd_X5_above rfl (rest := [.long (J (2 * (r (12 + t) - og r t))), .int (I (og r t)), .int (I (bgI r t + k)), .ref (gY G 39)]) rfl (Nat.le_of_ble_eq_true rfl) ⟨Nat.le_of_ble_eq_true rfl, Nat.le_of_ble_eq_true rfl⟩ ⟨Nat.zero_le _, Nat.zero_le _⟩ hl.1 dX5_lays_99 (fun H locs X => ?_)
              refine r_lmul F dX5_lays_102 ?_
              refine r_lload F hl 0 rfl dX5_lays_103 ?_
              refine r_ladd F dX5_lays_105 ?_
              refine r_ldc2 F 2 gk_RX5_84 (by decide +kernel) dX5_lays_106 ?_
              refine r_lload F hl 0 rfl dX5_lays_109 ?_
              refine r_lmul F dX5_lays_111 ?_
              refine d_cSJ F X (c_X5_cut l G τ (((2 * (r (12 + t) - og r t)) * (nu (r (24 + t)) k (r t))) + (de (r (24 + t)) (r t))) (2 * (de (r (24 + t)) (r t))) (by grind) (by grind)) gv_RX5_110 nd_X5_cut rfl (rest := [.int (I (og r t)), .int (I (bgI r t + k)), .ref (gY G 39)]) rfl (Nat.le_of_ble_eq_true rfl) ⟨Nat.le_of_ble_eq_true rfl, Nat.le_of_ble_eq_true rfl⟩ ⟨Nat.zero_le _, Nat.zero_le _⟩ hl.1 dX5_lays_112 (fun H locs X => ?_)
              refine r_l2i F dX5_lays_115 ?_
              refine r_iadd F dX5_lays_116 ?_
              refine r_eqI (b := og r t + rise (r (24 + t)) (r (12 + t) - og r t) k (r t)) (rfl) ?_
              refine r_iast F X 39 (by decide) (eK_39 G) (by omega) (by decide) dX5_lays_117 (fun H locs X => ?_)
              obtain ⟨σ1, eσ1⟩ : ∃ x9 : St, x9 = up τ 39 (upI (τ 39) (bgI r t + k) (og r t + rise (r (24 + t)) (r (12 + t) - og r t) k (r t))) := ⟨_, rfl⟩
              rw [← eσ1] at X
              have hrσ1 : σ1 37 = r := by rw [eσ1, up_ne (by omega)]; exact hrt
              have hNσ1 : σ1 36 1 = N := by rw [eσ1, up_ne (by omega)]; exact hNt
              refine r_iinc F hl [(1, .int (I ((bgI r t + k) + 1))), (8, .long (J (de (r (24 + t)) (r t)))), (0, .ref (gY G 36)), (2, .int (I t)), (3, .int (I (og r t))), (4, .long (J (r (12 + t) - og r t))), (6, .int (I (r t))), (7, .int (I k))] 2 rfl (by decide) rfl dX5_lays_118 (fun ls hl => ?_)
              have hl : lv_has ls 10 [(1, .int (I (bgI r t + (k + 1)))), (8, .long (J (de (r (24 + t)) (r t)))), (0, .ref (gY G 36)), (2, .int (I t)), (3, .int (I (og r t))), (4, .long (J (r (12 + t) - og r t))), (6, .int (I (r t))), (7, .int (I k))] := by rw [show bgI r t + k + 1 = bgI r t + (k + 1) by omega] at hl; exact hl
              refine r_iinc F hl [(7, .int (I (k + 1))), (1, .int (I (bgI r t + (k + 1)))), (8, .long (J (de (r (24 + t)) (r t)))), (0, .ref (gY G 36)), (2, .int (I t)), (3, .int (I (og r t))), (4, .long (J (r (12 + t) - og r t))), (6, .int (I (r t)))] 7 rfl (by decide) rfl dX5_lays_121 (fun ls hl => ?_)
              refine r_goto F 48 (by decide) dX5_lays_124 ?_
              exact ih48 (k + 1) σ1 _ _ _ (by omega) (by omega) (by rw [eσ1, hτ, up_eq, up_up, drk_succ _ _ _ _ hk2.1]) X (lv_sub hl [3, 1, 4, 5, 6, 7, 0] rfl)
        exact loop48 (((r t - 0 : Int) + 1).toNat) 0 τ _ _ _ (by omega) (by omega) (by rw [hτ, drk_0]) X (lv_sub hl [4, 5, 6, 3, 2, 1, 0] rfl)
  exact loop4 (((r 60 - 0 : Int) + 1).toNat) 0 σ _ _ _ (by omega) (by omega) (by exact (up_self _ _).symm) X (lv_sub hl [2, 1, 0] rfl)
