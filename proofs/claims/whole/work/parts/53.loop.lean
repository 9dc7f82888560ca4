theorem law_loop (l : Launch) (hst9 : l.stackTraces = false) {p : Program} {e : Env} {s : State} {m : MethodId} {below : List Frame} {meth : Method} {c : Code} {G : GT} {b L : Nat} {xs : Nat → Int32} (F : FX G p m c code 8 s #[Value.ref b] RL) (hTX : TX G s s.heap) (hS : SX G b L xs s) (hrt : meth.sig.returnType = ret) (hk : meth.locks = false) (hgB : s.heap.size ≤ gB G) :
    ∀ (n : Nat) (j : Nat) (i : Int) (ls : Array Slot) (σ : St) (H : Heap) (locs : List Loc), i = 4 * (j : Int) → i ≤ (L : Int) → (L : Int) - i < 4 * (n : Int) → IN2 σ → HX G σ s H locs → lv_has ls 8 (LL G b i) → W p l e room_1 s m #[Value.ref b] below meth c H locs (100 + j) (7000 + 6 * j) (lw_Z below #[Value.ref b] s) (F0 m 23 ls []) := by
  have hL9 := hS.2.2.2
  intro n
  induction n with
  | zero => intro j i ls σ H locs hj hi hn hI X hl; omega
  | succ n ih =>
    intro j i ls σ H locs hj hi hn hI X hl
    refine r_iload F hl 4 rfl dL_law_23 ?_
    refine r_aload_n F hl 0 rfl rfl dL_law_25 ?_
    refine r_slen F X hS dL_law_26 ?_
    refine r_iconst F dL_law_27 ?_
    refine r_isub F dL_law_28 ?_
    refine r_icmp_gt F 1151 (by decide) (by omega) (by omega) dL_law_29 (fun c1 => ?_) (fun c1 => ?_)
    · refine r_iconst F dL_law_1151 ?_
      rw [show I 1 = 1 by decide +kernel]
      exact W.widen (k := 601024) (n := 7293034) (by omega) (by omega) (va_forget (fun q hq => Nat.le_trans hgB (X.2.2.2 q hq)) (lw_ret F.1.1 F.1.2.1 hrt hk dL_law_1152))
    · have kk : ∀ (ls : Array Slot) (σ : St) (H : Heap) (locs : List Loc), IN2 σ → HX G σ s H locs → lv_has ls 8 (LL G b i) → W p l e room_1 s m #[Value.ref b] below meth c H locs (100 + j + 1) (7000 + 6 * j + 6) (lw_Z below #[Value.ref b] s) (F0 m 1145 ls []) := by
        intro ls σ H locs hI X hl
        refine r_iinc F hl [(4, .int (I (i + 4))), (0, .ref b), (1, .ref (gY G 0)), (2, .ref (gY G 36)), (3, .ref (gY G 42))] 4 rfl (by decide) rfl dL_law_1145 (fun ls hl => ?_)
        refine r_goto F 23 (by decide) dL_law_1148 ?_
        have h9 := ih (j + 1) (i + 4) ls σ H locs (by omega) (by omega) (by omega) hI X (lv_sub hl [1, 2, 3, 4, 0] rfl)
        rw [show 7000 + 6 * (j + 1) = 7000 + 6 * j + 6 by omega] at h9
        exact h9
      refine r_aload_n F hl 0 rfl rfl dL_law_32 ?_
      refine r_iload F hl 4 rfl dL_law_33 ?_
      refine r_slda F X hS (by omega) dL_law_35 ?_
      refine r_bipush F (by decide) dL_law_36 ?_
      refine lv_iand F.1.1 F.1.2.1 dL_law_38 ?_
      generalize (I (sc xs i) &&& I 31 : Int32) = z9
      rw [I_of z9]
      have hr9 := I_rg z9
      generalize z9.toInt = v at hr9 ⊢
      rcases (show v = 0 ∨ v = 1 ∨ v = 2 ∨ v = 3 ∨ v = 4 ∨ v = 5 ∨ v = 6 ∨ v = 7 ∨ v = 8 ∨ v = 9 ∨ v = 10 ∨ v = 11 ∨ v = 12 ∨ v = 13 ∨ v = 14 ∨ v = 15 ∨ v = 16 ∨ v = 17 ∨ v = 18 ∨ v = 19 ∨ v = 20 ∨ v = 21 ∨ v = 22 ∨ v = 23 ∨ v = 24 ∨ v = 25 ∨ v = 26 ∨ v = 27 ∨ v = 28 ∨ v = 29 ∨ (v < 0 ∨ 29 < v) by omega) with q | q | q | q | q | q | q | q | q | q | q | q | q | q | q | q | q | q | q | q | q | q | q | q | q | q | q | q | q | q | q
      · exact r_tabIn F 0 172 q (by decide) (by decide) (by decide) rfl (by decide) dL_law_39 (law_steps l hst9 F hTX hS hI X hl (by omega) (by omega) (by omega) kk)
      · exact r_tabIn F 1 197 q (by decide) (by decide) (by decide) rfl (by decide) dL_law_39 (law_segment l hst9 F hTX hS hI X hl (by omega) (by omega) (by omega) kk)
      · exact r_tabIn F 2 246 q (by decide) (by decide) (by decide) rfl (by decide) dL_law_39 (law_alter l hst9 F hTX hS hI X hl (by omega) (by omega) (by omega) kk)
      · exact r_tabIn F 3 295 q (by decide) (by decide) (by decide) rfl (by decide) dL_law_39 (law_drop l hst9 F hTX hS hI X hl (by omega) (by omega) (by omega) kk)
      · exact r_tabIn F 4 308 q (by decide) (by decide) (by decide) rfl (by decide) dL_law_39 (law_start l hst9 F hTX hS hI X hl (by omega) (by omega) (by omega) kk)
      · exact r_tabIn F 5 333 q (by decide) (by decide) (by decide) rfl (by decide) dL_law_39 (law_base l hst9 F hTX hS hI X hl (by omega) (by omega) (by omega) kk)
      · exact r_tabIn F 6 358 q (by decide) (by decide) (by decide) rfl (by decide) dL_law_39 (law_roller l hst9 F hTX hS hI X hl (by omega) (by omega) (by omega) kk)
      · exact r_tabIn F 7 383 q (by decide) (by decide) (by decide) rfl (by decide) dL_law_39 (law_spring l hst9 F hTX hS hI X hl (by omega) (by omega) (by omega) kk)
      · exact r_tabIn F 8 432 q (by decide) (by decide) (by decide) rfl (by decide) dL_law_39 (law_speed l hst9 F hTX hS hI X hl (by omega) (by omega) (by omega) kk)
      · exact r_tabIn F 9 457 q (by decide) (by decide) (by decide) rfl (by decide) dL_law_39 (law_steepest l hst9 F hTX hS hI X hl (by omega) (by omega) (by omega) kk)
      · exact r_tabIn F 10 482 q (by decide) (by decide) (by decide) rfl (by decide) dL_law_39 (law_slack l hst9 F hTX hS hI X hl (by omega) (by omega) (by omega) kk)
      · exact r_tabIn F 11 507 q (by decide) (by decide) (by decide) rfl (by decide) dL_law_39 (law_mark l hst9 F hTX hS hI X hl (by omega) (by omega) (by omega) kk)
      · exact r_tabIn F 12 556 q (by decide) (by decide) (by decide) rfl (by decide) dL_law_39 (law_unmark l hst9 F hTX hS hI X hl (by omega) (by omega) (by omega) kk)
      · exact r_tabIn F 13 581 q (by decide) (by decide) (by decide) rfl (by decide) dL_law_39 (law_back l hst9 F hTX hS hI X hl (by omega) (by omega) (by omega) kk)
      · exact r_tabIn F 14 594 q (by decide) (by decide) (by decide) rfl (by decide) dL_law_39 (law_of l hst9 F hTX hS hI X hl (by omega) (by omega) (by omega) kk)
      · exact r_tabIn F 15 631 q (by decide) (by decide) (by decide) rfl (by decide) dL_law_39 (law_lift l hst9 F hTX hS hI X hl (by omega) (by omega) (by omega) kk)
      · exact r_tabIn F 16 656 q (by decide) (by decide) (by decide) rfl (by decide) dL_law_39 (law_diff l hst9 F hTX hS hI X hl (by omega) (by omega) (by omega) kk)
      · exact r_tabIn F 17 724 q (by decide) (by decide) (by decide) rfl (by decide) dL_law_39 (law_most l hst9 F hTX hS hI X hl (by omega) (by omega) (by omega) kk)
      · exact r_tabIn F 18 761 q (by decide) (by decide) (by decide) rfl (by decide) dL_law_39 (law_border l hst9 F hTX hS hI X hl (by omega) (by omega) (by omega) kk)
      · exact r_tabIn F 19 786 q (by decide) (by decide) (by decide) rfl (by decide) dL_law_39 (law_shape l hst9 F hTX hS hI X hl (by omega) (by omega) (by omega) kk)
      · exact r_tabIn F 20 853 q (by decide) (by decide) (by decide) rfl (by decide) dL_law_39 (law_undercut l hst9 F hTX hS hI X hl (by omega) (by omega) (by omega) kk)
      · exact r_tabIn F 21 878 q (by decide) (by decide) (by decide) rfl (by decide) dL_law_39 (law_press l hst9 F hTX hS hI X hl (by omega) (by omega) (by omega) kk)
      · exact r_tabIn F 22 903 q (by decide) (by decide) (by decide) rfl (by decide) dL_law_39 (law_force l hst9 F hTX hS hI X hl (by omega) (by omega) (by omega) kk)
      · exact r_tabIn F 23 958 q (by decide) (by decide) (by decide) rfl (by decide) dL_law_39 (law_bad l hst9 F hTX hS hI X hl (by omega) (by omega) (by omega) kk)
      · exact r_tabIn F 24 995 q (by decide) (by decide) (by decide) rfl (by decide) dL_law_39 (law_top l hst9 F hTX hS hI X hl (by omega) (by omega) (by omega) kk)
      · exact r_tabIn F 25 1020 q (by decide) (by decide) (by decide) rfl (by decide) dL_law_39 (law_met l hst9 F hTX hS hI X hl (by omega) (by omega) (by omega) kk)
      · exact r_tabIn F 26 1033 q (by decide) (by decide) (by decide) rfl (by decide) dL_law_39 (law_marked l hst9 F hTX hS hI X hl (by omega) (by omega) (by omega) kk)
      · exact r_tabIn F 27 1070 q (by decide) (by decide) (by decide) rfl (by decide) dL_law_39 (law_best l hst9 F hTX hS hI X hl (by omega) (by omega) (by omega) kk)
      · exact r_tabIn F 28 1095 q (by decide) (by decide) (by decide) rfl (by decide) dL_law_39 (law_limit l hst9 F hTX hS hI X hl (by omega) (by omega) (by omega) kk)
      · exact r_tabIn F 29 1120 q (by decide) (by decide) (by decide) rfl (by decide) dL_law_39 (law_count l hst9 F hTX hS hI X hl (by omega) (by omega) (by omega) kk)
      · exact r_tabOut F 1145 (by omega) q (by decide) dL_law_39 (W.widen (Nat.le_succ _) (Nat.le_add_right _ 6) (kk ls _ _ _ hI X hl))
