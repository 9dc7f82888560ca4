theorem aoa_spec {s : State} (h : va_AOA .long s) : ∃ (c : ClassId) (k : Class) (comp : ClassId), s.vm.findClass ("[" ++ (FieldType.array .long).toString) = some c ∧ s.vm.classes[c]? = some k ∧ k.kind = .array comp (.array .long) := by
  unfold va_AOA at h
  simp only [Cond.before, Cond.holds, Cond.value] at h
  cases hc : s.vm.findClass (FieldType.array .long).toString with
  | none => simp [hc] at h
  | some comp =>
    simp only [hc, Option.bind_some] at h
    obtain ⟨c, -, h2⟩ := Option.bind_eq_some_iff.mp (eq_of_beq h)
    obtain ⟨k, hk, hb⟩ := Option.map_eq_some_iff.mp h2
    cases hkd : k.kind with
    | array co ty =>
      rw [hkd] at hb
      simp at hb
      exact ⟨c, k, co, hb.2, hk, by rw [hkd, hb.1]⟩
    | _ =>
      rw [hkd] at hb
      simp at hb
theorem arr_of {s : State} {ty : FieldType} {c comp : ClassId} {k : Class} (h2 : s.vm.classes[c]? = some k) (h3 : k.kind = .array comp ty) : ArrOfT s c ty := fun n z => ⟨fun k h => (by cases h), k, h2, comp, h3⟩
/-- the first state: class and reference as their constructors leave them -/
def s0 : St := fun k => if k = 2 then pl0 else if k = 36 then upI (fun _ => 0) 1 24 else if k = 37 then row0 else fun _ => 0
theorem pl0_hi {i : Int} (h : 12 ≤ i) : pl0 i = 0 := by unfold pl0 cpyI; rw [if_neg (by omega)]
theorem row0_lo {i : Int} (h : i < 63 ∨ 70 < i) : row0 i = 0 := by
  unfold row0
  rw [upI_ne (by omega), upI_ne (by omega), upI_ne (by omega), upI_ne (by omega), upI_ne (by omega), upI_ne (by omega), upI_ne (by omega), upI_ne (by omega)]
theorem row0_wf : WF 24 row0 := by
  refine ⟨by decide +kernel, fun i a b => ?_, fun i a b => ?_, fun i a b => ?_, fun i a b => ?_, fun i a b => ?_, fun i a b => ?_, fun i a b => ?_, fun i a b => ?_⟩
  · rw [row0_lo (by omega)]; omega
  · rw [row0_lo (by omega)] at b; omega
  · rw [row0_lo (by omega)]; omega
  · rw [row0_lo (by omega)]; omega
  · rw [row0_lo (by omega)]; omega
  · rw [row0_lo (by omega)] at b; omega
  · rw [row0_lo (by omega)]; omega
  · rw [row0_lo (by omega)]; omega
theorem row0_pl : PLf pl0 24 row0 := by
  refine ⟨by decide +kernel, fun k a b => ?_, fun i a b => ?_, fun i a b => ?_⟩
  · rcases (show k = 2 ∨ k = 3 ∨ k = 4 ∨ k = 5 ∨ k = 6 ∨ k = 7 ∨ k = 8 ∨ k = 9 ∨ k = 10 by omega) with h | h | h | h | h | h | h | h | h <;> subst h <;> decide +kernel
  · rw [pl0_hi (by omega), pl0_hi (by omega), pl0_hi (by omega), row0_lo (by omega), row0_lo (by omega), row0_lo (by omega)]; exact ⟨rfl, rfl, rfl⟩
  · rw [pl0_hi (by omega), pl0_hi (by omega), pl0_hi (by omega), row0_lo (by omega), row0_lo (by omega), row0_lo (by omega)]; exact ⟨rfl, rfl, rfl⟩
theorem s0_IN : IN2 s0 := by
  refine ⟨24, row0, 0, fun _ _ => 0, ⟨row0_pl, row0_wf, ⟨rfl, by omega, by omega, by decide +kernel, by decide +kernel, fun j a b => by omega⟩, Or.inl rfl, Or.inl rfl⟩, rfl, rfl, rfl, by omega, ⟨by decide +kernel, by decide +kernel, Or.inl rfl⟩, fun j a b => by omega⟩
def mkG (D : va_G) (c : ClassId × ClassId × ClassId × ClassId) (Y : Nat → Nat) (B : Nat) (T : Nat → Nat) : GT := (D, c, Y, B, T)
theorem st_0 {s : State} {b : Nat} (hgv : (Jvm.Cond.and given_1 narrow_1).before #[Value.ref b] s = true) (hts : ∀ w ∈ lw_tbl, w.before #[Value.ref b] s = true) : ∃ t : Nat, va_Z "CamMaker" (sN 0) "[I" (.ref t) (fun q : Nat => s.heap.size ≤ q) s s.heap ∧ va_T .int t (sR 0).1 (sR 0).2 (fun q : Nat => s.heap.size ≤ q) s s.heap := by
  have hs := flat_of_before _ hgv
  have hA : ∀ a : Nat, a < s.heap.size → ¬ s.heap.size ≤ a := fun a h => Nat.not_le.mpr h
  have e0 : (Term.elem (.static "CamMaker" "AT_FIRST" "[I") (.int (Int32.ofNat 0))).eval #[Value.ref b] s none [] s = some (.int (I (stv 0 ((0 : Nat) : Int)))) := by
    rw [show I (stv 0 ((0 : Nat) : Int)) = (24 : Int32) by decide +kernel]
    exact va_eqt (hs (Cond.eq (.elem (.static "CamMaker" "AT_FIRST" "[I") (.int 0)) (.int 24)) (by decide +kernel))
  have e1 : (Term.elem (.static "CamMaker" "AT_FIRST" "[I") (.int (Int32.ofNat 1))).eval #[Value.ref b] s none [] s = some (.int (I (stv 0 ((1 : Nat) : Int)))) := by
    rw [show I (stv 0 ((1 : Nat) : Int)) = (0 : Int32) by decide +kernel]
    exact va_eqt (hs (Cond.eq (.elem (.static "CamMaker" "AT_FIRST" "[I") (.int 1)) (.int 0)) (by decide +kernel))
  have e2 : (Term.elem (.static "CamMaker" "AT_FIRST" "[I") (.int (Int32.ofNat 2))).eval #[Value.ref b] s none [] s = some (.int (I (stv 0 ((2 : Nat) : Int)))) := by
    rw [show I (stv 0 ((2 : Nat) : Int)) = (0 : Int32) by decide +kernel]
    exact va_eqt (hs (Cond.eq (.elem (.static "CamMaker" "AT_FIRST" "[I") (.int 2)) (.int 0)) (by decide +kernel))
  have e3 : (Term.elem (.static "CamMaker" "AT_FIRST" "[I") (.int (Int32.ofNat 3))).eval #[Value.ref b] s none [] s = some (.int (I (stv 0 ((3 : Nat) : Int)))) := by
    rw [show I (stv 0 ((3 : Nat) : Int)) = (400 : Int32) by decide +kernel]
    exact va_eqt (hs (Cond.eq (.elem (.static "CamMaker" "AT_FIRST" "[I") (.int 3)) (.int 400)) (by decide +kernel))
  have e4 : (Term.elem (.static "CamMaker" "AT_FIRST" "[I") (.int (Int32.ofNat 4))).eval #[Value.ref b] s none [] s = some (.int (I (stv 0 ((4 : Nat) : Int)))) := by
    rw [show I (stv 0 ((4 : Nat) : Int)) = (100 : Int32) by decide +kernel]
    exact va_eqt (hs (Cond.eq (.elem (.static "CamMaker" "AT_FIRST" "[I") (.int 4)) (.int 100)) (by decide +kernel))
  have e5 : (Term.elem (.static "CamMaker" "AT_FIRST" "[I") (.int (Int32.ofNat 5))).eval #[Value.ref b] s none [] s = some (.int (I (stv 0 ((5 : Nat) : Int)))) := by
    rw [show I (stv 0 ((5 : Nat) : Int)) = (1000 : Int32) by decide +kernel]
    exact va_eqt (hs (Cond.eq (.elem (.static "CamMaker" "AT_FIRST" "[I") (.int 5)) (.int 1000)) (by decide +kernel))
  have e6 : (Term.elem (.static "CamMaker" "AT_FIRST" "[I") (.int (Int32.ofNat 6))).eval #[Value.ref b] s none [] s = some (.int (I (stv 0 ((6 : Nat) : Int)))) := by
    rw [show I (stv 0 ((6 : Nat) : Int)) = (10 : Int32) by decide +kernel]
    exact va_eqt (hs (Cond.eq (.elem (.static "CamMaker" "AT_FIRST" "[I") (.int 6)) (.int 10)) (by decide +kernel))
  have e7 : (Term.elem (.static "CamMaker" "AT_FIRST" "[I") (.int (Int32.ofNat 7))).eval #[Value.ref b] s none [] s = some (.int (I (stv 0 ((7 : Nat) : Int)))) := by
    rw [show I (stv 0 ((7 : Nat) : Int)) = (10 : Int32) by decide +kernel]
    exact va_eqt (hs (Cond.eq (.elem (.static "CamMaker" "AT_FIRST" "[I") (.int 7)) (.int 10)) (by decide +kernel))
  have e8 : (Term.elem (.static "CamMaker" "AT_FIRST" "[I") (.int (Int32.ofNat 8))).eval #[Value.ref b] s none [] s = some (.int (I (stv 0 ((8 : Nat) : Int)))) := by
    rw [show I (stv 0 ((8 : Nat) : Int)) = (100 : Int32) by decide +kernel]
    exact va_eqt (hs (Cond.eq (.elem (.static "CamMaker" "AT_FIRST" "[I") (.int 8)) (.int 100)) (by decide +kernel))
  have e9 : (Term.elem (.static "CamMaker" "AT_FIRST" "[I") (.int (Int32.ofNat 9))).eval #[Value.ref b] s none [] s = some (.int (I (stv 0 ((9 : Nat) : Int)))) := by
    rw [show I (stv 0 ((9 : Nat) : Int)) = (577 : Int32) by decide +kernel]
    exact va_eqt (hs (Cond.eq (.elem (.static "CamMaker" "AT_FIRST" "[I") (.int 9)) (.int 577)) (by decide +kernel))
  have e10 : (Term.elem (.static "CamMaker" "AT_FIRST" "[I") (.int (Int32.ofNat 10))).eval #[Value.ref b] s none [] s = some (.int (I (stv 0 ((10 : Nat) : Int)))) := by
    rw [show I (stv 0 ((10 : Nat) : Int)) = (1 : Int32) by decide +kernel]
    exact va_eqt (hs (Cond.eq (.elem (.static "CamMaker" "AT_FIRST" "[I") (.int 10)) (.int 1)) (by decide +kernel))
  have e11 : (Term.elem (.static "CamMaker" "AT_FIRST" "[I") (.int (Int32.ofNat 11))).eval #[Value.ref b] s none [] s = some (.int (I (stv 0 ((11 : Nat) : Int)))) := by
    rw [show I (stv 0 ((11 : Nat) : Int)) = (0 : Int32) by decide +kernel]
    exact va_eqt (hs (Cond.eq (.elem (.static "CamMaker" "AT_FIRST" "[I") (.int 11)) (.int 0)) (by decide +kernel))
  obtain ⟨t, ht, hT⟩ := va_Tof (tm := (.static "CamMaker" "AT_FIRST" "[I")) (ty := .int) (N := 12) (f := (sR 0).2) (A := fun q : Nat => s.heap.size ≤ q) (by decide) (hs (Cond.arrayOf (.static "CamMaker" "AT_FIRST" "[I") .int) (by decide +kernel)) (va_eqt (hs (Cond.eq (.length (.static "CamMaker" "AT_FIRST" "[I")) (.int 12)) (by decide +kernel))) (fun j hj => by
    rcases (show j = 0 ∨ j = 1 ∨ j = 2 ∨ j = 3 ∨ j = 4 ∨ j = 5 ∨ j = 6 ∨ j = 7 ∨ j = 8 ∨ j = 9 ∨ j = 10 ∨ j = 11 by omega) with rfl | rfl | rfl | rfl | rfl | rfl | rfl | rfl | rfl | rfl | rfl | rfl
    · exact e0
    · exact e1
    · exact e2
    · exact e3
    · exact e4
    · exact e5
    · exact e6
    · exact e7
    · exact e8
    · exact e9
    · exact e10
    · exact e11) hA
  exact ⟨t, va_Zof (hts _ (List.mem_of_getElem? (i := 78) (by decide +kernel))) (hts _ (List.mem_of_getElem? (i := 51) (by decide +kernel))) ht hA, hT⟩
theorem st_1 {s : State} {b : Nat} (hgv : (Jvm.Cond.and given_1 narrow_1).before #[Value.ref b] s = true) (hts : ∀ w ∈ lw_tbl, w.before #[Value.ref b] s = true) : ∃ t : Nat, va_Z "CamMaker" (sN 1) "[I" (.ref t) (fun q : Nat => s.heap.size ≤ q) s s.heap ∧ va_T .int t (sR 1).1 (sR 1).2 (fun q : Nat => s.heap.size ≤ q) s s.heap := by
  have hs := flat_of_before _ hgv
  have hA : ∀ a : Nat, a < s.heap.size → ¬ s.heap.size ≤ a := fun a h => Nat.not_le.mpr h
  have e0 : (Term.elem (.static "CamMaker" "LEAST" "[I") (.int (Int32.ofNat 0))).eval #[Value.ref b] s none [] s = some (.int (I (stv 1 ((0 : Nat) : Int)))) := by
    rw [show I (stv 1 ((0 : Nat) : Int)) = (24 : Int32) by decide +kernel]
    exact va_eqt (hs (Cond.eq (.elem (.static "CamMaker" "LEAST" "[I") (.int 0)) (.int 24)) (by decide +kernel))
  have e1 : (Term.elem (.static "CamMaker" "LEAST" "[I") (.int (Int32.ofNat 1))).eval #[Value.ref b] s none [] s = some (.int (I (stv 1 ((1 : Nat) : Int)))) := by
    rw [show I (stv 1 ((1 : Nat) : Int)) = (0 : Int32) by decide +kernel]
    exact va_eqt (hs (Cond.eq (.elem (.static "CamMaker" "LEAST" "[I") (.int 1)) (.int 0)) (by decide +kernel))
  have e2 : (Term.elem (.static "CamMaker" "LEAST" "[I") (.int (Int32.ofNat 2))).eval #[Value.ref b] s none [] s = some (.int (I (stv 1 ((2 : Nat) : Int)))) := by
    rw [show I (stv 1 ((2 : Nat) : Int)) = (0 : Int32) by decide +kernel]
    exact va_eqt (hs (Cond.eq (.elem (.static "CamMaker" "LEAST" "[I") (.int 2)) (.int 0)) (by decide +kernel))
  have e3 : (Term.elem (.static "CamMaker" "LEAST" "[I") (.int (Int32.ofNat 3))).eval #[Value.ref b] s none [] s = some (.int (I (stv 1 ((3 : Nat) : Int)))) := by
    rw [show I (stv 1 ((3 : Nat) : Int)) = (10 : Int32) by decide +kernel]
    exact va_eqt (hs (Cond.eq (.elem (.static "CamMaker" "LEAST" "[I") (.int 3)) (.int 10)) (by decide +kernel))
  have e4 : (Term.elem (.static "CamMaker" "LEAST" "[I") (.int (Int32.ofNat 4))).eval #[Value.ref b] s none [] s = some (.int (I (stv 1 ((4 : Nat) : Int)))) := by
    rw [show I (stv 1 ((4 : Nat) : Int)) = (1 : Int32) by decide +kernel]
    exact va_eqt (hs (Cond.eq (.elem (.static "CamMaker" "LEAST" "[I") (.int 4)) (.int 1)) (by decide +kernel))
  have e5 : (Term.elem (.static "CamMaker" "LEAST" "[I") (.int (Int32.ofNat 5))).eval #[Value.ref b] s none [] s = some (.int (I (stv 1 ((5 : Nat) : Int)))) := by
    rw [show I (stv 1 ((5 : Nat) : Int)) = (0 : Int32) by decide +kernel]
    exact va_eqt (hs (Cond.eq (.elem (.static "CamMaker" "LEAST" "[I") (.int 5)) (.int 0)) (by decide +kernel))
  have e6 : (Term.elem (.static "CamMaker" "LEAST" "[I") (.int (Int32.ofNat 6))).eval #[Value.ref b] s none [] s = some (.int (I (stv 1 ((6 : Nat) : Int)))) := by
    rw [show I (stv 1 ((6 : Nat) : Int)) = (0 : Int32) by decide +kernel]
    exact va_eqt (hs (Cond.eq (.elem (.static "CamMaker" "LEAST" "[I") (.int 6)) (.int 0)) (by decide +kernel))
  have e7 : (Term.elem (.static "CamMaker" "LEAST" "[I") (.int (Int32.ofNat 7))).eval #[Value.ref b] s none [] s = some (.int (I (stv 1 ((7 : Nat) : Int)))) := by
    rw [show I (stv 1 ((7 : Nat) : Int)) = (1 : Int32) by decide +kernel]
    exact va_eqt (hs (Cond.eq (.elem (.static "CamMaker" "LEAST" "[I") (.int 7)) (.int 1)) (by decide +kernel))
  have e8 : (Term.elem (.static "CamMaker" "LEAST" "[I") (.int (Int32.ofNat 8))).eval #[Value.ref b] s none [] s = some (.int (I (stv 1 ((8 : Nat) : Int)))) := by
    rw [show I (stv 1 ((8 : Nat) : Int)) = (0 : Int32) by decide +kernel]
    exact va_eqt (hs (Cond.eq (.elem (.static "CamMaker" "LEAST" "[I") (.int 8)) (.int 0)) (by decide +kernel))
  have e9 : (Term.elem (.static "CamMaker" "LEAST" "[I") (.int (Int32.ofNat 9))).eval #[Value.ref b] s none [] s = some (.int (I (stv 1 ((9 : Nat) : Int)))) := by
    rw [show I (stv 1 ((9 : Nat) : Int)) = (0 : Int32) by decide +kernel]
    exact va_eqt (hs (Cond.eq (.elem (.static "CamMaker" "LEAST" "[I") (.int 9)) (.int 0)) (by decide +kernel))
  have e10 : (Term.elem (.static "CamMaker" "LEAST" "[I") (.int (Int32.ofNat 10))).eval #[Value.ref b] s none [] s = some (.int (I (stv 1 ((10 : Nat) : Int)))) := by
    rw [show I (stv 1 ((10 : Nat) : Int)) = (0 : Int32) by decide +kernel]
    exact va_eqt (hs (Cond.eq (.elem (.static "CamMaker" "LEAST" "[I") (.int 10)) (.int 0)) (by decide +kernel))
  have e11 : (Term.elem (.static "CamMaker" "LEAST" "[I") (.int (Int32.ofNat 11))).eval #[Value.ref b] s none [] s = some (.int (I (stv 1 ((11 : Nat) : Int)))) := by
    rw [show I (stv 1 ((11 : Nat) : Int)) = (0 : Int32) by decide +kernel]
    exact va_eqt (hs (Cond.eq (.elem (.static "CamMaker" "LEAST" "[I") (.int 11)) (.int 0)) (by decide +kernel))
  obtain ⟨t, ht, hT⟩ := va_Tof (tm := (.static "CamMaker" "LEAST" "[I")) (ty := .int) (N := 12) (f := (sR 1).2) (A := fun q : Nat => s.heap.size ≤ q) (by decide) (hs (Cond.arrayOf (.static "CamMaker" "LEAST" "[I") .int) (by decide +kernel)) (va_eqt (hs (Cond.eq (.length (.static "CamMaker" "LEAST" "[I")) (.int 12)) (by decide +kernel))) (fun j hj => by
    rcases (show j = 0 ∨ j = 1 ∨ j = 2 ∨ j = 3 ∨ j = 4 ∨ j = 5 ∨ j = 6 ∨ j = 7 ∨ j = 8 ∨ j = 9 ∨ j = 10 ∨ j = 11 by omega) with rfl | rfl | rfl | rfl | rfl | rfl | rfl | rfl | rfl | rfl | rfl | rfl
    · exact e0
    · exact e1
    · exact e2
    · exact e3
    · exact e4
    · exact e5
    · exact e6
    · exact e7
    · exact e8
    · exact e9
    · exact e10
    · exact e11) hA
  exact ⟨t, va_Zof (hts _ (List.mem_of_getElem? (i := 193) (by decide +kernel))) (hts _ (List.mem_of_getElem? (i := 51) (by decide +kernel))) ht hA, hT⟩
theorem st_2 {s : State} {b : Nat} (hgv : (Jvm.Cond.and given_1 narrow_1).before #[Value.ref b] s = true) (hts : ∀ w ∈ lw_tbl, w.before #[Value.ref b] s = true) : ∃ t : Nat, va_Z "CamMaker" (sN 2) "[I" (.ref t) (fun q : Nat => s.heap.size ≤ q) s s.heap ∧ va_T .int t (sR 2).1 (sR 2).2 (fun q : Nat => s.heap.size ≤ q) s s.heap := by
  have hs := flat_of_before _ hgv
  have hA : ∀ a : Nat, a < s.heap.size → ¬ s.heap.size ≤ a := fun a h => Nat.not_le.mpr h
  have e0 : (Term.elem (.static "CamMaker" "GREATEST" "[I") (.int (Int32.ofNat 0))).eval #[Value.ref b] s none [] s = some (.int (I (stv 2 ((0 : Nat) : Int)))) := by
    rw [show I (stv 2 ((0 : Nat) : Int)) = (120 : Int32) by decide +kernel]
    exact va_eqt (hs (Cond.eq (.elem (.static "CamMaker" "GREATEST" "[I") (.int 0)) (.int 120)) (by decide +kernel))
  have e1 : (Term.elem (.static "CamMaker" "GREATEST" "[I") (.int (Int32.ofNat 1))).eval #[Value.ref b] s none [] s = some (.int (I (stv 2 ((1 : Nat) : Int)))) := by
    rw [show I (stv 2 ((1 : Nat) : Int)) = (12 : Int32) by decide +kernel]
    exact va_eqt (hs (Cond.eq (.elem (.static "CamMaker" "GREATEST" "[I") (.int 1)) (.int 12)) (by decide +kernel))
  have e2 : (Term.elem (.static "CamMaker" "GREATEST" "[I") (.int (Int32.ofNat 2))).eval #[Value.ref b] s none [] s = some (.int (I (stv 2 ((2 : Nat) : Int)))) := by
    rw [show I (stv 2 ((2 : Nat) : Int)) = (999 : Int32) by decide +kernel]
    exact va_eqt (hs (Cond.eq (.elem (.static "CamMaker" "GREATEST" "[I") (.int 2)) (.int 999)) (by decide +kernel))
  have e3 : (Term.elem (.static "CamMaker" "GREATEST" "[I") (.int (Int32.ofNat 3))).eval #[Value.ref b] s none [] s = some (.int (I (stv 2 ((3 : Nat) : Int)))) := by
    rw [show I (stv 2 ((3 : Nat) : Int)) = (9999 : Int32) by decide +kernel]
    exact va_eqt (hs (Cond.eq (.elem (.static "CamMaker" "GREATEST" "[I") (.int 3)) (.int 9999)) (by decide +kernel))
  have e4 : (Term.elem (.static "CamMaker" "GREATEST" "[I") (.int (Int32.ofNat 4))).eval #[Value.ref b] s none [] s = some (.int (I (stv 2 ((4 : Nat) : Int)))) := by
    rw [show I (stv 2 ((4 : Nat) : Int)) = (9999 : Int32) by decide +kernel]
    exact va_eqt (hs (Cond.eq (.elem (.static "CamMaker" "GREATEST" "[I") (.int 4)) (.int 9999)) (by decide +kernel))
  have e5 : (Term.elem (.static "CamMaker" "GREATEST" "[I") (.int (Int32.ofNat 5))).eval #[Value.ref b] s none [] s = some (.int (I (stv 2 ((5 : Nat) : Int)))) := by
    rw [show I (stv 2 ((5 : Nat) : Int)) = (99999 : Int32) by decide +kernel]
    exact va_eqt (hs (Cond.eq (.elem (.static "CamMaker" "GREATEST" "[I") (.int 5)) (.int 99999)) (by decide +kernel))
  have e6 : (Term.elem (.static "CamMaker" "GREATEST" "[I") (.int (Int32.ofNat 6))).eval #[Value.ref b] s none [] s = some (.int (I (stv 2 ((6 : Nat) : Int)))) := by
    rw [show I (stv 2 ((6 : Nat) : Int)) = (999 : Int32) by decide +kernel]
    exact va_eqt (hs (Cond.eq (.elem (.static "CamMaker" "GREATEST" "[I") (.int 6)) (.int 999)) (by decide +kernel))
  have e7 : (Term.elem (.static "CamMaker" "GREATEST" "[I") (.int (Int32.ofNat 7))).eval #[Value.ref b] s none [] s = some (.int (I (stv 2 ((7 : Nat) : Int)))) := by
    rw [show I (stv 2 ((7 : Nat) : Int)) = (999 : Int32) by decide +kernel]
    exact va_eqt (hs (Cond.eq (.elem (.static "CamMaker" "GREATEST" "[I") (.int 7)) (.int 999)) (by decide +kernel))
  have e8 : (Term.elem (.static "CamMaker" "GREATEST" "[I") (.int (Int32.ofNat 8))).eval #[Value.ref b] s none [] s = some (.int (I (stv 2 ((8 : Nat) : Int)))) := by
    rw [show I (stv 2 ((8 : Nat) : Int)) = (9999 : Int32) by decide +kernel]
    exact va_eqt (hs (Cond.eq (.elem (.static "CamMaker" "GREATEST" "[I") (.int 8)) (.int 9999)) (by decide +kernel))
  have e9 : (Term.elem (.static "CamMaker" "GREATEST" "[I") (.int (Int32.ofNat 9))).eval #[Value.ref b] s none [] s = some (.int (I (stv 2 ((9 : Nat) : Int)))) := by
    rw [show I (stv 2 ((9 : Nat) : Int)) = (9999 : Int32) by decide +kernel]
    exact va_eqt (hs (Cond.eq (.elem (.static "CamMaker" "GREATEST" "[I") (.int 9)) (.int 9999)) (by decide +kernel))
  have e10 : (Term.elem (.static "CamMaker" "GREATEST" "[I") (.int (Int32.ofNat 10))).eval #[Value.ref b] s none [] s = some (.int (I (stv 2 ((10 : Nat) : Int)))) := by
    rw [show I (stv 2 ((10 : Nat) : Int)) = (99 : Int32) by decide +kernel]
    exact va_eqt (hs (Cond.eq (.elem (.static "CamMaker" "GREATEST" "[I") (.int 10)) (.int 99)) (by decide +kernel))
  have e11 : (Term.elem (.static "CamMaker" "GREATEST" "[I") (.int (Int32.ofNat 11))).eval #[Value.ref b] s none [] s = some (.int (I (stv 2 ((11 : Nat) : Int)))) := by
    rw [show I (stv 2 ((11 : Nat) : Int)) = (8 : Int32) by decide +kernel]
    exact va_eqt (hs (Cond.eq (.elem (.static "CamMaker" "GREATEST" "[I") (.int 11)) (.int 8)) (by decide +kernel))
  obtain ⟨t, ht, hT⟩ := va_Tof (tm := (.static "CamMaker" "GREATEST" "[I")) (ty := .int) (N := 12) (f := (sR 2).2) (A := fun q : Nat => s.heap.size ≤ q) (by decide) (hs (Cond.arrayOf (.static "CamMaker" "GREATEST" "[I") .int) (by decide +kernel)) (va_eqt (hs (Cond.eq (.length (.static "CamMaker" "GREATEST" "[I")) (.int 12)) (by decide +kernel))) (fun j hj => by
    rcases (show j = 0 ∨ j = 1 ∨ j = 2 ∨ j = 3 ∨ j = 4 ∨ j = 5 ∨ j = 6 ∨ j = 7 ∨ j = 8 ∨ j = 9 ∨ j = 10 ∨ j = 11 by omega) with rfl | rfl | rfl | rfl | rfl | rfl | rfl | rfl | rfl | rfl | rfl | rfl
    · exact e0
    · exact e1
    · exact e2
    · exact e3
    · exact e4
    · exact e5
    · exact e6
    · exact e7
    · exact e8
    · exact e9
    · exact e10
    · exact e11) hA
  exact ⟨t, va_Zof (hts _ (List.mem_of_getElem? (i := 195) (by decide +kernel))) (hts _ (List.mem_of_getElem? (i := 51) (by decide +kernel))) ht hA, hT⟩
theorem st_3 {s : State} {b : Nat} (hgv : (Jvm.Cond.and given_1 narrow_1).before #[Value.ref b] s = true) (hts : ∀ w ∈ lw_tbl, w.before #[Value.ref b] s = true) : ∃ t : Nat, va_Z "CamMaker" (sN 3) "[I" (.ref t) (fun q : Nat => s.heap.size ≤ q) s s.heap ∧ va_T .int t (sR 3).1 (sR 3).2 (fun q : Nat => s.heap.size ≤ q) s s.heap := by
  have hs := flat_of_before _ hgv
  have hA : ∀ a : Nat, a < s.heap.size → ¬ s.heap.size ≤ a := fun a h => Nat.not_le.mpr h
  have e0 : (Term.elem (.static "CamMaker" "LEAST_PART" "[I") (.int (Int32.ofNat 0))).eval #[Value.ref b] s none [] s = some (.int (I (stv 3 ((0 : Nat) : Int)))) := by
    rw [show I (stv 3 ((0 : Nat) : Int)) = (1 : Int32) by decide +kernel]
    exact va_eqt (hs (Cond.eq (.elem (.static "CamMaker" "LEAST_PART" "[I") (.int 0)) (.int 1)) (by decide +kernel))
  have e1 : (Term.elem (.static "CamMaker" "LEAST_PART" "[I") (.int (Int32.ofNat 1))).eval #[Value.ref b] s none [] s = some (.int (I (stv 3 ((1 : Nat) : Int)))) := by
    rw [show I (stv 3 ((1 : Nat) : Int)) = (0 : Int32) by decide +kernel]
    exact va_eqt (hs (Cond.eq (.elem (.static "CamMaker" "LEAST_PART" "[I") (.int 1)) (.int 0)) (by decide +kernel))
  have e2 : (Term.elem (.static "CamMaker" "LEAST_PART" "[I") (.int (Int32.ofNat 2))).eval #[Value.ref b] s none [] s = some (.int (I (stv 3 ((2 : Nat) : Int)))) := by
    rw [show I (stv 3 ((2 : Nat) : Int)) = (0 : Int32) by decide +kernel]
    exact va_eqt (hs (Cond.eq (.elem (.static "CamMaker" "LEAST_PART" "[I") (.int 2)) (.int 0)) (by decide +kernel))
  obtain ⟨t, ht, hT⟩ := va_Tof (tm := (.static "CamMaker" "LEAST_PART" "[I")) (ty := .int) (N := 3) (f := (sR 3).2) (A := fun q : Nat => s.heap.size ≤ q) (by decide) (hs (Cond.arrayOf (.static "CamMaker" "LEAST_PART" "[I") .int) (by decide +kernel)) (va_eqt (hs (Cond.eq (.length (.static "CamMaker" "LEAST_PART" "[I")) (.int 3)) (by decide +kernel))) (fun j hj => by
    rcases (show j = 0 ∨ j = 1 ∨ j = 2 by omega) with rfl | rfl | rfl
    · exact e0
    · exact e1
    · exact e2) hA
  exact ⟨t, va_Zof (hts _ (List.mem_of_getElem? (i := 231) (by decide +kernel))) (hts _ (List.mem_of_getElem? (i := 51) (by decide +kernel))) ht hA, hT⟩
theorem st_4 {s : State} {b : Nat} (hgv : (Jvm.Cond.and given_1 narrow_1).before #[Value.ref b] s = true) (hts : ∀ w ∈ lw_tbl, w.before #[Value.ref b] s = true) : ∃ t : Nat, va_Z "CamMaker" (sN 4) "[I" (.ref t) (fun q : Nat => s.heap.size ≤ q) s s.heap ∧ va_T .int t (sR 4).1 (sR 4).2 (fun q : Nat => s.heap.size ≤ q) s s.heap := by
  have hs := flat_of_before _ hgv
  have hA : ∀ a : Nat, a < s.heap.size → ¬ s.heap.size ≤ a := fun a h => Nat.not_le.mpr h
  have e0 : (Term.elem (.static "CamMaker" "GREATEST_PART" "[I") (.int (Int32.ofNat 0))).eval #[Value.ref b] s none [] s = some (.int (I (stv 4 ((0 : Nat) : Int)))) := by
    rw [show I (stv 4 ((0 : Nat) : Int)) = (60 : Int32) by decide +kernel]
    exact va_eqt (hs (Cond.eq (.elem (.static "CamMaker" "GREATEST_PART" "[I") (.int 0)) (.int 60)) (by decide +kernel))
  have e1 : (Term.elem (.static "CamMaker" "GREATEST_PART" "[I") (.int (Int32.ofNat 1))).eval #[Value.ref b] s none [] s = some (.int (I (stv 4 ((1 : Nat) : Int)))) := by
    rw [show I (stv 4 ((1 : Nat) : Int)) = (999 : Int32) by decide +kernel]
    exact va_eqt (hs (Cond.eq (.elem (.static "CamMaker" "GREATEST_PART" "[I") (.int 1)) (.int 999)) (by decide +kernel))
  have e2 : (Term.elem (.static "CamMaker" "GREATEST_PART" "[I") (.int (Int32.ofNat 2))).eval #[Value.ref b] s none [] s = some (.int (I (stv 4 ((2 : Nat) : Int)))) := by
    rw [show I (stv 4 ((2 : Nat) : Int)) = (3 : Int32) by decide +kernel]
    exact va_eqt (hs (Cond.eq (.elem (.static "CamMaker" "GREATEST_PART" "[I") (.int 2)) (.int 3)) (by decide +kernel))
  obtain ⟨t, ht, hT⟩ := va_Tof (tm := (.static "CamMaker" "GREATEST_PART" "[I")) (ty := .int) (N := 3) (f := (sR 4).2) (A := fun q : Nat => s.heap.size ≤ q) (by decide) (hs (Cond.arrayOf (.static "CamMaker" "GREATEST_PART" "[I") .int) (by decide +kernel)) (va_eqt (hs (Cond.eq (.length (.static "CamMaker" "GREATEST_PART" "[I")) (.int 3)) (by decide +kernel))) (fun j hj => by
    rcases (show j = 0 ∨ j = 1 ∨ j = 2 by omega) with rfl | rfl | rfl
    · exact e0
    · exact e1
    · exact e2) hA
  exact ⟨t, va_Zof (hts _ (List.mem_of_getElem? (i := 233) (by decide +kernel))) (hts _ (List.mem_of_getElem? (i := 51) (by decide +kernel))) ht hA, hT⟩
theorem tx_0 {s : State} {b : Nat} (hgv : (Jvm.Cond.and given_1 narrow_1).before #[Value.ref b] s = true) (hts : ∀ w ∈ lw_tbl, w.before #[Value.ref b] s = true) (G : GT) (hG : gB G = s.heap.size) : TX G s s.heap := by
  have hs := flat_of_before _ hgv
  have hA : ∀ a : Nat, a < s.heap.size → ¬ gA G a := fun a h => by unfold gA; omega
  exact ⟨vx_Zqof (hts _ (List.mem_of_getElem? (i := 685) (by decide +kernel))) (hts _ (List.mem_of_getElem? (i := 59) (by decide +kernel))) (hs (.isRef (.static Bundle.tN "UNASSIGNED_STACK" Bundle.steD)) (by decide +kernel)) hA, vx_Zqof (hts _ (List.mem_of_getElem? (i := 687) (by decide +kernel))) (hts _ (List.mem_of_getElem? (i := 59) (by decide +kernel))) (hs (.isRef (.static Bundle.tN "SUPPRESSED_SENTINEL" Bundle.listD)) (by decide +kernel)) hA, va_Nw.of rfl (hts _ (List.mem_of_getElem? (i := 660) (by decide +kernel))), va_Nw.of rfl (hts _ (List.mem_of_getElem? (i := 661) (by decide +kernel))), va_Nw.of rfl (hts _ (List.mem_of_getElem? (i := 663) (by decide +kernel))), va_Nw.of rfl (hts _ (List.mem_of_getElem? (i := 665) (by decide +kernel)))⟩
theorem ao_0 {s : State} {b : Nat} (hts : ∀ w ∈ lw_tbl, w.before #[Value.ref b] s = true) : AO s := ⟨va_AOA.of (hts _ (List.mem_of_getElem? (i := 110) (by decide +kernel))), va_Nw.of rfl (hts _ (List.mem_of_getElem? (i := 89) (by decide +kernel)))⟩
theorem nk_0 {s : State} {b : Nat} (hts : ∀ w ∈ lw_tbl, w.before #[Value.ref b] s = true) : ∃ (D : va_G) (c : ClassId × ClassId × ClassId × ClassId), ∀ (Y : Nat → Nat) (B : Nat) (T : Nat → Nat), NK (mkG D c Y B T) s := by
  have hB : ∀ w ∈ BIG, w.before #[Value.ref b] s = true := fun w hw => hts w (List.mem_filter.mp hw).1
  obtain ⟨c0, i0, h0⟩ := u_known (C := RX0) (T := TX0) (N := 13) (n := 13) hB gl_RX0 (hB _ gn_RX0)
  obtain ⟨c1, i1, h1⟩ := u_known (C := RX1) (T := TX1) (N := 3) (n := 3) hB gl_RX1 (hB _ gn_RX1)
  obtain ⟨c2, i2, h2⟩ := u_known (C := RX2) (T := TX2) (N := 1) (n := 1) hB gl_RX2 (hB _ gn_RX2)
  obtain ⟨c3, i3, h3⟩ := u_known (C := RX3) (T := TX3) (N := 4) (n := 4) hB gl_RX3 (hB _ gn_RX3)
  obtain ⟨c4, i4, h4⟩ := u_known (C := RX4) (T := TX4) (N := 4) (n := 4) hB gl_RX4 (hB _ gn_RX4)
  obtain ⟨c5, i5, h5⟩ := u_known (C := RX5) (T := TX5) (N := 11) (n := 11) hB gl_RX5 (hB _ gn_RX5)
  obtain ⟨D, hD⟩ : ∃ D : va_G, ∀ (k : Nat) (q : vw_C), vwCl[k]? = some q → u_Kn s q.1 q.2.1 q.2.2 (D.1 k) (D.2 k) := by
    refine ⟨(fun k => if k = 0 then c0 else if k = 1 then c1 else if k = 2 then c2 else if k = 3 then c3 else if k = 4 then c4 else c5, fun k => if k = 0 then i0 else if k = 1 then i1 else if k = 2 then i2 else if k = 3 then i3 else if k = 4 then i4 else i5), ?_⟩
    intro k q hq
    match k, hq with
    | 0, hq => cases hq; exact h0
    | 1, hq => cases hq; exact h1
    | 2, hq => cases hq; exact h2
    | 3, hq => cases hq; exact h3
    | 4, hq => cases hq; exact h4
    | 5, hq => cases hq; exact h5
    | k + 6, hq => simp [vwCl] at hq
  obtain ⟨d0, k0, p0, e0, f0, g0⟩ := Cond.arrayClass_spec (hB _ ga_int)
  obtain ⟨d1, k1, p1, e1, f1, g1⟩ := Cond.arrayClass_spec (hB _ ga_long)
  obtain ⟨d2, k2, p2, e2, f2, g2⟩ := Cond.arrayClass_spec (hB _ ga_boolean)
  obtain ⟨d3, k3, p3, e3, f3, g3⟩ := aoa_spec (ao_0 hts).1
  refine ⟨D, (d0, d1, d2, d3), fun Y B T => ⟨⟨hD, fun k q hk => ?_⟩, va_Nw.of rfl (hts _ (List.mem_of_getElem? (i := 77) (by decide +kernel))), va_Nw.of rfl (hts _ (List.mem_of_getElem? (i := 610) (by decide +kernel))), va_Nw.of rfl (hts _ (List.mem_of_getElem? (i := 633) (by decide +kernel)))⟩⟩
  match k, hk with
  | 0, hk => cases hk; exact ⟨arr_of f0 g0, e0⟩
  | 1, hk => cases hk; exact ⟨arr_of f1 g1, e1⟩
  | 2, hk => cases hk; exact ⟨arr_of f2 g2, e2⟩
  | 3, hk => cases hk; exact ⟨arr_of f3 g3, e3⟩
  | k + 4, hk => exact absurd hk (by simp [tyG])
theorem sk_0 {s : State} {b : Nat} (hgv : (Jvm.Cond.and given_1 narrow_1).before #[Value.ref b] s = true) (hts : ∀ w ∈ lw_tbl, w.before #[Value.ref b] s = true) : ∃ T : Nat → Nat, ∀ (D : va_G) (c : ClassId × ClassId × ClassId × ClassId) (Y : Nat → Nat), SK (mkG D c Y s.heap.size T) s s.heap := by
  obtain ⟨t0, z0⟩ := st_0 hgv hts
  obtain ⟨t1, z1⟩ := st_1 hgv hts
  obtain ⟨t2, z2⟩ := st_2 hgv hts
  obtain ⟨t3, z3⟩ := st_3 hgv hts
  obtain ⟨t4, z4⟩ := st_4 hgv hts
  refine ⟨fun k => if k = 0 then t0 else if k = 1 then t1 else if k = 2 then t2 else if k = 3 then t3 else t4, fun D c Y k hk => ?_⟩
  rcases (show k = 0 ∨ k = 1 ∨ k = 2 ∨ k = 3 ∨ k = 4 by omega) with rfl | rfl | rfl | rfl | rfl
  · exact z0
  · exact z1
  · exact z2
  · exact z3
  · exact z4
