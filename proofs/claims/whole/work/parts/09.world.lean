/-! THE WORLD: all cells of the class (0 to 35), of the reference (36 to 41) and the law's own row (42), at addresses Y k; what they hold is σ : cell, place -> Int -/
abbrev GT : Type := va_G × (ClassId × ClassId × ClassId × ClassId) × (Nat → Nat) × Nat × (Nat → Nat)
abbrev St : Type := Nat → Int → Int
abbrev gD (G : GT) : va_G := G.1
abbrev gI (G : GT) : ClassId := G.2.1.1
abbrev gJ (G : GT) : ClassId := G.2.1.2.1
abbrev gZ (G : GT) : ClassId := G.2.1.2.2.1
abbrev gR (G : GT) : ClassId := G.2.1.2.2.2
abbrev gY (G : GT) : Nat → Nat := G.2.2.1
abbrev gB (G : GT) : Nat := G.2.2.2.1
abbrev gT (G : GT) : Nat → Nat := G.2.2.2.2
def gA (G : GT) : Nat → Prop := fun q => gB G ≤ q
def fI (c : ClassId) (n : Nat) (f : Int → Int) : va_E := .inl (c, n, .inl (fun j : Nat => I (f (j : Int))))
def fJ (c : ClassId) (n : Nat) (f : Int → Int) : va_E := .inl (c, n, .inr (.inl (fun j : Nat => J (f (j : Int)))))
def fR (c : ClassId) (n : Nat) (f : Nat → Nat) : va_E := .inl (c, n, .inr (.inr (.inr (.inr (fun j : Nat => if j < n then some (f j) else none)))))
/-- what a cell holds, by its number -/
def eK (G : GT) (k : Nat) (f : Int → Int) : va_E :=
  if k = 0 then .inr (4, [.ref (gY G 1), .ref (gY G 3), .ref (gY G 5), .ref (gY G 31)])
  else if k = 1 then .inr (2, [.ref (gY G 2)])
  else if k = 2 then fI (gI G) 72 f
  else if k = 3 then .inr (1, [.ref (gY G 4), .int (I (f 1)), .int (I (f 2))])
  else if k = 4 then fI (gI G) 1440 f
  else if k = 5 then .inr (3, [.ref (gY G 1), .ref (gY G 6), .int (I (f 2)), .int (I (f 3))])
  else if k = 6 then fR (gR G) 11 (fun j => gY G (7 + j))
  else if k < 18 then fJ (gJ G) 120 f
  else if k = 18 then .inr (3, [.ref (gY G 1), .ref (gY G 19), .int (I (f 2)), .int (I (f 3))])
  else if k = 19 then fR (gR G) 11 (fun j => gY G (20 + j))
  else if k < 31 then fJ (gJ G) 120 f
  else if k = 31 then .inr (0, [.ref (gY G 1), .ref (gY G 18), .ref (gY G 32), .ref (gY G 33), .ref (gY G 34), .ref (gY G 35), .int (I (f 6)), .int (I (f 7)), .int (I (f 8)), .int (I (f 9)), .int (I (f 10)), .int (I (f 11)), .int (I (f 12))])
  else if k = 32 then fI (gI G) 6 f
  else if k = 33 then fI (gI G) 96 f
  else if k = 34 then fI (gI G) 96 f
  else if k = 35 then fI (gZ G) 96 f
  else if k = 36 then .inr (5, [.int (I (f 0)), .int (I (f 1)), .ref (gY G 37), .ref (gY G 38), .int (I (f 4)), .ref (gY G 39), .ref (gY G 40), .ref (gY G 41), .int (I (f 8)), .int (I (f 9)), .int (I (f 10))])
  else if k = 37 then fI (gI G) 71 f
  else if k = 38 then fI (gI G) 1420 f
  else if k = 39 then fI (gI G) 120 f
  else if k = 40 then fI (gI G) 12 f
  else if k = 41 then fI (gI G) 12 f
  else fJ (gJ G) 1 f
theorem eK_0 (G : GT) (f : Int → Int) : eK G 0 f = .inr (4, [.ref (gY G 1), .ref (gY G 3), .ref (gY G 5), .ref (gY G 31)]) := rfl
theorem eK_1 (G : GT) (f : Int → Int) : eK G 1 f = .inr (2, [.ref (gY G 2)]) := rfl
theorem eK_2 (G : GT) (f : Int → Int) : eK G 2 f = fI (gI G) 72 f := rfl
theorem eK_3 (G : GT) (f : Int → Int) : eK G 3 f = .inr (1, [.ref (gY G 4), .int (I (f 1)), .int (I (f 2))]) := rfl
theorem eK_4 (G : GT) (f : Int → Int) : eK G 4 f = fI (gI G) 1440 f := rfl
theorem eK_P {b : Nat} (hb : b = 5 ∨ b = 18) (G : GT) (f : Int → Int) : eK G b f = .inr (3, [.ref (gY G 1), .ref (gY G (b + 1)), .int (I (f 2)), .int (I (f 3))]) := by rcases hb with rfl | rfl <;> rfl
theorem eK_R {b : Nat} (hb : b = 5 ∨ b = 18) (G : GT) (f : Int → Int) : eK G (b + 1) f = fR (gR G) 11 (fun j => gY G (b + 2 + j)) := by rcases hb with rfl | rfl <;> rfl
theorem eK_L {b : Nat} (hb : b = 5 ∨ b = 18) {j : Nat} (hj : j < 11) (G : GT) (f : Int → Int) : eK G (b + 2 + j) f = fJ (gJ G) 120 f := by
  have h1 : ∀ j, j < 11 → eK G (5 + 2 + j) f = fJ (gJ G) 120 f := by
    intro j hj
    rcases (show j = 0 ∨ j = 1 ∨ j = 2 ∨ j = 3 ∨ j = 4 ∨ j = 5 ∨ j = 6 ∨ j = 7 ∨ j = 8 ∨ j = 9 ∨ j = 10 by omega) with rfl | rfl | rfl | rfl | rfl | rfl | rfl | rfl | rfl | rfl | rfl <;> rfl
  have h2 : ∀ j, j < 11 → eK G (18 + 2 + j) f = fJ (gJ G) 120 f := by
    intro j hj
    rcases (show j = 0 ∨ j = 1 ∨ j = 2 ∨ j = 3 ∨ j = 4 ∨ j = 5 ∨ j = 6 ∨ j = 7 ∨ j = 8 ∨ j = 9 ∨ j = 10 by omega) with rfl | rfl | rfl | rfl | rfl | rfl | rfl | rfl | rfl | rfl | rfl <;> rfl
  rcases hb with rfl | rfl
  · exact h1 j hj
  · exact h2 j hj
theorem eK_31 (G : GT) (f : Int → Int) : eK G 31 f = .inr (0, [.ref (gY G 1), .ref (gY G 18), .ref (gY G 32), .ref (gY G 33), .ref (gY G 34), .ref (gY G 35), .int (I (f 6)), .int (I (f 7)), .int (I (f 8)), .int (I (f 9)), .int (I (f 10)), .int (I (f 11)), .int (I (f 12))]) := rfl
theorem eK_32 (G : GT) (f : Int → Int) : eK G 32 f = fI (gI G) 6 f := rfl
theorem eK_33 (G : GT) (f : Int → Int) : eK G 33 f = fI (gI G) 96 f := rfl
theorem eK_34 (G : GT) (f : Int → Int) : eK G 34 f = fI (gI G) 96 f := rfl
theorem eK_35 (G : GT) (f : Int → Int) : eK G 35 f = fI (gZ G) 96 f := rfl
theorem eK_36 (G : GT) (f : Int → Int) : eK G 36 f = .inr (5, [.int (I (f 0)), .int (I (f 1)), .ref (gY G 37), .ref (gY G 38), .int (I (f 4)), .ref (gY G 39), .ref (gY G 40), .ref (gY G 41), .int (I (f 8)), .int (I (f 9)), .int (I (f 10))]) := rfl
theorem eK_37 (G : GT) (f : Int → Int) : eK G 37 f = fI (gI G) 71 f := rfl
theorem eK_38 (G : GT) (f : Int → Int) : eK G 38 f = fI (gI G) 1420 f := rfl
theorem eK_39 (G : GT) (f : Int → Int) : eK G 39 f = fI (gI G) 120 f := rfl
theorem eK_40 (G : GT) (f : Int → Int) : eK G 40 f = fI (gI G) 12 f := rfl
theorem eK_41 (G : GT) (f : Int → Int) : eK G 41 f = fI (gI G) 12 f := rfl
theorem eK_42 (G : GT) (f : Int → Int) : eK G 42 f = fJ (gJ G) 1 f := rfl
def wl (G : GT) (σ : St) : va_W := (List.range 43).map (fun k => (gY G k, eK G k (σ k)))
def upI (f : Int → Int) (i v : Int) : Int → Int := fun j => if j = i then v else f j
def up (σ : St) (k : Nat) (g : Int → Int) : St := fun j => if j = k then g else σ j
theorem wl_at (G : GT) (σ : St) {k : Nat} (hk : k < 43) : (wl G σ)[k]? = some (gY G k, eK G k (σ k)) := by
  unfold wl
  rw [List.getElem?_map, List.getElem?_range hk]
  rfl
theorem wl_set (G : GT) (σ : St) {k : Nat} (hk : k < 43) (g : Int → Int) : (wl G σ).set k (gY G k, eK G k g) = wl G (up σ k g) := by
  apply List.ext_getElem?
  intro j
  by_cases hj : j < 43
  · rw [wl_at G (up σ k g) hj]
    by_cases e : j = k
    · subst e
      rw [List.getElem?_set_self (by rw [show (wl G σ).length = 43 by simp [wl]]; exact hj)]
      simp [up]
    · rw [List.getElem?_set_ne (Ne.symm e), wl_at G σ hj]
      simp [up, e]
  · rw [List.getElem?_eq_none (by simp [wl]; omega), List.getElem?_eq_none (by simp [wl]; omega)]
abbrev tyG (G : GT) : List (ClassId × FieldType) := [(gI G, .int), (gJ G, .long), (gZ G, .boolean), (gR G, .array .long)]
/-- the static rows of the class -/
def stv (k : Nat) (j : Int) : Int := (match k with
  | 0 => ([24, 0, 0, 400, 100, 1000, 10, 10, 100, 577, 1, 0] : List Int)
  | 1 => [24, 0, 0, 10, 1, 0, 0, 1, 0, 0, 0, 0]
  | 2 => [120, 12, 999, 9999, 9999, 99999, 999, 999, 9999, 9999, 99, 8]
  | 3 => [1, 0, 0]
  | _ => [60, 999, 3]).getD j.toNat 0
def stn (k : Nat) : Nat := if k < 3 then 12 else 3
def sR (k : Nat) : Nat × (Nat → Value) := (stn k, fun j => .int (I (stv k (j : Int))))
def sN (k : Nat) : String := match k with
  | 0 => "AT_FIRST"
  | 1 => "LEAST"
  | 2 => "GREATEST"
  | 3 => "LEAST_PART"
  | _ => "GREATEST_PART"
/-- what the tables say: classes, rows, nest mates' links -/
def NK (G : GT) (U : State) : Prop := va_K (gD G) vwCl (tyG G) U ∧ va_Nw (.fieldLinkNest "CamMaker$Plan" 15 "CamMaker" "AT_FIRST" "[I" "CamMaker") U ∧ va_Nw (.fieldLinkNest "CamMaker$Profile" 140 "CamMaker" "GREATEST" "[I" "CamMaker") U ∧ va_Nw (.fieldLinkNest "CamMaker$Profile" 161 "CamMaker" "LEAST" "[I" "CamMaker") U
def SK (G : GT) (U : State) (H : Heap) : Prop := ∀ k, k < 5 → va_Z "CamMaker" (sN k) "[I" (.ref (gT G k)) (gA G) U H ∧ va_T .int (gT G k) (sR k).1 (sR k).2 (gA G) U H
def GOK (G : GT) : Prop := (∀ i j, i < 43 → j < 43 → gY G i = gY G j → i = j) ∧ ∀ i, i < 43 → gB G ≤ gY G i
/-- the world lies in the heap of U -/
def GW (G : GT) (σ : St) (U : State) : Prop := va_P (gD G) vwCl (wl G σ) U.heap ∧ NK G U ∧ SK G U U.heap ∧ GOK G
def FX (G : GT) (p : Program) (m : MethodId) (c : Code) (cc : ByteArray) (nL : Nat) (s : State) (args : Array Value) (own : String) : Prop := CallFix p m c cc nL s args BIG own ∧ NK G s ∧ SK G s s.heap ∧ GOK G
def HX (G : GT) (σ : St) (s : State) (H : Heap) (locs : List Loc) : Prop := va_P (gD G) vwCl (wl G σ) H ∧ va_S (gA G) s.heap H locs
theorem NK.warm {G : GT} {s U : State} (h : NK G s) (hW : s.WarmedH U.vm) : NK G U := ⟨va_K.moved hW.alike h.1, va_Nw.warmF hW h.2.1, va_Nw.warmF hW h.2.2.1, va_Nw.warmF hW h.2.2.2⟩
theorem SK.out {G : GT} {s t : State} {H : Heap} {locs : List Loc} (h : SK G s s.heap) (hS : va_S (gA G) s.heap H locs) (ht : t.heap = H) (hvm : s.vm.Alike t.vm) : SK G t t.heap := by
  intro k hk
  rw [ht]
  exact ⟨va_Z.moved hvm (va_Z.kept (h k hk).1 hS.2.1), va_T.moved hvm (va_T.kept (h k hk).2 hS.2.1)⟩
theorem GOK.D {G : GT} (h : GOK G) (σ : St) : va_D (gA G) (wl G σ) := by
  have key : ∀ (i : Nat) (p : Nat × va_E), (wl G σ)[i]? = some p → i < 43 ∧ p.1 = gY G i := by
    intro i p hp
    have hi : i < 43 := by
      have := (List.getElem?_eq_some_iff.mp hp).1
      simpa [wl] using this
    rw [wl_at G σ hi] at hp
    cases hp
    exact ⟨hi, rfl⟩
  refine ⟨fun i j p q hi hj e => ?_, fun k q hk => ?_⟩
  · obtain ⟨i1, i2⟩ := key i p hi
    obtain ⟨j1, j2⟩ := key j q hj
    exact h.1 i j i1 j1 (by rw [← i2, ← j2]; exact e)
  · obtain ⟨k1, k2⟩ := key k q hk
    rw [k2]
    exact h.2 k k1
theorem GW.blind {G : GT} {σ : St} {As : List Value} : FrameBlind (va_Pc As (GW G σ)) := fun a U g mk q => ⟨q.1, q.2.1, ⟨va_K.moved (u := U) (U := U.calling g mk a) (Vm.Alike.refl U.vm) q.2.2.1.1, va_Nw.same rfl rfl q.2.2.1.2.1, va_Nw.same rfl rfl q.2.2.1.2.2.1, va_Nw.same rfl rfl q.2.2.1.2.2.2⟩, fun k hk => ⟨va_Z.moved (u := U) (U := U.calling g mk a) (Vm.Alike.refl U.vm) (q.2.2.2.1 k hk).1, va_T.moved (u := U) (U := U.calling g mk a) (Vm.Alike.refl U.vm) (q.2.2.2.1 k hk).2⟩, q.2.2.2.2⟩
theorem FX.out {G : GT} {p : Program} {m : MethodId} {c : Code} {cc : ByteArray} {nL : Nat} {s : State} {args : Array Value} {own : String} (F : FX G p m c cc nL s args own) {σ : St} {H : Heap} {locs : List Loc} (X : HX G σ s H locs) {t : State} (ht : t.heap = H) (hW : s.WarmedH t.vm) : GW G σ t := ⟨by rw [ht]; exact X.1, F.2.1.warm hW, F.2.2.1.out X.2 ht hW.alike, F.2.2.2⟩
def rmd (d : Nat) : Room := { frames := d, cells := 0, slots := 0, locals := 100 * d }
/-- a contract over the world -/
def Ct (l : Launch) (y : MethodName) (cy : ByteArray) (n : Nat) (ret : Option FieldType) (d : Nat) (G : GT) (As : List Value) (σ : St) (Qc : Array Value → State → Outcome → State → Prop) : Prop := Met l y (Cond.code y cy n ret :: BIG) (rmd d) (va_Pc As (GW G σ)) Qc 0 0 (gA G)
def QI (G : GT) (post : Int → St → Prop) : Array Value → State → Outcome → State → Prop := va_Qi (fun (r : Int32) (τ : St) => ∃ a, r = I a ∧ post a τ) (GW G) (gA G)
def QJ (G : GT) (post : Int → St → Prop) : Array Value → State → Outcome → State → Prop := va_Ql (fun (r : Int64) (τ : St) => ∃ a, r = J a ∧ post a τ) (GW G) (gA G)
def QV (G : GT) (post : St → Prop) : Array Value → State → Outcome → State → Prop := va_Qv (fun (τ : St) => post τ) (GW G) (gA G)
theorem ofWF {l : Launch} {y : MethodName} {ws ws' : List Cond} {rm : Room} {Pc : Array Value → State → Prop} {Qc : Array Value → State → Outcome → State → Prop} {mc ms : Nat} {free : Addr → Prop} {cc : ByteArray} {maxL : Nat} {ret : Option FieldType}
    (hy : plainFor y = true) (hw : ws = Cond.code y cc maxL ret :: ws')
    (body : ∀ p e s m args below meth c s₁, BodyLoose p l y (headSpec ws rm) cc maxL ret e s m args below meth c s₁ → c.maxLocals = maxL → Pc args s →
      W p l e (headSpec ws rm).room s m args below meth c s.heap [] 0 0 (MQ below Qc args s mc ms free) (entryFrame m args maxL)) : Met l y ws rm Pc Qc mc ms free := by
  refine MetFree.of_bodySF (code := cc) (maxLocals := maxL) (ret := ret) hy ?_ ?_
  · intro args s m h hn
    obtain ⟨meth, c, h1, h2, h3, h4, h5, h6, -, -⟩ := Cond.code_spec hn (atoms_spec (ws := ws) h _ (by rw [hw]; exact List.mem_cons_self))
    exact ⟨meth, c, h1, h2, h3, h4, h5, h6⟩
  · intro p e s m args below meth c s₁ B hml hP _
    have hh0 : s₁.heap = s.heap := by rw [B.state]; rfl
    obtain ⟨t, a1, o, b1, b2, b3⟩ := body p e s m args below meth c s₁ B hml hP s₁ hh0 (Stand.of_body B)
    exact ⟨t, o, a1, b1, b2, ⟨b3.1, b3.2⟩⟩
theorem mt {l : Launch} {y : MethodName} {cy : ByteArray} {n d : Nat} {ret : Option FieldType} {G : GT} {As : List Value} {σ : St} {Qc : Array Value → State → Outcome → State → Prop} {own : String} (hy : plainFor y = true) (ho : y.cls = own) (hn : (lg_sl As).length ≤ n)
    (body : ∀ (p : Program) (e : Env) (s : State) (m : MethodId) (args : Array Value) (below : List Frame) (meth : Method) (c : Code) (ls : Array Slot), FX G p m c cy n s args own → meth.sig.returnType = ret → meth.locks = false → HX G σ s s.heap [] → lv_has ls n (lv_args 0 As) →
      W p l e (rmd d) s m args below meth c s.heap [] 0 0 (MQ below Qc args s 0 0 (gA G)) (F0 m 0 ls [])) : Ct l y cy n ret d G As σ Qc := by
  refine ofWF (cc := cy) (maxL := n) (ret := ret) hy rfl ?_
  intro p e s m args below meth c s₁ B hml hv
  obtain ⟨rfl, hP, hN, hSt, hG⟩ := hv
  have hts := atoms_spec (ws := Cond.code y cy n ret :: BIG) B.pre
  have hl := lv_entry As (n := n) hn
  rw [lg_entry_eq]
  generalize (lg_sl As ++ List.replicate (n - (lg_sl As).length) Slot.unset).toArray = ls at hl ⊢
  exact body p e s m As.toArray below meth c ls ⟨⟨B.exec, B.bytes, hml, by rw [← ho]; exact findClass_of_methodNamed B.named, fun w hw => hts w (List.mem_cons_of_mem _ hw)⟩, hN, hSt, hG⟩ B.returns B.notSynchronized ⟨hP, va_S.rf⟩ hl
theorem pf_J9_floorDiv_f86c9 : plainFor yJ9_floorDiv_f86c9 = true := by decide +kernel
theorem pf_J9_abs_067f4 : plainFor yJ9_abs_067f4 = true := by decide +kernel
theorem pf_J9_max_7cf53 : plainFor yJ9_max_7cf53 = true := by decide +kernel
theorem pf_J9_max_f86c9 : plainFor yJ9_max_f86c9 = true := by decide +kernel
theorem pf_J9_min_7cf53 : plainFor yJ9_min_7cf53 = true := by decide +kernel
theorem pf_J9_min_f86c9 : plainFor yJ9_min_f86c9 = true := by decide +kernel
