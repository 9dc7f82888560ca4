theorem go_RX0 : Cond.methodLink RX0 3 objectInit ∈ BIG := bg_of 130 (by decide +kernel) rfl
theorem gn_RX0 : Cond.instantiable RX0 13 ∈ BIG := bg_of 126 (by decide +kernel) rfl
theorem gz_RX0 : Cond.initialized RX0 ∈ BIG := bg_of 56 (by decide +kernel) rfl
theorem go_RX1 : Cond.methodLink RX1 3 objectInit ∈ BIG := bg_of 92 (by decide +kernel) rfl
theorem gn_RX1 : Cond.instantiable RX1 3 ∈ BIG := bg_of 88 (by decide +kernel) rfl
theorem gz_RX1 : Cond.initialized RX1 ∈ BIG := bg_of 54 (by decide +kernel) rfl
theorem go_RX2 : Cond.methodLink RX2 3 objectInit ∈ BIG := bg_of 76 (by decide +kernel) rfl
theorem gn_RX2 : Cond.instantiable RX2 1 ∈ BIG := bg_of 72 (by decide +kernel) rfl
theorem gz_RX2 : Cond.initialized RX2 ∈ BIG := bg_of 52 (by decide +kernel) rfl
theorem go_RX3 : Cond.methodLink RX3 3 objectInit ∈ BIG := bg_of 108 (by decide +kernel) rfl
theorem gn_RX3 : Cond.instantiable RX3 4 ∈ BIG := bg_of 104 (by decide +kernel) rfl
theorem gz_RX3 : Cond.initialized RX3 ∈ BIG := bg_of 55 (by decide +kernel) rfl
theorem go_RX4 : Cond.methodLink RX4 3 objectInit ∈ BIG := bg_of 68 (by decide +kernel) rfl
theorem gn_RX4 : Cond.instantiable RX4 4 ∈ BIG := bg_of 64 (by decide +kernel) rfl
theorem gz_RX4 : Cond.initialized RX4 ∈ BIG := bg_of 51 (by decide +kernel) rfl
theorem go_RX5 : Cond.methodLink RX5 7 objectInit ∈ BIG := bg_of 742 (by decide +kernel) rfl
theorem gn_RX5 : Cond.instantiable RX5 11 ∈ BIG := bg_of 738 (by decide +kernel) rfl
theorem gz_RX5 : Cond.initialized RX5 ∈ BIG := bg_of 57 (by decide +kernel) rfl
theorem go_I : Cond.instanceMethod objectInit ∈ BIG := bg_of 69 (by decide +kernel) rfl
theorem go_C : Cond.code objectInit ⟨#[0xb1]⟩ 1 none ∈ BIG := bg_of 70 (by decide +kernel) rfl
theorem ga_int : Cond.arrayClass .int ∈ BIG := bg_of 86 (by decide +kernel) rfl
theorem ga_long : Cond.arrayClass .long ∈ BIG := bg_of 124 (by decide +kernel) rfl
theorem ga_boolean : Cond.arrayClass .boolean ∈ BIG := bg_of 171 (by decide +kernel) rfl
/-- a growing world: l behind ws, and v at the object h0, the k-th of ws -/
def NF (ws : va_W) (k h0 : Nat) (l : va_W) (v : va_E) : va_W := (ws ++ l).set k (h0, v)
theorem NF_0 {ws : va_W} {k h0 : Nat} {v : va_E} (h : ws[k]? = some (h0, v)) : NF ws k h0 [] v = ws := by
  unfold NF
  rw [List.append_nil]
  apply List.ext_getElem?
  intro j
  rw [List.getElem?_set]
  split
  · rename_i q; subst q
    have hlt := (List.getElem?_eq_some_iff.mp h).1
    rw [if_pos hlt, h]
  · rfl
theorem NF_len (ws : va_W) (k h0 : Nat) (l : va_W) (v : va_E) : (NF ws k h0 l v).length = ws.length + l.length := by unfold NF; rw [List.length_set, List.length_append]
theorem NF_at {ws : va_W} {k h0 : Nat} {l : va_W} {v : va_E} (hk : k < ws.length) : (NF ws k h0 l v)[k]? = some (h0, v) := by
  unfold NF
  rw [List.getElem?_set_self (by rw [List.length_append]; omega)]
theorem NF_el {ws : va_W} {k h0 : Nat} {l : va_W} {v : va_E} (hk : k < ws.length) {j : Nat} {x : Nat × va_E} (hj : l[j]? = some x) : (NF ws k h0 l v)[ws.length + j]? = some x := by
  unfold NF
  rw [List.getElem?_set_ne (by omega), List.getElem?_append_right (by omega), Nat.add_sub_cancel_left]
  exact hj
theorem NF_put {ws : va_W} {k h0 : Nat} {l : va_W} {v v2 : va_E} : (NF ws k h0 l v).set k (h0, v2) = NF ws k h0 l v2 := by unfold NF; rw [List.set_set]
theorem NF_app {ws : va_W} {k h0 : Nat} {l m : va_W} {v : va_E} (hk : k < ws.length) : NF ws k h0 l v ++ m = NF ws k h0 (l ++ m) v := by
  unfold NF
  have hl : k < (ws ++ l).length := by rw [List.length_append]; omega
  rw [← List.append_assoc]
  generalize ws ++ l = w at hl ⊢
  rw [List.set_append, if_pos hl]
theorem NF_set {ws : va_W} {k h0 : Nat} {l : va_W} {v : va_E} {y : Nat × va_E} (hk : k < ws.length) (j : Nat) : (NF ws k h0 l v).set (ws.length + j) y = NF ws k h0 (l.set j y) v := by
  unfold NF
  rw [List.set_comm _ _ (show k ≠ ws.length + j by omega), List.set_append, if_neg (by omega), Nat.add_sub_cancel_left]
theorem NF_call {ws : va_W} {k h0 h1 : Nat} {l m : va_W} {v y : va_E} (hk : k < ws.length) (j : Nat) : NF (NF ws k h0 l v) (ws.length + j) h1 m y = NF ws k h0 ((l ++ m).set j (h1, y)) v := by
  show ((NF ws k h0 l v) ++ m).set (ws.length + j) (h1, y) = _
  rw [NF_app hk, NF_set hk]
theorem AOA.moved {t : FieldType} {u U : State} (h : va_AOA t u) (hvm : u.vm.Alike U.vm) : va_AOA t U := (Cond.arrayOver_setVmC (args := #[]) hvm (.array t)).trans h
/-- what the tables say beside: rows of rows, and a nest mate's constructor -/
def AO (U : State) : Prop := va_AOA .long U ∧ va_Nw (.methodLinkNest RX4 18 yX1_init "CamMaker") U
theorem AO.warm {s U : State} (h : AO s) (hW : s.WarmedH U.vm) : AO U := ⟨AOA.moved h.1 hW.alike, va_Nw.warmM hW h.2⟩
def LW (G : GT) (ws : va_W) (U : State) : Prop := va_P (gD G) vwCl ws U.heap ∧ va_D (gA G) ws ∧ NK G U ∧ SK G U U.heap ∧ GOK G ∧ gB G ≤ U.heap.size ∧ AO U
def LX (G : GT) (ws : va_W) (s : State) (H : Heap) (locs : List Loc) : Prop := va_P (gD G) vwCl ws H ∧ va_D (gA G) ws ∧ va_S (gA G) s.heap H locs
theorem LW.blind {G : GT} {ws : va_W} {As : List Value} : FrameBlind (va_Pc As (LW G ws)) := fun a U g mk q => ⟨q.1, q.2.1, q.2.2.1, ⟨va_K.moved (u := U) (U := U.calling g mk a) (Vm.Alike.refl U.vm) q.2.2.2.1.1, va_Nw.same rfl rfl q.2.2.2.1.2.1, va_Nw.same rfl rfl q.2.2.2.1.2.2.1, va_Nw.same rfl rfl q.2.2.2.1.2.2.2⟩, fun k hk => ⟨va_Z.moved (u := U) (U := U.calling g mk a) (Vm.Alike.refl U.vm) (q.2.2.2.2.1 k hk).1, va_T.moved (u := U) (U := U.calling g mk a) (Vm.Alike.refl U.vm) (q.2.2.2.2.1 k hk).2⟩, q.2.2.2.2.2.1, q.2.2.2.2.2.2.1, AOA.moved (u := U) (U := U.calling g mk a) q.2.2.2.2.2.2.2.1 (Vm.Alike.refl U.vm), va_Nw.same rfl rfl q.2.2.2.2.2.2.2.2⟩
def rmk (d mc ms : Nat) : Room := { frames := d, cells := mc, slots := ms, locals := 100 * d }
/-- a constructor's contract -/
def Kt (l : Launch) (y : MethodName) (cy : ByteArray) (n d mc ms : Nat) (G : GT) (As : List Value) (ws : va_W) (post : va_W → Prop) : Prop := Met l y (Cond.code y cy n none :: BIG) (rmk d mc ms) (va_Pc As (LW G ws)) (va_Qv post (LW G) (gA G)) mc ms (gA G)
theorem mtk {l : Launch} {y : MethodName} {cy : ByteArray} {n d mc ms : Nat} {G : GT} {As : List Value} {ws : va_W} {post : va_W → Prop} {own : String} (hy : plainName y.cls = true) (ho : y.cls = own) (hi : y.name = "<init>") (hn : (lg_sl As).length ≤ n)
    (body : ∀ (p : Program) (e : Env) (s : State) (m : MethodId) (args : Array Value) (below : List Frame) (meth : Method) (c : Code) (ls : Array Slot), FX G p m c cy n s args own → gB G ≤ s.heap.size → AO s → meth.name = "<init>" → meth.sig.returnType = none → meth.locks = false → LX G ws s s.heap [] → lv_has ls n (lv_args 0 As) →
      W p l e (rmk d mc ms) s m args below meth c s.heap [] 0 0 (MQ below (va_Qv post (LW G) (gA G)) args s mc ms (gA G)) (F0 m 0 ls [])) : Kt l y cy n d mc ms G As ws post := by
  refine Met.ofW (cc := cy) (maxL := n) (ret := none) hy rfl ?_
  intro p e s m args below meth c s₁ B hml hv
  obtain ⟨rfl, hP, hD, hN, hSt, hG, hB, hA⟩ := hv
  have hts := atoms_spec (ws := Cond.code y cy n none :: BIG) B.pre
  have hin : meth.name = "<init>" := (name_of_methodNamed B.named B.method).1.trans hi
  have hl := lv_entry As (n := n) hn
  rw [lg_entry_eq]
  generalize (lg_sl As ++ List.replicate (n - (lg_sl As).length) Slot.unset).toArray = ls at hl ⊢
  exact body p e s m As.toArray below meth c ls ⟨⟨B.exec, B.bytes, hml, by rw [← ho]; exact findClass_of_methodNamed B.named, fun w hw => hts w (List.mem_cons_of_mem _ hw)⟩, hN, hSt, hG⟩ hB hA hin B.returns B.notSynchronized ⟨hP, hD, va_S.rf⟩ hl
section GR
variable {p : Program} {l : Launch} {e : Env} {R : Room} {s : State} {m : MethodId} {args : Array Value} {below : List Frame} {meth : Method} {c : Code} {H : Heap} {locs : List Loc} {cells slots : Nat} {Q : State → Prop}
variable {cc : ByteArray} {nL pc : Nat} {ls : Array Slot} {rest : List Value} {own : String} {G : GT} {ws : va_W}
theorem LX.out (F : FX G p m c cc nL s args own) (hB : gB G ≤ s.heap.size) (hA : AO s) (X : LX G ws s H locs) {t : State} (ht : t.heap = H) (hW : s.WarmedH t.vm) : LW G ws t :=
  ⟨by rw [ht]; exact X.1, X.2.1, F.2.1.warm hW, F.2.2.1.out X.2.2 ht hW.alike, F.2.2.2, by rw [ht]; exact Nat.le_trans hB X.2.2.1, hA.warm hW⟩
theorem q_vret {post : va_W → Prop} (F : FX G p m c cc nL s args own) (hB : gB G ≤ s.heap.size) (hA : AO s) (X : LX G ws s H locs) (hr : meth.sig.returnType = none) (hk : meth.locks = false) (hdg : decode cc pc = .ok (.return_, 1)) (hp : post ws) : W p l e R s m args below meth c H locs cells slots (MQ below (va_Qv post (LW G) (gA G)) args s cells slots (gA G)) (F0 m pc ls []) :=
  W.vret F.1.1 F.1.2.1 hr (fun t ht hW => ⟨⟨ws, rfl, hp, X.out F hB hA ht hW⟩, X.2.2.F ht⟩) X.2.2.2.2 hdg hk
theorem q_obj (F : FX G p m c cc nL s args own) (hsz : ls.size = nL) {ix a : Nat} (hlk : Cond.methodLink own ix objectInit ∈ BIG) (hfr : 1 ≤ R.frames) (hlo : 2 * (F0 m pc ls (.ref a :: rest)).monitorRoom + (rest.map fun v => v.category).sum + 12 ≤ R.locals) (hdg : decode cc pc = .ok (.invokespecial ix, 3)) (kk : W p l e R s m args below meth c H locs cells slots Q (F0 m (pc + 3) ls rest)) : W p l e R s m args below meth c H locs cells slots Q (F0 m pc ls (.ref a :: rest)) :=
  W.objInit F.1.1 F.1.2.1 F.1.2.2.2.1 (F.1.2.2.2.2 _ hlk) (F.1.2.2.2.2 _ go_I) (F.1.2.2.2.2 _ go_C) rfl (hsz.trans F.1.2.2.1.symm) rfl hdg hfr hlo kk
theorem q_new (F : FX G p m c cc nL s args own) (hB : gB G ≤ s.heap.size) (X : LX G ws s H locs) {C : String} {T : u_T} {N ci ix : Nat} (hc : vwCl[ci]? = some (C, T, N)) (hin : ∀ w ∈ u_ws C T N, w ∈ BIG) (ty : Nat → FieldType) (hty : ∀ k, k < N → parseFieldDescriptor (T k).2.2.1 = some (ty k)) (hcl : Cond.classLink own ix C ∈ BIG) (hinst : Cond.instantiable C N ∈ BIG) (hini : Cond.initialized C ∈ BIG) (fs : List Value) (hfs : ∀ j, j < N → defaultValue (ty j) = vp_V fs j) (hcs : cells + 1 ≤ R.cells) (hss : slots + N ≤ R.slots) (hdg : decode cc pc = .ok (.new ix, 3))
    (kk : ∀ (q : Nat) (H : Heap), LX G (ws ++ [(q, .inr (ci, fs))]) s H locs → W p l e R s m args below meth c H locs (cells + 1) (slots + N) Q (F0 m (pc + 3) ls (.ref q :: rest))) : W p l e R s m args below meth c H locs cells slots Q (F0 m pc ls rest) :=
  va_new (tys := tyG G) F.1.1 F.1.2.1 F.1.2.2.2.2 hin ty hty F.1.2.2.2.1 (F.1.2.2.2.2 _ hcl) (F.1.2.2.2.2 _ hinst) (F.1.2.2.2.2 _ hini) F.2.1.1 X.1 X.2.1 X.2.2 (fun q h => Nat.le_trans hB h) hc hfs hcs hss hdg (fun q H1 a b d => kk q H1 ⟨a, b, d⟩)
theorem cls_uniq {D : va_G} {cl : List vw_C} {t1 : List (ClassId × FieldType)} {k : Nat} {c1 c2 : ClassId} {ty : FieldType} {nm : String} (h : va_K D cl (t1 ++ [(c2, ty)]) s) (hk : t1[k]? = some (c1, ty)) (e1 : va_RA s c1 ty → s.vm.findClass nm = some c1) (e2 : va_RA s c2 ty → s.vm.findClass nm = some c2) : c2 = c1 := by
  have h1 := e1 (h.2 k (c1, ty) (by rw [List.getElem?_append_left (List.getElem?_eq_some_iff.mp hk).1]; exact hk)).2
  have h2 := e2 (h.2 t1.length (c2, ty) (by rw [List.getElem?_append_right (Nat.le_refl _), Nat.sub_self]; rfl)).2
  exact Option.some.inj (h2.symm.trans h1)
theorem q_newi (F : FX G p m c cc nL s args own) (hB : gB G ≤ s.heap.size) (X : LX G ws s H locs) (n : Nat) (hn : n < 100000) (hcs : cells + 1 ≤ R.cells) (hss : slots + n ≤ R.slots) (hdg : decode cc pc = .ok (.newarray .int, 2))
    (kk : ∀ (q : Nat) (H : Heap), LX G (ws ++ [(q, fI (gI G) n (fun _ => 0))]) s H locs → W p l e R s m args below meth c H locs (cells + 1) (slots + n) Q (F0 m (pc + 2) ls (.ref q :: rest))) : W p l e R s m args below meth c H locs cells slots Q (F0 m pc ls (.int (I (n : Int)) :: rest)) := by
  refine va_newa (atype := .int) (ty := .int) (N' := n) (a0 := (n, .inl (fun _ => I 0))) F.1.1 F.1.2.1 (F.1.2.2.2.2 _ ga_int) rfl F.2.1.1 X.1 X.2.1 X.2.2 (fun q h => Nat.le_trans hB h) (fun cA => by rw [vp_cell_i, ← I_0]; rfl) (fun q => by rw [I_0, I_lt (by omega) (by omega)] at q; omega) (by rw [I_nat (by omega)]; omega) (by show n * 4 ≤ 536870912; omega) hcs hss hdg (fun q cA H1 hK hP hD hS => ?_)
  have e := cls_uniq (k := 0) hK rfl (nm := "[" ++ FieldType.int.toString) (fun h => h) (fun h => h)
  subst e
  exact kk q H1 ⟨hP, hD, hS⟩
theorem q_newz (F : FX G p m c cc nL s args own) (hB : gB G ≤ s.heap.size) (X : LX G ws s H locs) (n : Nat) (hn : n < 100000) (hcs : cells + 1 ≤ R.cells) (hss : slots + n ≤ R.slots) (hdg : decode cc pc = .ok (.newarray .boolean, 2))
    (kk : ∀ (q : Nat) (H : Heap), LX G (ws ++ [(q, fI (gZ G) n (fun _ => 0))]) s H locs → W p l e R s m args below meth c H locs (cells + 1) (slots + n) Q (F0 m (pc + 2) ls (.ref q :: rest))) : W p l e R s m args below meth c H locs cells slots Q (F0 m pc ls (.int (I (n : Int)) :: rest)) := by
  refine va_newa (atype := .boolean) (ty := .boolean) (N' := n) (a0 := (n, .inl (fun _ => I 0))) F.1.1 F.1.2.1 (F.1.2.2.2.2 _ ga_boolean) rfl F.2.1.1 X.1 X.2.1 X.2.2 (fun q h => Nat.le_trans hB h) (fun cA => by rw [vp_cell_i, ← I_0]; rfl) (fun q => by rw [I_0, I_lt (by omega) (by omega)] at q; omega) (by rw [I_nat (by omega)]; omega) (by show n * 1 ≤ 536870912; omega) hcs hss hdg (fun q cA H1 hK hP hD hS => ?_)
  have e := cls_uniq (k := 2) hK rfl (nm := "[" ++ FieldType.boolean.toString) (fun h => h) (fun h => h)
  subst e
  exact kk q H1 ⟨hP, hD, hS⟩
theorem q_newj (F : FX G p m c cc nL s args own) (hB : gB G ≤ s.heap.size) (X : LX G ws s H locs) (n : Nat) (hn : n < 100000) (hcs : cells + 1 ≤ R.cells) (hss : slots + n ≤ R.slots) (hdg : decode cc pc = .ok (.newarray .long, 2))
    (kk : ∀ (q : Nat) (H : Heap), LX G (ws ++ [(q, fJ (gJ G) n (fun _ => 0))]) s H locs → W p l e R s m args below meth c H locs (cells + 1) (slots + n) Q (F0 m (pc + 2) ls (.ref q :: rest))) : W p l e R s m args below meth c H locs cells slots Q (F0 m pc ls (.int (I (n : Int)) :: rest)) := by
  refine va_newa (atype := .long) (ty := .long) (N' := n) (a0 := (n, .inr (.inl (fun _ => J 0)))) F.1.1 F.1.2.1 (F.1.2.2.2.2 _ ga_long) rfl F.2.1.1 X.1 X.2.1 X.2.2 (fun q h => Nat.le_trans hB h) (fun cA => by rw [vp_cell_l, ← J_0]; rfl) (fun q => by rw [I_0, I_lt (by omega) (by omega)] at q; omega) (by rw [I_nat (by omega)]; omega) (by show n * 8 ≤ 536870912; omega) hcs hss hdg (fun q cA H1 hK hP hD hS => ?_)
  have e := cls_uniq (k := 1) hK rfl (nm := "[" ++ FieldType.long.toString) (fun h => h) (fun h => h)
  subst e
  exact kk q H1 ⟨hP, hD, hS⟩
theorem q_get (F : FX G p m c cc nL s args own) (X : LX G ws s H locs) {C nm ds : String} {T : u_T} {N ci ix a : Nat} {fs : List Value} {v : Value} (k : Nat) (he : ws[k]? = some (a, .inr (ci, fs))) (hc : vwCl[ci]? = some (C, T, N)) (hin : ∀ w ∈ u_ws C T N, w ∈ BIG) (j : Nat) (hj : j < N) (hnm : (C, nm, ds) = ((T j).1, (T j).2.1, (T j).2.2.1)) (hlk : Cond.fieldLink own ix C nm ds ∈ BIG) (hv : fs[j]? = some v) (hdg : decode cc pc = .ok (.getfield ix, 3)) (kk : W p l e R s m args below meth c H locs cells slots Q (F0 m (pc + 3) ls (v :: rest))) : W p l e R s m args below meth c H locs cells slots Q (F0 m pc ls (.ref a :: rest)) := by
  have e1 : C = (T j).1 := congrArg (fun q => q.1) hnm
  have e2 : nm = (T j).2.1 := congrArg (fun q => q.2.1) hnm
  have e3 : ds = (T j).2.2.1 := congrArg (fun q => q.2.2) hnm
  exact va_get (D := gD G) (ref := C) F.1.1 F.1.2.1 F.1.2.2.2.2 hin F.1.2.2.2.1 F.2.1.1 X.1 k he hc j hj (by rw [← e2, ← e3]; exact F.1.2.2.2.2 _ hlk) (fun x h => by rw [e1]; exact h) hv hdg kk
theorem q_putF (F : FX G p m c cc nL s args own) (X : LX G ws s H locs) {C nm ds : String} {T : u_T} {N ci ix a : Nat} {fs : List Value} {v : Value} {ty : FieldType} (k : Nat) (he : ws[k]? = some (a, .inr (ci, fs))) (hc : vwCl[ci]? = some (C, T, N)) (hin : ∀ w ∈ u_ws C T N, w ∈ BIG) (ty0 : Nat → FieldType) (hty : ∀ k, k < N → parseFieldDescriptor (T k).2.2.1 = some (ty0 k)) (hnms : ∀ a, a < N → ∀ b, b < N → a ≠ b → (T a).2.1 ≠ (T b).2.1) (j : Nat) (hj : j < N) (hnm : (C, nm, ds) = ((T j).1, (T j).2.1, (T j).2.2.1)) (hlk : Cond.fieldLink own ix C nm ds ∈ BIG) (hfin : (T j).2.2.2 = true) (hi : meth.name = "<init>") (ho : C = own) (hd : parseFieldDescriptor (T j).2.2.1 = some ty) (hn : narrow ty v = v) (hfit : fits ty v = true) (hl : j < fs.length) (hdg : decode cc pc = .ok (.putfield ix, 3)) (kk : ∀ (H : Heap) (locs : List Loc), LX G (ws.set k (a, .inr (ci, fs.set j v))) s H locs → W p l e R s m args below meth c H locs cells slots Q (F0 m (pc + 3) ls rest)) : W p l e R s m args below meth c H locs cells slots Q (F0 m pc ls (v :: .ref a :: rest)) := by
  have e1 : C = (T j).1 := congrArg (fun q => q.1) hnm
  have e2 : nm = (T j).2.1 := congrArg (fun q => q.2.1) hnm
  have e3 : ds = (T j).2.2.1 := congrArg (fun q => q.2.2) hnm
  exact va_putF (D := gD G) (ref := C) F.1.1 F.1.2.1 F.1.2.2.2.2 hin ty0 hty hnms F.1.2.2.2.1 F.2.1.1 X.1 X.2.1 X.2.2 k he hc j hj (by rw [← e2, ← e3]; exact F.1.2.2.2.2 _ hlk) (fun x h => by rw [e1]; exact h) hfin hi (e1.symm.trans ho) hd hn hfit hl hdg (fun H1 locs1 a b d => kk H1 locs1 ⟨a, b, d⟩)
theorem q_put (F : FX G p m c cc nL s args own) (X : LX G ws s H locs) {C nm ds : String} {T : u_T} {N ci ix a : Nat} {fs : List Value} {v : Value} {ty : FieldType} (k : Nat) (he : ws[k]? = some (a, .inr (ci, fs))) (hc : vwCl[ci]? = some (C, T, N)) (hin : ∀ w ∈ u_ws C T N, w ∈ BIG) (ty0 : Nat → FieldType) (hty : ∀ k, k < N → parseFieldDescriptor (T k).2.2.1 = some (ty0 k)) (hnms : ∀ a, a < N → ∀ b, b < N → a ≠ b → (T a).2.1 ≠ (T b).2.1) (j : Nat) (hj : j < N) (hnm : (C, nm, ds) = ((T j).1, (T j).2.1, (T j).2.2.1)) (hlk : Cond.fieldLink own ix C nm ds ∈ BIG) (hfin : (T j).2.2.2 = false) (hd : parseFieldDescriptor (T j).2.2.1 = some ty) (hn : narrow ty v = v) (hfit : fits ty v = true) (hl : j < fs.length) (hdg : decode cc pc = .ok (.putfield ix, 3)) (kk : ∀ (H : Heap) (locs : List Loc), LX G (ws.set k (a, .inr (ci, fs.set j v))) s H locs → W p l e R s m args below meth c H locs cells slots Q (F0 m (pc + 3) ls rest)) : W p l e R s m args below meth c H locs cells slots Q (F0 m pc ls (v :: .ref a :: rest)) := by
  have e1 : C = (T j).1 := congrArg (fun q => q.1) hnm
  have e2 : nm = (T j).2.1 := congrArg (fun q => q.2.1) hnm
  have e3 : ds = (T j).2.2.1 := congrArg (fun q => q.2.2) hnm
  exact va_put (D := gD G) (ref := C) F.1.1 F.1.2.1 F.1.2.2.2.2 hin ty0 hty hnms F.1.2.2.2.1 F.2.1.1 X.1 X.2.1 X.2.2 k he hc j hj (by rw [← e2, ← e3]; exact F.1.2.2.2.2 _ hlk) (fun x h => by rw [e1]; exact h) hfin hd hn hfit hl hdg (fun H1 locs1 a b d => kk H1 locs1 ⟨a, b, d⟩)
theorem q_iast (F : FX G p m c cc nL s args own) (X : LX G ws s H locs) {n a : Nat} {f : Int → Int} {i v : Int} (k : Nat) (he : ws[k]? = some (a, fI (gI G) n f)) (h : 0 ≤ i ∧ i < n) (hn : n < 2147483648) (hdg : decode cc pc = .ok (.iastore, 1)) (kk : ∀ (H : Heap) (locs : List Loc), LX G (ws.set k (a, fI (gI G) n (upI f i v))) s H locs → W p l e R s m args below meth c H locs cells slots Q (F0 m (pc + 1) ls rest)) : W p l e R s m args below meth c H locs cells slots Q (F0 m pc ls (.int (I v) :: .int (I i) :: .ref a :: rest)) := by
  refine va_iast F.1.1 F.1.2.1 F.2.1.1 X.1 X.2.1 X.2.2 k 0 he rfl (I_in h.1 h.2 hn) hdg (fun H1 locs1 hP hD hS => kk H1 locs1 ?_)
  rw [I_nat (by omega), fI_upd _ _ _ h.1] at hP hD
  exact ⟨hP, hD, hS⟩
theorem q_gets (F : FX G p m c cc nL s args own) (X : LX G ws s H locs) {ix : Nat} (k : Nat) (hk : k < 5) (hlk : va_Nw (.fieldLinkNest own ix "CamMaker" (sN k) "[I" "CamMaker") s) (hdg : decode cc pc = .ok (.getstatic ix, 3)) (kk : W p l e R s m args below meth c H locs cells slots Q (F0 m (pc + 3) ls (.ref (gT G k) :: rest))) : W p l e R s m args below meth c H locs cells slots Q (F0 m pc ls rest) :=
  va_getsN F.1.1 F.1.2.1 (F.2.2.1 k hk).1 X.2.2 F.1.2.2.2.1 (va_Nw.use rfl hlk) (fun _ h => h) hdg kk
theorem q_call (F : FX G p m c cc nL s args own) (hB : gB G ≤ s.heap.size) (hA : AO s) (X : LX G ws s H locs) {y : MethodName} {cy : ByteArray} {n d mc ms np ix b : Nat} {As st0 : List Value} {post : va_W → Prop} (hM : Kt l y cy n d mc ms G (.ref b :: As) ws post) (hlk : Cond.methodLink own ix y ∈ BIG) (cw : Cond.instanceMethod y ∈ BIG ∧ Cond.initialized y.cls ∈ BIG ∧ Cond.code y cy n none ∈ BIG) (hy : y.name = "<init>") (nd : y.cls ≠ "java/lang/invoke/MethodHandle" ∧ y.cls ≠ "java/lang/invoke/VarHandle" ∧ (parseMethodDescriptor y.desc).map (fun d => d.parameters.length) = some np) (hlen : As.length = np) (hst : st0 = As.reverse ++ .ref b :: rest) (hrm : 2 * (F0 m pc ls st0).monitorRoom + (rest.map fun v => v.category).sum ≤ 8) (hR : (rmk d mc ms).frames + 1 ≤ R.frames ∧ 8 + (n + 11) + (rmk d mc ms).locals ≤ R.locals) (hcs : cells + mc ≤ R.cells ∧ slots + ms ≤ R.slots) (hsz : ls.size = nL) (hdg : decode cc pc = .ok (.invokespecial ix, 3)) (kk : ∀ (ws2 : va_W) (H : Heap) (locs : List Loc), post ws2 → LX G ws2 s H locs → W p l e R s m args below meth c H locs (cells + mc) (slots + ms) Q (F0 m (pc + 3) ls rest)) : W p l e R s m args below meth c H locs cells slots Q (F0 m pc ls st0) := by
  have hts := F.1.2.2.2.2
  refine va_callv (va_runI (As := As) (rest := rest) F.1 hM (cwI np hts (gi_0 cw.2.2) rfl rfl rfl (hts _ cw.2.1) (hts _ hlk) (hts _ cw.1) hy nd hR) ⟨LW.blind, fun U hU hW => ⟨rfl, X.out F hB hA hU hW⟩⟩ rfl hlen hsz hst hrm hdg hcs) X.2.2 (fun q _ h => h) (fun q h => h) (fun u t H1 locs1 ht hvm hp hBx _ _ hS => ?_)
  exact kk u H1 locs1 hp ⟨by rw [← ht]; exact hBx.1, hBx.2.1, hS⟩
theorem q_callN (F : FX G p m c cc nL s args own) (hB : gB G ≤ s.heap.size) (hA : AO s) (X : LX G ws s H locs) {y : MethodName} {cy : ByteArray} {n d mc ms np ix b : Nat} {As st0 : List Value} {post : va_W → Prop} (hM : Kt l y cy n d mc ms G (.ref b :: As) ws post) {host : String} (hlk : va_Nw (.methodLinkNest own ix y host) s) (cw : Cond.instanceMethod y ∈ BIG ∧ Cond.initialized y.cls ∈ BIG ∧ Cond.code y cy n none ∈ BIG) (hy : y.name = "<init>") (nd : y.cls ≠ "java/lang/invoke/MethodHandle" ∧ y.cls ≠ "java/lang/invoke/VarHandle" ∧ (parseMethodDescriptor y.desc).map (fun d => d.parameters.length) = some np) (hlen : As.length = np) (hst : st0 = As.reverse ++ .ref b :: rest) (hrm : 2 * (F0 m pc ls st0).monitorRoom + (rest.map fun v => v.category).sum ≤ 8) (hR : (rmk d mc ms).frames + 1 ≤ R.frames ∧ 8 + (n + 11) + (rmk d mc ms).locals ≤ R.locals) (hcs : cells + mc ≤ R.cells ∧ slots + ms ≤ R.slots) (hsz : ls.size = nL) (hdg : decode cc pc = .ok (.invokespecial ix, 3)) (kk : ∀ (ws2 : va_W) (H : Heap) (locs : List Loc), post ws2 → LX G ws2 s H locs → W p l e R s m args below meth c H locs (cells + mc) (slots + ms) Q (F0 m (pc + 3) ls rest)) : W p l e R s m args below meth c H locs cells slots Q (F0 m pc ls st0) := by
  have hts := F.1.2.2.2.2
  refine va_callv (va_runIN (As := As) (rest := rest) F.1 hM ⟨va_cnB np hts (gi_0 cw.2.2) rfl rfl rfl hlk (hts _ cw.2.1) nd hR, hy, hts _ cw.1⟩ ⟨LW.blind, fun U hU hW => ⟨rfl, X.out F hB hA hU hW⟩⟩ rfl hlen hsz hst hrm hdg hcs) X.2.2 (fun q _ h => h) (fun q h => h) (fun u t H1 locs1 ht hvm hp hBx _ _ hS => ?_)
  exact kk u H1 locs1 hp ⟨by rw [← ht]; exact hBx.1, hBx.2.1, hS⟩
theorem q_copyT (F : FX G p m c cc nL s args own) (X : LX G ws s H locs) {ix a n1 : Nat} {g : Int → Int} (k : Nat) (he : ws[k]? = some (a, fI (gI G) n1 g)) (h12 : 12 ≤ n1) (hn1 : n1 < 2147483648) (hsz : ls.size = nL) (hlk : Cond.methodLink own ix arraycopyName ∈ BIG) (hfr : 1 ≤ R.frames) (hlo : (rest.map fun v => v.category).sum + (nativeFrameWords "java/lang/System" "arraycopy" 5 + 11) ≤ R.locals) (hdg : decode cc pc = .ok (.invokestatic ix, 3)) (kk : ∀ (H : Heap) (locs : List Loc), LX G (ws.set k (a, fI (gI G) n1 (cpyI (stv 0) g 0 0 12))) s H locs → W p l e R s m args below meth c H locs cells slots Q (F0 m (pc + 3) ls rest)) : W p l e R s m args below meth c H locs cells slots Q (F0 m pc ls (.int (I 12) :: .int (I 0) :: .ref a :: .int (I 0) :: .ref (gT G 0) :: rest)) := by
  have hts := F.1.2.2.2.2
  have nn : ∀ z : Int, 0 ≤ z → z ≤ 2147483647 → ¬ I z < 0 := fun z h h2 q => by rw [I_0, I_lt (by omega) (by omega)] at q; omega
  have i0 : (I 0).toNatClampNeg = 0 := I_nat (by omega)
  have i12 : (I 12).toNatClampNeg = 12 := I_nat (by omega)
  intro T hT Xs
  obtain ⟨src, hs1, ⟨hs6, k0, hk0, cm0, hkk0⟩, hs3, hs4, -, hs5, hs7⟩ := (F.2.2.1 0 (by omega)).2
  have hs4 : 12 ≤ src.slots.size := hs4
  have hs5 : ∀ j : Nat, j < 12 → src.slots[j]? = some (.int ((fun j : Nat => I (stv 0 (j : Int))) j)) := hs5
  have hc0 : H[gT G 0]? = some src := by rw [X.2.2.2.1 _ (Array.getElem?_eq_some_iff.mp hs1).1 hs7]; exact hs1
  have hc1 : H[a]? = some (vp_cell (gI G) (n1, .inl (fun j : Nat => I (g (j : Int))))) := X.1 k _ he
  obtain ⟨-, k1, hk1, cm1, hkk1⟩ := (F.2.1.1.2 0 (gI G, .int) rfl).1 n1 (fun j => .int (I (g (j : Int))))
  obtain ⟨vm', X', step⟩ := Xs.arraycopy F.1.1 F.1.2.2.2.1 (hts _ hlk) (hts _ gac_n) (hts _ gac_s) (hts _ gac_i) (src := gT G 0) (dst := a) (cs := src) (cd := vp_cell (gI G) (n1, .inl (fun j : Nat => I (g (j : Int))))) (srcPos := I 0) (destPos := I 0) (n := I 12) (by rw [hT]; exact hc0) (by rw [hT]; exact hc1)
    hs6 (fun _ h => by cases h) hs3 (fun h => by cases h) hk0 hk1 hkk0 hkk1 (by simp [refKind]) (nn 0 (by omega) (by omega)) (nn 0 (by omega) (by omega)) (nn 12 (by omega) (by omega))
    (by rw [I_int (by omega), I_int (by omega)]; omega)
    (by rw [I_int (by omega), I_int (by omega)]; show ¬ _ > ((arrV (gI G) n1 (fun j => .int (I (g (j : Int))))).slots.size : Int); rw [arrV_size]; omega)
    (fun vm₁ _ i hi => by
      rw [i12] at hi
      have e : src.slots.getD ((I 0).toNatClampNeg + i) .null = .int (I (stv 0 (i : Int))) := by
        rw [i0, Nat.zero_add, Array.getD_eq_getD_getElem?, hs5 _ hi]
        rfl
      exact ⟨by rw [e]; rfl, by rw [e]; exact trivial⟩)
    (g := F0 m pc ls (.int (I 12) :: .int (I 0) :: .ref a :: .int (I 0) :: .ref (gT G 0) :: rest)) rfl (hsz.trans F.1.2.2.1.symm) (rest := rest) rfl (by rw [F.1.2.1]; exact hdg) hfr (by show 2 * 0 + _ + _ ≤ _; omega)
  have e1 : copied src (vp_cell (gI G) (n1, .inl (fun j : Nat => I (g (j : Int))))) (I 0) (I 0) (I 12) = vp_cell (gI G) (n1, .inl (va_cpy (fun j : Nat => I (stv 0 (j : Int))) (fun j : Nat => I (g (j : Int))) (I 0).toNatClampNeg (I 0).toNatClampNeg (I 12).toNatClampNeg)) := va_copiedX (fun z => .int z) src (gI G) (fun j : Nat => I (stv 0 (j : Int))) (fun j : Nat => I (g (j : Int))) hs5 (by rw [i0, i12]; omega)
  have e2 : (.inl (gI G, n1, .inl (va_cpy (fun j : Nat => I (stv 0 (j : Int))) (fun j : Nat => I (g (j : Int))) (I 0).toNatClampNeg (I 0).toNatClampNeg (I 12).toNatClampNeg)) : va_E) = fI (gI G) n1 (cpyI (stv 0) g 0 0 12) := by
    rw [← fI_cpy (gI G) n1 (stv 0) g (sp := 0) (dp := 0) (k := 12) (by omega) (by omega) (by omega), i0, i12]
    rfl
  rw [e1] at X' step
  have hlt : a < H.size := (Array.getElem?_eq_some_iff.mp hc1).1
  generalize hcell : vp_cell (gI G) (n1, .inl (va_cpy (fun j : Nat => I (stv 0 (j : Int))) (fun j : Nat => I (g (j : Int))) (I 0).toNatClampNeg (I 0).toNatClampNeg (I 12).toNatClampNeg)) = cell at X' step
  have hheap : ((T.setVm vm').setCell a cell).heap = H.setIfInBounds a cell := by rw [← hT]; rfl
  have oq : ∀ q : Nat, q ≠ a → (H.setIfInBounds a cell)[q]? = H[q]? := fun q hq => by simp [Array.getElem?_setIfInBounds, Ne.symm hq]
  have hat : va_at (gD G) vwCl (a, fI (gI G) n1 (cpyI (stv 0) g 0 0 12)) (H.setIfInBounds a cell) := by
    rw [← e2]
    show (H.setIfInBounds a cell)[a]? = some (vp_cell _ _)
    rw [hcell]
    simp [Array.getElem?_setIfInBounds, hlt]
  obtain ⟨t, a1, b1⟩ := kk _ _ ⟨X.1.set X.2.1 he hat oq, X.2.1.set he, by simp; exact X.2.2.1, fun q g1 g2 => by
      rw [oq q (fun e => g2 (by rw [e]; exact X.2.1.2 k _ he))]
      exact X.2.2.2.1 q g1 g2, fun q hq => by
      rcases List.mem_append.mp hq with h | h
      · exact X.2.2.2.2 q h
      · obtain ⟨z, -, hz⟩ := List.mem_map.mp h
        rw [← hz]
        exact X.2.1.2 k _ he⟩ _ hheap X'
  exact ⟨t, step t a1, b1⟩
def rows11 (G : GT) (r : Nat → Nat) : va_W := [(r 0, fJ (gJ G) 120 (fun _ => 0)), (r 1, fJ (gJ G) 120 (fun _ => 0)), (r 2, fJ (gJ G) 120 (fun _ => 0)), (r 3, fJ (gJ G) 120 (fun _ => 0)), (r 4, fJ (gJ G) 120 (fun _ => 0)), (r 5, fJ (gJ G) 120 (fun _ => 0)), (r 6, fJ (gJ G) 120 (fun _ => 0)), (r 7, fJ (gJ G) 120 (fun _ => 0)), (r 8, fJ (gJ G) 120 (fun _ => 0)), (r 9, fJ (gJ G) 120 (fun _ => 0)), (r 10, fJ (gJ G) 120 (fun _ => 0))]
theorem rows11_pl (G : GT) (r : Nat → Nat) : va_pl ([] ++ (List.range 11).map r) (vr_up (fun _ => fJ (gJ G) 120 (fun _ => 0)) ((List.range 11).map r) (fJ (gJ G) 120 (fun _ => 0))) = rows11 G r := by
  have e : vr_up (fun _ => fJ (gJ G) 120 (fun _ => 0)) ((List.range 11).map r) (fJ (gJ G) 120 (fun _ => 0)) = fun _ => fJ (gJ G) 120 (fun _ => 0) := by
    funext a
    unfold vr_up
    split <;> rfl
  rw [e]
  rfl
theorem q_mna (F : FX G p m c cc nL s args own) (hB : gB G ≤ s.heap.size) (hA : AO s) (X : LX G ws s H locs) {ix : Nat} (hcl : Cond.classLink own ix "[[J" ∈ BIG) (hcs : cells + (1 + 11) ≤ R.cells) (hss : slots + (11 + 11 * 120) ≤ R.slots) (hdg : decode cc pc = .ok (.multianewarray ix 2, 4))
    (kk : ∀ (q : Nat) (r : Nat → Nat) (H : Heap), LX G (ws ++ ((q, fR (gR G) 11 r) :: rows11 G r)) s H locs → W p l e R s m args below meth c H locs (cells + 1 + 11) (slots + 11 + 11 * 120) Q (F0 m (pc + 4) ls (.ref q :: rest))) : W p l e R s m args below meth c H locs cells slots Q (F0 m pc ls (.int (I 120) :: .int (I 11) :: rest)) := by
  have hts := F.1.2.2.2.2
  have hcy : s.vm.findClass (FieldType.array .long).toString = some (gJ G) := (F.2.1.1.2 1 (gJ G, .long) rfl).2
  have hl2 : (Cond.classLink own ix ("[" ++ (FieldType.array .long).toString)).before args s = true := by
    rw [show ("[" ++ (FieldType.array .long).toString) = "[[J" by decide]
    exact hts _ hcl
  have nn : ∀ z : Int, 0 ≤ z → z ≤ 2147483647 → ¬ I z < 0 := fun z h h2 q => by rw [I_0, I_lt (by omega) (by omega)] at q; omega
  refine va_mna (X := ws) (L := []) (f := fun _ => fJ (gJ G) 120 (fun _ => 0)) (ty := .long) (N' := 11) (K' := 120) (z := (120, .inr (.inl (fun _ => J 0)))) F.1.1 F.1.2.1 F.1.2.2.2.1 hl2 hA.1 (hts _ ga_long) hcy F.2.1.1 (by rw [show va_pl [] (fun _ => fJ (gJ G) 120 (fun _ => 0)) = [] from rfl, List.append_nil]; exact X.1) (by rw [show va_pl [] (fun _ => fJ (gJ G) 120 (fun _ => 0)) = [] from rfl, List.append_nil]; exact X.2.1) X.2.2 (fun q h => Nat.le_trans hB h) (nn 11 (by omega) (by omega)) (nn 120 (by omega) (by omega)) (I_nat (by omega)) (I_nat (by omega)) (by decide) (by decide) (by decide) rfl rfl hcs hss (fun c => by rw [vp_cell_l, ← J_0]; exact arrV_new c 120 (.long 0)) hdg (fun q r cA H1 _ _ hK hP hD hS => ?_)
  have e := cls_uniq (k := 3) hK rfl (nm := "[" ++ (FieldType.array .long).toString) (fun h => h) (fun h => h)
  subst e
  have e9 : ∀ X9 : va_W, (X9 ++ [(q, (.inl (gR G, 11, .inr (.inr (.inr (.inr (fun i => if i < 11 then some (r i) else none))))) : va_E))]) ++ va_pl ([] ++ (List.range 11).map r) (vr_up (fun _ => fJ (gJ G) 120 (fun _ => 0)) ((List.range 11).map r) (.inl (gJ G, (120, .inr (.inl (fun _ => J 0)))))) = X9 ++ ((q, fR (gR G) 11 r) :: rows11 G r) := by
    intro X9
    rw [show va_pl ([] ++ (List.range 11).map r) (vr_up (fun _ => fJ (gJ G) 120 (fun _ => 0)) ((List.range 11).map r) (.inl (gJ G, (120, .inr (.inl (fun _ => J 0)))))) = rows11 G r from rows11_pl G r, List.append_assoc]
    rfl
  rw [e9] at hP hD
  exact kk q r H1 ⟨hP, hD, hS⟩
end GR
