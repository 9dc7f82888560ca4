abbrev NSE : String := "java/util/NoSuchElementException"
abbrev NSN : List String := ["java/lang/RuntimeException", "java/lang/Exception"]
theorem gi_NSE : Cond.initialized NSE ∈ BIG := bg_of 62 (by decide +kernel) rfl
theorem gx_at : ∀ w ∈ (vx_at0 RX4 121 NSE NSN).filter goodWord, w ∈ BIG := by
  intro w hw
  have h1 : ∀ w ∈ (vx_at0 RX4 121 NSE NSN).filter goodWord, w ∈ lw_tbl := by decide +kernel
  exact List.mem_filter.mpr ⟨h1 w hw, (List.mem_filter.mp hw).2⟩
abbrev gx_L : List Cond := [Cond.castable NSE NSE, Cond.declares (Bundle.init0 "java/lang/RuntimeException"), Cond.declares (Bundle.init0 "java/lang/Exception"), Cond.declares (Bundle.init0 Bundle.tN)]
theorem gx_no : ∀ w ∈ (vx_at0 RX4 121 NSE NSN).filter (fun w => !goodWord w), w ∈ gx_L := by decide +kernel
theorem gx_ot : ∀ w ∈ Cond.classLink RX4 119 NSE :: Cond.initialized NSE :: vx_at0 RX4 121 NSE NSN, vx_ot w = true := by decide +kernel
/-- what a throw needs of the world -/
def TX (G : GT) (U : State) (H : Heap) : Prop := vx_Zq Bundle.tN "UNASSIGNED_STACK" Bundle.steD (gA G) U H ∧ vx_Zq Bundle.tN "SUPPRESSED_SENTINEL" Bundle.listD (gA G) U H ∧ va_Nw (.castable NSE NSE) U ∧ va_Nw (.declares (Bundle.init0 "java/lang/RuntimeException")) U ∧ va_Nw (.declares (Bundle.init0 "java/lang/Exception")) U ∧ va_Nw (.declares (Bundle.init0 Bundle.tN)) U
theorem TX.out {G : GT} {s t : State} {H : Heap} {locs : List Loc} (h : TX G s s.heap) (hS : va_S (gA G) s.heap H locs) (ht : t.heap = H) (hW : s.WarmedH t.vm) : TX G t t.heap := by
  rw [ht]
  exact ⟨vx_Zq.moved hW.alike (vx_Zq.kept h.1 hS.2.1), vx_Zq.moved hW.alike (vx_Zq.kept h.2.1 hS.2.1), va_Nw.warmC hW h.2.2.1, va_Nw.warmD hW h.2.2.2.1, va_Nw.warmD hW h.2.2.2.2.1, va_Nw.warmD hW h.2.2.2.2.2⟩
def rmx (d : Nat) : Room := { frames := d, cells := 1, slots := 6, locals := 100 * d }
def BX (G : GT) : String → St → State → Prop := fun E τ U => E = NSE ∧ va_P (gD G) vwCl (wl G τ) U.heap
def PcX (G : GT) (As : List Value) (σ : St) : Array Value → State → Prop := va_Pc As (fun U => GW G σ U ∧ TX G U U.heap)
def Cx (l : Launch) (y : MethodName) (cy : ByteArray) (n : Nat) (ret : Option FieldType) (d : Nat) (G : GT) (As : List Value) (σ : St) (Qc : Array Value → State → Outcome → State → Prop) (px : St → Prop) : Prop := vx_Met l y (Cond.code y cy n ret :: BIG) (rmx d) (PcX G As σ) Qc (vx_X px (BX G) (gA G)) 1 6 (gA G)
theorem PcX.blind {G : GT} {σ : St} {As : List Value} : FrameBlind (PcX G As σ) := fun a U g mk q => ⟨q.1, (GW.blind (As := As) a U g mk ⟨q.1, q.2.1⟩).2, vx_Zq.moved (u := U) (U := U.calling g mk a) (Vm.Alike.refl U.vm) q.2.2.1, vx_Zq.moved (u := U) (U := U.calling g mk a) (Vm.Alike.refl U.vm) q.2.2.2.1, va_Nw.same rfl rfl q.2.2.2.2.1, va_Nw.same rfl rfl q.2.2.2.2.2.1, va_Nw.same rfl rfl q.2.2.2.2.2.2.1, va_Nw.same rfl rfl q.2.2.2.2.2.2.2⟩
theorem mtx {l : Launch} {y : MethodName} {cy : ByteArray} {n d : Nat} {ret : Option FieldType} {G : GT} {As : List Value} {σ : St} {Qc : Array Value → State → Outcome → State → Prop} {px : St → Prop} {own : String} (hy : plainName y.cls = true) (ho : y.cls = own) (hn : (lg_sl As).length ≤ n)
    (body : ∀ (p : Program) (e : Env) (s : State) (m : MethodId) (args : Array Value) (below : List Frame) (meth : Method) (c : Code) (ls : Array Slot), FX G p m c cy n s args own → TX G s s.heap → (∀ x ∈ c.exceptionTable.toList, False) → meth.sig.returnType = ret → meth.locks = false → HX G σ s s.heap [] → lv_has ls n (lv_args 0 As) →
      W p l e (rmx d) s m args below meth c s.heap [] 0 0 (vx_MQ below Qc (vx_X px (BX G) (gA G)) args s 1 6 (gA G)) (F0 m 0 ls [])) : Cx l y cy n ret d G As σ Qc px := by
  refine vx_ofW (cc := cy) (maxL := n) (ret := ret) hy rfl ?_
  intro p e s m args below meth c s₁ B hml hx0 hv
  obtain ⟨rfl, ⟨hP, hN, hSt, hG⟩, hT⟩ := hv
  have hts := atoms_spec (ws := Cond.code y cy n ret :: BIG) B.pre
  have hl := lv_entry As (n := n) hn
  rw [lg_entry_eq]
  generalize (lg_sl As ++ List.replicate (n - (lg_sl As).length) Slot.unset).toArray = ls at hl ⊢
  exact body p e s m As.toArray below meth c ls ⟨⟨B.exec, B.bytes, hml, by rw [← ho]; exact findClass_of_methodNamed B.named, fun w hw => hts w (List.mem_cons_of_mem _ hw)⟩, hN, hSt, hG⟩ hT hx0 B.returns B.notSynchronized ⟨hP, va_S.rf⟩ hl
theorem mtw {l : Launch} {y : MethodName} {cy : ByteArray} {n d : Nat} {ret : Option FieldType} {hh : List (Nat × Nat × Nat × Nat)} {G : GT} {As : List Value} {σ : St} {Qc : Array Value → State → Outcome → State → Prop} {own : String} (hy : plainName y.cls = true) (ho : y.cls = own) (hn : (lg_sl As).length ≤ n)
    (body : ∀ (p : Program) (e : Env) (s : State) (m : MethodId) (args : Array Value) (below : List Frame) (meth : Method) (c : Code) (ls : Array Slot), FX G p m c cy n s args own → TX G s s.heap → c.exceptionTable.toList = tableOf hh → meth.sig.returnType = ret → meth.locks = false → HX G σ s s.heap [] → lv_has ls n (lv_args 0 As) →
      W p l e (rmx d) s m args below meth c s.heap [] 0 0 (MQ below Qc args s 1 6 (gA G)) (F0 m 0 ls [])) : Met l y (Cond.codeWith y cy n ret hh :: BIG) (rmx d) (PcX G As σ) Qc 1 6 (gA G) := by
  refine va_MetW (cc := cy) (maxL := n) (ret := ret) (hh := hh) hy rfl ?_
  intro p e s m args below meth c s₁ B hml hv
  obtain ⟨rfl, ⟨hP, hN, hSt, hG⟩, hT⟩ := hv
  have hts := atoms_spec (ws := Cond.codeWith y cy n ret hh :: BIG) B.pre
  have hl := lv_entry As (n := n) hn
  rw [lg_entry_eq]
  generalize (lg_sl As ++ List.replicate (n - (lg_sl As).length) Slot.unset).toArray = ls at hl ⊢
  exact body p e s m As.toArray below meth c ls ⟨⟨B.exec, B.bytes, hml, by rw [← ho]; exact findClass_of_methodNamed B.named, fun w hw => hts w (List.mem_cons_of_mem _ hw)⟩, hN, hSt, hG⟩ hT (vx_table (x := y) B (hts _ List.mem_cons_self)) B.returns B.notSynchronized ⟨hP, va_S.rf⟩ hl
section TH
variable {p : Program} {l : Launch} {e : Env} {R : Room} {s : State} {m : MethodId} {args : Array Value} {below : List Frame} {meth : Method} {c : Code} {H : Heap} {locs : List Loc} {cells slots : Nat} {Q : State → Prop}
variable {cc : ByteArray} {nL pc : Nat} {ls : Array Slot} {rest : List Value} {own : String} {G : GT} {σ : St}
theorem r_iretx {τ : St} {XC : String → State → State → Prop} (F : FX G p m c cc nL s args own) (X : HX G τ s H locs) {post : Int → St → Prop} {a : Int} (hr : meth.sig.returnType = some .int) (hk : meth.locks = false) (hdg : decode cc pc = .ok (.ireturn, 1)) (hp : post a τ) : W p l e R s m args below meth c H locs 0 0 (vx_MQ below (QI G post) XC args s 1 6 (gA G)) (F0 m pc ls [.int (I a)]) :=
  W.widen (k := 1) (n := 6) (by omega) (by omega) (vx_ret (W.iret F.1.1 F.1.2.1 hr (fun t ht hW => ⟨⟨I a, τ, rfl, ⟨a, rfl, hp⟩, F.out X ht hW⟩, X.2.F ht⟩) X.2.2.2 hdg hk))
theorem r_lretx {τ : St} {XC : String → State → State → Prop} (F : FX G p m c cc nL s args own) (X : HX G τ s H locs) {post : Int → St → Prop} {a : Int} (hr : meth.sig.returnType = some .long) (hk : meth.locks = false) (hdg : decode cc pc = .ok (.lreturn, 1)) (hp : post a τ) : W p l e R s m args below meth c H locs 0 0 (vx_MQ below (QJ G post) XC args s 1 6 (gA G)) (F0 m pc ls [.long (J a)]) :=
  W.widen (k := 1) (n := 6) (by omega) (by omega) (vx_ret (W.lret F.1.1 F.1.2.1 hr (fun t ht hW => ⟨⟨J a, τ, rfl, ⟨a, rfl, hp⟩, F.out X ht hW⟩, X.2.F ht⟩) X.2.2.2 hdg hk))
theorem r_iret6 {τ : St} (F : FX G p m c cc nL s args own) (X : HX G τ s H locs) {post : Int → St → Prop} {a : Int} (hr : meth.sig.returnType = some .int) (hk : meth.locks = false) (hdg : decode cc pc = .ok (.ireturn, 1)) (hp : post a τ) : W p l e R s m args below meth c H locs 1 6 (MQ below (QI G post) args s 1 6 (gA G)) (F0 m pc ls [.int (I a)]) :=
  W.iret F.1.1 F.1.2.1 hr (fun t ht hW => ⟨⟨I a, τ, rfl, ⟨a, rfl, hp⟩, F.out X ht hW⟩, X.2.F ht⟩) X.2.2.2 hdg hk
theorem HX.grow {t : State} (F : FX G p m c cc nL s args own) (X : HX G σ s H locs) (hz : H.size ≤ t.heap.size) (hq : ∀ q : Nat, q < H.size → t.heap[q]? = H[q]?) : va_P (gD G) vwCl (wl G σ) t.heap ∧ va_F (gA G) s t := by
  refine ⟨X.1.kept (fun k q hk => hq q.1 (X.1 k q hk).lt), Nat.le_trans X.2.1 hz, fun q h1 h2 => ?_⟩
  rw [hq q (Nat.lt_of_lt_of_le h1 X.2.1)]
  exact X.2.2.1 q h1 h2
theorem r_throwN {d : Nat} {Qc : Array Value → State → Outcome → State → Prop} {px : St → Prop} (F : FX G p m c cc nL s args RX4) (X : HX G σ s H locs) (hT : TX G s s.heap) (hx0 : ∀ x ∈ c.exceptionTable.toList, False) (hst : l.stackTraces = false) (hk : meth.locks = false) (hsz : ls.size = nL) (hd : 6 ≤ d)
    (d0 : decode cc pc = .ok (.new 119, 3)) (d3 : decode cc (pc + 3) = .ok (.dup, 1)) (d4 : decode cc (pc + 4) = .ok (.invokespecial 121, 3)) (d7 : decode cc (pc + 7) = .ok (.athrow, 1)) (hp : px σ) : W p l e (rmx d) s m args below meth c H locs 0 0 (vx_MQ below Qc (vx_X px (BX G) (gA G)) args s 1 6 (gA G)) (F0 m pc ls []) := by
  have hts := F.1.2.2.2.2
  refine vx_throw0 (own := RX4) (cls := NSE) (names := NSN) (ik := 119) (ic := 121) F.1.1 F.1.2.1 hst F.1.2.2.2.1 (by decide) (by decide) (hts _ gc_RX4_119) (hts _ gi_NSE) (vx_hat (fun w hw => hts w (gx_at w hw)) gx_no (vx_c (va_Nw.use rfl hT.2.2.1) (vx_c (va_Nw.use rfl hT.2.2.2.1) (vx_c (va_Nw.use rfl hT.2.2.2.2.1) (vx_c (va_Nw.use rfl hT.2.2.2.2.2) vx_n))))) gx_ot hT.1 hT.2.1 X.2 (hsz.trans F.1.2.2.1.symm) d0 d3 d4 d7 (fun x hx => (hx0 x hx).elim) ?_ ?_ (Nat.le_refl 1) (Nat.le_refl 6) hk ?_ X.2.2.2 (Nat.le_refl 1) (Nat.le_refl 6)
  · show 2 + 3 < d; omega
  · show 0 + (13 * (2 + 1) + 42) ≤ 100 * d; omega
  · intro t _ hz hq
    have h9 := X.grow F hz hq
    exact ⟨σ, hp, ⟨rfl, h9.1⟩, h9.2⟩
theorem x_cVI (F : FX G p m c cc nL s args own) (X : HX G σ s H locs) (hT : TX G s s.heap) {C : String} {T : u_T} {N ci : Nat} {fs : List Value} {y : MethodName} {cy : ByteArray} {n d np ix : Nat} {ret : Option FieldType} {As st0 : List Value} (k : Nat) (hk : k < 43) (he : eK G k (σ k) = .inr (ci, fs)) (hc : vwCl[ci]? = some (C, T, N)) {post : Int → St → Prop} {px : St → Prop} (hM : Cx l y cy n ret d G (.ref (gY G k) :: As) σ (QI G post) px) (gv : GoodIn BIG (wsV own ix C y (Cond.code y cy n ret :: BIG))) (hC : y.cls = C) (nd : y.cls ≠ "java/lang/invoke/MethodHandle" ∧ y.cls ≠ "java/lang/invoke/VarHandle" ∧ (parseMethodDescriptor y.desc).map (fun d => d.parameters.length) = some np) (hlen : As.length = np) (hst : st0 = As.reverse ++ .ref (gY G k) :: rest) (hrm : 2 * (F0 m pc ls st0).monitorRoom + (rest.map fun v => v.category).sum ≤ 8) (hR : (rmx d).frames + 1 ≤ R.frames ∧ 8 + (n + 11) + (rmx d).locals ≤ R.locals) (hcs : cells + 1 ≤ R.cells ∧ slots + 6 ≤ R.slots) (hsz : ls.size = nL) (hdg : decode cc pc = .ok (.invokevirtual ix, 3))
    (kx : ∀ (ce : Cell) (q9 : Addr) (τ : St) (H : Heap) (locs : List Loc), px τ → HX G τ s H locs → H[q9]? = some ce → ce.vm = .none → s.vm.findClass NSE = some ce.cls → vx_W p l e R s m args below meth c H locs (cells + 1) (slots + 6) Q (F0 m pc ls rest) q9)
    (kk : ∀ (a : Int) (τ : St) (H : Heap) (locs : List Loc), post a τ → HX G τ s H locs → W p l e R s m args below meth c H locs (cells + 1) (slots + 6) Q (F0 m (pc + 3) ls (.int (I a) :: rest))) : W p l e R s m args below meth c H locs cells slots Q (F0 m pc ls st0) := by
  refine vx_calli (vx_runV (As := As) (rest := rest) F.1 hM (cwV np F.1.2.2.2.2 gv rfl rfl rfl ⟨hC, nd⟩ hR) ⟨PcX.blind, va_recv F.2.1.1 X.1 hc (by rw [wl_at G σ hk, he]), fun U hU hW => ⟨rfl, F.out X hU hW, hT.out X.2 hU hW⟩⟩ rfl hlen hsz hst hrm hdg hcs) X.2 (fun q _ h => h) (fun q h => h) (fun q _ h => h) (fun E ce q9 u t H1 locs1 ht hvm hp hB _ _ hS h1 h2 h3 => ?_) (fun r u t H1 locs1 ht hvm hp hB _ _ hS => ?_)
  · obtain ⟨rfl, hB2⟩ := hB
    exact kx ce q9 u H1 locs1 hp ⟨by rw [← ht]; exact hB2, hS⟩ h1 h2 h3
  · obtain ⟨a, rfl, hp⟩ := hp
    exact kk a u H1 locs1 hp ⟨by rw [← ht]; exact hB.1, hS⟩
theorem x_cVJ (F : FX G p m c cc nL s args own) (X : HX G σ s H locs) (hT : TX G s s.heap) {C : String} {T : u_T} {N ci : Nat} {fs : List Value} {y : MethodName} {cy : ByteArray} {n d np ix : Nat} {ret : Option FieldType} {As st0 : List Value} (k : Nat) (hk : k < 43) (he : eK G k (σ k) = .inr (ci, fs)) (hc : vwCl[ci]? = some (C, T, N)) {post : Int → St → Prop} {px : St → Prop} (hM : Cx l y cy n ret d G (.ref (gY G k) :: As) σ (QJ G post) px) (gv : GoodIn BIG (wsV own ix C y (Cond.code y cy n ret :: BIG))) (hC : y.cls = C) (nd : y.cls ≠ "java/lang/invoke/MethodHandle" ∧ y.cls ≠ "java/lang/invoke/VarHandle" ∧ (parseMethodDescriptor y.desc).map (fun d => d.parameters.length) = some np) (hlen : As.length = np) (hst : st0 = As.reverse ++ .ref (gY G k) :: rest) (hrm : 2 * (F0 m pc ls st0).monitorRoom + (rest.map fun v => v.category).sum ≤ 8) (hR : (rmx d).frames + 1 ≤ R.frames ∧ 8 + (n + 11) + (rmx d).locals ≤ R.locals) (hcs : cells + 1 ≤ R.cells ∧ slots + 6 ≤ R.slots) (hsz : ls.size = nL) (hdg : decode cc pc = .ok (.invokevirtual ix, 3))
    (kx : ∀ (ce : Cell) (q9 : Addr) (τ : St) (H : Heap) (locs : List Loc), px τ → HX G τ s H locs → H[q9]? = some ce → ce.vm = .none → s.vm.findClass NSE = some ce.cls → vx_W p l e R s m args below meth c H locs (cells + 1) (slots + 6) Q (F0 m pc ls rest) q9)
    (kk : ∀ (a : Int) (τ : St) (H : Heap) (locs : List Loc), post a τ → HX G τ s H locs → W p l e R s m args below meth c H locs (cells + 1) (slots + 6) Q (F0 m (pc + 3) ls (.long (J a) :: rest))) : W p l e R s m args below meth c H locs cells slots Q (F0 m pc ls st0) := by
  refine vx_calll (vx_runV (As := As) (rest := rest) F.1 hM (cwV np F.1.2.2.2.2 gv rfl rfl rfl ⟨hC, nd⟩ hR) ⟨PcX.blind, va_recv F.2.1.1 X.1 hc (by rw [wl_at G σ hk, he]), fun U hU hW => ⟨rfl, F.out X hU hW, hT.out X.2 hU hW⟩⟩ rfl hlen hsz hst hrm hdg hcs) X.2 (fun q _ h => h) (fun q h => h) (fun q _ h => h) (fun E ce q9 u t H1 locs1 ht hvm hp hB _ _ hS h1 h2 h3 => ?_) (fun r u t H1 locs1 ht hvm hp hB _ _ hS => ?_)
  · obtain ⟨rfl, hB2⟩ := hB
    exact kx ce q9 u H1 locs1 hp ⟨by rw [← ht]; exact hB2, hS⟩ h1 h2 h3
  · obtain ⟨a, rfl, hp⟩ := hp
    exact kk a u H1 locs1 hp ⟨by rw [← ht]; exact hB.1, hS⟩
end TH
theorem c_X4_diff (l : Launch) (hst9 : l.stackTraces = false) (G : GT) (σ : St) (N : Int) (r : Int → Int) (n : Int) (hs : Int → Int → Int) (i : Int) (w : Int) (hC : CX σ N r n hs) (hi : -2147483648 ≤ i ∧ i < 2147483648) (hw : -2147483648 ≤ w ∧ w < 2147483648) : Cx l yX4_diff cX4_diff 3 (some .int) 7 G [.ref (gY G 0), .int (I i), .int (I w)] σ (QI G (fun x9 τ9 => (x9 = mval (lfI r) N r i w.toNat ∧ (whl N r = true ∧ 0 ≤ i ∧ i < N ∧ 1 ≤ w ∧ w ≤ 3)) ∧ CX τ9 N r n hs ∧ KX σ τ9)) (fun τ9 => ¬ (whl N r = true ∧ 0 ≤ i ∧ i < N ∧ 1 ≤ w ∧ w ≤ 3) ∧ CX τ9 N r n hs ∧ KX σ τ9) := by
  refine mtx (own := RX4) (by decide) rfl (Nat.le_of_ble_eq_true rfl) ?_
  intro p e s m args below meth c ls F hTX hx0 hr hk X hl
  have hl : lv_has ls 3 [(0, .ref (gY G 0)), (1, .int (I i)), (2, .int (I w))] := hl
  have hP := hC.1
  have hW := hC.2.1
  have hH := hC.2.2.1
  have hw := hW.num
  refine r_iload_n F hl 2 rfl rfl dX4_diff_0 ?_
  refine d_cSI F X (c_X4_isDifference l G σ w (by omega)) gv_RX4_116 nd_X4_isDifference rfl (rest := []) rfl (Nat.le_of_ble_eq_true rfl) ⟨Nat.le_of_ble_eq_true rfl, Nat.le_of_ble_eq_true rfl⟩ ⟨Nat.zero_le _, Nat.zero_le _⟩ hl.1 dX4_diff_1 (fun H locs X => ?_)
  refine r_bz_eq F 25 (1 ≤ w ∧ w ≤ 3) rfl (by decide) dX4_diff_4 (fun c1 => ?_) (fun c1 => ?_)
  · skip
    exact r_throwN F X hTX hx0 hst9 hk hl.1 (by omega) dX4_diff_25 dX4_diff_28 dX4_diff_29 dX4_diff_32 (by first | exact ⟨fun z => by first | exact absurd z.1 (by assumption) | omega, hC1, hK1⟩ | exact ⟨fun z => by first | exact absurd z.1 (by assumption) | omega, hC, KX.refl σ⟩)
  · skip
    refine r_aload_n F hl 0 rfl rfl dX4_diff_7 ?_
    refine r_cVI F X 0 (by decide) (eK_0 G _) rfl (c_X4_isDrawn l G σ N r n hs hC) gv_RX4_108 rfl nd_X4_isDrawn rfl (rest := []) rfl (Nat.le_of_ble_eq_true rfl) ⟨Nat.le_of_ble_eq_true rfl, Nat.le_of_ble_eq_true rfl⟩ ⟨Nat.zero_le _, Nat.zero_le _⟩ hl.1 dX4_diff_8 (fun x1 τ1 H locs hI X => ?_)
    obtain ⟨hx1, hC1, hK1, hD1⟩ := hI
    have hP1 := hC1.1
    refine r_eqI (b := if whl N r = true then 1 else 0) (hx1) ?_
    refine r_bz_eq F 25 (whl N r = true) rfl (by decide) dX4_diff_11 (fun c2 => ?_) (fun c2 => ?_)
    · skip
      exact r_throwN F X hTX hx0 hst9 hk hl.1 (by omega) dX4_diff_25 dX4_diff_28 dX4_diff_29 dX4_diff_32 (by first | exact ⟨fun z => by first | exact absurd z.1 (by assumption) | omega, hC1, hK1⟩ | exact ⟨fun z => by first | exact absurd z.1 (by assumption) | omega, hC, KX.refl σ⟩)
    · skip
      refine r_aload_n F hl 0 rfl rfl dX4_diff_14 ?_
      refine r_get F X 0 (by decide) (eK_0 G _) rfl gl_RX4 0 (by decide) rfl gf_RX4_12 rfl dX4_diff_15 ?_
      refine r_iload_n F hl 1 rfl rfl dX4_diff_18 ?_
      refine d_cVI F X 1 (by decide) (eK_1 G _) rfl (c_X2_hasStep l G τ1 N r i (hP1) hW (by omega)) gv_RX4_79 rfl nd_X2_hasStep rfl (rest := []) rfl (Nat.le_of_ble_eq_true rfl) ⟨Nat.le_of_ble_eq_true rfl, Nat.le_of_ble_eq_true rfl⟩ ⟨Nat.zero_le _, Nat.zero_le _⟩ hl.1 dX4_diff_19 (fun H locs X => ?_)
      refine r_bz_ne F 33 (0 ≤ i ∧ i < N) rfl (by decide) dX4_diff_22 (fun c3 => ?_) (fun c3 => ?_)
      · skip
        have hD2 := (hD1 c2).2
        have hR2 := hD2.l (by omega)
        have hL2 := lfI_LR hW c2
        obtain ⟨k9, ek9⟩ : ∃ k9 : Nat, w = (k9 : Int) := ⟨w.toNat, by omega⟩
        subst ek9
        refine r_aload_n F hl 0 rfl rfl dX4_diff_33 ?_
        refine r_get F X 0 (by decide) (eK_0 G _) rfl gl_RX4 2 (by decide) rfl gf_RX4_28 rfl dX4_diff_34 ?_
        refine r_iload_n F hl 2 rfl rfl dX4_diff_37 ?_
        refine r_iload_n F hl 1 rfl rfl dX4_diff_38 ?_
        refine d_cVJ F X 5 (by decide) (eK_P (Or.inl rfl : (5 : Nat) = 5 ∨ (5 : Nat) = 18) G _) rfl (c_X3_at l G τ1 5 k9 i (Or.inl rfl) (by omega) (by rw [hR2.1]; omega) (by rw [hR2.1]; omega)) gv_RX4_112 rfl nd_X3_at rfl (rest := []) rfl (Nat.le_of_ble_eq_true rfl) ⟨Nat.le_of_ble_eq_true rfl, Nat.le_of_ble_eq_true rfl⟩ ⟨Nat.zero_le _, Nat.zero_le _⟩ hl.1 dX4_diff_39 (fun H locs X => ?_)
        refine r_eqJ (b := mval (lfI r) N r i k9) (by exact hD2.at hW (by omega) (k := k9) (by omega)) ?_
        refine r_l2i F dX4_diff_42 ?_
        exact r_iretx F X hr hk dX4_diff_43 (⟨⟨rfl, by assumption, by omega⟩, hC1, hK1⟩)
      · skip
        exact r_throwN F X hTX hx0 hst9 hk hl.1 (by omega) dX4_diff_25 dX4_diff_28 dX4_diff_29 dX4_diff_32 (by first | exact ⟨fun z => by first | exact absurd z.1 (by assumption) | omega, hC1, hK1⟩ | exact ⟨fun z => by first | exact absurd z.1 (by assumption) | omega, hC, KX.refl σ⟩)
theorem c_X4_shape (l : Launch) (hst9 : l.stackTraces = false) (G : GT) (σ : St) (N : Int) (r : Int → Int) (n : Int) (hs : Int → Int → Int) (i : Int) (w : Int) (hC : CX σ N r n hs) (hi : -2147483648 ≤ i ∧ i < 2147483648) (hw : -2147483648 ≤ w ∧ w < 2147483648) : Cx l yX4_shape cX4_shape 3 (some .long) 7 G [.ref (gY G 0), .int (I i), .int (I w)] σ (QJ G (fun x9 τ9 => (x9 = mval (lfI r) N r i (4 + w).toNat ∧ (whl N r = true ∧ 0 ≤ i ∧ i < N ∧ 0 ≤ w ∧ w ≤ 3)) ∧ CX τ9 N r n hs ∧ KX σ τ9)) (fun τ9 => ¬ (whl N r = true ∧ 0 ≤ i ∧ i < N ∧ 0 ≤ w ∧ w ≤ 3) ∧ CX τ9 N r n hs ∧ KX σ τ9) := by
  refine mtx (own := RX4) (by decide) rfl (Nat.le_of_ble_eq_true rfl) ?_
  intro p e s m args below meth c ls F hTX hx0 hr hk X hl
  have hl : lv_has ls 3 [(0, .ref (gY G 0)), (1, .int (I i)), (2, .int (I w))] := hl
  have hP := hC.1
  have hW := hC.2.1
  have hH := hC.2.2.1
  have hw := hW.num
  refine r_iload_n F hl 2 rfl rfl dX4_shape_0 ?_
  refine r_if_lt F 27 (by decide) (by omega) dX4_shape_1 (fun c1 => ?_) (fun c1 => ?_)
  · skip
    exact r_throwN F X hTX hx0 hst9 hk hl.1 (by omega) dX4_shape_27 dX4_shape_30 dX4_shape_31 dX4_shape_34 (by first | exact ⟨fun z => by first | exact absurd z.1 (by assumption) | omega, hC1, hK1⟩ | exact ⟨fun z => by first | exact absurd z.1 (by assumption) | omega, hC, KX.refl σ⟩)
  · skip
    refine r_iload_n F hl 2 rfl rfl dX4_shape_4 ?_
    refine r_iconst F dX4_shape_5 ?_
    refine r_icmp_gt F 27 (by decide) (by omega) (by omega) dX4_shape_6 (fun c2 => ?_) (fun c2 => ?_)
    · skip
      exact r_throwN F X hTX hx0 hst9 hk hl.1 (by omega) dX4_shape_27 dX4_shape_30 dX4_shape_31 dX4_shape_34 (by first | exact ⟨fun z => by first | exact absurd z.1 (by assumption) | omega, hC1, hK1⟩ | exact ⟨fun z => by first | exact absurd z.1 (by assumption) | omega, hC, KX.refl σ⟩)
    · skip
      refine r_aload_n F hl 0 rfl rfl dX4_shape_9 ?_
      refine r_cVI F X 0 (by decide) (eK_0 G _) rfl (c_X4_isDrawn l G σ N r n hs hC) gv_RX4_108 rfl nd_X4_isDrawn rfl (rest := []) rfl (Nat.le_of_ble_eq_true rfl) ⟨Nat.le_of_ble_eq_true rfl, Nat.le_of_ble_eq_true rfl⟩ ⟨Nat.zero_le _, Nat.zero_le _⟩ hl.1 dX4_shape_10 (fun x1 τ1 H locs hI X => ?_)
      obtain ⟨hx1, hC1, hK1, hD1⟩ := hI
      have hP1 := hC1.1
      refine r_eqI (b := if whl N r = true then 1 else 0) (hx1) ?_
      refine r_bz_eq F 27 (whl N r = true) rfl (by decide) dX4_shape_13 (fun c3 => ?_) (fun c3 => ?_)
      · skip
        exact r_throwN F X hTX hx0 hst9 hk hl.1 (by omega) dX4_shape_27 dX4_shape_30 dX4_shape_31 dX4_shape_34 (by first | exact ⟨fun z => by first | exact absurd z.1 (by assumption) | omega, hC1, hK1⟩ | exact ⟨fun z => by first | exact absurd z.1 (by assumption) | omega, hC, KX.refl σ⟩)
      · skip
        refine r_aload_n F hl 0 rfl rfl dX4_shape_16 ?_
        refine r_get F X 0 (by decide) (eK_0 G _) rfl gl_RX4 0 (by decide) rfl gf_RX4_12 rfl dX4_shape_17 ?_
        refine r_iload_n F hl 1 rfl rfl dX4_shape_20 ?_
        refine d_cVI F X 1 (by decide) (eK_1 G _) rfl (c_X2_hasStep l G τ1 N r i (hP1) hW (by omega)) gv_RX4_79 rfl nd_X2_hasStep rfl (rest := []) rfl (Nat.le_of_ble_eq_true rfl) ⟨Nat.le_of_ble_eq_true rfl, Nat.le_of_ble_eq_true rfl⟩ ⟨Nat.zero_le _, Nat.zero_le _⟩ hl.1 dX4_shape_21 (fun H locs X => ?_)
        refine r_bz_ne F 35 (0 ≤ i ∧ i < N) rfl (by decide) dX4_shape_24 (fun c4 => ?_) (fun c4 => ?_)
        · skip
          have hD2 := (hD1 c3).2
          have hR2 := hD2.l (by omega)
          have hL2 := lfI_LR hW c3
          obtain ⟨k9, ek9⟩ : ∃ k9 : Nat, w = (k9 : Int) := ⟨w.toNat, by omega⟩
          subst ek9
          refine r_aload_n F hl 0 rfl rfl dX4_shape_35 ?_
          refine r_get F X 0 (by decide) (eK_0 G _) rfl gl_RX4 2 (by decide) rfl gf_RX4_28 rfl dX4_shape_36 ?_
          refine r_iconst F dX4_shape_39 ?_
          refine r_iload_n F hl 2 rfl rfl dX4_shape_40 ?_
          refine r_iadd F dX4_shape_41 ?_
          refine r_eqI (b := ((4 + k9 : Nat) : Int)) (by omega) ?_
          refine r_iload_n F hl 1 rfl rfl dX4_shape_42 ?_
          refine d_cVJ F X 5 (by decide) (eK_P (Or.inl rfl : (5 : Nat) = 5 ∨ (5 : Nat) = 18) G _) rfl (c_X3_at l G τ1 5 (4 + k9) i (Or.inl rfl) (by omega) (by rw [hR2.1]; omega) (by rw [hR2.1]; omega)) gv_RX4_112 rfl nd_X3_at rfl (rest := []) rfl (Nat.le_of_ble_eq_true rfl) ⟨Nat.le_of_ble_eq_true rfl, Nat.le_of_ble_eq_true rfl⟩ ⟨Nat.zero_le _, Nat.zero_le _⟩ hl.1 dX4_shape_43 (fun H locs X => ?_)
          refine r_eqJ (b := mval (lfI r) N r i (4 + k9)) (by exact hD2.at hW (by omega) (k := 4 + k9) (by omega)) ?_
          exact r_lretx F X hr hk dX4_shape_46 (⟨⟨by congr 1, by assumption, by omega⟩, hC1, hK1⟩)
        · skip
          exact r_throwN F X hTX hx0 hst9 hk hl.1 (by omega) dX4_shape_27 dX4_shape_30 dX4_shape_31 dX4_shape_34 (by first | exact ⟨fun z => by first | exact absurd z.1 (by assumption) | omega, hC1, hK1⟩ | exact ⟨fun z => by first | exact absurd z.1 (by assumption) | omega, hC, KX.refl σ⟩)
theorem c_X4_force (l : Launch) (hst9 : l.stackTraces = false) (G : GT) (σ : St) (N : Int) (r : Int → Int) (n : Int) (hs : Int → Int → Int) (i : Int) (hC : CX σ N r n hs) (hi : -2147483648 ≤ i ∧ i < 2147483648) : Cx l yX4_force cX4_force 2 (some .long) 7 G [.ref (gY G 0), .int (I i)] σ (QJ G (fun x9 τ9 => (x9 = fo (lfI r) N r i ∧ (whl N r = true ∧ 0 ≤ i ∧ i < N)) ∧ CX τ9 N r n hs ∧ KX σ τ9)) (fun τ9 => ¬ (whl N r = true ∧ 0 ≤ i ∧ i < N) ∧ CX τ9 N r n hs ∧ KX σ τ9) := by
  refine mtx (own := RX4) (by decide) rfl (Nat.le_of_ble_eq_true rfl) ?_
  intro p e s m args below meth c ls F hTX hx0 hr hk X hl
  have hl : lv_has ls 2 [(0, .ref (gY G 0)), (1, .int (I i))] := hl
  have hP := hC.1
  have hW := hC.2.1
  have hH := hC.2.2.1
  have hw := hW.num
  refine r_aload_n F hl 0 rfl rfl dX4_force_0 ?_
  refine r_cVI F X 0 (by decide) (eK_0 G _) rfl (c_X4_isDrawn l G σ N r n hs hC) gv_RX4_108 rfl nd_X4_isDrawn rfl (rest := []) rfl (Nat.le_of_ble_eq_true rfl) ⟨Nat.le_of_ble_eq_true rfl, Nat.le_of_ble_eq_true rfl⟩ ⟨Nat.zero_le _, Nat.zero_le _⟩ hl.1 dX4_force_1 (fun x1 τ1 H locs hI X => ?_)
  obtain ⟨hx1, hC1, hK1, hD1⟩ := hI
  have hP1 := hC1.1
  refine r_eqI (b := if whl N r = true then 1 else 0) (hx1) ?_
  refine r_bz_eq F 18 (whl N r = true) rfl (by decide) dX4_force_4 (fun c1 => ?_) (fun c1 => ?_)
  · skip
    exact r_throwN F X hTX hx0 hst9 hk hl.1 (by omega) dX4_force_18 dX4_force_21 dX4_force_22 dX4_force_25 (by first | exact ⟨fun z => by first | exact absurd z.1 (by assumption) | omega, hC1, hK1⟩ | exact ⟨fun z => by first | exact absurd z.1 (by assumption) | omega, hC, KX.refl σ⟩)
  · skip
    refine r_aload_n F hl 0 rfl rfl dX4_force_7 ?_
    refine r_get F X 0 (by decide) (eK_0 G _) rfl gl_RX4 0 (by decide) rfl gf_RX4_12 rfl dX4_force_8 ?_
    refine r_iload_n F hl 1 rfl rfl dX4_force_11 ?_
    refine d_cVI F X 1 (by decide) (eK_1 G _) rfl (c_X2_hasStep l G τ1 N r i (hP1) hW (by omega)) gv_RX4_79 rfl nd_X2_hasStep rfl (rest := []) rfl (Nat.le_of_ble_eq_true rfl) ⟨Nat.le_of_ble_eq_true rfl, Nat.le_of_ble_eq_true rfl⟩ ⟨Nat.zero_le _, Nat.zero_le _⟩ hl.1 dX4_force_12 (fun H locs X => ?_)
    refine r_bz_ne F 26 (0 ≤ i ∧ i < N) rfl (by decide) dX4_force_15 (fun c2 => ?_) (fun c2 => ?_)
    · skip
      have hD2 := (hD1 c1).2
      have hR2 := hD2.l (by omega)
      have hL2 := lfI_LR hW c1
      refine r_aload_n F hl 0 rfl rfl dX4_force_26 ?_
      refine r_get F X 0 (by decide) (eK_0 G _) rfl gl_RX4 2 (by decide) rfl gf_RX4_28 rfl dX4_force_27 ?_
      refine r_bipush F (by decide) dX4_force_30 ?_
      refine r_iload_n F hl 1 rfl rfl dX4_force_32 ?_
      refine d_cVJ F X 5 (by decide) (eK_P (Or.inl rfl : (5 : Nat) = 5 ∨ (5 : Nat) = 18) G _) rfl (c_X3_at l G τ1 5 10 i (Or.inl rfl) (by omega) (by rw [hR2.1]; omega) (by rw [hR2.1]; omega)) gv_RX4_112 rfl nd_X3_at rfl (rest := []) rfl (Nat.le_of_ble_eq_true rfl) ⟨Nat.le_of_ble_eq_true rfl, Nat.le_of_ble_eq_true rfl⟩ ⟨Nat.zero_le _, Nat.zero_le _⟩ hl.1 dX4_force_33 (fun H locs X => ?_)
      refine r_eqJ (b := fo (lfI r) N r i) (by exact hD2.at hW (by omega) (k := 10) (by omega)) ?_
      exact r_lretx F X hr hk dX4_force_36 (⟨⟨rfl, by assumption, by omega⟩, hC1, hK1⟩)
    · skip
      exact r_throwN F X hTX hx0 hst9 hk hl.1 (by omega) dX4_force_18 dX4_force_21 dX4_force_22 dX4_force_25 (by first | exact ⟨fun z => by first | exact absurd z.1 (by assumption) | omega, hC1, hK1⟩ | exact ⟨fun z => by first | exact absurd z.1 (by assumption) | omega, hC, KX.refl σ⟩)
