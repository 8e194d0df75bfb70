/-! throws: what the start must say of them; contracts of methods that throw, of methods that catch -/
def xZw (U : State) : Prop := va_Nw (.declares (Bundle.initS "java/lang/RuntimeException")) U ∧ va_Nw (.declares (Bundle.initS "java/lang/Exception")) U ∧ va_Nw (.declares (Bundle.initS "java/lang/Throwable")) U ∧ va_Nw (.declares (Bundle.initS "java/lang/IndexOutOfBoundsException")) U ∧ va_Nw (.castable "java/util/NoSuchElementException" "java/util/NoSuchElementException") U ∧ va_Nw (.castable "java/lang/ArrayIndexOutOfBoundsException" "java/lang/ArrayIndexOutOfBoundsException") U
def xZ (A : Nat → Prop) (U : State) (H : Heap) : Prop := vx_Zq Bundle.tN "UNASSIGNED_STACK" Bundle.steD A U H ∧ vx_Zq Bundle.tN "SUPPRESSED_SENTINEL" Bundle.listD A U H ∧ (∃ a, vk_R RX6 78 "no such entry" a U) ∧ (∃ a, vk_R RX6 129 "no such byte at hand" a U) ∧ xZw U
theorem xZw.warm {s U : State} (hW : s.WarmedH U.vm) (h : xZw s) : xZw U := ⟨va_Nw.warmD hW h.1, va_Nw.warmD hW h.2.1, va_Nw.warmD hW h.2.2.1, va_Nw.warmD hW h.2.2.2.1, va_Nw.warmC hW h.2.2.2.2.1, va_Nw.warmC hW h.2.2.2.2.2⟩
theorem xZ.go {A : Nat → Prop} {s U : State} {H : Heap} {locs : List Loc} (hW : s.WarmedH U.vm) (hS : va_S A s.heap H locs) (h : xZ A s s.heap) (hU : U.heap = H) : xZ A U U.heap := by
  rw [hU]
  exact ⟨vx_Zq.moved hW.alike (h.1.kept hS.2.1), vx_Zq.moved hW.alike (h.2.1.kept hS.2.1), h.2.2.1.imp (fun a z => vk_R.warm hW z), h.2.2.2.1.imp (fun a z => vk_R.warm hW z), xZw.warm hW h.2.2.2.2⟩
theorem xZ.same {A : Nat → Prop} {u U : State} {H : Heap} (hv : u.vm = U.vm) (h : xZ A u H) : xZ A U H := by
  have ha : u.vm.Alike U.vm := by rw [hv]; exact Vm.Alike.refl _
  exact ⟨vx_Zq.moved ha h.1, vx_Zq.moved ha h.2.1, h.2.2.1.imp (fun a z => vk_R.same hv.symm z), h.2.2.2.1.imp (fun a z => vk_R.same hv.symm z), va_Nw.same rfl hv h.2.2.2.2.1, va_Nw.same rfl hv h.2.2.2.2.2.1, va_Nw.same rfl hv h.2.2.2.2.2.2.1, va_Nw.same rfl hv h.2.2.2.2.2.2.2.1, va_Nw.same rfl hv h.2.2.2.2.2.2.2.2.1, va_Nw.same rfl hv h.2.2.2.2.2.2.2.2.2⟩
/-- how a throw leaves the world -/
def xXC (G : xD) (A : Nat → Prop) (w : xw) (E : String) : String → State → State → Prop := fun E' st t => E' = E ∧ xR G.1 A w t.heap ∧ va_F A st t
/-- a method that throws E here -/
def xTM (l : Launch) (G : xD) (y : MethodName) (cc : ByteArray) (nl : Nat) (ret : Option FieldType) (d : Nat) (av : List Value) (sz : Nat) (w : xw) (E : String) : Prop :=
  ∀ A : Nat → Prop, (∀ q, sz ≤ q → A q) → vx_Met l y (Cond.code y cc nl ret :: xW) (xr d 1 6) (va_Pc av (fun U => U.heap.size = sz ∧ xR G.1 A w U.heap ∧ xG G U ∧ xZ A U U.heap)) (fun _ _ _ _ => False) (xXC G A w E) 1 6 A
theorem xTM_of {l : Launch} {G : xD} {y : MethodName} {cc : ByteArray} {nl : Nat} {ret : Option FieldType} {d : Nat} {av : List Value} {sz : Nat} {w : xw} {E : String} (hy : plainName y.cls = true) (hlen : (lg_sl av).length ≤ nl)
    (body : ∀ (A : Nat → Prop) (p : Program) (e : Env) (s : State) (m : MethodId) (args : Array Value) (below : List Frame) (meth : Method) (c : Code), xC p s m args meth c cc nl y.cls G A → (∀ x ∈ c.exceptionTable.toList, False) → xZ A s s.heap →
      xV p l e (xr d 1 6) s m args below meth c G A nl (vx_MQ below (fun _ _ _ _ => False) (xXC G A w E) args s 1 6 A) sz w 0 0 0 (lv_args 0 av) []) : xTM l G y cc nl ret d av sz w E := by
  intro A hA
  refine vx_ofW (cc := cc) (maxL := nl) (ret := ret) hy rfl ?_
  intro p e s m args below meth c s₁ B hml ht hv
  obtain ⟨rfl, hsz, hR, hG, hZ⟩ := hv
  have hts := atoms_spec (ws := Cond.code y cc nl ret :: xW) B.pre
  have hC : xC p s m av.toArray meth c cc nl y.cls G A := ⟨B.exec, B.bytes, hml, findClass_of_methodNamed B.named, fun w hw => hts w (List.mem_cons_of_mem _ hw), hG, B.notSynchronized, by rw [hsz]; exact hA⟩
  rw [lg_entry_eq]
  exact body A p e s m _ below meth c hC ht hZ s.heap [] _ hsz hR va_S.rf (lv_entry av hlen)
/-- a method with a table: what it answers and leaves is told by P, the heap's size too -/
def xQs (G : xD) (A : Nat → Prop) (P : Option Value → Nat → xw → Prop) : Array Value → State → Outcome → State → Prop := fun a st o t => ∃ r sz w, P r sz w ∧ xQ G A r sz w a st o t
def xLW (l : Launch) (G : xD) (y : MethodName) (cc : ByteArray) (nl : Nat) (ret : Option FieldType) (hh : List (Nat × Nat × Nat × Nat)) (d mc ms : Nat) (av : List Value) (sz : Nat) (w : xw) (P : Option Value → Nat → xw → Prop) : Prop :=
  ∀ A : Nat → Prop, (∀ q, sz ≤ q → A q) → Met l y (Cond.codeWith y cc nl ret hh :: xW) (xr d mc ms) (va_Pc av (fun U => U.heap.size = sz ∧ xR G.1 A w U.heap ∧ xG G U ∧ xZ A U U.heap)) (xQs G A P) mc ms A
theorem xLW_of {l : Launch} {G : xD} {y : MethodName} {cc : ByteArray} {nl : Nat} {ret : Option FieldType} {hh : List (Nat × Nat × Nat × Nat)} {d mc ms : Nat} {av : List Value} {sz : Nat} {w : xw} {P : Option Value → Nat → xw → Prop} (hy : plainName y.cls = true) (hlen : (lg_sl av).length ≤ nl)
    (body : ∀ (A : Nat → Prop) (p : Program) (e : Env) (s : State) (m : MethodId) (args : Array Value) (below : List Frame) (meth : Method) (c : Code), xC p s m args meth c cc nl y.cls G A → meth.sig.returnType = ret → c.exceptionTable.toList = tableOf hh → xZ A s s.heap →
      xV p l e (xr d mc ms) s m args below meth c G A nl (MQ below (xQs G A P) args s mc ms A) sz w 0 0 0 (lv_args 0 av) []) : xLW l G y cc nl ret hh d mc ms av sz w P := by
  intro A hA
  refine va_MetW (cc := cc) (maxL := nl) (ret := ret) (hh := hh) hy rfl ?_
  intro p e s m args below meth c s₁ B hml hv
  obtain ⟨rfl, hsz, hR, hG, hZ⟩ := hv
  have hts := atoms_spec (ws := Cond.codeWith y cc nl ret hh :: xW) B.pre
  have hC : xC p s m av.toArray meth c cc nl y.cls G A := ⟨B.exec, B.bytes, hml, findClass_of_methodNamed B.named, fun w hw => hts w (List.mem_cons_of_mem _ hw), hG, B.notSynchronized, by rw [hsz]; exact hA⟩
  have ht := vx_table (x := y) B (hts _ List.mem_cons_self)
  rw [lg_entry_eq]
  exact body A p e s m _ below meth c hC B.returns ht hZ s.heap [] _ hsz hR va_S.rf (lv_entry av hlen)
theorem xGoodC {w : Cond} (h : w ∈ xW) : GoodIn xW (w :: xW) := fun v hv => by
  rcases List.mem_cons.mp hv with e | e
  · subst e
    exact ⟨h, good_of_word (xW_good h)⟩
  · exact ⟨e, good_of_word (xW_good e)⟩
section XTHROW
variable {p : Program} {l : Launch} {e : Env} {R : Room} {s : State} {m : MethodId} {args : Array Value} {below : List Frame} {meth : Method} {c : Code}
variable {G : xD} {A : Nat → Prop} {nL : Nat} {Q : State → Prop} {cc : ByteArray} {own : String} {sz cs ss pc : Nat} {w : xw} {lv : List (Nat × Value)} {st : List Value}
variable {P : Option Value → Nat → xw → Prop}
theorem xPreZ (w : xw) (sz : Nat) (av : List Value) : FrameBlind (va_Pc av (fun U => U.heap.size = sz ∧ xR G.1 A w U.heap ∧ xG G U ∧ xZ A U U.heap)) := fun a U g mk q => ⟨q.1, q.2.1, q.2.2.1, xG.same rfl q.2.2.2.1, xZ.same rfl q.2.2.2.2⟩
theorem xs_ireturn (hC : xC p s m args meth c cc nL own G A) {v : Int32} (hr : meth.sig.returnType = some .int) (d : decode cc pc = .ok (.ireturn, 1)) (hq : P (some (.int v)) sz w) : xV p l e R s m args below meth c G A nL (MQ below (xQs G A P) args s cs ss A) sz w cs ss pc lv [.int v] := fun H locs ls hz hR hS hlv =>
  W.iret hC.1 hC.2.1 hr (fun t ht _ => ⟨_, sz, w, hq, rfl, by rw [ht, hz], by rw [ht]; exact hR, hS.F ht⟩) hS.2.2 d hC.2.2.2.2.2.2.1
theorem xs_run {H : Heap} {locs : List Loc} {ls : Array Slot} {rest : List Value} {mc ms : Nat} {a : Array Value} (hr : va_Run p l e R s m args below meth c H locs cs ss mc ms (F0 m pc ls st) rest (xQs G A P a) A) (hS : va_S A s.heap H locs) (hlv : lv_has ls nL lv) (kk : ∀ r sz' w', P r sz' w' → xV p l e R s m args below meth c G A nL Q sz' w' (cs + mc) (ss + ms) (pc + 3) lv (r.toList ++ rest)) : W p l e R s m args below meth c H locs cs ss Q (F0 m pc ls st) := by
  intro T hT X
  obtain ⟨v, st₀, t, T', L, h0, X', hL, e1, e2, ⟨r, sz', w', hP, hv, hz1, hR1, hF⟩, go⟩ := hr T hT X
  cases hv
  have hF1 : H.size ≤ T'.heap.size := by rw [e1, ← h0]; exact hF.1
  have hF2 : ∀ q : Nat, q < H.size → ¬ A q → T'.heap[q]? = H[q]? := fun q h1 h2 => by rw [e1, ← h0]; exact hF.2 q (by rw [h0]; exact h1) h2
  obtain ⟨t2, a1, b1⟩ := kk _ sz' w' hP T'.heap (locs ++ L) ls (by rw [e1]; exact hz1) (by rw [e1]; exact hR1) ⟨Nat.le_trans hS.1 hF1, fun q h1 h2 => (hF2 q (Nat.lt_of_lt_of_le h1 hS.1) h2).trans (hS.2.1 q h1 h2), fun q hq => (List.mem_append.mp hq).elim (hS.2.2 q) (hL q)⟩ hlv T' rfl X'
  exact ⟨t2, go t2 a1, b1⟩
/-- a static call of a method with a table -/
theorem xs_callS (hC : xC p s m args meth c cc nL own G A) {y : MethodName} {cy : ByteArray} {ny : Nat} {ret : Option FieldType} {hh : List (Nat × Nat × Nat × Nat)} {n d' mc ms : Nat} (h1 : Cond.codeWith y cy ny ret hh ∈ xW) (h2 : Cond.initialized y.cls ∈ xW) (h3 : y.cls ≠ "java/lang/invoke/MethodHandle") (h4 : y.cls ≠ "java/lang/invoke/VarHandle") (h5 : (parseMethodDescriptor y.desc).map (fun d => d.parameters.length) = some n) (hi : Cond.static y ∈ xW) {index : Nat} (hl : Cond.methodLink own index y ∈ xW) (d : decode cc pc = .ok (.invokestatic index, 3))
    {As rest : List Value} (hM : xLW l G y cy ny ret hh d' mc ms As sz w P) (hZ : xZ A s s.heap) (hn : As.length = n) (hst : st = As.reverse ++ rest) (hW : (rest.map fun v => v.category).sum ≤ 8) (hRm : d' + 1 ≤ R.frames ∧ 8 + (ny + 11) + 32 * d' ≤ R.locals) (hf : cs + mc ≤ R.cells ∧ ss + ms ≤ R.slots)
    (kk : ∀ r sz' w', P r sz' w' → xV p l e R s m args below meth c G A nL Q sz' w' (cs + mc) (ss + ms) (pc + 3) lv (r.toList ++ rest)) : xV p l e R s m args below meth c G A nL Q sz w cs ss pc lv st := fun H locs ls hz hR hS hlv => by
  have hts := hC.2.2.2.2.1
  have hA' : ∀ q, sz ≤ q → A q := fun q hq => hC.2.2.2.2.2.2.2 q (Nat.le_trans hS.1 (by rw [hz]; exact hq))
  have hcw : vx_CSW R s args own index y cy ny ret hh (Cond.codeWith y cy ny ret hh :: xW) (xr d' mc ms) mc ms n := ⟨⟨rfl, rfl, hRm.1, hRm.2, pay_in hts (xGoodC h1), List.mem_cons_self⟩, hts _ h1, hts _ h2, ⟨h3, h4⟩, fun sig h => by
    have h6 := h5
    rw [h] at h6
    exact (Option.some.inj h6).symm, hts _ hl, hts _ hi⟩
  exact xs_run (vx_runSW (As := As) (rest := rest) ⟨hC.1, hC.2.1, hC.2.2.1, hC.2.2.2.1, hts⟩ (hM A hA') hcw ⟨xPreZ w sz _, fun U hU hW => ⟨rfl, by rw [hU]; exact hz, by rw [hU]; exact hR, xG.moved hW hC.2.2.2.2.2.1, hZ.go hW hS hU⟩⟩ rfl hn hlv.1 hst (lv_room hW) d hf) hS hlv kk
/-- a call that throws, caught by the one row of this method's table -/
theorem xv_callX (hC : xC p s m args meth c cc nL own G A) {y : MethodName} {cy : ByteArray} {ny : Nat} {ret : Option FieldType} {n d' : Nat} (hY : xY y cy ny ret n) (hi : Cond.instanceMethod y ∈ xW) (hs : Cond.selects y.cls y y ∈ xW) {index : Nat} (hl : Cond.methodLink own index y ∈ xW) (d : decode cc pc = .ok (.invokevirtual index, 3))
    {b ci N : Nat} {T : u_T} {fs As rest : List Value} {E name : String} (hM : xTM l G y cy ny ret d' (.ref b :: As) sz w E) (hZ : xZ A s s.heap) (hb : w b = some (.inr (ci, fs))) (hc : vwCl[ci]? = some (y.cls, T, N)) (hn : As.length = n) (hst : st = As.reverse ++ .ref b :: rest) (hW : (rest.map fun v => v.category).sum ≤ 8) (hRm : d' + 1 ≤ R.frames ∧ 8 + (ny + 11) + 32 * d' ≤ R.locals) (hf : cs + 1 ≤ R.cells ∧ ss + 6 ≤ R.slots)
    (x : ExceptionTableEntry) (htab : c.exceptionTable.toList = [x]) (hx : covers x pc = true) (h0 : x.catchType ≠ 0) (hlink : Cond.classLink own x.catchType name ∈ xW) (hcast : va_Nw (.castable E name) s)
    (kk : ∀ sz' q, xV p l e R s m args below meth c G A nL Q sz' w (cs + 1) (ss + 6) x.handlerPc lv [.ref q]) : xV p l e R s m args below meth c G A nL Q sz w cs ss pc lv st := fun H locs ls hz hR hS hlv => by
  have hts := hC.2.2.2.2.1
  have hA' : ∀ q, sz ≤ q → A q := fun q hq => hC.2.2.2.2.2.2.2 q (Nat.le_trans hS.1 (by rw [hz]; exact hq))
  obtain ⟨h1, h2, h3, h4, h5⟩ := hY
  have hr := vx_runV (p := p) (l := l) (e := e) (R := R) (below := below) (meth := meth) (locs := locs) (cells := cs) (slots := ss) (As := As) (rest := rest) (C := y.cls) (H := H) (g := F0 m pc ls st) ⟨hC.1, hC.2.1, hC.2.2.1, hC.2.2.2.1, hts⟩ (hM A hA') ⟨callB_of n hts (xGood h1) rfl rfl rfl (hts _ h2) (hts _ hl) ⟨h3, h4, h5⟩ hRm, hts _ hi, hts _ hs⟩ ⟨xPreZ w sz _, va_recv (ws := [(b, .inr (ci, fs))]) (q0 := 0) hC.2.2.2.2.2.1.1 (fun j q hj => by
    cases j with
    | zero => cases hj; exact (hR b _ hb).1
    | succ j => simp at hj) hc rfl, fun U hU hW => ⟨rfl, by rw [hU]; exact hz, by rw [hU]; exact hR, xG.moved hW hC.2.2.2.2.2.1, hZ.go hW hS hU⟩⟩ rfl hn hlv.1 hst (lv_room hW) d hf
  intro T0 hT X
  rcases hr T0 hT X with ⟨v, st₀, t, T', L, h0', X', hL, e1, e2, hF, st9⟩ | ⟨q, st₀, t, T', L, E', ce, h0', X', hL, e1, e2, ⟨hE, hR1, hF⟩, hce, hcv, hcl, st9⟩
  · exact hF.elim
  · subst hE
    have hF1 : H.size ≤ T'.heap.size := by rw [e1, ← h0']; exact hF.1
    have hF2 : ∀ q : Nat, q < H.size → ¬ A q → T'.heap[q]? = H[q]? := fun q h1 h2 => by rw [e1, ← h0']; exact hF.2 q (by rw [h0']; exact h1) h2
    have hk := kk T'.heap.size q T'.heap (locs ++ L) ls rfl (by rw [e1]; exact hR1) ⟨Nat.le_trans hS.1 hF1, fun q h1 h2 => (hF2 q (Nat.lt_of_lt_of_le h1 hS.1) h2).trans (hS.2.1 q h1 h2), fun q hq => (List.mem_append.mp hq).elim (hS.2.2 q) (hL q)⟩ hlv
    obtain ⟨t2, a1, b1⟩ := x_catch (pc := pc) (rest := rest) hC.2.2.2.1 x htab hx h0 (hts _ hlink) (va_Nw.use rfl hcast) (show T'.heap[q]? = some ce by rw [e1]; exact hce) hcv hcl hk T' rfl X'
    exact ⟨t2, st9.trans a1, b1⟩
end XTHROW
/-! the words of the two throws -/
theorem zN_in : ∀ w ∈ (x_atS RX6 80 "java/util/NoSuchElementException" 13 prog_18_method_4_code ["java/lang/RuntimeException", "java/lang/Exception"]).filter goodWord, w ∈ lw_tbl := by decide +kernel
theorem zN_no : ∀ w ∈ (x_atS RX6 80 "java/util/NoSuchElementException" 13 prog_18_method_4_code ["java/lang/RuntimeException", "java/lang/Exception"]).filter (fun w => !goodWord w), w ∈ [Cond.declares (Bundle.initS "java/lang/RuntimeException"), Cond.declares (Bundle.initS "java/lang/Exception"), Cond.declares (Bundle.initS "java/lang/Throwable"), Cond.castable "java/util/NoSuchElementException" "java/util/NoSuchElementException"] := by decide +kernel
theorem zN_ot : ∀ w ∈ Cond.classLink RX6 76 "java/util/NoSuchElementException" :: Cond.initialized "java/util/NoSuchElementException" :: x_atS RX6 80 "java/util/NoSuchElementException" 13 prog_18_method_4_code ["java/lang/RuntimeException", "java/lang/Exception"], vx_ot w = true := by decide +kernel
theorem zA_in : ∀ w ∈ (vx_atS RX6 131 "java/lang/ArrayIndexOutOfBoundsException" ["java/lang/IndexOutOfBoundsException", "java/lang/RuntimeException", "java/lang/Exception"]).filter goodWord, w ∈ lw_tbl := by decide +kernel
theorem zA_no : ∀ w ∈ (vx_atS RX6 131 "java/lang/ArrayIndexOutOfBoundsException" ["java/lang/IndexOutOfBoundsException", "java/lang/RuntimeException", "java/lang/Exception"]).filter (fun w => !goodWord w), w ∈ [Cond.declares (Bundle.initS "java/lang/IndexOutOfBoundsException"), Cond.declares (Bundle.initS "java/lang/RuntimeException"), Cond.declares (Bundle.initS "java/lang/Exception"), Cond.declares (Bundle.initS "java/lang/Throwable"), Cond.castable "java/lang/ArrayIndexOutOfBoundsException" "java/lang/ArrayIndexOutOfBoundsException"] := by decide +kernel
theorem zA_ot : ∀ w ∈ Cond.classLink RX6 127 "java/lang/ArrayIndexOutOfBoundsException" :: Cond.initialized "java/lang/ArrayIndexOutOfBoundsException" :: vx_atS RX6 131 "java/lang/ArrayIndexOutOfBoundsException" ["java/lang/IndexOutOfBoundsException", "java/lang/RuntimeException", "java/lang/Exception"], vx_ot w = true := by decide +kernel
theorem zN_cl : Cond.classLink RX6 76 "java/util/NoSuchElementException" ∈ xW := xW_of 563 (by decide +kernel) (by decide +kernel)
theorem zN_ini : Cond.initialized "java/util/NoSuchElementException" ∈ xW := xW_of 49 (by decide +kernel) (by decide +kernel)
theorem zA_ini : Cond.initialized "java/lang/ArrayIndexOutOfBoundsException" ∈ xW := in_Jx00060
theorem zLN : Cond.classLink RL 13 "java/util/NoSuchElementException" ∈ xW := xW_of 558 (by decide +kernel) (by decide +kernel)
theorem zL_get : Cond.codeWith yL_get cL_get 5 (some .int) [(0, 9, 12, 13)] ∈ xW := xW_of 557 (by decide +kernel) (by decide +kernel)
theorem zL_octet : Cond.codeWith yL_octet cL_octet 4 (some .int) [(0, 9, 12, 19)] ∈ xW := xW_of 631 (by decide +kernel) (by decide +kernel)
section XTHR2
variable {p : Program} {l : Launch} {e : Env} {R : Room} {s : State} {m : MethodId} {args : Array Value} {below : List Frame} {meth : Method} {c : Code}
variable {G : xD} {A : Nat → Prop} {nL : Nat} {cc : ByteArray} {sz pc : Nat} {w : xw} {lv : List (Nat × Value)} {Qc : Array Value → State → Outcome → State → Prop}
theorem xXC_of {H : Heap} {locs : List Loc} (hR : xR G.1 A w H) (hS : va_S A s.heap H locs) (E : String) (t : State) (h1 : H.size ≤ t.heap.size) (h2 : ∀ q : Nat, q < H.size → t.heap[q]? = H[q]?) : xXC G A w E E s t :=
  ⟨rfl, fun a e0 he => ⟨(hR a e0 he).1.kept (h2 a (hR a e0 he).1.lt), (hR a e0 he).2⟩, Nat.le_trans hS.1 h1, fun q g1 g2 => (h2 q (Nat.lt_of_lt_of_le g1 hS.1)).trans (hS.2.1 q g1 g2)⟩
theorem xv_throwN (hC : xC p s m args meth c cc nL RX6 G A) (hl : l.stackTraces = false) (ht : ∀ x ∈ c.exceptionTable.toList, False) (hZ : xZ A s s.heap) (d0 : decode cc pc = .ok (.new 76, 3)) (d3 : decode cc (pc + 3) = .ok (.dup, 1)) (d4 : decode cc (pc + 4) = .ok (.ldc 78, 2)) (d6 : decode cc (pc + 6) = .ok (.invokespecial 80, 3)) (d9 : decode cc (pc + 9) = .ok (.athrow, 1)) :
    xV p l e (xr 7 1 6) s m args below meth c G A nL (vx_MQ below Qc (xXC G A w "java/util/NoSuchElementException") args s 1 6 A) sz w 0 0 pc lv [] := fun H locs ls hz hR hS hlv => by
  obtain ⟨sa, hsa⟩ := hZ.2.2.1
  have hts := hC.2.2.2.2.1
  have hw := hZ.2.2.2.2
  have hat : ∀ w ∈ x_atS RX6 80 "java/util/NoSuchElementException" 13 prog_18_method_4_code ["java/lang/RuntimeException", "java/lang/Exception"], w.before args s = true :=
    vx_hat (fun v hv => hts v (List.mem_filter.mpr ⟨zN_in v hv, (List.mem_filter.mp hv).2⟩)) zN_no (vx_c (va_Nw.use rfl hw.1) (vx_c (va_Nw.use rfl hw.2.1) (vx_c (va_Nw.use rfl hw.2.2.1) (vx_c (va_Nw.use rfl hw.2.2.2.2.1) vx_n))))
  exact x_throw (Y0 := "java/lang/RuntimeException") (r0 := ["java/lang/Exception"]) (ix := 13) (rx := prog_18_method_4_code) (ik := 76) (is := 78) (ic := 80) (sa := sa) (text := "no such entry") (A := A) hC.1 hC.2.1 hl (by decide +kernel) (by decide +kernel) (by decide +kernel) (by decide +kernel) hC.2.2.2.1 (by decide +kernel) (by decide +kernel) (hts _ zN_cl) (hts _ zN_ini) hsa hat zN_ot hZ.1 hZ.2.1 hS (hlv.1.trans hC.2.2.1.symm) d0 d3 d4 d6 d9 (fun x hx => (ht x hx).elim) (Nat.le_of_ble_eq_true rfl) (Nat.le_of_ble_eq_true rfl) (Nat.le_of_ble_eq_true rfl) (Nat.le_of_ble_eq_true rfl) hC.2.2.2.2.2.2.1 (fun t _ h1 h2 => xXC_of hR hS _ t h1 h2) (fun z hz => hS.2.2 z hz) (Nat.le_of_ble_eq_true rfl) (Nat.le_of_ble_eq_true rfl)
theorem xv_throwA (hC : xC p s m args meth c cc nL RX6 G A) (hl : l.stackTraces = false) (ht : ∀ x ∈ c.exceptionTable.toList, False) (hZ : xZ A s s.heap) (d0 : decode cc pc = .ok (.new 127, 3)) (d3 : decode cc (pc + 3) = .ok (.dup, 1)) (d4 : decode cc (pc + 4) = .ok (.ldc 129, 2)) (d6 : decode cc (pc + 6) = .ok (.invokespecial 131, 3)) (d9 : decode cc (pc + 9) = .ok (.athrow, 1)) :
    xV p l e (xr 7 1 6) s m args below meth c G A nL (vx_MQ below Qc (xXC G A w "java/lang/ArrayIndexOutOfBoundsException") args s 1 6 A) sz w 0 0 pc lv [] := fun H locs ls hz hR hS hlv => by
  obtain ⟨sa, hsa⟩ := hZ.2.2.2.1
  have hts := hC.2.2.2.2.1
  have hw := hZ.2.2.2.2
  have hat : ∀ w ∈ vx_atS RX6 131 "java/lang/ArrayIndexOutOfBoundsException" ["java/lang/IndexOutOfBoundsException", "java/lang/RuntimeException", "java/lang/Exception"], w.before args s = true :=
    vx_hat (fun v hv => hts v (List.mem_filter.mpr ⟨zA_in v hv, (List.mem_filter.mp hv).2⟩)) zA_no (vx_c (va_Nw.use rfl hw.2.2.2.1) (vx_c (va_Nw.use rfl hw.1) (vx_c (va_Nw.use rfl hw.2.1) (vx_c (va_Nw.use rfl hw.2.2.1) (vx_c (va_Nw.use rfl hw.2.2.2.2.2) vx_n)))))
  exact vx_throwS (names := ["java/lang/IndexOutOfBoundsException", "java/lang/RuntimeException", "java/lang/Exception"]) (ik := 127) (is := 129) (ic := 131) (sa := sa) (text := "no such byte at hand") (A := A) hC.1 hC.2.1 hl hC.2.2.2.1 (by decide +kernel) (by decide +kernel) (hts _ cl_X6_127) (hts _ zA_ini) hsa hat zA_ot hZ.1 hZ.2.1 hS (hlv.1.trans hC.2.2.1.symm) d0 d3 d4 d6 d9 (fun x hx => (ht x hx).elim) (Nat.le_of_ble_eq_true rfl) (Nat.le_of_ble_eq_true rfl) (Nat.le_of_ble_eq_true rfl) (Nat.le_of_ble_eq_true rfl) hC.2.2.2.2.2.2.1 (fun t _ h1 h2 => xXC_of hR hS _ t h1 h2) (fun z hz => hS.2.2 z hz) (Nat.le_of_ble_eq_true rfl) (Nat.le_of_ble_eq_true rfl)
end XTHR2
