/-! a contract out of a walk; returns; calls -/
theorem xM_of {l : Launch} {G : xD} {y : MethodName} {cc : ByteArray} {nl : Nat} {ret : Option FieldType} {d mc ms : Nat} {av : List Value} {sz : Nat} {w : xw} {r : Option Value} {sz' : Nat} {w' : xw} (hy : plainName y.cls = true) (hlen : (lg_sl av).length ≤ nl)
    (body : ∀ (A : Nat → Prop) (p : Program) (e : Env) (s : State) (m : MethodId) (args : Array Value) (below : List Frame) (meth : Method) (c : Code), xC p s m args meth c cc nl y.cls G A → meth.sig.returnType = ret → meth.name = y.name →
      xV p l e (xr d mc ms) s m args below meth c G A nl (MQ below (xQ G A r sz' w') args s mc ms A) sz w 0 0 0 (lv_args 0 av) []) : xM l G y cc nl ret d mc ms av sz w r sz' w' := by
  intro A hA
  refine Met.ofW (cc := cc) (maxL := nl) (ret := ret) hy rfl ?_
  intro p e s m args below meth c s₁ B hml hv
  obtain ⟨rfl, hsz, hR, hG⟩ := hv
  have hts := atoms_spec (ws := Cond.code y cc nl ret :: xW) B.pre
  have hC : xC p s m av.toArray meth c cc nl y.cls G A := ⟨B.exec, B.bytes, hml, findClass_of_methodNamed B.named, fun w hw => hts w (List.mem_cons_of_mem _ hw), hG, B.notSynchronized, by rw [hsz]; exact hA⟩
  rw [lg_entry_eq]
  exact body A p e s m _ below meth c hC B.returns (name_of_methodNamed B.named B.method).1 s.heap [] _ hsz hR va_S.rf (lv_entry av hlen)
section XCALL
variable {p : Program} {l : Launch} {e : Env} {R : Room} {s : State} {m : MethodId} {args : Array Value} {below : List Frame} {meth : Method} {c : Code}
variable {G : xD} {A : Nat → Prop} {nL : Nat} {Q : State → Prop} {cc : ByteArray} {own : String} {sz cs ss pc : Nat} {w : xw} {lv : List (Nat × Value)} {st : List Value}
variable {r : Option Value} {sz' : Nat} {w' : xw}
theorem xv_ireturn (hC : xC p s m args meth c cc nL own G A) {v : Int32} (hr : meth.sig.returnType = some .int) (d : decode cc pc = .ok (.ireturn, 1)) (hq : r = some (.int v)) (hsz : sz = sz') (hw : w = w') : xV p l e R s m args below meth c G A nL (MQ below (xQ G A r sz' w') args s cs ss A) sz w cs ss pc lv [.int v] := fun H locs ls hz hR hS hlv =>
  W.iret hC.1 hC.2.1 hr (fun t ht _ => ⟨by rw [hq], by rw [ht, hz, hsz], by rw [ht, ← hw]; exact hR, hS.F ht⟩) hS.2.2 d hC.2.2.2.2.2.2.1
theorem xv_zreturn (hC : xC p s m args meth c cc nL own G A) {v : Int32} {ty : FieldType} (hr : meth.sig.returnType = some ty) (hn : narrow ty (.int v) = .int v) (d : decode cc pc = .ok (.ireturn, 1)) (hq : r = some (.int v)) (hsz : sz = sz') (hw : w = w') : xV p l e R s m args below meth c G A nL (MQ below (xQ G A r sz' w') args s cs ss A) sz w cs ss pc lv [.int v] := fun H locs ls hz hR hS hlv =>
  W.zret hC.1 hC.2.1 hr hn (fun t ht _ => ⟨by rw [hq], by rw [ht, hz, hsz], by rw [ht, ← hw]; exact hR, hS.F ht⟩) hS.2.2 d hC.2.2.2.2.2.2.1
theorem xv_lreturn (hC : xC p s m args meth c cc nL own G A) {v : Int64} (hr : meth.sig.returnType = some .long) (d : decode cc pc = .ok (.lreturn, 1)) (hq : r = some (.long v)) (hsz : sz = sz') (hw : w = w') : xV p l e R s m args below meth c G A nL (MQ below (xQ G A r sz' w') args s cs ss A) sz w cs ss pc lv [.long v] := fun H locs ls hz hR hS hlv =>
  W.lret hC.1 hC.2.1 hr (fun t ht _ => ⟨by rw [hq], by rw [ht, hz, hsz], by rw [ht, ← hw]; exact hR, hS.F ht⟩) hS.2.2 d hC.2.2.2.2.2.2.1
theorem xv_return (hC : xC p s m args meth c cc nL own G A) (hr : meth.sig.returnType = none) (d : decode cc pc = .ok (.return_, 1)) (hq : r = none) (hsz : sz = sz') (hw : w = w') : xV p l e R s m args below meth c G A nL (MQ below (xQ G A r sz' w') args s cs ss A) sz w cs ss pc lv [] := fun H locs ls hz hR hS hlv =>
  W.vret hC.1 hC.2.1 hr (fun t ht _ => ⟨by rw [hq], by rw [ht, hz, hsz], by rw [ht, ← hw]; exact hR, hS.F ht⟩) hS.2.2 d hC.2.2.2.2.2.2.1
theorem xv_run {H : Heap} {locs : List Loc} {ls : Array Slot} {rest : List Value} {mc ms : Nat} {a : Array Value} (hr : va_Run p l e R s m args below meth c H locs cs ss mc ms (F0 m pc ls st) rest (xQ G A r sz' w' a) A) (hS : va_S A s.heap H locs) (hlv : lv_has ls nL lv) (kk : xV p l e R s m args below meth c G A nL Q sz' w' (cs + mc) (ss + ms) (pc + 3) lv (r.toList ++ rest)) : W p l e R s m args below meth c H locs cs ss Q (F0 m pc ls st) := by
  intro T hT X
  obtain ⟨v, st₀, t, T', L, h0, X', hL, e1, e2, ⟨hv, hz1, hR1, hF⟩, go⟩ := hr T hT X
  cases hv
  have hF1 : H.size ≤ T'.heap.size := by rw [e1, ← h0]; exact hF.1
  have hF2 : ∀ q : Nat, q < H.size → ¬ A q → T'.heap[q]? = H[q]? := fun q h1 h2 => by rw [e1, ← h0]; exact hF.2 q (by rw [h0]; exact h1) h2
  obtain ⟨t2, a1, b1⟩ := kk T'.heap (locs ++ L) ls (by rw [e1]; exact hz1) (by rw [e1]; exact hR1) ⟨Nat.le_trans hS.1 hF1, fun q h1 h2 => (hF2 q (Nat.lt_of_lt_of_le h1 hS.1) h2).trans (hS.2.1 q h1 h2), fun q hq => (List.mem_append.mp hq).elim (hS.2.2 q) (hL q)⟩ hlv T' rfl X'
  exact ⟨t2, go t2 a1, b1⟩
/-- what a call needs of its callee beside its contract -/
def xY (y : MethodName) (cy : ByteArray) (ny : Nat) (ret : Option FieldType) (n : Nat) : Prop := Cond.code y cy ny ret ∈ xW ∧ Cond.initialized y.cls ∈ xW ∧ y.cls ≠ "java/lang/invoke/MethodHandle" ∧ y.cls ≠ "java/lang/invoke/VarHandle" ∧ (parseMethodDescriptor y.desc).map (fun d => d.parameters.length) = some n
theorem xPre (w : xw) (sz : Nat) (hz : ∀ q, sz ≤ q → A q) (av : List Value) : FrameBlind (va_Pc av (fun U => U.heap.size = sz ∧ xR G.1 A w U.heap ∧ xG G U)) := fun a U g mk q => ⟨q.1, q.2.1, q.2.2.1, xG.same rfl q.2.2.2⟩
theorem xv_callV (hC : xC p s m args meth c cc nL own G A) {y : MethodName} {cy : ByteArray} {ny : Nat} {ret : Option FieldType} {n d' mc ms : Nat} (hY : xY y cy ny ret n) (hi : Cond.instanceMethod y ∈ xW) (hs : Cond.selects y.cls y y ∈ xW) {index : Nat} (hl : Cond.methodLink own index y ∈ xW) (d : decode cc pc = .ok (.invokevirtual index, 3))
    {b ci N : Nat} {T : u_T} {fs As rest : List Value} (hM : xM l G y cy ny ret d' mc ms (.ref b :: As) sz w r sz' w') (hb : w b = some (.inr (ci, fs))) (hc : vwCl[ci]? = some (y.cls, T, N)) (hn : As.length = n) (hst : st = As.reverse ++ .ref b :: rest) (hW : (rest.map fun v => v.category).sum ≤ 8) (hRm : d' + 1 ≤ R.frames ∧ 8 + (ny + 11) + 32 * d' ≤ R.locals) (hf : cs + mc ≤ R.cells ∧ ss + ms ≤ R.slots)
    (kk : xV p l e R s m args below meth c G A nL Q sz' w' (cs + mc) (ss + ms) (pc + 3) lv (r.toList ++ rest)) : xV p l e R s m args below meth c G A nL Q sz w cs ss pc lv st := fun H locs ls hz hR hS hlv => by
  have hts := hC.2.2.2.2.1
  have hA' : ∀ q, sz ≤ q → A q := fun q hq => hC.2.2.2.2.2.2.2 q (Nat.le_trans hS.1 (by rw [hz]; exact hq))
  obtain ⟨h1, h2, h3, h4, h5⟩ := hY
  refine xv_run (va_runV (As := As) (rest := rest) (C := y.cls) ⟨hC.1, hC.2.1, hC.2.2.1, hC.2.2.2.1, hts⟩ (hM A hA') ⟨callB_of n hts (xGood h1) rfl rfl rfl (hts _ h2) (hts _ hl) ⟨h3, h4, h5⟩ hRm, hts _ hi, hts _ hs⟩ ⟨xPre w sz hA' _, va_recv (ws := [(b, .inr (ci, fs))]) (q0 := 0) hC.2.2.2.2.2.1.1 (fun j q hj => ?_) hc rfl, fun U hU hW => ⟨rfl, by rw [hU]; exact hz, by rw [hU]; exact hR, xG.moved hW hC.2.2.2.2.2.1⟩⟩ rfl hn hlv.1 hst (lv_room hW) d hf) hS hlv kk
  cases j with
  | zero => cases hj; exact (hR b _ hb).1
  | succ j => simp at hj
theorem xv_callS (hC : xC p s m args meth c cc nL own G A) {y : MethodName} {cy : ByteArray} {ny : Nat} {ret : Option FieldType} {n d' mc ms : Nat} (hY : xY y cy ny ret n) (hi : Cond.static y ∈ xW) {index : Nat} (hl : Cond.methodLink own index y ∈ xW) (d : decode cc pc = .ok (.invokestatic index, 3))
    {As rest : List Value} (hM : xM l G y cy ny ret d' mc ms As sz w r sz' w') (hn : As.length = n) (hst : st = As.reverse ++ rest) (hW : (rest.map fun v => v.category).sum ≤ 8) (hRm : d' + 1 ≤ R.frames ∧ 8 + (ny + 11) + 32 * d' ≤ R.locals) (hf : cs + mc ≤ R.cells ∧ ss + ms ≤ R.slots)
    (kk : xV p l e R s m args below meth c G A nL Q sz' w' (cs + mc) (ss + ms) (pc + 3) lv (r.toList ++ rest)) : xV p l e R s m args below meth c G A nL Q sz w cs ss pc lv st := fun H locs ls hz hR hS hlv => by
  have hts := hC.2.2.2.2.1
  have hA' : ∀ q, sz ≤ q → A q := fun q hq => hC.2.2.2.2.2.2.2 q (Nat.le_trans hS.1 (by rw [hz]; exact hq))
  obtain ⟨h1, h2, h3, h4, h5⟩ := hY
  exact xv_run (va_runS (As := As) (rest := rest) ⟨hC.1, hC.2.1, hC.2.2.1, hC.2.2.2.1, hts⟩ (hM A hA') ⟨callB_of n hts (xGood h1) rfl rfl rfl (hts _ h2) (hts _ hl) ⟨h3, h4, h5⟩ hRm, hts _ hi⟩ ⟨xPre w sz hA' _, fun U hU hW => ⟨rfl, by rw [hU]; exact hz, by rw [hU]; exact hR, xG.moved hW hC.2.2.2.2.2.1⟩⟩ rfl hn hlv.1 hst (lv_room hW) d hf) hS hlv kk
theorem xv_callI (hC : xC p s m args meth c cc nL own G A) {y : MethodName} {cy : ByteArray} {ny : Nat} {n d' mc ms : Nat} (hY : xY y cy ny none n) (hi : Cond.instanceMethod y ∈ xW) (hy1 : y.name = "<init>") {index : Nat} (hl : Cond.methodLink own index y ∈ xW) (d : decode cc pc = .ok (.invokespecial index, 3))
    {b : Nat} {As rest : List Value} (hM : xM l G y cy ny none d' mc ms (.ref b :: As) sz w r sz' w') (hn : As.length = n) (hst : st = As.reverse ++ .ref b :: rest) (hW : (rest.map fun v => v.category).sum ≤ 8) (hRm : d' + 1 ≤ R.frames ∧ 8 + (ny + 11) + 32 * d' ≤ R.locals) (hf : cs + mc ≤ R.cells ∧ ss + ms ≤ R.slots)
    (kk : xV p l e R s m args below meth c G A nL Q sz' w' (cs + mc) (ss + ms) (pc + 3) lv (r.toList ++ rest)) : xV p l e R s m args below meth c G A nL Q sz w cs ss pc lv st := fun H locs ls hz hR hS hlv => by
  have hts := hC.2.2.2.2.1
  have hA' : ∀ q, sz ≤ q → A q := fun q hq => hC.2.2.2.2.2.2.2 q (Nat.le_trans hS.1 (by rw [hz]; exact hq))
  obtain ⟨h1, h2, h3, h4, h5⟩ := hY
  exact xv_run (va_runI (As := As) (rest := rest) ⟨hC.1, hC.2.1, hC.2.2.1, hC.2.2.2.1, hts⟩ (hM A hA') ⟨callB_of n hts (xGood h1) rfl rfl rfl (hts _ h2) (hts _ hl) ⟨h3, h4, h5⟩ hRm, hy1, hts _ hi⟩ ⟨xPre w sz hA' _, fun U hU hW => ⟨rfl, by rw [hU]; exact hz, by rw [hU]; exact hR, xG.moved hW hC.2.2.2.2.2.1⟩⟩ rfl hn hlv.1 hst (lv_room hW) d hf) hS hlv kk
theorem xv_callSN (hC : xC p s m args meth c cc nL own G A) {y : MethodName} {cy : ByteArray} {ny : Nat} {ret : Option FieldType} {n d' mc ms : Nat} (hY : xY y cy ny ret n) (hi : Cond.static y ∈ xW) {index : Nat} {host : String} (hl : (own, index, y, host) ∈ xNest) (d : decode cc pc = .ok (.invokestatic index, 3))
    {As rest : List Value} (hM : xM l G y cy ny ret d' mc ms As sz w r sz' w') (hn : As.length = n) (hst : st = As.reverse ++ rest) (hW : (rest.map fun v => v.category).sum ≤ 8) (hRm : d' + 1 ≤ R.frames ∧ 8 + (ny + 11) + 32 * d' ≤ R.locals) (hf : cs + mc ≤ R.cells ∧ ss + ms ≤ R.slots)
    (kk : xV p l e R s m args below meth c G A nL Q sz' w' (cs + mc) (ss + ms) (pc + 3) lv (r.toList ++ rest)) : xV p l e R s m args below meth c G A nL Q sz w cs ss pc lv st := fun H locs ls hz hR hS hlv => by
  have hts := hC.2.2.2.2.1
  have hA' : ∀ q, sz ≤ q → A q := fun q hq => hC.2.2.2.2.2.2.2 q (Nat.le_trans hS.1 (by rw [hz]; exact hq))
  obtain ⟨h1, h2, h3, h4, h5⟩ := hY
  exact xv_run (va_runSN (As := As) (rest := rest) ⟨hC.1, hC.2.1, hC.2.2.1, hC.2.2.2.1, hts⟩ (hM A hA') ⟨va_cnB (host := host) n hts (xGood h1) rfl rfl rfl (hC.2.2.2.2.2.1.2.1 _ hl) (hts _ h2) ⟨h3, h4, h5⟩ hRm, hts _ hi, trivial⟩ ⟨xPre w sz hA' _, fun U hU hW => ⟨rfl, by rw [hU]; exact hz, by rw [hU]; exact hR, xG.moved hW hC.2.2.2.2.2.1⟩⟩ rfl hn hlv.1 hst (lv_room hW) d hf) hS hlv kk
theorem xv_callIN (hC : xC p s m args meth c cc nL own G A) {y : MethodName} {cy : ByteArray} {ny : Nat} {n d' mc ms : Nat} (hY : xY y cy ny none n) (hi : Cond.instanceMethod y ∈ xW) (hy1 : y.name = "<init>") {index : Nat} {host : String} (hl : (own, index, y, host) ∈ xNest) (d : decode cc pc = .ok (.invokespecial index, 3))
    {b : Nat} {As rest : List Value} (hM : xM l G y cy ny none d' mc ms (.ref b :: As) sz w r sz' w') (hn : As.length = n) (hst : st = As.reverse ++ .ref b :: rest) (hW : (rest.map fun v => v.category).sum ≤ 8) (hRm : d' + 1 ≤ R.frames ∧ 8 + (ny + 11) + 32 * d' ≤ R.locals) (hf : cs + mc ≤ R.cells ∧ ss + ms ≤ R.slots)
    (kk : xV p l e R s m args below meth c G A nL Q sz' w' (cs + mc) (ss + ms) (pc + 3) lv (r.toList ++ rest)) : xV p l e R s m args below meth c G A nL Q sz w cs ss pc lv st := fun H locs ls hz hR hS hlv => by
  have hts := hC.2.2.2.2.1
  have hA' : ∀ q, sz ≤ q → A q := fun q hq => hC.2.2.2.2.2.2.2 q (Nat.le_trans hS.1 (by rw [hz]; exact hq))
  obtain ⟨h1, h2, h3, h4, h5⟩ := hY
  exact xv_run (va_runIN (As := As) (rest := rest) ⟨hC.1, hC.2.1, hC.2.2.1, hC.2.2.2.1, hts⟩ (hM A hA') ⟨va_cnB (host := host) n hts (xGood h1) rfl rfl rfl (hC.2.2.2.2.2.1.2.1 _ hl) (hts _ h2) ⟨h3, h4, h5⟩ hRm, hy1, hts _ hi⟩ ⟨xPre w sz hA' _, fun U hU hW => ⟨rfl, by rw [hU]; exact hz, by rw [hU]; exact hR, xG.moved hW hC.2.2.2.2.2.1⟩⟩ rfl hn hlv.1 hst (lv_room hW) d hf) hS hlv kk
end XCALL
