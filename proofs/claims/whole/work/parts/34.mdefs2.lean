/-! relational contracts: the answer and the world are told by P -/
def xQn (G : xD) (A : Nat → Prop) (P : Option Value → xw → Prop) (sz : Nat) : Array Value → State → Outcome → State → Prop := fun a st o t => ∃ r w, P r w ∧ xQ G A r sz w a st o t
def xN (l : Launch) (G : xD) (y : MethodName) (cc : ByteArray) (nl : Nat) (ret : Option FieldType) (d mc ms : Nat) (av : List Value) (sz : Nat) (w : xw) (P : Option Value → xw → Prop) (sz' : Nat) : Prop :=
  ∀ A : Nat → Prop, (∀ q, sz ≤ q → A q) → Met l y (Cond.code y cc nl ret :: xW) (xr d mc ms) (va_Pc av (fun U => U.heap.size = sz ∧ xR G.1 A w U.heap ∧ xG G U)) (xQn G A P sz') mc ms A
theorem xN_of {l : Launch} {G : xD} {y : MethodName} {cc : ByteArray} {nl : Nat} {ret : Option FieldType} {d mc ms : Nat} {av : List Value} {sz : Nat} {w : xw} {P : Option Value → xw → Prop} {sz' : Nat} (hy : plainName y.cls = true) (hlen : (lg_sl av).length ≤ nl)
    (body : ∀ (A : Nat → Prop) (p : Program) (e : Env) (s : State) (m : MethodId) (args : Array Value) (below : List Frame) (meth : Method) (c : Code), xC p s m args meth c cc nl y.cls G A → meth.sig.returnType = ret → meth.name = y.name →
      xV p l e (xr d mc ms) s m args below meth c G A nl (MQ below (xQn G A P sz') args s mc ms A) sz w 0 0 0 (lv_args 0 av) []) : xN l G y cc nl ret d mc ms av sz w P sz' := by
  intro A hA
  refine Met.ofW (cc := cc) (maxL := nl) (ret := ret) hy rfl ?_
  intro p e s m args below meth c s₁ B hml hv
  obtain ⟨rfl, hsz, hR, hG⟩ := hv
  have hts := atoms_spec (ws := Cond.code y cc nl ret :: xW) B.pre
  have hC : xC p s m av.toArray meth c cc nl y.cls G A := ⟨B.exec, B.bytes, hml, findClass_of_methodNamed B.named, fun w hw => hts w (List.mem_cons_of_mem _ hw), hG, B.notSynchronized, by rw [hsz]; exact hA⟩
  rw [lg_entry_eq]
  exact body A p e s m _ below meth c hC B.returns (name_of_methodNamed B.named B.method).1 s.heap [] _ hsz hR va_S.rf (lv_entry av hlen)
section XREL
variable {p : Program} {l : Launch} {e : Env} {R : Room} {s : State} {m : MethodId} {args : Array Value} {below : List Frame} {meth : Method} {c : Code}
variable {G : xD} {A : Nat → Prop} {nL : Nat} {Q : State → Prop} {cc : ByteArray} {own : String} {sz cs ss pc : Nat} {w : xw} {lv : List (Nat × Value)} {st : List Value}
variable {P : Option Value → xw → Prop} {sz' : Nat}
theorem xn_ireturn (hC : xC p s m args meth c cc nL own G A) {v : Int32} (hr : meth.sig.returnType = some .int) (d : decode cc pc = .ok (.ireturn, 1)) (hq : P (some (.int v)) w) (hsz : sz = sz') : xV p l e R s m args below meth c G A nL (MQ below (xQn G A P sz') args s cs ss A) sz w cs ss pc lv [.int v] := fun H locs ls hz hR hS hlv =>
  W.iret hC.1 hC.2.1 hr (fun t ht _ => ⟨_, w, hq, rfl, by rw [ht, hz, hsz], by rw [ht]; exact hR, hS.F ht⟩) hS.2.2 d hC.2.2.2.2.2.2.1
theorem xn_zreturn (hC : xC p s m args meth c cc nL own G A) {v : Int32} {ty : FieldType} (hr : meth.sig.returnType = some ty) (hn : narrow ty (.int v) = .int v) (d : decode cc pc = .ok (.ireturn, 1)) (hq : P (some (.int v)) w) (hsz : sz = sz') : xV p l e R s m args below meth c G A nL (MQ below (xQn G A P sz') args s cs ss A) sz w cs ss pc lv [.int v] := fun H locs ls hz hR hS hlv =>
  W.zret hC.1 hC.2.1 hr hn (fun t ht _ => ⟨_, w, hq, rfl, by rw [ht, hz, hsz], by rw [ht]; exact hR, hS.F ht⟩) hS.2.2 d hC.2.2.2.2.2.2.1
theorem xn_return (hC : xC p s m args meth c cc nL own G A) (hr : meth.sig.returnType = none) (d : decode cc pc = .ok (.return_, 1)) (hq : P none w) (hsz : sz = sz') : xV p l e R s m args below meth c G A nL (MQ below (xQn G A P sz') args s cs ss A) sz w cs ss pc lv [] := fun H locs ls hz hR hS hlv =>
  W.vret hC.1 hC.2.1 hr (fun t ht _ => ⟨none, w, hq, rfl, by rw [ht, hz, hsz], by rw [ht]; exact hR, hS.F ht⟩) hS.2.2 d hC.2.2.2.2.2.2.1
theorem xn_run {H : Heap} {locs : List Loc} {ls : Array Slot} {rest : List Value} {mc ms : Nat} {a : Array Value} (hr : va_Run p l e R s m args below meth c H locs cs ss mc ms (F0 m pc ls st) rest (xQn G A P sz' a) A) (hS : va_S A s.heap H locs) (hlv : lv_has ls nL lv) (kk : ∀ r w', P r w' → xV p l e R s m args below meth c G A nL Q sz' w' (cs + mc) (ss + ms) (pc + 3) lv (r.toList ++ rest)) : W p l e R s m args below meth c H locs cs ss Q (F0 m pc ls st) := by
  intro T hT X
  obtain ⟨v, st₀, t, T', L, h0, X', hL, e1, e2, ⟨r, w', hP, hv, hz1, hR1, hF⟩, go⟩ := hr T hT X
  cases hv
  have hF1 : H.size ≤ T'.heap.size := by rw [e1, ← h0]; exact hF.1
  have hF2 : ∀ q : Nat, q < H.size → ¬ A q → T'.heap[q]? = H[q]? := fun q h1 h2 => by rw [e1, ← h0]; exact hF.2 q (by rw [h0]; exact h1) h2
  obtain ⟨t2, a1, b1⟩ := kk _ w' hP T'.heap (locs ++ L) ls (by rw [e1]; exact hz1) (by rw [e1]; exact hR1) ⟨Nat.le_trans hS.1 hF1, fun q h1 h2 => (hF2 q (Nat.lt_of_lt_of_le h1 hS.1) h2).trans (hS.2.1 q h1 h2), fun q hq => (List.mem_append.mp hq).elim (hS.2.2 q) (hL q)⟩ hlv T' rfl X'
  exact ⟨t2, go t2 a1, b1⟩
theorem xn_callV (hC : xC p s m args meth c cc nL own G A) {y : MethodName} {cy : ByteArray} {ny : Nat} {ret : Option FieldType} {n d' mc ms : Nat} (hY : xY y cy ny ret n) (hi : Cond.instanceMethod y ∈ xW) (hs : Cond.selects y.cls y y ∈ xW) {index : Nat} (hl : Cond.methodLink own index y ∈ xW) (d : decode cc pc = .ok (.invokevirtual index, 3))
    {b ci N : Nat} {T : u_T} {fs As rest : List Value} (hM : xN l G y cy ny ret d' mc ms (.ref b :: As) sz w P sz') (hb : w b = some (.inr (ci, fs))) (hc : vwCl[ci]? = some (y.cls, T, N)) (hn : As.length = n) (hst : st = As.reverse ++ .ref b :: rest) (hW : (rest.map fun v => v.category).sum ≤ 8) (hRm : d' + 1 ≤ R.frames ∧ 8 + (ny + 11) + 32 * d' ≤ R.locals) (hf : cs + mc ≤ R.cells ∧ ss + ms ≤ R.slots)
    (kk : ∀ r w', P r w' → xV p l e R s m args below meth c G A nL Q sz' w' (cs + mc) (ss + ms) (pc + 3) lv (r.toList ++ rest)) : xV p l e R s m args below meth c G A nL Q sz w cs ss pc lv st := fun H locs ls hz hR hS hlv => by
  have hts := hC.2.2.2.2.1
  have hA' : ∀ q, sz ≤ q → A q := fun q hq => hC.2.2.2.2.2.2.2 q (Nat.le_trans hS.1 (by rw [hz]; exact hq))
  obtain ⟨h1, h2, h3, h4, h5⟩ := hY
  refine xn_run (va_runV (As := As) (rest := rest) (C := y.cls) ⟨hC.1, hC.2.1, hC.2.2.1, hC.2.2.2.1, hts⟩ (hM A hA') ⟨callB_of n hts (xGood h1) rfl rfl rfl (hts _ h2) (hts _ hl) ⟨h3, h4, h5⟩ hRm, hts _ hi, hts _ hs⟩ ⟨xPre w sz hA' _, va_recv (ws := [(b, .inr (ci, fs))]) (q0 := 0) hC.2.2.2.2.2.1.1 (fun j q hj => ?_) hc rfl, fun U hU hW => ⟨rfl, by rw [hU]; exact hz, by rw [hU]; exact hR, xG.moved hW hC.2.2.2.2.2.1⟩⟩ rfl hn hlv.1 hst (lv_room hW) d hf) hS hlv kk
  cases j with
  | zero => cases hj; exact (hR b _ hb).1
  | succ j => simp at hj
end XREL
/-! ranges -/
theorem inX2 {y : Int32} {m n : Nat} {a b : Int64} (hm : m < 2 ^ 31) (hn : n < 2 ^ 31) (ha : a.toInt = m) (hb : b.toInt = n) : inL y.toInt64 a b = (decide (nI m ≤ y) && decide (y ≤ nI n)) := by
  unfold inL
  congr 1
  · congr 1
    rw [Int64.le_iff_toInt_le, Int32.le_iff_toInt_le, Int32.toInt_toInt64, ha, nI_toInt hm]
  · congr 1
    rw [Int64.le_iff_toInt_le, Int32.le_iff_toInt_le, Int32.toInt_toInt64, hb, nI_toInt hn]
theorem inXL {y : Int32} {n : Nat} (hn : n < 2 ^ 30) : inL y.toInt64 0 (nI n - nI 1).toInt64 = xIn y n := by
  unfold inL xIn
  have h0 : (0 : Int64).toInt = 0 := by decide
  have h00 : (0 : Int32).toInt = 0 := by decide
  congr 1
  · congr 1
    rw [Int64.le_iff_toInt_le, Int32.lt_iff_toInt_lt, Int32.toInt_toInt64, h0, h00]
    exact propext ⟨fun h => by omega, fun h => by omega⟩
  · congr 1
    rw [Int64.le_iff_toInt_le, Int32.le_iff_toInt_le, Int32.toInt_toInt64, Int32.toInt_toInt64, pk_sub_toInt hn (by omega), nI_toInt (by omega)]
    exact propext ⟨fun h => by omega, fun h => by omega⟩
theorem allB_f {f : Nat → Bool} {i n : Nat} (h : allB f i = false) (hi : i ≤ n) : allB f n = false := by
  cases hb : allB f n with
  | false => rfl
  | true =>
    rw [(allB_iff f i).mpr (fun j hj => (allB_iff f n).mp hb j (by omega))] at h
    cases h
theorem sub1 {k : Nat} (h : k ≤ 11) : nI (11 - k) + (-1) = nI 11 - nI (k + 1) := by
  rw [← pk_sub h, ← nI_add, show ((-1) : Int32) = - nI 1 by decide]
  generalize nI 11 = a
  generalize nI k = b
  generalize nI 1 = c
  grind
/-! more pictures of the reference -/
def mEa (f : Nat → Int32) (x : Int32) : Nat → Bool
  | 0 => false
  | e + 1 => mEa f x e || decide (f e = x)
def lkO (re : Int32) (nd : Nat → Bool) (part : Nat) : Option Nat → Bool
  | none => false
  | some q => decide (0 < re) && nd (12 * part + q)
def mLk (po : Nat → Option Nat) (re : Nat → Int32) (nd : Nat → Bool) (part : Nat) : Nat → Bool
  | 0 => false
  | e + 1 => mLk po re nd part e || lkO (re e) nd part (po e)
def mToV (M : mT) (x y : Int32) : Int32 := if xIn x (M.2.2.1 14) = true then (if y = nI 0 then my M 15 (cl x) else if y = nI 1 then my M 16 (cl x) else if y = nI 2 then my M 17 (cl x) else -1) else -1
def mcB (M : mT) (x : Int32) (p : Nat) : Bool := (decide (x = nI 3) && decide (0 < mEnt M p)) || (decide (x = nI 4) && mz M 4 p)
def mcC (M : mT) (x : Int32) : Nat → Nat
  | 0 => 0
  | p + 1 => if mcB M x p = true then mcC M x p + 1 else if x = nI 5 then mcC M x p + mEnt M p else mcC M x p
def acJ (n0 : Int32) (cf : Nat → Int32) : Nat → Int32
  | 0 => n0
  | n + 1 => acJ n0 cf n + cf n
def mcS (M : mT) (x : Int32) : Nat := if x = nI 1 then M.2.2.1 14 else 0
def mCoV (M : mT) (x : Int32) : Int32 := if x = nI 0 then nI (M.2.2.1 14) else if x = nI 2 then nI (M.2.2.1 11) else if (decide (nI 1 ≤ x) && decide (x ≤ nI 5)) = true then acJ (nI (mcC M x 12)) (M.2.2.2.2.1 17) (mcS M x) else -2
def mSaV (M : mT) (x y : Int32) : Bool := xIn x 12 && (xIn y 12 && allB (mSame M (cl x) (cl y)) 100)
def mOcV (M : mT) (x : Int32) : Int32 := if xIn x (M.2.2.1 11) = true then xb (my M 10 (cl x)) else nI 0
def mOcM (M : mT) (x : Int32) : mT := mI M 0 (if xIn x (M.2.2.1 11) = true then nI 0 else nI 1)
def mCuB (M : mT) (x : Int32) : Bool := decide (nI 0 ≤ x) && decide (x ≤ nI (M.2.2.1 11))
def mAdM (M : mT) (x : Int32) : mT := if M.2.2.1 11 = 8000 then mT0 M else mN (mYi (mT0 M) 10 (M.2.2.1 11) (x &&& nI 255)) 11 (M.2.2.1 11 + 1)
def mPkB (M : mT) (x y : Int32) : Bool := xIn x (M.2.2.1 11) && fkB y
def mPkM (M : mT) (x y : Int32) : mT := if mPkB M x y = true then mYi (mT0 M) 10 (cl x) (my M 10 (cl x) ^^^ y) else mT0 M
def mPkV (M : mT) (x y : Int32) : Int32 := if xIn x (M.2.2.1 11) = true then (if fkB y = true then my M 10 (cl x) ^^^ y else -2) else -1
/-! reading: at, reason -/
def mRd (M : mT) : cR := (M.2.2.1 22, M.1 23)
def mS (M : mT) (r : cR) : mT := mI (mN M 22 r.1) 23 r.2
theorem mS_id (M : mT) : mS M (mRd M) = M := by
  unfold mS mRd mI mN
  dsimp only
  rw [va_up_id rfl, va_up_id rfl]
theorem mS_I (M : mT) (x : Int32) : mI M 23 x = mS M ((mRd M).1, x) := by
  unfold mS mRd mI mN
  dsimp only
  rw [va_up_id rfl]
theorem mS_N (M : mT) (x : Nat) : mN M 22 x = mS M (x, (mRd M).2) := by
  unfold mS mRd mI mN
  dsimp only
  rw [va_up_id rfl]
theorem va_up_up {α : Type} (f : Nat → α) (k : Nat) (a b : α) : va_up (va_up f k a) k b = va_up f k b := bx_uu f k a b
theorem mS_S (M : mT) (r r' : cR) : mS (mS M r) r' = mS M r' := by
  unfold mS mI mN
  dsimp only
  rw [va_up_up, va_up_up]
theorem mS_r (M : mT) (r : cR) : mRd (mS M r) = r := rfl
def mBy (M : mT) (O : cO) : Prop := (∀ i, my M 10 i = O.1 0 i &&& nI 255) ∧ M.2.2.1 11 = O.2.1 0
def mRe (r : cR) : Prop := r.2 = 0 ∨ 0 < r.2
theorem mRe.nx {r : cR} (h : mRe r) (O : cO) : mRe (nxR O r) := by
  unfold nxR
  split
  · split
    · exact h
    · exact Or.inr (by decide : (0 : Int32) < nI 4)
  · exact h
theorem mRe.rf {r : cR} (h : mRe r) : mRe (rfR r (nI 5)) := by
  unfold rfR
  split
  · exact Or.inr (by decide : (0 : Int32) < nI 5)
  · exact h
def ndR (r : cR) (b : Bool) : cR := if b = true then r else rfR r (nI 5)
theorem mRe.nd {r : cR} (h : mRe r) (b : Bool) : mRe (ndR r b) := by
  unfold ndR
  split
  · exact h
  · exact h.rf
theorem nd_same {r : cR} {b : Bool} (h : ¬ r.2 = 0 ∨ b = true) : ndR r b = r := by
  unfold ndR rfR
  rcases h with h | h
  · rw [if_neg h]; split <;> rfl
  · rw [if_pos h]
theorem nd_5 {r : cR} (h : r.2 = 0) : ndR r false = (r.1, nI 5) := by
  unfold ndR rfR
  rw [if_neg (by decide), if_pos h]
theorem mcC_1 {M : mT} {x : Int32} {p : Nat} (h : mcB M x p = true) : mcC M x (p + 1) = mcC M x p + 1 := by rw [mcC, if_pos h]
theorem mcC_5 {M : mT} {x : Int32} {p : Nat} (h : mcB M x p = false) (h5 : x = nI 5) : mcC M x (p + 1) = mcC M x p + mEnt M p := by rw [mcC, if_neg (by rw [h]; decide), if_pos h5]
theorem mcC_0 {M : mT} {x : Int32} {p : Nat} (h : mcB M x p = false) (h5 : ¬ x = nI 5) : mcC M x (p + 1) = mcC M x p := by rw [mcC, if_neg (by rw [h]; decide), if_neg h5]
