/-! what is made: worlds with an object under way -/
theorem xup_xup (w : xw) (a : Nat) (e e' : va_E) : xup (xup w a e) a e' = xup w a e' := by
  funext q
  by_cases h : q = a
  · subst h; rw [xup_self, xup_self]
  · rw [xup_ne h, xup_ne h, xup_ne h]
theorem xup_com (w : xw) {a b : Nat} (h : a ≠ b) (e e' : va_E) : xup (xup w a e) b e' = xup (xup w b e') a e := by
  funext q
  by_cases h1 : q = a
  · subst h1; rw [xup_ne h, xup_self, xup_self]
  · by_cases h2 : q = b
    · subst h2; rw [xup_self, xup_ne h1, xup_self]
    · rw [xup_ne h2, xup_ne h1, xup_ne h1, xup_ne h2]
/-- a making that touches the places from lo up to hi alone, whatever stood there -/
def cLoc (F : xw → xw) (lo hi : Nat) : Prop := (∀ w q, q < lo ∨ hi ≤ q → F w q = w q) ∧ ∀ w w' q, lo ≤ q → q < hi → F w q = F w' q
theorem cLoc.one (a : Nat) (e : va_E) : cLoc (fun w => xup w a e) a (a + 1) := ⟨fun w q h => xup_ne (by omega), fun w w' q h1 h2 => by
  have : q = a := by omega
  subst this
  show xup w q e q = xup w' q e q
  rw [xup_self, xup_self]⟩
theorem cLoc.comp {F K : xw → xw} {lo1 hi1 lo2 hi2 lo hi : Nat} (h1 : cLoc F lo1 hi1) (h2 : cLoc K lo2 hi2) (hu : ∀ q, (lo ≤ q ∧ q < hi) ↔ ((lo1 ≤ q ∧ q < hi1) ∨ (lo2 ≤ q ∧ q < hi2))) : cLoc (fun w => F (K w)) lo hi := by
  refine ⟨fun w q h => ?_, fun w w' q g1 g2 => ?_⟩
  · have hq : ¬ (lo ≤ q ∧ q < hi) := by omega
    rw [hu q] at hq
    show F (K w) q = w q
    rw [h1.1 _ _ (by omega), h2.1 _ _ (by omega)]
  · show F (K w) q = F (K w') q
    by_cases hq : lo1 ≤ q ∧ q < hi1
    · exact h1.2 _ _ q hq.1 hq.2
    · have h3 := ((hu q).mp ⟨g1, g2⟩).resolve_left hq
      rw [h1.1 _ _ (by omega), h1.1 _ _ (by omega)]
      exact h2.2 _ _ q h3.1 h3.2
theorem cLoc.put {F : xw → xw} {lo hi : Nat} (h : cLoc F lo hi) {a : Nat} (ha : a < lo ∨ hi ≤ a) (w : xw) (e e' : va_E) : xup (F (xup w a e)) a e' = xup (F w) a e' := by
  funext q
  by_cases hq : q = a
  · subst hq; rw [xup_self, xup_self]
  · rw [xup_ne hq, xup_ne hq]
    by_cases g : lo ≤ q ∧ q < hi
    · exact h.2 _ _ q g.1 g.2
    · rw [h.1 _ _ (by omega), h.1 _ _ (by omega), xup_ne hq]
theorem cLoc.com {F K : xw → xw} {lo1 hi1 lo2 hi2 : Nat} (h1 : cLoc F lo1 hi1) (h2 : cLoc K lo2 hi2) (hd : hi1 ≤ lo2 ∨ hi2 ≤ lo1) (w : xw) : F (K w) = K (F w) := by
  funext q
  by_cases g1 : lo1 ≤ q ∧ q < hi1
  · rw [h2.1 _ _ (by omega)]
    exact h1.2 _ _ q g1.1 g1.2
  · rw [h1.1 _ _ (by omega)]
    by_cases g2 : lo2 ≤ q ∧ q < hi2
    · exact h2.2 _ _ q g2.1 g2.2
    · rw [h2.1 _ _ (by omega), h2.1 _ _ (by omega), h1.1 _ _ (by omega)]
/-- the same of any places -/
def cLocP (F : xw → xw) (P : Nat → Prop) : Prop := (∀ w q, ¬ P q → F w q = w q) ∧ ∀ w w' q, P q → F w q = F w' q
theorem cLoc.toP {F : xw → xw} {lo hi : Nat} (h : cLoc F lo hi) : cLocP F (fun q => lo ≤ q ∧ q < hi) := ⟨fun w q hq => h.1 w q (by dsimp only at hq; omega), fun w w' q hq => h.2 w w' q hq.1 hq.2⟩
theorem cLocP.comp {F K : xw → xw} {P1 P2 : Nat → Prop} (h1 : cLocP F P1) (h2 : cLocP K P2) : cLocP (fun w => F (K w)) (fun q => P1 q ∨ P2 q) := by
  refine ⟨fun w q h => ?_, fun w w' q h => ?_⟩
  · show F (K w) q = w q
    rw [h1.1 _ _ (fun z => h (Or.inl z)), h2.1 _ _ (fun z => h (Or.inr z))]
  · show F (K w) q = F (K w') q
    by_cases hq : P1 q
    · exact h1.2 _ _ q hq
    · rw [h1.1 _ _ hq, h1.1 _ _ hq]
      exact h2.2 _ _ q (h.resolve_left hq)
theorem cLocP.to {F : xw → xw} {P : Nat → Prop} {lo hi : Nat} (h : cLocP F P) (hu : ∀ q, P q ↔ (lo ≤ q ∧ q < hi)) : cLoc F lo hi := ⟨fun w q hq => h.1 w q (fun z => by have := (hu q).mp z; omega), fun w w' q g1 g2 => h.2 w w' q ((hu q).mpr ⟨g1, g2⟩)⟩
theorem arrV_cong {c : ClassId} {N : Nat} {f g : Nat → Value} (h : ∀ j, j < N → f j = g j) : arrV c N f = arrV c N g := by
  have e : (fun j : Fin N => f j.val) = (fun j : Fin N => g j.val) := funext fun j => h j.val j.isLt
  unfold arrV
  rw [e]
section XMADE
variable {p : Program} {l : Launch} {e : Env} {R : Room} {s : State} {m : MethodId} {args : Array Value} {below : List Frame} {meth : Method} {c : Code}
variable {G : xD} {A : Nat → Prop} {nL : Nat} {Q : State → Prop} {cc : ByteArray} {own : String} {sz cs ss pc : Nat} {w : xw} {lv : List (Nat × Value)} {st : List Value}
/-- less may be said of the world -/
theorem xv_le {w' : xw} (h : ∀ a e', w' a = some e' → ∃ e0, w a = some e0 ∧ ∀ H : Heap, va_at G.1 vwCl (a, e0) H → va_at G.1 vwCl (a, e') H) (kk : xV p l e R s m args below meth c G A nL Q sz w' cs ss pc lv st) : xV p l e R s m args below meth c G A nL Q sz w cs ss pc lv st := fun H locs ls hz hR hS hlv =>
  kk H locs ls hz (fun a e' he => by
    obtain ⟨e0, h1, h2⟩ := h a e' he
    exact ⟨h2 H (hR a e0 h1).1, (hR a e0 h1).2⟩) hS hlv
theorem co_put (hC : xC p s m args meth c cc nL own G A) {C : String} {T : u_T} {N ci : Nat} {ty : Nat → FieldType} (hF : xF ci C T N ty) (k : Nat) (hk : k < N) {index : Nat} (hl : Cond.fieldLink own index (T k).1 (T k).2.1 (T k).2.2.1 ∈ xW) (d : decode cc pc = .ok (.putfield index, 3)) (hfin : (T k).2.2.2 = false) {a : Nat} {fs : List Value} {v : Value} (hn : narrow (ty k) v = v) (hfit : fits (ty k) v = true) (hlen : k < fs.length)
    (kk : xV p l e R s m args below meth c G A nL Q sz (xup w a (.inr (ci, fs.set k v))) cs ss (pc + 3) lv st) : xV p l e R s m args below meth c G A nL Q sz (xup w a (.inr (ci, fs))) cs ss pc lv (v :: .ref a :: st) :=
  xv_put hC hF k hk hl d hfin (xup_self _ _ _) hn hfit hlen (by rw [xup_xup]; exact kk)
theorem co_putF (hC : xC p s m args meth c cc nL own G A) {C : String} {T : u_T} {N ci : Nat} {ty : Nat → FieldType} (hF : xF ci C T N ty) (k : Nat) (hk : k < N) {index : Nat} (hl : Cond.fieldLink own index (T k).1 (T k).2.1 (T k).2.2.1 ∈ xW) (d : decode cc pc = .ok (.putfield index, 3)) (hfin : (T k).2.2.2 = true) (hin2 : meth.name = "<init>") (hdecl : (T k).1 = own) {a : Nat} {fs : List Value} {v : Value} (hn : narrow (ty k) v = v) (hfit : fits (ty k) v = true) (hlen : k < fs.length)
    (kk : xV p l e R s m args below meth c G A nL Q sz (xup w a (.inr (ci, fs.set k v))) cs ss (pc + 3) lv st) : xV p l e R s m args below meth c G A nL Q sz (xup w a (.inr (ci, fs))) cs ss pc lv (v :: .ref a :: st) :=
  xv_putF hC hF k hk hl d hfin hin2 hdecl (xup_self _ _ _) hn hfit hlen (by rw [xup_xup]; exact kk)
/-- a field of the object under way takes what another constructor has made -/
theorem co_putC (hC : xC p s m args meth c cc nL own G A) {C : String} {T : u_T} {N ci : Nat} {ty : Nat → FieldType} (hF : xF ci C T N ty) (k : Nat) (hk : k < N) {index : Nat} (hl : Cond.fieldLink own index (T k).1 (T k).2.1 (T k).2.2.1 ∈ xW) (d : decode cc pc = .ok (.putfield index, 3)) (hfin : (T k).2.2.2 = true) (hin2 : meth.name = "<init>") (hdecl : (T k).1 = own) {F : xw → xw} {lo hi : Nat} (hL : cLoc F lo hi) {a : Nat} (ha : a < lo ∨ hi ≤ a) {fs : List Value} {v : Value} (hn : narrow (ty k) v = v) (hfit : fits (ty k) v = true) (hlen : k < fs.length)
    (kk : xV p l e R s m args below meth c G A nL Q sz (xup (F w) a (.inr (ci, fs.set k v))) cs ss (pc + 3) lv st) : xV p l e R s m args below meth c G A nL Q sz (F (xup w a (.inr (ci, fs)))) cs ss pc lv (v :: .ref a :: st) :=
  xv_putF hC hF k hk hl d hfin hin2 hdecl ((hL.1 _ _ ha).trans (xup_self _ _ _)) hn hfit hlen (by rw [hL.put ha]; exact kk)
theorem co_newa (hC : xC p s m args meth c cc nL own G A) {atype : ArrayType} (t : Nat) {ty : FieldType} (hty : newarray.typeOf atype = ty) (ht : (xT G)[t]? = some (G.2 t, ty)) (hnr : ∀ C, ty ≠ .object C) (d : decode cc pc = .ok (.newarray atype, 2)) (harr : Cond.arrayClass ty ∈ xW) {n : Int32} (N : Nat) (a0 : vp_A) (ha : ∀ cA : ClassId, vp_cell cA a0 = arrV cA N (fun _ => defaultValue ty)) (hn : ¬ n < 0) (hN : n.toNatClampNeg = N) (hb : N * componentBytes ty ≤ 536870912) (hc1 : cs + 1 ≤ R.cells) (hs1 : ss + N ≤ R.slots) {a : Nat} {o : va_E} (hne : a ≠ sz)
    (kk : xV p l e R s m args below meth c G A nL Q (sz + 1) (xup (xup w sz (.inl (G.2 t, a0))) a o) (cs + 1) (ss + N) (pc + 2) lv (.ref sz :: st)) : xV p l e R s m args below meth c G A nL Q sz (xup w a o) cs ss pc lv (.int n :: st) :=
  xv_newa hC t hty ht hnr d harr ha hn hN hb hc1 hs1 (by rw [xup_com w hne]; exact kk)
theorem co_newq (hC : xC p s m args meth c cc nL own G A) {index : Nat} (d : decode cc pc = .ok (.anewarray index, 3)) (hcl : Cond.classLink own index "FormatFiles$Entries" ∈ xW) {n : Int32} (N : Nat) (hn : ¬ n < 0) (hN : n.toNatClampNeg = N) (hb : N * 4 ≤ 536870912) (hc1 : cs + 1 ≤ R.cells) (hs1 : ss + N ≤ R.slots) {a : Nat} {o : va_E} (hne : a ≠ sz)
    (kk : xV p l e R s m args below meth c G A nL Q (sz + 1) (xup (xup w sz (.inl (G.2 4, N, .inr (.inr (.inr (.inr (fun _ => none))))))) a o) (cs + 1) (ss + N) (pc + 3) lv (.ref sz :: st)) : xV p l e R s m args below meth c G A nL Q sz (xup w a o) cs ss pc lv (.int n :: st) :=
  xv_newq hC d hcl hn hN hb hc1 hs1 (by rw [xup_com w hne]; exact kk)
theorem co_get (hC : xC p s m args meth c cc nL own G A) {C : String} {T : u_T} {N ci : Nat} {ty : Nat → FieldType} (hF : xF ci C T N ty) (k : Nat) (hk : k < N) {index : Nat} (hl : Cond.fieldLink own index (T k).1 (T k).2.1 (T k).2.2.1 ∈ xW) (d : decode cc pc = .ok (.getfield index, 3)) {a : Nat} {fs : List Value} (v : Value) (hw : w a = some (.inr (ci, fs))) (hv : fs[k]? = some v)
    (kk : xV p l e R s m args below meth c G A nL Q sz w cs ss (pc + 3) lv (v :: st)) : xV p l e R s m args below meth c G A nL Q sz w cs ss pc lv (.ref a :: st) := xv_get hC hF k hk hl d hw hv kk
/-- the larger of 0 and n -/
theorem xv_max0 (hC : xC p s m args meth c cc nL own G A) {index n : Nat} (d : decode cc pc = .ok (.invokestatic index, 3)) (hl : Cond.methodLink own index Lib.Math.max.name ∈ xW) (hs : Cond.static Lib.Math.max.name ∈ xW) (hi : Cond.initialized "java/lang/Math" ∈ xW) (hcd : Cond.code Lib.Math.max.name Lib.Math.max.code 2 (some .int) ∈ xW) (hf : 1 ≤ R.frames) (hlo : (st.map fun v => v.category).sum + 13 ≤ R.locals) (hc1 : cs ≤ R.cells) (hs1 : ss ≤ R.slots) (hn : n < 2 ^ 31)
    (kk : xV p l e R s m args below meth c G A nL Q sz w cs ss (pc + 3) lv (.int (nI n) :: st)) : xV p l e R s m args below meth c G A nL Q sz w cs ss pc lv (.int (nI n) :: .int (nI 0) :: st) := fun H locs ls hz hR hS hlv => by
  have hts := hC.2.2.2.2.1
  have e1 : (if nI 0 < nI n then nI n else nI 0) = nI n := by
    by_cases h : nI 0 < nI n
    · rw [if_pos h]
    · rw [if_neg h, show n = 0 from Nat.eq_zero_of_not_pos (fun z => h ((nI_ltI (by omega) hn).mpr z))]
  refine va_mmax hC.1 hC.2.1 (hC.2.2.1.trans hlv.1.symm) hC.2.2.2.1 (hts _ hl) (hts _ hs) (hts _ hi) (hts _ hcd) hf hlo hc1 hs1 d ?_
  rw [e1]
  exact kk H locs ls hz hR hS hlv
end XMADE
/-! the makings -/
def zI (n : Nat) : vp_A := (n, .inl (fun _ => nI 0))
def zL (n : Nat) : vp_A := (n, .inr (.inl (fun _ => 0)))
def cEnt (G : xD) (b : Nat) (w : xw) : xw := xup (xup (xup w (b + 1) (.inl (G.2 2, zI 100))) (b + 2) (.inl (G.2 1, zL 100))) b (.inr (2, [.ref (b + 1), .ref (b + 2), .int (nI 0)]))
def cOct (G : xD) (b n : Nat) (w : xw) : xw := xup (xup w (b + 1) (.inl (G.2 3, zI n))) b (.inr (4, [.ref (b + 1), .int (nI 0)]))
def cRea (b q : Nat) (w : xw) : xw := xup w b (.inr (5, [.int (nI 0), .int (nI 0), .ref q]))
def cWri (G : xD) (b q : Nat) (w : xw) : xw := xup (xup (cOct G (b + 1) 0 w) (b + 3) (.inl (G.2 0, zI 12))) b (.inr (7, [.ref q, .ref (b + 1), .ref (b + 3)]))
def cEnts (G : xD) (b : Nat) : Nat → xw → xw
  | 0, w => w
  | n + 1, w => cEnt G (b + 3 * n) (cEnts G b n w)
def cPar (b n : Nat) : vp_A := (12, .inr (.inr (.inr (.inr (fun j => if j < n then some (b + 3 * j) else none)))))
def cSet (G : xD) (b : Nat) (w : xw) : xw := xup (xup (cEnts G (b + 3) 12 (xup w (b + 2) (.inl (G.2 0, zI 12)))) (b + 1) (.inl (G.2 4, cPar (b + 3) 12))) b (.inr (6, [.ref (b + 1), .ref (b + 2), .int (nI 0), .int (nI 1), .int (nI 0), .int (cI false), .int (cI false), .int (nI 0)]))
def cLoO (b q1 q2 : Nat) : va_E := .inr (3, [.int (nI 0), .ref (b + 1), .ref (b + 2), .ref (b + 3), .ref q1, .ref q2, .ref (b + 9), .ref (b + 10), .ref (b + 4), .ref (b + 7), .ref (b + 8), .int (nI 0), .int (nI 0)])
def cLoa (G : xD) (b q1 q2 : Nat) (w : xw) : xw := xup (cRea (b + 10) q2 (cRea (b + 9) q2 (xup (xup (cEnt G (b + 4) (xup (xup (xup w (b + 1) (.inl (G.2 0, zI 255))) (b + 2) (.inl (G.2 0, zI 255))) (b + 3) (.inl (G.2 0, zI 255)))) (b + 7) (.inl (G.2 0, zI 12))) (b + 8) (.inl (G.2 0, zI 12))))) b (cLoO b q1 q2)
def cFF (G : xD) (h : Nat) (w : xw) : xw := xup (cLoa G (h + 46) (h + 1) (h + 40) (cWri G (h + 42) (h + 1) (cOct G (h + 40) 8000 (cSet G (h + 1) w)))) h (.inr (8, [.ref (h + 1), .ref (h + 40), .ref (h + 42), .ref (h + 46)]))
theorem cEnt_loc (G : xD) (b : Nat) : cLoc (cEnt G b) b (b + 3) := ((cLoc.one b _).comp (((cLoc.one (b + 2) _).comp (cLoc.one (b + 1) _) (lo := b + 1) (hi := b + 3) (fun q => by omega))) (fun q => by omega))
theorem cOct_loc (G : xD) (b n : Nat) : cLoc (cOct G b n) b (b + 2) := (cLoc.one b _).comp (cLoc.one (b + 1) _) (fun q => by omega)
theorem cRea_loc (b q : Nat) : cLoc (cRea b q) b (b + 1) := cLoc.one b _
theorem cWri_loc (G : xD) (b q : Nat) : cLoc (cWri G b q) b (b + 4) := (cLoc.one b _).comp (((cLoc.one (b + 3) _).comp (cOct_loc G (b + 1) 0) (lo := b + 1) (hi := b + 4) (fun q => by omega))) (fun q => by omega)
theorem cEnts_loc (G : xD) (b : Nat) : ∀ n, cLoc (cEnts G b n) b (b + 3 * n)
  | 0 => ⟨fun w q h => rfl, fun w w' q h1 h2 => absurd h2 (by omega)⟩
  | n + 1 => (cEnt_loc G (b + 3 * n)).comp (cEnts_loc G b n) (fun q => by omega)
theorem cSet_loc (G : xD) (b : Nat) : cLoc (cSet G b) b (b + 39) := (cLoc.one b _).comp (((cLoc.one (b + 1) _).comp ((cEnts_loc G (b + 3) 12).comp (cLoc.one (b + 2) _) (lo := b + 2) (hi := b + 39) (fun q => by omega)) (lo := b + 1) (hi := b + 39) (fun q => by omega))) (fun q => by omega)
theorem cEnts_at (G : xD) (b : Nat) (w w' : xw) : ∀ n p r, p < n → r < 3 → cEnts G b n w (b + 3 * p + r) = cEnt G (b + 3 * p) w' (b + 3 * p + r)
  | 0, p, r, h, _ => absurd h (Nat.not_lt_zero p)
  | n + 1, p, r, h, hr => by
    show cEnt G (b + 3 * n) (cEnts G b n w) (b + 3 * p + r) = _
    by_cases e : p = n
    · subst e
      exact (cEnt_loc G (b + 3 * p)).2 _ _ _ (by omega) (by omega)
    · rw [(cEnt_loc G (b + 3 * n)).1 _ _ (by omega)]
      exact cEnts_at G b w w' n p r (by omega) hr
theorem cPar_s (b n : Nat) (hn : n < 12) : ((12, .inr (.inr (.inr (.inr (va_up (fun j => if j < n then some (b + 3 * j) else none) n (some (b + 3 * n))))))) : vp_A) = cPar b (n + 1) := by
  have e : va_up (fun j => if j < n then some (b + 3 * j) else none) n (some (b + 3 * n)) = fun j => if j < n + 1 then some (b + 3 * j) else none := by
    funext j
    by_cases e : j = n
    · subst e; rw [va_up_self, if_pos (by omega)]
    · rw [va_up_ne _ _ e]
      by_cases g : j < n
      · rw [if_pos g, if_pos (by omega)]
      · rw [if_neg g, if_neg (by omega)]
  rw [e]
  rfl
/-- a step of a loop that makes entries: the new one, then its place in the row -/
theorem cEnts_step (G : xD) {z x y : Nat} (C : xw) (px px' o : va_E) (hx : x < z) (hy : y < z) (hxy : x ≠ y) : xup (cEnt G z (xup (xup C x px) y o)) x px' = xup (xup (cEnt G z C) x px') y o := by
  rw [(cEnt_loc G z).com (cLoc.one y o) (by omega) (xup C x px)]
  show xup (xup (cEnt G z (xup C x px)) y o) x px' = _
  rw [xup_com _ (Ne.symm hxy), (cEnt_loc G z).put (by omega)]
theorem cLoa_loc (G : xD) (b q1 q2 : Nat) : cLoc (cLoa G b q1 q2) b (b + 11) :=
  ((cLoc.one b (cLoO b q1 q2)).toP.comp ((cRea_loc (b + 10) q2).toP.comp ((cRea_loc (b + 9) q2).toP.comp ((cLoc.one (b + 8) (.inl (G.2 0, zI 12))).toP.comp ((cLoc.one (b + 7) (.inl (G.2 0, zI 12))).toP.comp ((cEnt_loc G (b + 4)).toP.comp ((cLoc.one (b + 3) (.inl (G.2 0, zI 255))).toP.comp ((cLoc.one (b + 2) (.inl (G.2 0, zI 255))).toP.comp (cLoc.one (b + 1) (.inl (G.2 0, zI 255))).toP)))))))).to (fun q => by omega)
