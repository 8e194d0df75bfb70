section XH
variable {p : Program} {l : Launch} {e : Env} {R : Room} {s : State} {m : MethodId} {args : Array Value} {below : List Frame} {meth : Method} {c : Code}
variable {G : xD} {A : Nat → Prop} {nL : Nat} {Q : State → Prop} {cc : ByteArray} {own : String} {sz cs ss pc : Nat} {w : xw} {lv : List (Nat × Value)} {st : List Value}
/-- the fields of the class number ci: name C, table T, N of them, all its words are there -/
def xF (ci : Nat) (C : String) (T : u_T) (N : Nat) (ty : Nat → FieldType) : Prop := vwCl[ci]? = some (C, T, N) ∧ (∀ w ∈ u_ws C T N, w ∈ xW) ∧ (∀ k, k < N → parseFieldDescriptor (T k).2.2.1 = some (ty k)) ∧ (∀ a, a < N → ∀ b, b < N → a ≠ b → (T a).2.1 ≠ (T b).2.1)
theorem xv_get (hC : xC p s m args meth c cc nL own G A) {C : String} {T : u_T} {N ci : Nat} {ty : Nat → FieldType} (hF : xF ci C T N ty) (k : Nat) (hk : k < N) {index : Nat} (hl : Cond.fieldLink own index (T k).1 (T k).2.1 (T k).2.2.1 ∈ xW) (d : decode cc pc = .ok (.getfield index, 3)) {a : Nat} {fs : List Value} {v : Value} (hw : w a = some (.inr (ci, fs))) (hv : fs[k]? = some v)
    (kk : xV p l e R s m args below meth c G A nL Q sz w cs ss (pc + 3) lv (v :: st)) : xV p l e R s m args below meth c G A nL Q sz w cs ss pc lv (.ref a :: st) := fun H locs ls hz hR hS hlv =>
  va_get (D := G.1) (cl := vwCl) (ws := [(a, .inr (ci, fs))]) hC.1 hC.2.1 hC.2.2.2.2.1 hF.2.1 hC.2.2.2.1 hC.2.2.2.2.2.1.1 (fun j q hj => by
    cases j with
    | zero => cases hj; exact (hR a _ hw).1
    | succ j => simp at hj) 0 rfl hF.1 k hk (hC.2.2.2.2.1 _ hl) (fun _ h9 => h9) hv d (kk H locs ls hz hR hS hlv)
theorem xv_put (hC : xC p s m args meth c cc nL own G A) {C : String} {T : u_T} {N ci : Nat} {ty : Nat → FieldType} (hF : xF ci C T N ty) (k : Nat) (hk : k < N) {index : Nat} (hl : Cond.fieldLink own index (T k).1 (T k).2.1 (T k).2.2.1 ∈ xW) (d : decode cc pc = .ok (.putfield index, 3)) (hfin : (T k).2.2.2 = false) {a : Nat} {fs : List Value} {v : Value} (hw : w a = some (.inr (ci, fs))) (hn : narrow (ty k) v = v) (hfit : fits (ty k) v = true) (hlen : k < fs.length)
    (kk : xV p l e R s m args below meth c G A nL Q sz (xup w a (.inr (ci, fs.set k v))) cs ss (pc + 3) lv st) : xV p l e R s m args below meth c G A nL Q sz w cs ss pc lv (v :: .ref a :: st) := by
  intro H locs ls hz hR hS hlv
  obtain ⟨hx, hb, hml, hown, hts, ⟨hK, -⟩, hlk, hA⟩ := id hC
  obtain ⟨hc, hin, hty, hnm⟩ := hF
  have hap := va_apart (own := own) hts hin ty hty hnm hK hc
  obtain ⟨⟨r, h1, cell, q1, q2, q3, q4⟩, hAa⟩ := hR a _ hw
  have hr : r = (C, T, N) := Option.some.inj (h1.symm.trans hc)
  subst hr
  obtain ⟨hSl, hfc, kC, hkC, hkind⟩ := hK.1 ci _ hc
  obtain ⟨cf, kf, fi, f, hi, hsl⟩ := hSl k hk
  have hlay := hts _ (hin _ (u_in_lay hk))
  unfold u_lay at hlay
  rw [if_neg (by rw [hfin]; decide)] at hlay
  have hst := (u_facts hfc hkC (u_lays hts hin hk) hi).1
  have h6 := u_store hfc hkC hkind hlay hi (hty k hk) hn hfit
  refine W.putK hx hb (f := f) ⟨hown, hts _ hl, ⟨_, _, _, hi⟩, hst⟩ (by rw [q2]; exact h6) q1 q3 (by rw [hsl]; exact k2_hasslot (q4 k hk)) rfl rfl d fun H' e1 e2 e3 => ?_
  rw [hsl] at e1 ⊢
  exact kk H' _ ls (e2.trans hz) (hR.set hAa ⟨_, hc, t_OB.to (V := updV (vp_V fs) k v) ⟨_, e1, q2, q3, t_set q4 hap hk v⟩ (fun j _ => vp_updV_set hlen v j)⟩ e3) (hS.put e2 e3 hAa) hlv
theorem xv_putF (hC : xC p s m args meth c cc nL own G A) {C : String} {T : u_T} {N ci : Nat} {ty : Nat → FieldType} (hF : xF ci C T N ty) (k : Nat) (hk : k < N) {index : Nat} (hl : Cond.fieldLink own index (T k).1 (T k).2.1 (T k).2.2.1 ∈ xW) (d : decode cc pc = .ok (.putfield index, 3)) (hfin : (T k).2.2.2 = true) (hin2 : meth.name = "<init>") (hdecl : (T k).1 = own) {a : Nat} {fs : List Value} {v : Value} (hw : w a = some (.inr (ci, fs))) (hn : narrow (ty k) v = v) (hfit : fits (ty k) v = true) (hlen : k < fs.length)
    (kk : xV p l e R s m args below meth c G A nL Q sz (xup w a (.inr (ci, fs.set k v))) cs ss (pc + 3) lv st) : xV p l e R s m args below meth c G A nL Q sz w cs ss pc lv (v :: .ref a :: st) := by
  intro H locs ls hz hR hS hlv
  obtain ⟨hx, hb, hml, hown, hts, ⟨hK, -⟩, hlk, hA⟩ := id hC
  obtain ⟨hc, hin, hty, hnm⟩ := hF
  have hap := va_apart (own := own) hts hin ty hty hnm hK hc
  obtain ⟨⟨r, h1, cell, q1, q2, q3, q4⟩, hAa⟩ := hR a _ hw
  have hr : r = (C, T, N) := Option.some.inj (h1.symm.trans hc)
  subst hr
  obtain ⟨hSl, hfc, kC, hkC, hkind⟩ := hK.1 ci _ hc
  obtain ⟨cf, kf, fi, f, hi, hsl⟩ := hSl k hk
  have hlay := hts _ (hin _ (u_in_lay hk))
  unfold u_lay at hlay
  rw [if_pos hfin] at hlay
  have hst := (u_facts hfc hkC (u_lays hts hin hk) hi).1
  have hcf : m.cls = cf := by
    obtain ⟨_, _, c', _, _, _, -, -, hf', -, -, -, hown2, -⟩ := Cond.laysFinal_spec hlay
    have e1 : c' = cf := by have := hi.symm.trans hf'; simp at this; exact this.1.symm
    rw [hdecl] at hown2
    rw [← e1]; exact Option.some.inj (hown.symm.trans hown2)
  have h6 := u_fits hfc hkC hkind (Or.inr hlay) hi (hty k hk) hn hfit
  refine W.putFinK hx hb hown (hts _ hl) hi hst hcf hin2 (by rw [q2]; exact h6) q1 q3 (by rw [hsl]; exact k2_hasslot (q4 k hk)) rfl rfl d fun H' e1 e2 e3 => ?_
  rw [hsl] at e1 ⊢
  exact kk H' _ ls (e2.trans hz) (hR.set hAa ⟨_, hc, t_OB.to (V := updV (vp_V fs) k v) ⟨_, e1, q2, q3, t_set q4 hap hk v⟩ (fun j _ => vp_updV_set hlen v j)⟩ e3) (hS.put e2 e3 hAa) hlv
/-! arrays -/
theorem xT_at {G : xD} {U : State} (h : xG G U) {k : Nat} {q : ClassId × FieldType} (hk : (xT G)[k]? = some q) : ArrOfT U q.1 q.2 ∧ va_RA U q.1 q.2 := h.1.2 k q hk
theorem xv_iald (hC : xC p s m args meth c cc nL own G A) {a n : Nat} {f : Nat → Int32} {i : Int32} (d : decode cc pc = .ok (.iaload, 1)) (hw : w a = some (.inl (G.2 0, n, .inl f))) (hin : vp_in i n)
    (kk : xV p l e R s m args below meth c G A nL Q sz w cs ss (pc + 1) lv (.int (f i.toNatClampNeg) :: st)) : xV p l e R s m args below meth c G A nL Q sz w cs ss pc lv (.int i :: .ref a :: st) := fun H locs ls hz hR hS hlv => by
  have hlt : i.toNatClampNeg < n := Nat.not_le.mp fun q => hin (Or.inr q)
  exact W.iald (v := .int (f i.toNatClampNeg)) hC.1 hC.2.1 (hR a _ hw).1 ((xT_at hC.2.2.2.2.2.1 (k := 0) rfl).1 n (fun j => .int (f j))) (fun q => by cases q) (by show ¬ (i < 0 ∨ (arrV _ _ _).slots.size ≤ _); rw [arrV_size]; exact hin) (by show (arrV _ _ _).slots[_]? = _; rw [arrV_read _ _ hlt]) rfl rfl d (kk H locs ls hz hR hS hlv)
theorem xv_lald (hC : xC p s m args meth c cc nL own G A) {a n : Nat} {f : Nat → Int64} {i : Int32} (d : decode cc pc = .ok (.laload, 1)) (hw : w a = some (.inl (G.2 1, n, .inr (.inl f)))) (hin : vp_in i n)
    (kk : xV p l e R s m args below meth c G A nL Q sz w cs ss (pc + 1) lv (.long (f i.toNatClampNeg) :: st)) : xV p l e R s m args below meth c G A nL Q sz w cs ss pc lv (.int i :: .ref a :: st) := fun H locs ls hz hR hS hlv => by
  have hlt : i.toNatClampNeg < n := Nat.not_le.mp fun q => hin (Or.inr q)
  exact W.lald (v := .long (f i.toNatClampNeg)) hC.1 hC.2.1 (hR a _ hw).1 ((xT_at hC.2.2.2.2.2.1 (k := 1) rfl).1 n (fun j => .long (f j))) (fun q => by cases q) (by show ¬ (i < 0 ∨ (arrV _ _ _).slots.size ≤ _); rw [arrV_size]; exact hin) (by show (arrV _ _ _).slots[_]? = _; rw [arrV_read _ _ hlt]) rfl rfl d (kk H locs ls hz hR hS hlv)
theorem xv_zald (hC : xC p s m args meth c cc nL own G A) {a n : Nat} {f : Nat → Int32} {i : Int32} (d : decode cc pc = .ok (.baload, 1)) (hw : w a = some (.inl (G.2 2, n, .inl f))) (hin : vp_in i n)
    (kk : xV p l e R s m args below meth c G A nL Q sz w cs ss (pc + 1) lv (.int (f i.toNatClampNeg) :: st)) : xV p l e R s m args below meth c G A nL Q sz w cs ss pc lv (.int i :: .ref a :: st) := fun H locs ls hz hR hS hlv => by
  have hlt : i.toNatClampNeg < n := Nat.not_le.mp fun q => hin (Or.inr q)
  exact W.zald (v := .int (f i.toNatClampNeg)) hC.1 hC.2.1 (hR a _ hw).1 ((xT_at hC.2.2.2.2.2.1 (k := 2) rfl).1 n (fun j => .int (f j))) (fun q => by cases q) (by show ¬ (i < 0 ∨ (arrV _ _ _).slots.size ≤ _); rw [arrV_size]; exact hin) (by show (arrV _ _ _).slots[_]? = _; rw [arrV_read _ _ hlt]) rfl rfl d (kk H locs ls hz hR hS hlv)
theorem xv_bald (hC : xC p s m args meth c cc nL own G A) {a n : Nat} {f : Nat → Int32} {i : Int32} (d : decode cc pc = .ok (.baload, 1)) (hw : w a = some (.inl (G.2 3, n, .inl f))) (hin : vp_in i n)
    (kk : xV p l e R s m args below meth c G A nL Q sz w cs ss (pc + 1) lv (.int (f i.toNatClampNeg) :: st)) : xV p l e R s m args below meth c G A nL Q sz w cs ss pc lv (.int i :: .ref a :: st) := fun H locs ls hz hR hS hlv => by
  have hlt : i.toNatClampNeg < n := Nat.not_le.mp fun q => hin (Or.inr q)
  exact W.bald (v := .int (f i.toNatClampNeg)) hC.1 hC.2.1 (hR a _ hw).1 ((xT_at hC.2.2.2.2.2.1 (k := 3) rfl).1 n (fun j => .int (f j))) (fun q => by cases q) (by show ¬ (i < 0 ∨ (arrV _ _ _).slots.size ≤ _); rw [arrV_size]; exact hin) (by show (arrV _ _ _).slots[_]? = _; rw [arrV_read _ _ hlt]) rfl rfl d (kk H locs ls hz hR hS hlv)
theorem xv_aald (hC : xC p s m args meth c cc nL own G A) {a n b : Nat} {f : Nat → Option Nat} {i : Int32} (d : decode cc pc = .ok (.aaload, 1)) (hw : w a = some (.inl (G.2 4, n, .inr (.inr (.inr (.inr f)))))) (hin : vp_in i n) (hb : f i.toNatClampNeg = some b)
    (kk : xV p l e R s m args below meth c G A nL Q sz w cs ss (pc + 1) lv (.ref b :: st)) : xV p l e R s m args below meth c G A nL Q sz w cs ss pc lv (.int i :: .ref a :: st) := fun H locs ls hz hR hS hlv => by
  have hlt : i.toNatClampNeg < n := Nat.not_le.mp fun q => hin (Or.inr q)
  have k2 : W p l e R s m args below meth c H locs cs ss Q (F0 m (pc + 1) ls (va_rf (f i.toNatClampNeg) :: st)) := by
    rw [hb]; exact kk H locs ls hz hR hS hlv
  exact W.aald (v := va_rf (f i.toNatClampNeg)) (ty := .object "FormatFiles$Entries") hC.1 hC.2.1 (hR a _ hw).1 ((xT_at hC.2.2.2.2.2.1 (k := 4) rfl).1 n (fun j => va_rf (f j))) rfl (fun q => by cases q) (by show ¬ (i < 0 ∨ (arrV _ _ _).slots.size ≤ _); rw [arrV_size]; exact hin) (by show (arrV _ _ _).slots[_]? = _; rw [arrV_read _ _ hlt]) rfl rfl d k2
theorem xv_iast (hC : xC p s m args meth c cc nL own G A) {a n : Nat} {f : Nat → Int32} {i x : Int32} (d : decode cc pc = .ok (.iastore, 1)) (hw : w a = some (.inl (G.2 0, n, .inl f))) (hin : vp_in i n)
    (kk : xV p l e R s m args below meth c G A nL Q sz (xup w a (.inl (G.2 0, n, .inl (upd f i.toNatClampNeg x)))) cs ss (pc + 1) lv st) : xV p l e R s m args below meth c G A nL Q sz w cs ss pc lv (.int x :: .int i :: .ref a :: st) := fun H locs ls hz hR hS hlv => by
  refine W.iast hC.1 hC.2.1 (hR a _ hw).1 ((xT_at hC.2.2.2.2.2.1 (k := 0) rfl).1 n (fun j => .int (f j))) (fun q => by cases q) (by show ¬ (i < 0 ∨ (arrV _ _ _).slots.size ≤ _); rw [arrV_size]; exact hin) rfl rfl d fun H1 e z oq => ?_
  refine kk H1 _ ls (z.trans hz) (hR.set (hR a _ hw).2 ?_ oq) (hS.put z oq (hR a _ hw).2) hlv
  show H1[a]? = some (vp_cell _ _)
  rw [e, vp_cell_i, vp_cell_i, arrV_store]
  congr 2
  funext q
  by_cases hq : q = i.toNatClampNeg
  · subst hq
    simp [updV, upd]
  · simp [updV, upd, hq]
theorem xv_last (hC : xC p s m args meth c cc nL own G A) {a n : Nat} {f : Nat → Int64} {i : Int32} {x : Int64} (d : decode cc pc = .ok (.lastore, 1)) (hw : w a = some (.inl (G.2 1, n, .inr (.inl f)))) (hin : vp_in i n)
    (kk : xV p l e R s m args below meth c G A nL Q sz (xup w a (.inl (G.2 1, n, .inr (.inl (vp_updL f i.toNatClampNeg x))))) cs ss (pc + 1) lv st) : xV p l e R s m args below meth c G A nL Q sz w cs ss pc lv (.long x :: .int i :: .ref a :: st) := fun H locs ls hz hR hS hlv => by
  refine W.last hC.1 hC.2.1 (hR a _ hw).1 ((xT_at hC.2.2.2.2.2.1 (k := 1) rfl).1 n (fun j => .long (f j))) (fun q => by cases q) (by show ¬ (i < 0 ∨ (arrV _ _ _).slots.size ≤ _); rw [arrV_size]; exact hin) rfl rfl d fun H1 e z oq => ?_
  refine kk H1 _ ls (z.trans hz) (hR.set (hR a _ hw).2 ?_ oq) (hS.put z oq (hR a _ hw).2) hlv
  show H1[a]? = some (vp_cell _ _)
  rw [e, vp_cell_l, vp_cell_l, arrV_store]
  congr 2
  funext q
  by_cases hq : q = i.toNatClampNeg
  · subst hq
    simp [updV, vp_updL]
  · simp [updV, vp_updL, hq]
theorem xv_zast (hC : xC p s m args meth c cc nL own G A) {a n : Nat} {f : Nat → Int32} {i x : Int32} (d : decode cc pc = .ok (.bastore, 1)) (hw : w a = some (.inl (G.2 2, n, .inl f))) (hin : vp_in i n)
    (kk : xV p l e R s m args below meth c G A nL Q sz (xup w a (.inl (G.2 2, n, .inl (upd f i.toNatClampNeg (vp_nar .boolean x))))) cs ss (pc + 1) lv st) : xV p l e R s m args below meth c G A nL Q sz w cs ss pc lv (.int x :: .int i :: .ref a :: st) := fun H locs ls hz hR hS hlv => by
  refine W.zast hC.1 hC.2.1 (hR a _ hw).1 ((xT_at hC.2.2.2.2.2.1 (k := 2) rfl).1 n (fun j => .int (f j))) (fun q => by cases q) (by show ¬ (i < 0 ∨ (arrV _ _ _).slots.size ≤ _); rw [arrV_size]; exact hin) rfl rfl d fun H1 e z oq => ?_
  refine kk H1 _ ls (z.trans hz) (hR.set (hR a _ hw).2 ?_ oq) (hS.put z oq (hR a _ hw).2) hlv
  show H1[a]? = some (vp_cell _ _)
  rw [e, vp_cell_i, vp_cell_i, arrV_store]
  congr 2
  funext q
  by_cases hq : q = i.toNatClampNeg
  · subst hq
    simp [updV, upd, vp_nar]
    try rfl
  · simp [updV, upd, hq]
theorem xv_bast (hC : xC p s m args meth c cc nL own G A) {a n : Nat} {f : Nat → Int32} {i x : Int32} (d : decode cc pc = .ok (.bastore, 1)) (hw : w a = some (.inl (G.2 3, n, .inl f))) (hin : vp_in i n)
    (kk : xV p l e R s m args below meth c G A nL Q sz (xup w a (.inl (G.2 3, n, .inl (upd f i.toNatClampNeg (vp_nar .byte x))))) cs ss (pc + 1) lv st) : xV p l e R s m args below meth c G A nL Q sz w cs ss pc lv (.int x :: .int i :: .ref a :: st) := fun H locs ls hz hR hS hlv => by
  refine W.bast hC.1 hC.2.1 (hR a _ hw).1 ((xT_at hC.2.2.2.2.2.1 (k := 3) rfl).1 n (fun j => .int (f j))) (fun q => by cases q) (by show ¬ (i < 0 ∨ (arrV _ _ _).slots.size ≤ _); rw [arrV_size]; exact hin) rfl rfl d fun H1 e z oq => ?_
  refine kk H1 _ ls (z.trans hz) (hR.set (hR a _ hw).2 ?_ oq) (hS.put z oq (hR a _ hw).2) hlv
  show H1[a]? = some (vp_cell _ _)
  rw [e, vp_cell_i, vp_cell_i, arrV_store]
  congr 2
  funext q
  by_cases hq : q = i.toNatClampNeg
  · subst hq
    simp [updV, upd, vp_nar]
    try rfl
  · simp [updV, upd, hq]
theorem xv_aast (hC : xC p s m args meth c cc nL own G A) {a n v : Nat} {vs : List Value} {f : Nat → Option Nat} {i : Int32} (d : decode cc pc = .ok (.aastore, 1)) (hw : w a = some (.inl (G.2 4, n, .inr (.inr (.inr (.inr f)))))) (hv : w v = some (.inr (2, vs))) (hin : vp_in i n)
    (kk : xV p l e R s m args below meth c G A nL Q sz (xup w a (.inl (G.2 4, n, .inr (.inr (.inr (.inr (va_up f i.toNatClampNeg (some v)))))))) cs ss (pc + 1) lv st) : xV p l e R s m args below meth c G A nL Q sz w cs ss pc lv (.ref v :: .int i :: .ref a :: st) := fun H locs ls hz hR hS hlv => by
  have hlt : i.toNatClampNeg < n := Nat.not_le.mp fun q => hin (Or.inr q)
  have h0 : ¬ i < 0 := fun q => hin (Or.inl q)
  obtain ⟨⟨r', hr', cellV, g1, g2, g3, -⟩, -⟩ := hR v _ hv
  have hcls := (hC.2.2.2.2.2.1.1.1 2 _ (show vwCl[2]? = some (RX0, TX0, 3) from rfl)).2
  obtain ⟨kA, comp, k1, k2, k3, -⟩ := (xT_at hC.2.2.2.2.2.1 (k := 4) rfl).2
  have hcomp : comp = G.1.1 2 := Option.some.inj (k3.symm.trans hcls.1)
  subst hcomp
  obtain ⟨kC, hkC, -⟩ := hcls.2
  refine W.aast hC.1 hC.2.1 (hR a _ hw).1 (fun q h => by cases h) (fun h => by cases h) k1 k2 rfl hkC ⟨h0, by show _ < (arrV _ _ _).slots.size; rw [arrV_size]; exact hlt⟩ g1 (fun q h => by rw [g3] at h; cases h) (by rw [g2]; exact hkC) (by rw [g2]; exact va_assign hcls) rfl rfl d fun H1 e z oq => ?_
  refine kk H1 _ ls (z.trans hz) (hR.set (hR a _ hw).2 ?_ oq) (hS.put z oq (hR a _ hw).2) hlv
  show H1[a]? = some (vp_cell _ _)
  rw [e, vp_cell_q, vp_cell_q, arrV_store]
  congr 2
  funext q
  by_cases hq : q = i.toNatClampNeg
  · subst hq
    simp [updV, va_up, va_rf]
  · simp [updV, va_up, hq]
theorem xv_alen (hC : xC p s m args meth c cc nL own G A) {a n : Nat} {f : Nat → Int32} (d : decode cc pc = .ok (.arraylength, 1)) (hw : w a = some (.inl (G.2 0, n, .inl f)))
    (kk : xV p l e R s m args below meth c G A nL Q sz w cs ss (pc + 1) lv (.int (Int32.ofNat n) :: st)) : xV p l e R s m args below meth c G A nL Q sz w cs ss pc lv (.ref a :: st) := fun H locs ls hz hR hS hlv =>
  W.alen (n := Int32.ofNat n) hC.1 hC.2.1 (hR a _ hw).1 ((xT_at hC.2.2.2.2.2.1 (k := 0) rfl).1 n (fun j => .int (f j))) (by rw [vp_cell_i, arrV_size] <;> rfl) rfl rfl d (kk H locs ls hz hR hS hlv)
theorem xv_alenB (hC : xC p s m args meth c cc nL own G A) {a n : Nat} {f : Nat → Int32} (d : decode cc pc = .ok (.arraylength, 1)) (hw : w a = some (.inl (G.2 3, n, .inl f)))
    (kk : xV p l e R s m args below meth c G A nL Q sz w cs ss (pc + 1) lv (.int (nI n) :: st)) : xV p l e R s m args below meth c G A nL Q sz w cs ss pc lv (.ref a :: st) := fun H locs ls hz hR hS hlv =>
  W.alen (n := nI n) hC.1 hC.2.1 (hR a _ hw).1 ((xT_at hC.2.2.2.2.2.1 (k := 3) rfl).1 n (fun j => .int (f j))) (by rw [vp_cell_i, arrV_size] <;> rfl) rfl rfl d (kk H locs ls hz hR hS hlv)
/-! what is made: an object, an array of numbers, an array of references: at the heap's end -/
theorem xA (hC : xC p s m args meth c cc nL own G A) {H : Heap} {locs : List Loc} (hS : va_S A s.heap H locs) : A H.size := hC.2.2.2.2.2.2.2 _ hS.1
theorem xv_new (hC : xC p s m args meth c cc nL own G A) {C : String} {T : u_T} {N ci : Nat} {ty : Nat → FieldType} (hF : xF ci C T N ty) {index : Nat} (d : decode cc pc = .ok (.new index, 3)) (hcl : Cond.classLink own index C ∈ xW) (hins : Cond.instantiable C N ∈ xW) (hini : Cond.initialized C ∈ xW) {fs : List Value} (hfs : ∀ j, j < N → defaultValue (ty j) = vp_V fs j) (hc1 : cs + 1 ≤ R.cells) (hs1 : ss + N ≤ R.slots)
    (kk : xV p l e R s m args below meth c G A nL Q (sz + 1) (xup w sz (.inr (ci, fs))) (cs + 1) (ss + N) (pc + 3) lv (.ref sz :: st)) : xV p l e R s m args below meth c G A nL Q sz w cs ss pc lv st := by
  intro H locs ls hz hR hS hlv
  have hts := hC.2.2.2.2.1
  have hKn := hC.2.2.2.2.2.1.1.1 ci _ hF.1
  refine W.newcK hC.1 hC.2.1 hC.2.2.2.1 (hts _ hcl) (hts _ hins) (hts _ hini) rfl d hc1 hs1 hKn.2.1 hz fun H1 kC hkC e1 z1 o1 => ?_
  refine kk H1 locs ls z1 (hR.push hz.symm (by rw [← hz]; exact xA hC hS) ⟨_, hF.1, (u_born ty hts hF.2.1 hKn hkC e1 hF.2.2.1).to hfs⟩ (fun q hq => o1 q (by rw [← hz]; exact hq))) ⟨Nat.le_trans hS.1 (by omega), fun x h1 h2 => (o1 x (by rw [← hz]; exact Nat.lt_of_lt_of_le h1 hS.1)).trans (hS.2.1 x h1 h2), hS.2.2⟩ hlv
theorem xv_newa (hC : xC p s m args meth c cc nL own G A) {atype : ArrayType} (t : Nat) {ty : FieldType} (hty : newarray.typeOf atype = ty) (ht : (xT G)[t]? = some (G.2 t, ty)) (hnr : ∀ C, ty ≠ .object C) (d : decode cc pc = .ok (.newarray atype, 2)) (harr : Cond.arrayClass ty ∈ xW) {n : Int32} {N : Nat} {a0 : vp_A} (ha : ∀ cA : ClassId, vp_cell cA a0 = arrV cA N (fun _ => defaultValue ty)) (hn : ¬ n < 0) (hN : n.toNatClampNeg = N) (hb : N * componentBytes ty ≤ 536870912) (hc1 : cs + 1 ≤ R.cells) (hs1 : ss + N ≤ R.slots)
    (kk : xV p l e R s m args below meth c G A nL Q (sz + 1) (xup w sz (.inl (G.2 t, a0))) (cs + 1) (ss + N) (pc + 2) lv (.ref sz :: st)) : xV p l e R s m args below meth c G A nL Q sz w cs ss pc lv (.int n :: st) := by
  subst hty
  intro H locs ls hz hR hS hlv
  refine va_newaK hC.1 hC.2.1 (hC.2.2.2.2.1 _ harr) rfl d rfl hn hN hb hc1 hs1 hz fun H1 cA e1 z1 o1 hAr hNm => ?_
  have hcA : cA = G.2 t := by
    have h2 := (xT_at hC.2.2.2.2.2.1 ht).2
    have h3 : s.vm.findClass ("[" ++ (newarray.typeOf atype).toString) = some (G.2 t) := by
      revert h2
      cases atype <;> exact fun h => h
    exact Option.some.inj (hNm.symm.trans h3)
  subst hcA
  refine kk H1 locs ls z1 (hR.push hz.symm (by rw [← hz]; exact xA hC hS) (by show H1[sz]? = some (vp_cell _ _); rw [ha]; exact e1) (fun q hq => o1 q (by rw [← hz]; exact hq))) ⟨Nat.le_trans hS.1 (by omega), fun x h1 h2 => (o1 x (by rw [← hz]; exact Nat.lt_of_lt_of_le h1 hS.1)).trans (hS.2.1 x h1 h2), hS.2.2⟩ hlv
theorem xv_newq (hC : xC p s m args meth c cc nL own G A) {index : Nat} (d : decode cc pc = .ok (.anewarray index, 3)) (hcl : Cond.classLink own index "FormatFiles$Entries" ∈ xW) {n : Int32} {N : Nat} (hn : ¬ n < 0) (hN : n.toNatClampNeg = N) (hb : N * 4 ≤ 536870912) (hc1 : cs + 1 ≤ R.cells) (hs1 : ss + N ≤ R.slots)
    (kk : xV p l e R s m args below meth c G A nL Q (sz + 1) (xup w sz (.inl (G.2 4, N, .inr (.inr (.inr (.inr (fun _ => none))))))) (cs + 1) (ss + N) (pc + 3) lv (.ref sz :: st)) : xV p l e R s m args below meth c G A nL Q sz w cs ss pc lv (.int n :: st) := by
  subst hN
  intro H locs ls hz hR hS hlv
  subst hz
  refine W.anew hC.1 hC.2.1 hC.2.2.2.1 (hC.2.2.2.2.1 _ hcl) (va_AO.use hC.2.2.2.2.2.1.2.2) rfl d rfl hn hb hc1 hs1 fun cA kA comp f1 f2 f3 f4 => ?_
  obtain ⟨kA', comp', k1, k2, k3, k4⟩ := (xT_at hC.2.2.2.2.2.1 (k := 4) rfl).2
  have hcA : cA = G.2 4 := Option.some.inj (f1.symm.trans k4)
  subst hcA
  generalize hH1 : H.push ({ cls := G.2 4, slots := Array.replicate n.toNatClampNeg .null, vm := .none } : Cell) = H1
  have z1 : H1.size = H.size + 1 := by rw [← hH1, Array.size_push]
  have e1 : H1[H.size]? = some (arrV (G.2 4) n.toNatClampNeg (fun _ => .null)) := by rw [← hH1, Array.getElem?_push_size, ← arrV_new]
  have o1 : ∀ q : Nat, q < H.size → H1[q]? = H[q]? := fun q hq => by rw [← hH1, Array.getElem?_push, if_neg (Nat.ne_of_lt hq)]
  refine kk H1 locs ls z1 (hR.push rfl (xA hC hS) (by show H1[H.size]? = some (vp_cell _ _); rw [vp_cell_q]; exact e1) o1) ⟨Nat.le_trans hS.1 (by omega), fun x h1 h2 => (o1 x (Nat.lt_of_lt_of_le h1 hS.1)).trans (hS.2.1 x h1 h2), hS.2.2⟩ hlv
theorem xv_objInit (hC : xC p s m args meth c cc nL own G A) {index a : Nat} (d : decode cc pc = .ok (.invokespecial index, 3)) (hl : Cond.methodLink own index objectInit ∈ xW) (hi : Cond.instanceMethod objectInit ∈ xW) (hc : Cond.code objectInit ⟨#[0xb1]⟩ 1 none ∈ xW) (hf : 1 ≤ R.frames) (hlo : (st.map fun v => v.category).sum + 12 ≤ R.locals)
    (kk : xV p l e R s m args below meth c G A nL Q sz w cs ss (pc + 3) lv st) : xV p l e R s m args below meth c G A nL Q sz w cs ss pc lv (.ref a :: st) := fun H locs ls hz hR hS hlv => by
  have hts := hC.2.2.2.2.1
  refine W.objInit hC.1 hC.2.1 hC.2.2.2.1 (hts _ hl) (hts _ hi) (hts _ hc) rfl (by rw [hC.2.2.1]; exact hlv.1) rfl d hf (by show 2 * 0 + _ + _ ≤ _; omega) ?_
  exact kk H locs ls hz hR hS hlv
end XH
