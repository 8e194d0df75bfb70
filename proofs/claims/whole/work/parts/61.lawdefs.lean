/-! the law: its start, its rows, its world -/
theorem ar_int {s : State} {a : Array Value} (h : (Cond.arrayClass .int).before a s = true) : ∃ cA, ArrOfT s cA .int ∧ va_RA s cA .int := by
  obtain ⟨c, k, comp, h1, h2, h3⟩ := Cond.arrayClass_spec h
  exact ⟨c, fun n z => ⟨fun k h => (by cases h), k, h2, comp, h3⟩, h1⟩
theorem ar_long {s : State} {a : Array Value} (h : (Cond.arrayClass .long).before a s = true) : ∃ cA, ArrOfT s cA .long ∧ va_RA s cA .long := by
  obtain ⟨c, k, comp, h1, h2, h3⟩ := Cond.arrayClass_spec h
  exact ⟨c, fun n z => ⟨fun k h => (by cases h), k, h2, comp, h3⟩, h1⟩
theorem ar_boolean {s : State} {a : Array Value} (h : (Cond.arrayClass .boolean).before a s = true) : ∃ cA, ArrOfT s cA .boolean ∧ va_RA s cA .boolean := by
  obtain ⟨c, k, comp, h1, h2, h3⟩ := Cond.arrayClass_spec h
  exact ⟨c, fun n z => ⟨fun k h => (by cases h), k, h2, comp, h3⟩, h1⟩
theorem ar_byte {s : State} {a : Array Value} (h : (Cond.arrayClass .byte).before a s = true) : ∃ cA, ArrOfT s cA .byte ∧ va_RA s cA .byte := by
  obtain ⟨c, k, comp, h1, h2, h3⟩ := Cond.arrayClass_spec h
  exact ⟨c, fun n z => ⟨fun k h => (by cases h), k, h2, comp, h3⟩, h1⟩
theorem ar_ent {s : State} {a : Array Value} (h : (Cond.arrayOver (.object "FormatFiles$Entries")).before a s = true) : ∃ cA, ArrOfT s cA (.object "FormatFiles$Entries") ∧ va_RA s cA (.object "FormatFiles$Entries") := by
  obtain ⟨comp, c, k, h1, -, h2, h3, h4⟩ := Cond.arrayOver_spec h
  exact ⟨c, fun n z => ⟨fun k h => (by cases h), k, h2, comp, h3⟩, k, comp, h2, h3, h1, h4⟩
theorem lt_J0 : ∀ w ∈ u_ws RJ0 TJ0 2, w ∈ lw_tbl := by decide +kernel
theorem lt_Jx : ∀ w ∈ u_ws RJx00060 TJx00060 6, w ∈ lw_tbl := by decide +kernel
theorem lt_nest : ∀ t ∈ xNest, Cond.methodLinkNest t.1 t.2.1 t.2.2.1 t.2.2.2 ∈ lw_tbl := by decide +kernel
theorem lt_over : Cond.arrayOver (.object "FormatFiles$Entries") ∈ lw_tbl := List.mem_of_getElem? (i := 69) (by decide +kernel)
theorem xG_ex {s : State} {a : Array Value} (hts : ∀ w ∈ lw_tbl, w.before a s = true) : ∃ G : xD, xG G s := by
  have hx : ∀ w ∈ xW, w.before a s = true := fun w hw => hts w (xW_tbl hw)
  obtain ⟨c0, i0, k0⟩ := u_known (C := RJ0) (T := TJ0) (N := 2) hts lt_J0 (hx _ it_J0)
  obtain ⟨c1, i1, k1⟩ := u_known (C := RJx00060) (T := TJx00060) (N := 6) hts lt_Jx (hx _ it_Jx00060)
  obtain ⟨c2, i2, k2⟩ := u_known (C := RX0) (T := TX0) (N := 3) hx fX_X0.2.1 (hx _ it_X0)
  obtain ⟨c3, i3, k3⟩ := u_known (C := RX1) (T := TX1) (N := 13) hx fX_X1.2.1 (hx _ it_X1)
  obtain ⟨c4, i4, k4⟩ := u_known (C := RX2) (T := TX2) (N := 2) hx fX_X2.2.1 (hx _ it_X2)
  obtain ⟨c5, i5, k5⟩ := u_known (C := RX3) (T := TX3) (N := 3) hx fX_X3.2.1 (hx _ it_X3)
  obtain ⟨c6, i6, k6⟩ := u_known (C := RX4) (T := TX4) (N := 8) hx fX_X4.2.1 (hx _ it_X4)
  obtain ⟨c7, i7, k7⟩ := u_known (C := RX5) (T := TX5) (N := 3) hx fX_X5.2.1 (hx _ it_X5)
  obtain ⟨c8, i8, k8⟩ := u_known (C := RX6) (T := TX6) (N := 4) hx fX_X6.2.1 (hx _ it_X6)
  obtain ⟨c9, i9, k9⟩ := u_known (C := RX7) (T := TX7) (N := 28) hx fX_X7.2.1 (hx _ it_X7)
  obtain ⟨a0, r0⟩ := ar_int (hx _ ac_int)
  obtain ⟨a1, r1⟩ := ar_long (hx _ ac_long)
  obtain ⟨a2, r2⟩ := ar_boolean (hx _ ac_boolean)
  obtain ⟨a3, r3⟩ := ar_byte (hx _ ac_byte)
  obtain ⟨a4, r4⟩ := ar_ent (hts _ lt_over)
  refine ⟨((fun k => match k with | 0 => c0 | 1 => c1 | 2 => c2 | 3 => c3 | 4 => c4 | 5 => c5 | 6 => c6 | 7 => c7 | 8 => c8 | _ => c9, fun k => match k with | 0 => i0 | 1 => i1 | 2 => i2 | 3 => i3 | 4 => i4 | 5 => i5 | 6 => i6 | 7 => i7 | 8 => i8 | _ => i9), fun k => match k with | 0 => a0 | 1 => a1 | 2 => a2 | 3 => a3 | _ => a4), ⟨fun k q hq => ?_, fun k q hq => ?_⟩, fun t ht => va_Nw.of rfl (hts _ (lt_nest t ht)), va_AO.of (hts _ lt_over)⟩
  · match k, hq with
    | 0, hq => cases hq; exact k0
    | 1, hq => cases hq; exact k1
    | 2, hq => cases hq; exact k2
    | 3, hq => cases hq; exact k3
    | 4, hq => cases hq; exact k4
    | 5, hq => cases hq; exact k5
    | 6, hq => cases hq; exact k6
    | 7, hq => cases hq; exact k7
    | 8, hq => cases hq; exact k8
    | 9, hq => cases hq; exact k9
    | k + 10, hq => simp [vwCl] at hq
  · match k, hq with
    | 0, hq => cases hq; exact r0
    | 1, hq => cases hq; exact r1
    | 2, hq => cases hq; exact r2
    | 3, hq => cases hq; exact r3
    | 4, hq => cases hq; exact r4
    | k + 5, hq => simp [xT] at hq
theorem lt_D1 : Cond.declares (Bundle.initS "java/lang/RuntimeException") ∈ lw_tbl := List.mem_of_getElem? (i := 567) (by decide +kernel)
theorem lt_D2 : Cond.declares (Bundle.initS "java/lang/Exception") ∈ lw_tbl := List.mem_of_getElem? (i := 569) (by decide +kernel)
theorem lt_D3 : Cond.declares (Bundle.initS "java/lang/Throwable") ∈ lw_tbl := List.mem_of_getElem? (i := 571) (by decide +kernel)
theorem lt_D4 : Cond.declares (Bundle.initS "java/lang/IndexOutOfBoundsException") ∈ lw_tbl := List.mem_of_getElem? (i := 649) (by decide +kernel)
theorem lt_C1 : Cond.castable "java/util/NoSuchElementException" "java/util/NoSuchElementException" ∈ lw_tbl := List.mem_of_getElem? (i := 565) (by decide +kernel)
theorem lt_C2 : Cond.castable "java/lang/ArrayIndexOutOfBoundsException" "java/lang/ArrayIndexOutOfBoundsException" ∈ lw_tbl := List.mem_of_getElem? (i := 647) (by decide +kernel)
theorem lt_S1 : Cond.laysStatic Bundle.tN "UNASSIGNED_STACK" Bundle.steD ∈ lw_tbl := List.mem_of_getElem? (i := 590) (by decide +kernel)
theorem lt_S2 : Cond.laysStatic Bundle.tN "SUPPRESSED_SENTINEL" Bundle.listD ∈ lw_tbl := List.mem_of_getElem? (i := 592) (by decide +kernel)
theorem lt_I1 : Cond.initialized Bundle.tN ∈ lw_tbl := List.mem_of_getElem? (i := 46) (by decide +kernel)
theorem lt_T1 : Cond.stringRef RX6 78 "no such entry" ∈ lw_tbl := List.mem_of_getElem? (i := 603) (by decide +kernel)
theorem lt_T2 : Cond.stringRef RX6 129 "no such byte at hand" ∈ lw_tbl := List.mem_of_getElem? (i := 661) (by decide +kernel)
theorem xZ_ex {s : State} {b : Nat} (hts : ∀ w ∈ lw_tbl, w.before #[Value.ref b] s = true) (hgv : (Jvm.Cond.and given_1 narrow_1).before #[Value.ref b] s = true) : xZ (fun q : Nat => s.heap.size ≤ q) s s.heap := by
  have hf := flat_of_before _ hgv
  have g1 : (Cond.isRef (.static Bundle.tN "UNASSIGNED_STACK" Bundle.steD)).before #[Value.ref b] s = true := hf _ (by decide +kernel)
  have g2 : (Cond.isRef (.static Bundle.tN "SUPPRESSED_SENTINEL" Bundle.listD)).before #[Value.ref b] s = true := hf _ (by decide +kernel)
  have g3 : (Cond.exactly (.string RX6 78) "java/lang/String").before #[Value.ref b] s = true := hf _ (by decide +kernel)
  have g4 : (Cond.exactly (.string RX6 129) "java/lang/String").before #[Value.ref b] s = true := hf _ (by decide +kernel)
  obtain ⟨t1, _, _, _, e1, -⟩ := Cond.exactly_spec g3
  obtain ⟨t2, _, _, _, e2, -⟩ := Cond.exactly_spec g4
  exact ⟨vx_Zqof (hts _ lt_S1) (hts _ lt_I1) g1 (fun a h => Nat.not_le.mpr h), vx_Zqof (hts _ lt_S2) (hts _ lt_I1) g2 (fun a h => Nat.not_le.mpr h), ⟨t1, vk_R.of (hts _ lt_T1) e1⟩, ⟨t2, vk_R.of (hts _ lt_T2) e2⟩, va_Nw.of rfl (hts _ lt_D1), va_Nw.of rfl (hts _ lt_D2), va_Nw.of rfl (hts _ lt_D3), va_Nw.of rfl (hts _ lt_D4), va_Nw.of rfl (hts _ lt_C1), va_Nw.of rfl (hts _ lt_C2)⟩
/-! the world of the law -/
def wO (G : xD) (o : Nat) (f : Nat → Int64) : xw := xup (fun _ => none) o (.inl (G.2 1, 1, .inr (.inl f)))
theorem wO_up (G : xD) (o : Nat) (f g : Nat → Int64) : xup (wO G o f) o (.inl (G.2 1, 1, .inr (.inl g))) = wO G o g := xup_xup _ _ _ _
theorem wM_up (G : xD) (g o : Nat) (M : mT) (f f' : Nat → Int64) (ho : g + 17 ≤ o) : xup (wM G g M (wO G o f)) o (.inl (G.2 1, 1, .inr (.inl f'))) = wM G g M (wO G o f') := by
  have h := (wM_loc G g M).com (cLoc.one o (.inl (G.2 1, 1, .inr (.inl f')))) (by omega) (wO G o f)
  rw [wO_up] at h
  exact h.symm
theorem wCM (G : xD) (h : Nat) (E : cE) (S : cS) (O : cO) (od : Nat → Int32) (L : cL) (Rd : Nat × Int32) (ra : Nat → Int32) (Ra : Nat × Int32) (M : mT) (w : xw) : wC G h E S O od L Rd (wX G h ra Ra (wM G (h + 57) M w)) = wM G (h + 57) M (wC G h E S O od L Rd (wX G h ra Ra w)) := (wCX_loc G h E S O od L Rd ra Ra).com (wM_loc G (h + 57) M) (by omega) w
theorem wO_at (G : xD) (h : Nat) (E : cE) (S : cS) (O : cO) (od : Nat → Int32) (L : cL) (Rd : Nat × Int32) (ra : Nat → Int32) (Ra : Nat × Int32) (M : mT) (f : Nat → Int64) : wM G (h + 57) M (wC G h E S O od L Rd (wX G h ra Ra (wO G (h + 74) f))) (h + 74) = some (.inl (G.2 1, 1, .inr (.inl f))) := by
  rw [(wM_loc G (h + 57) M).1 _ _ (by omega)]
  exact ((wCX_loc G h E S O od L Rd ra Ra).1 _ _ (by omega)).trans (xup_self _ _ _)
theorem wO_at2 (G : xD) (h : Nat) (M : mT) (f : Nat → Int64) : wM G (h + 57) M (wO G (h + 74) f) (h + 74) = some (.inl (G.2 1, 1, .inr (.inl f))) := by
  rw [(wM_loc G (h + 57) M).1 _ _ (by omega)]
  exact xup_self _ _ _
section XLAW
variable {p : Program} {l : Launch} {e : Env} {R : Room} {s : State} {m : MethodId} {args : Array Value} {below : List Frame} {meth : Method} {c : Code}
variable {G : xD} {A : Nat → Prop} {nL : Nat} {Q : State → Prop} {cc : ByteArray} {own : String} {sz cs ss pc : Nat} {w : xw} {lv : List (Nat × Value)} {st : List Value}
theorem xv_sld (hC : xC p s m args meth c cc nL own G A) {b L : Nat} {xs : Nat → Int32} (hX : va_X b L xs s s.heap) (hbl : b < s.heap.size) (hbA : ¬ A b) {j : Nat} (hj : j < L) (hL : L < 2 ^ 31) (d : decode cc pc = .ok (.iaload, 1)) (kk : xV p l e R s m args below meth c G A nL Q sz w cs ss (pc + 1) lv (.int (xs j) :: st)) : xV p l e R s m args below meth c G A nL Q sz w cs ss pc lv (.int (nI j) :: .ref b :: st) := fun H locs ls hz hR hS hlv =>
  va_sld hC.1 hC.2.1 hX hbl hbA hS (vp_in_nI hj hL) d (by rw [nI_clamp (by omega)]; exact kk H locs ls hz hR hS hlv)
theorem xv_slen (hC : xC p s m args meth c cc nL own G A) {b L : Nat} {xs : Nat → Int32} (hX : va_X b L xs s s.heap) (hbl : b < s.heap.size) (hbA : ¬ A b) (d : decode cc pc = .ok (.arraylength, 1)) (kk : xV p l e R s m args below meth c G A nL Q sz w cs ss (pc + 1) lv (.int (nI L) :: st)) : xV p l e R s m args below meth c G A nL Q sz w cs ss pc lv (.ref b :: st) := fun H locs ls hz hR hS hlv =>
  va_slen hC.1 hC.2.1 hX hbl hbA hS d (kk H locs ls hz hR hS hlv)
/-- an int of the script: aload_0, iload 4, iconst j, iadd, iaload -/
theorem xv_arg (hC : xC p s m args meth c cc nL own G A) {b L : Nat} {xs : Nat → Int32} (hX : va_X b L xs s s.heap) (hbl : b < s.heap.size) (hbA : ¬ A b) (hL : L < 2 ^ 31) {i : Nat} (j : Nat) {n : Int} (hj : i + j < L) (d0 : decode cc pc = .ok (.aload_n 0, 1)) (d1 : decode cc (pc + 1) = .ok (.iload 4, 2)) (d2 : decode cc (pc + 3) = .ok (.iconst n, 1)) (hn : Int32.ofInt n = nI j) (d3 : decode cc (pc + 4) = .ok (.iadd, 1)) (d4 : decode cc (pc + 5) = .ok (.iaload, 1)) (h0 : xget lv 0 = some (.ref b)) (h4 : xget lv 4 = some (.int (nI i)))
    (kk : xV p l e R s m args below meth c G A nL Q sz w cs ss (pc + 6) lv (.int (xs (i + j)) :: st)) : xV p l e R s m args below meth c G A nL Q sz w cs ss pc lv st := by
  refine xv_aload_n hC d0 rfl h0 ?_
  refine xv_iload hC d1 h4 ?_
  refine xv_iconst (v := nI j) hC d2 hn ?_
  refine xv_iadd hC d3 ?_
  refine xv_cast (congrArg Value.int (nI_add i j)) ?_
  exact xv_sld hC hX hbl hbA hj hL d4 kk
end XLAW
/-- what the law knows throughout -/
def LawC (p : Program) (l : Launch) (s : State) (m : MethodId) (meth : Method) (c : Code) (G : xD) (b L : Nat) (xs : Nat → Int32) : Prop :=
  xC p s m #[Value.ref b] meth c cL_law 8 RL G (fun q : Nat => s.heap.size ≤ q) ∧ l.stackTraces = false ∧ xZ (fun q : Nat => s.heap.size ≤ q) s s.heap ∧ va_X b L xs s s.heap ∧ b < s.heap.size ∧ L ≤ 2560 ∧ meth.sig.returnType = ret
/-- the law ends with true -/
theorem xv_lawret {p : Program} {l : Launch} {e : Env} {s : State} {m : MethodId} {below : List Frame} {meth : Method} {c : Code} {G : xD} {b L : Nat} {xs : Nat → Int32} (hK : LawC p l s m meth c G b L xs) {sz cs ss : Nat} {w : xw} {lv : List (Nat × Value)} (h1 : cs ≤ 603072) (h2 : ss ≤ 7211114) : xV p l e room_1 s m #[Value.ref b] below meth c G (fun q : Nat => s.heap.size ≤ q) 8 (lw_Z below #[Value.ref b] s) sz w cs ss 762 lv [.int 1] := fun H locs ls hz hR hS hlv =>
  W.widen h1 h2 (va_forget (fun q hq => hS.2.2 q hq) (lw_ret hK.1.1 hK.1.2.1 hK.2.2.2.2.2.2 hK.1.2.2.2.2.2.2.1 dL_law_762))
theorem len5 {L i : Nat} (hL : L ≤ 2560) (hi : i ≤ 2565) : (nI L - nI 5 < nI i) ↔ L < i + 5 := by
  rw [Int32.lt_iff_toInt_lt, pk_sub_toInt (by omega) (by omega), nI_toInt (by omega)]
  omega
