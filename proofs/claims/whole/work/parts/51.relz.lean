/-! saving and loading as this class does them keep the relation -/
theorem Rel_O {E : cE} {S : cS} {O O' : cO} {sec : Nat} {po : Nat → Option Nat} {re cf : Nat → Int32} {so : Nat → Nat} {M : mT} (h : Rel E S O sec po re cf so M) (h1 : O'.1 0 = O.1 0) (h2 : O'.2.1 0 = O.2.1 0) (hF : oFit O') (h3 : O'.2.1 1 ≤ 8000) : Rel E S O' sec po re cf so M :=
  ⟨⟨RB_O h.1.1 h1 h2, h.1.2⟩, h.2.1, h.2.2.1, ⟨hF, by rw [h2]; exact h.2.2.2.1.2.1, h3⟩, h.2.2.2.2⟩
theorem fsS2_c {S : cS} {O O' : cO} (h1 : O'.1 0 = O.1 0) (h2 : O'.2.1 0 = O.2.1 0) : fsS2 S O' = fsS2 S O := by
  have e : oAt O' 0 = oAt O 0 := by
    funext i
    unfold oAt
    rw [h1, h2]
  unfold fsS2
  rw [e, h2]
theorem rel_save_n {E : cE} {S : cS} {O : cO} {sec : Nat} {po : Nat → Option Nat} {re cf : Nat → Int32} {so : Nat → Nat} {M M' : mT} {on : Nat → Nat} {d : Bool} (h : Rel E S O sec po re cf so M) (hs : saveP M E S O (nsN1 E S O on d) d M') : Rel E (nsSf E S O on d) (nsOf E S O on d) sec po re cf so M' := by
  have hr := rel_save h hs
  obtain ⟨s1, s2⟩ := ns_s E S O on d
  have f0 := h.2.2.2.1.1
  have f1 : oFit (nsO1 E S O on d) := oFit_wfN f0
  have f2 : oFit (nsO2 E S O on d) := oFit_wfN f1
  have a1 := wfN_m E S O on 2 d (j := 1) (by decide)
  have a0 := wfN_m E S O on 2 d (j := 0) (by decide)
  have b1 := wfN_m E S (nsO1 E S O on d) (nsN1 E S O on d) 0 d (j := 1) (by decide)
  have l1 : (nsO1 E S O on d).2.1 1 ≤ 8000 := by
    show (wfN E S O on 2 d).1.2.1 1 ≤ 8000
    rw [a1.2]; exact h.2.2.2.1.2.2
  have l2 : (nsO2 E S O on d).2.1 1 ≤ 8000 := by
    show (wfN E S (nsO1 E S O on d) (nsN1 E S O on d) 0 d).1.2.1 1 ≤ 8000
    rw [b1.2]; exact l1
  cases hG : fsG S d with
  | false =>
    have n := ns_1 (E := E) (O := O) (on := on) hG
    have o := fs_1 (E := E) (O := O) (on := nsN1 E S O on d) hG
    rw [n.2.1, n.2.2.1]
    rw [o.2.1, o.2.2.1] at hr
    exact hr
  | true =>
    by_cases hc : nsL E S O on d ≤ 8000
    · have n := ns_3 hG hc
      have hv : fsOv E S O (nsN1 E S O on d) d = false := by rw [s1, decide_eq_false (by omega)]
      have o := fs_3 hG hv
      obtain ⟨z1, z2⟩ := s2 hc
      rw [n.2.1, n.2.2.1, fsS2_c (S := S) z1 z2]
      rw [o.2.1, o.2.2.1] at hr
      exact Rel_O hr z1 z2 f2 l2
    · have n := ns_2 hG hc
      have hv : fsOv E S O (nsN1 E S O on d) d = true := by rw [s1, decide_eq_true (by omega)]
      have o := fs_2 hG hv
      have z2 := wfF_o (E := E) (S := S) (O := O) (on := nsN1 E S O on d) (d := d)
      rw [n.2.1, n.2.2.1]
      rw [o.2.1, o.2.2.1] at hr
      refine Rel_O hr ?_ ?_ f1 l1
      · rw [ns_s0]; exact a0.1
      · exact a0.2.trans z2.symm
theorem ns_V (E : cE) (S : cS) (O : cO) (on : Nat → Nat) (d : Bool) : nsV E S O on d = fsV E S O (nsN1 E S O on d) d := by
  obtain ⟨s1, s2⟩ := ns_s E S O on d
  cases hG : fsG S d with
  | false => rw [(ns_1 (E := E) (O := O) (on := on) hG).1, (fs_1 (E := E) (O := O) (on := nsN1 E S O on d) hG).1]
  | true =>
    by_cases hc : nsL E S O on d ≤ 8000
    · have hv : fsOv E S O (nsN1 E S O on d) d = false := by rw [s1, decide_eq_false (by omega)]
      rw [(ns_3 hG hc).1, (fs_3 hG hv).1, (s2 hc).2]
    · have hv : fsOv E S O (nsN1 E S O on d) d = true := by rw [s1, decide_eq_true (by omega)]
      rw [(ns_2 hG hc).1, (fs_2 hG hv).1]
/-- the parts of the one, what was read into of the other -/
def mixE (E E' : cE) : cE := (fun q => if q = 25 then E'.1 25 else E.1 q, fun q => if q = 25 then E'.2.1 25 else E.2.1 q, fun q => if q = 25 then E'.2.2 25 else E.2.2 q)
theorem mixE_n (E E' : cE) {q : Nat} (h : ¬ q = 25) : (mixE E E').1 q = E.1 q ∧ (mixE E E').2.1 q = E.2.1 q ∧ (mixE E E').2.2 q = E.2.2 q := ⟨if_neg h, if_neg h, if_neg h⟩
theorem mixE_y (E E' : cE) : (mixE E E').1 25 = E'.1 25 ∧ (mixE E E').2.1 25 = E'.2.1 25 ∧ (mixE E E').2.2 25 = E'.2.2 25 := ⟨rfl, rfl, rfl⟩
theorem Rel_mix {E E' : cE} {S : cS} {O : cO} {sec : Nat} {po : Nat → Option Nat} {re cf : Nat → Int32} {so : Nat → Nat} {M : mT} (h : Rel E S O sec po re cf so M) (h' : eOK E') : Rel (mixE E E') S O sec po re cf so M := by
  obtain ⟨⟨⟨b1, b2, b3⟩, c1, c2⟩, d1, ⟨e1, e2, e3, e4⟩, f⟩ := h
  refine ⟨⟨⟨b1, fun p i hp hi => ?_, b3⟩, fun p i hp hi => ?_, c2⟩, d1, ⟨fun q hq => ?_, e2, e3, fun i hi => ?_⟩, f⟩
  · have m := mixE_n E E' (show ¬ p = 25 by omega)
    rw [m.1, m.2.1]; exact b2 p i hp hi
  · have m := mixE_n E E' (show ¬ 13 + p = 25 by omega)
    rw [m.2.1]; exact c1 p i hp hi
  · by_cases e : q = 25
    · subst e
      have m := mixE_y E E'
      rw [m.1, m.2.2]; exact h' 25 hq
    · have m := mixE_n E E' e
      rw [m.1, m.2.2]; exact e1 q hq
  · have m := mixE_n E E' (show ¬ 12 = 25 by omega)
    rw [m.1]; exact e4 i hi
theorem wC_mix (G : xD) (h : Nat) {E E' : cE} (hE : eqE E E') (S : cS) (O : cO) (od : Nat → Int32) (L : cL) (Rd : Nat × Int32) (w0 : xw) : wC G h E' S O od L Rd w0 = wC G h (mixE E E') S O od L Rd w0 := by
  funext a
  unfold wC
  cases hd : eDec h a with
  | none => rfl
  | some x =>
    obtain ⟨h1, -, -⟩ := eDec_of hd
    dsimp only
    have hm : E'.1 x.1 = (mixE E E').1 x.1 ∧ E'.2.1 x.1 = (mixE E E').2.1 x.1 ∧ E'.2.2 x.1 = (mixE E E').2.2 x.1 := by
      rcases h1 with h1 | h1
      · have m := mixE_n E E' (show ¬ x.1 = 25 by omega)
        have e := hE x.1 (by omega)
        exact ⟨e.1.trans m.1.symm, e.2.1.trans m.2.1.symm, e.2.2.trans m.2.2.symm⟩
      · rw [h1]
        have m := mixE_y E E'
        exact ⟨m.1.symm, m.2.1.symm, m.2.2.symm⟩
    unfold xE3
    rw [hm.1, hm.2.1, hm.2.2]
theorem rel_load_n {E : cE} {S : cS} {O : cO} {sec : Nat} {po : Nat → Option Nat} {re cf : Nat → Int32} {so ra : Nat → Nat} {Ra : cR} {M M' : mT} (h : Rel E S O sec po re cf so M) (hA : ∀ j, ra j ≤ 8000) (hb : S.2.2.2.2.1 = false) (h0 : ¬ O.2.1 0 = 0) (hr : raW S O = 0) (hl : loadP M E S O po re cf so M') :
    eqE (lsT E S O po re cf so).1.1 (lnEE O (lnT E S O po re cf so ra Ra)) ∧ Rel (mixE (lsT E S O po re cf so).1.1 (lnEE O (lnT E S O po re cf so ra Ra))) (lnES O (lnT E S O po re cf so ra Ra)) O (lsSec O) (lnT E S O po re cf so ra Ra).1.1.2.1 (lnT E S O po re cf so ra Ra).1.2.2.1 (lnT E S O po re cf so ra Ra).1.2.2.2.1 (lnT E S O po re cf so ra Ra).1.1.2.2.1 M' ∧ (∀ j, (lnT E S O po re cf so ra Ra).2.1 j ≤ 8000) := by
  have hg := rel_load_go h hb h0 hr hl
  obtain ⟨i1, i2, i3, i4, i5⟩ := ln_s (E := E) (S := S) (O := O) (po := po) (re := re) (cf := cf) (so := so) (ra := ra) (Ra := Ra) h.2.2.2.1.2.1 h.2.2.1.1 h.2.2.1.2.1 h.2.2.1.2.2.1 hg.2.2.1.2.2.2
  refine ⟨i3, ?_, ?_⟩
  · rw [i1, i2, i4]
    exact Rel_mix hg i5
  · have h59 : hdL O ≤ 9 := by unfold hdL; split <;> omega
    exact (lnL_ok (w := isW O) (U := lnT0 E S O po re cf so ra Ra) h.2.2.2.1.2.1 ⟨⟨h.2.2.1.1, h.2.2.1.2.1, h.2.2.1.2.2.1, show hdL O ≤ 8000 by omega⟩, hA⟩ (lsSec O)).2
theorem ln_V {E : cE} {S : cS} {O : cO} {sec : Nat} {po : Nat → Option Nat} {re cf : Nat → Int32} {so ra : Nat → Nat} {Ra : cR} {M M' : mT} (h : Rel E S O sec po re cf so M) (hb : S.2.2.2.2.1 = false) (h0 : ¬ O.2.1 0 = 0) (hr : raW S O = 0) (hl : loadP M E S O po re cf so M') : (lnT E S O po re cf so ra Ra).1.2.2.2.2.2 = (lsT E S O po re cf so).2.2.2.2.2 := by
  have hg := rel_load_go h hb h0 hr hl
  have i := ln_s (E := E) (S := S) (O := O) (po := po) (re := re) (cf := cf) (so := so) (ra := ra) (Ra := Ra) h.2.2.2.1.2.1 h.2.2.1.1 h.2.2.1.2.1 h.2.2.1.2.2.1 hg.2.2.1.2.2.2
  rw [i.2.1]
