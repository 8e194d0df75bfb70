/-! all sections, the two ways -/
def LIv (O : cO) (s : Nat) (T : cT) (U : cU) : Prop :=
  eqE T.1.1 U.1.1.1 ∧ U.1.1.2 = T.1.2 ∧ U.1.2 = T.2 ∧
  (∀ j q, j < s → T.1.2.1 j = some q → bt T.1.2.2.2.1 q = true) ∧
  (∀ p, p < 12 → bt T.1.2.2.2.1 p = true → bt T.2.2.2.2.1 p = false → kP O T.1.1 T.1.2.2.1 T.1.2.2.2.1 U.2.1 p) ∧
  T.2.2.2.2.2 ≤ s ∧ (T.2.2.2.2.2 = s → ∀ p, bt T.2.2.2.2.1 p = false)
theorem lsX_in {O : cO} {s : Nat} {E E' : cE} {Y : (Nat → Option Nat) × (Nat → Nat) × Int32 × cR} {Z : cS × (Nat → Int32) × (Nat → Int32) × Int32 × Nat} : (lsX O s ((E', Y), Z)).2 = (lsX O s ((E, Y), Z)).2 := by
  unfold lsX
  by_cases h : Y.2.2.2.2 = 0
  · rw [if_pos (show ((E', Y), Z).1.2.2.2.2.2 = 0 from h), if_pos (show ((E, Y), Z).1.2.2.2.2.2 = 0 from h)]
    exact rsX_in O s E E' _
  · rw [if_neg (show ¬ ((E', Y), Z).1.2.2.2.2.2 = 0 from h), if_neg (show ¬ ((E, Y), Z).1.2.2.2.2.2 = 0 from h)]
    rfl
theorem lsR_in {O : cO} {s : Nat} {E E' : cE} {Y : (Nat → Option Nat) × (Nat → Nat) × Int32 × cR} {Z : cS × (Nat → Int32) × (Nat → Int32) × Int32 × Nat} : lsR O s ((E', Y), Z) = lsR O s ((E, Y), Z) := by
  unfold lsR
  by_cases h : Y.2.2.2.2 = 0
  · rw [if_pos (show ((E', Y), Z).1.2.2.2.2.2 = 0 from h), if_pos (show ((E, Y), Z).1.2.2.2.2.2 = 0 from h)]
    exact rsV_in _ _ O s E E' _
  · rw [if_neg (show ¬ ((E', Y), Z).1.2.2.2.2.2 = 0 from h), if_neg (show ¬ ((E, Y), Z).1.2.2.2.2.2 = 0 from h)]
theorem lsP_in {O : cO} {s : Nat} {E E' : cE} {Y : (Nat → Option Nat) × (Nat → Nat) × Int32 × cR} {Z : cS × (Nat → Int32) × (Nat → Int32) × Int32 × Nat} : lsP O s ((E', Y), Z) = lsP O s ((E, Y), Z) := by
  unfold lsP
  rw [lsX_in (E := E) (E' := E')]
theorem lsRf_in {O : cO} {s : Nat} {E E' : cE} {Y : (Nat → Option Nat) × (Nat → Nat) × Int32 × cR} {Z : cS × (Nat → Int32) × (Nat → Int32) × Int32 × Nat} : lsRf O s ((E', Y), Z) = lsRf O s ((E, Y), Z) := by
  unfold lsRf
  rw [lsX_in (E := E) (E' := E')]
/-- before the loading of a section's rows -/
theorem sec_t {O : cO} {s : Nat} {T : cT} {E' : cE} {ra : Nat → Nat} (hc : cOK T.1) (h0 : eqE T.1.1 E') (hs : ∀ j q, j < s → T.1.2.1 j = some q → bt T.1.2.2.2.1 q = true) (hK : ∀ p, p < 12 → bt T.1.2.2.2.1 p = true → bt T.2.2.2.2.1 p = false → kP O T.1.1 T.1.2.2.1 T.1.2.2.2.1 ra p) :
    eqE (lsX O s T).1 (lnE O s ((E', T.1.2), T.2)) ∧ (∀ j q, j < s + 1 → (lsX O s T).2.1 j = some q → bt (lsX O s T).2.2.2.1 q = true) ∧
    (lsR O s T = 0 → ∀ p, (lsX O s T).2.1 s = some p → kP O (lsX O s T).1 (lsX O s T).2.2.1 (lsX O s T).2.2.2.1 (lnA O s ((E', T.1.2), T.2) ra) p) ∧
    (∀ p, p < 12 → bt (lsX O s T).2.2.2.1 p = true → bt T.2.2.2.2.1 p = false → ¬ (lsX O s T).2.1 s = some p → kP O (lsX O s T).1 (lsX O s T).2.2.1 (lsX O s T).2.2.2.1 (lnA O s ((E', T.1.2), T.2) ra) p) := by
  obtain ⟨⟨E, po, so, seen, Rd⟩, S, re, cf, rf, ld⟩ := T
  dsimp only at *
  have hs' : ∀ j q, j < s → va_up po s none j = some q → bt seen q = true := fun j q hj hjq => by
    rw [va_up_ne _ _ (show j ≠ s by omega)] at hjq
    exact hs j q hj hjq
  unfold lsX lnE lnA lsR
  by_cases h : Rd.2 = 0
  · have h1 : ((E, po, so, seen, Rd), S, re, cf, rf, ld).1.2.2.2.2.2 = 0 := h
    have h2 : ((E', po, so, seen, Rd), S, re, cf, rf, ld).1.2.2.2.2.2 = 0 := h
    rw [if_pos h1, if_pos h2, if_pos h1, if_pos h2]
    exact sec_s (po := va_up po s none) (up_no hc.2.2.1) h0 hs' (va_up_self _ _ _) hK
  · have h1 : ¬ ((E, po, so, seen, Rd), S, re, cf, rf, ld).1.2.2.2.2.2 = 0 := h
    have h2 : ¬ ((E', po, so, seen, Rd), S, re, cf, rf, ld).1.2.2.2.2.2 = 0 := h
    rw [if_neg h1, if_neg h2, if_neg h1, if_neg h2]
    refine ⟨h0, fun j q hj hjq => ?_, fun z => absurd z (by decide), fun p hp hse hrf _ => hK p hp hse hrf⟩
    have hjq : va_up po s none j = some q := hjq
    by_cases e : j = s
    · rw [e, va_up_self] at hjq; cases hjq
    · exact hs' j q (by omega) hjq
theorem lnU_ok {O : cO} {w : Bool} {T : cT} {ra : Nat → Nat} {Ra : cR} (hO : O.2.1 0 ≤ 8000) (h : cOK T.1) : ∀ n, cOK (lnL O w (T, ra, Ra) n).1.1
  | 0 => h
  | n + 1 => by
    have ih := lnU_ok (w := w) (ra := ra) (Ra := Ra) hO h n
    have h1 := lnX_ok (s := n) hO ih
    show cOK (lnS O w n (lnL O w (T, ra, Ra) n)).1.1
    unfold lnS
    split
    · rename_i h0
      have hp := (lsR_0 h0).2.2
      exact ⟨lsM_ok (lgE_ok h1.1) (by omega), h1.2⟩
    · exact h1
theorem LI_step {O : cO} {w : Bool} {s : Nat} {T : cT} {U : cU} (hc : cOK T.1) (hO : O.2.1 0 ≤ 8000) (h : LIv O s T U) : LIv O (s + 1) (lsS O w s T) (lnS O w s U) := by
  obtain ⟨h0, e1, e2, hs, hK, hl, hr⟩ := h
  obtain ⟨⟨⟨E', Y'⟩, Z'⟩, ra, Ra⟩ := U
  dsimp only at h0 e1 e2 hK
  subst e1 e2
  have hX := lsX_ok (s := s) hO hc
  obtain ⟨g0, g1, g2, g3⟩ := sec_t (O := O) (s := s) (ra := ra) hc h0 hs hK
  have iX : (lsX O s ((E', T.1.2), T.2)).2 = (lsX O s T).2 := lsX_in
  have iR : lsR O s ((E', T.1.2), T.2) = lsR O s T := lsR_in
  have iP : lsP O s ((E', T.1.2), T.2) = lsP O s T := lsP_in
  have iF : lsRf O s ((E', T.1.2), T.2) = lsRf O s T := lsRf_in
  by_cases hv : lsR O s T = 0
  · obtain ⟨-, q2, q3⟩ := lsR_0 hv
    have hkP := g2 hv _ q2
    have hal : alk (lsX O s T).1 (13 + (lsX O s T).2.2.1 (lsP O s T)) (lgE O (lnE O s ((E', T.1.2), T.2)) (lnA O s ((E', T.1.2), T.2) ra) (lsP O s T)) 25 := by
      unfold lgE
      exact hkP.2 _
    have hsE : eqE (lsX O s T).1 (lgE O (lnE O s ((E', T.1.2), T.2)) (lnA O s ((E', T.1.2), T.2) ra) (lsP O s T)) := fun q hq => by
      have o := lgE_ot (O := O) (E := lnE O s ((E', T.1.2), T.2)) (ra := lnA O s ((E', T.1.2), T.2) ra) (p := lsP O s T) (show ¬ q = 25 by omega)
      have hh := g0 q hq
      exact ⟨o.1.trans hh.1, o.2.1.trans hh.2.1, o.2.2.trans hh.2.2⟩
    have hM := lsM_s (S := T.2.1) (w := w) q3 (show ¬ 13 + (lsX O s T).2.2.1 (lsP O s T) = lsP O s T by omega) (show ¬ 25 = lsP O s T by omega) hsE hal
    have eMg : lnMg O w s ((E', T.1.2), T.2) ra = lsM (lgE O (lnE O s ((E', T.1.2), T.2)) (lnA O s ((E', T.1.2), T.2) ra) (lsP O s T)) T.2.1 w (lsP O s T) 25 := by
      unfold lnMg lnG
      rw [iP]
    have eS : lsS O w s T = (((lsMg O w s T).1, (lsX O s T).2), (lsMg O w s T).2.1, va_up T.2.2.1 s (lsR O s T), va_up (va_up T.2.2.2.1 s (nI 0)) s (nI (lsMg O w s T).2.2), T.2.2.2.2.1, T.2.2.2.2.2 + 1) := by
      unfold lsS
      rw [if_pos hv]
    have eN : lnS O w s (((E', T.1.2), T.2), ra, Ra) = ((((lnMg O w s ((E', T.1.2), T.2) ra).1, (lsX O s T).2), (lnMg O w s ((E', T.1.2), T.2) ra).2.1, va_up T.2.2.1 s (lsR O s T), va_up (va_up T.2.2.2.1 s (nI 0)) s (nI (lnMg O w s ((E', T.1.2), T.2) ra).2.2), T.2.2.2.2.1, T.2.2.2.2.2 + 1), lnA O s ((E', T.1.2), T.2) ra, lgR O (lnE O s ((E', T.1.2), T.2)) (lnA O s ((E', T.1.2), T.2) ra) (lsP O s T)) := by
      unfold lnS
      rw [if_pos (show lsR O s (((E', T.1.2), T.2), ra, Ra).1 = 0 from iR.trans hv)]
      dsimp only
      rw [iX, iR, iP]
    rw [eS, eN, eMg]
    unfold LIv
    dsimp only
    refine ⟨hM.1, rfl, ?_, g1, fun p hp hse hrf => ?_, by omega, fun z => hr (by omega)⟩
    · unfold lsMg
      rw [hM.2]
    · have hk2 : kP O (lsX O s T).1 (lsX O s T).2.2.1 (lsX O s T).2.2.2.1 (lnA O s ((E', T.1.2), T.2) ra) p := by
        by_cases e : p = lsP O s T
        · subst e; exact hkP
        · exact g3 p hp hse hrf (fun z => by rw [q2] at z; cases z; exact e rfl)
      exact kP_o hk2 rfl rfl id (lsM_ot (by omega))
  · have eS : lsS O w s T = (lsX O s T, T.2.1, va_up T.2.2.1 s (lsR O s T), va_up T.2.2.2.1 s (nI 0), lsRf O s T, T.2.2.2.2.2) := by
      unfold lsS
      rw [if_neg hv]
    have eN : lnS O w s (((E', T.1.2), T.2), ra, Ra) = (((lnE O s ((E', T.1.2), T.2), (lsX O s T).2), T.2.1, va_up T.2.2.1 s (lsR O s T), va_up T.2.2.2.1 s (nI 0), lsRf O s T, T.2.2.2.2.2), lnA O s ((E', T.1.2), T.2) ra, Ra) := by
      unfold lnS lnX
      rw [if_neg (show ¬ lsR O s (((E', T.1.2), T.2), ra, Ra).1 = 0 from fun z => hv (iR.symm.trans z))]
      dsimp only
      rw [iX, iR, iF]
    rw [eS, eN]
    unfold LIv
    dsimp only
    refine ⟨g0, rfl, rfl, g1, fun p hp hse hrf => ?_, by omega, fun z => absurd z (by omega)⟩
    unfold lsRf at hrf
    cases hq : (lsX O s T).2.1 s with
    | none =>
      rw [hq] at hrf
      exact g3 p hp hse hrf (fun z => by rw [hq] at z; cases z)
    | some p0 =>
      rw [hq] at hrf
      have hb := bt_or_f (hX.2.2.1 s p0 hq) hp hrf
      exact g3 p hp hse hb.1 (fun z => by rw [hq] at z; cases z; exact hb.2 rfl)
theorem LI_all {O : cO} {w : Bool} {T : cT} {U : cU} (hc : cOK T.1) (hO : O.2.1 0 ≤ 8000) (h : LIv O 0 T U) : ∀ n, LIv O n (lsL O w T n) (lnL O w U n)
  | 0 => h
  | n + 1 => LI_step (lsL_ok hO hc n) hO (LI_all hc hO h n)
/-- the base, the two ways -/
theorem bnE_ot {O : cO} {E : cE} {ra : Nat → Nat} {seen : Int32} {a : Nat} (ha : ¬ a = 25) : ∀ n, (bnE O E ra seen n).1 a = E.1 a ∧ (bnE O E ra seen n).2.1 a = E.2.1 a ∧ (bnE O E ra seen n).2.2 a = E.2.2 a
  | 0 => ⟨rfl, rfl, rfl⟩
  | n + 1 => by
    have ih := bnE_ot (O := O) (E := E) (ra := ra) (seen := seen) ha n
    unfold bnE
    split
    · have o := lgE_ot (O := O) (E := bnE O E ra seen n) (ra := ra) (p := n) ha
      exact ⟨o.1.trans ih.1, o.2.1.trans ih.2.1, o.2.2.trans ih.2.2⟩
    · have e1 : (eClr (bnE O E ra seen n) 25).1 a = (bnE O E ra seen n).1 a := va_up_ne _ _ ha
      have e3 : (eClr (bnE O E ra seen n) 25).2.2 a = (bnE O E ra seen n).2.2 a := va_up_ne _ _ ha
      exact ⟨e1.trans ih.1, ih.2.1, e3.trans ih.2.2⟩
theorem bn_s {O : cO} {E E' : cE} {ra so : Nat → Nat} {seen : Int32} (h0 : eqE E E') (hE : eOK E) (h12 : ∀ i, i < 100 → E.1 12 i = false) (hK : ∀ p, p < 12 → bt seen p = true → kP O E so seen ra p) : ∀ n, n ≤ 12 → bnM O E' ra seen n = bbM E so seen n
  | 0, _ => rfl
  | n + 1, hn => by
    have ih := bn_s (O := O) (ra := ra) (so := so) (seen := seen) h0 hE h12 hK n (by omega)
    have ot := bnE_ot (O := O) (E := E') (ra := ra) (seen := seen) (show ¬ n = 25 by omega) (n + 1)
    have hh := h0 n (by omega)
    have hL : eLike (bnE O E' ra seen (n + 1)) n 25 = eLike E n (if bt seen n = true then 13 + so n else 12) := by
      refine eLike_s ⟨ot.1.trans hh.1, ot.2.1.trans hh.2.1, ot.2.2.trans hh.2.2⟩ ?_
      unfold bnE
      by_cases hb : bt seen n = true
      · rw [if_pos hb, if_pos hb]
        unfold lgE
        exact (hK n (by omega) hb).2 _
      · rw [if_neg hb, if_neg hb]
        refine ⟨fun i hi => ?_, ?_⟩
        · rw [h12 i hi]
          refine ⟨?_, fun z => by cases z⟩
          show va_up (bnE O E' ra seen n).1 25 (fun j => if j < 100 then false else (bnE O E' ra seen n).1 25 j) 25 i = false
          rw [va_up_self, if_pos hi]
        · show va_up (bnE O E' ra seen n).2.2 25 0 25 = E.2.2 12
          rw [va_up_self, hE 12 (by omega), cnt_0 h12]
    unfold bnM bbM
    rw [hL, ih]
/-- loading, the two ways: what can be seen is the same -/
theorem ln_s {E : cE} {S : cS} {O : cO} {po : Nat → Option Nat} {re cf : Nat → Int32} {so ra : Nat → Nat} {Ra : cR} (hO : O.2.1 0 ≤ 8000) (hE : eOK E) (hso : ∀ j, so j < 12) (hpo : ∀ j q, po j = some q → q < 12) (h12 : ∀ i, i < 100 → (lsT E S O po re cf so).1.1.1 12 i = false) :
    (lnT E S O po re cf so ra Ra).1.1.2 = (lsT E S O po re cf so).1.2 ∧ (lnT E S O po re cf so ra Ra).1.2 = (lsT E S O po re cf so).2 ∧ eqE (lsT E S O po re cf so).1.1 (lnEE O (lnT E S O po re cf so ra Ra)) ∧ lnES O (lnT E S O po re cf so ra Ra) = lsEnd O (lsT E S O po re cf so) ∧ eOK (lnEE O (lnT E S O po re cf so ra Ra)) := by
  have h59 : hdL O ≤ 9 := by unfold hdL; split <;> omega
  have hc0 : cOK (lsT0 E S O po re cf so).1 := ⟨hE, hso, hpo, show hdL O ≤ 8000 by omega⟩
  have hI0 : LIv O 0 (lsT0 E S O po re cf so) (lnT0 E S O po re cf so ra Ra) := by
    refine ⟨fun q hq => ⟨rfl, rfl, rfl⟩, rfl, rfl, fun j q hj => absurd hj (Nat.not_lt_zero j), fun p hp hse => ?_, Nat.le_refl 0, fun _ p => b_0 p⟩
    exact absurd ((b_0 p).symm.trans hse) (by decide)
  have hI : LIv O (lsSec O) (lsT E S O po re cf so) (lnT E S O po re cf so ra Ra) := LI_all (w := isW O) hc0 hO hI0 (lsSec O)
  obtain ⟨i0, i1, i2, -, iK, -, iR⟩ := hI
  have hc : cOK (lsT E S O po re cf so).1 := lsL_ok hO hc0 (lsSec O)
  have hcE : eOK (lsT E S O po re cf so).1.1 := hc.1
  have hsec : lsB O (lnT E S O po re cf so ra Ra).1 = lsB O (lsT E S O po re cf so) := by
    unfold lsB
    rw [show (lnT E S O po re cf so ra Ra).1.2 = (lsT E S O po re cf so).2 from i2]
  have hj0 : eqE (lsT E S O po re cf so).1.1 (lnT E S O po re cf so ra Ra).1.1.1 := i0
  have hj1 : (lnT E S O po re cf so ra Ra).1.1.2 = (lsT E S O po re cf so).1.2 := i1
  have hj2 : (lnT E S O po re cf so ra Ra).1.2 = (lsT E S O po re cf so).2 := i2
  have hjE : eOK (lnT E S O po re cf so ra Ra).1.1.1 := by
    exact (lnU_ok hO hc0 (lsSec O)).1
  refine ⟨hj1, hj2, ?_, ?_, ?_⟩
  · unfold lnEE
    split
    · intro q hq
      have o := bnE_ot (O := O) (E := (lnT E S O po re cf so ra Ra).1.1.1) (ra := (lnT E S O po re cf so ra Ra).2.1) (seen := (lnT E S O po re cf so ra Ra).1.1.2.2.2.1) (show ¬ q = 25 by omega) 12
      have hh := hj0 q hq
      exact ⟨o.1.trans hh.1, o.2.1.trans hh.2.1, o.2.2.trans hh.2.2⟩
    · exact hj0
  · unfold lnES lsEnd
    rw [hsec]
    by_cases hb : lsB O (lsT E S O po re cf so) = true
    · rw [if_pos hb, if_pos hb]
      have hld : (lsT E S O po re cf so).2.2.2.2.2 = lsSec O := by
        unfold lsB at hb
        rw [Bool.and_eq_true, decide_eq_true_eq] at hb
        exact hb.2
      have hrf := iR hld
      unfold bnS bbS
      rw [hj1, hj2, bn_s (so := (lsT E S O po re cf so).1.2.2.1) hj0 hcE h12 (fun p hp hse => iK p hp hse (hrf p)) 12 (Nat.le_refl _)]
    · rw [if_neg hb, if_neg hb, hj2]
  · unfold lnEE
    split
    · exact bnE_ok hjE 12
    · exact hjE
