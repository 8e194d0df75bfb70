/-! the loader that reads rows again: E's place 25 is what it reads into; ra: where a part's rows begin; Ra: the second reader -/
theorem nrL_ot {O : cO} {q a : Nat} (ha : ¬ a = q) : ∀ (n : Nat) (E : cE) (Rd : cR) (least : Nat), (nrL O q n E Rd least).1.1 a = E.1 a ∧ (nrL O q n E Rd least).1.2.1 a = E.2.1 a ∧ (nrL O q n E Rd least).1.2.2 a = E.2.2 a
  | 0, _, _, _ => ⟨rfl, rfl, rfl⟩
  | n + 1, E, Rd, least => by
    unfold nrL
    split
    · have h := nrL_ot (O := O) ha n (nrE O q E Rd least) (nrR O Rd least) (nrP O Rd least + 1)
      have h2 : (nrE O q E Rd least).1 a = E.1 a ∧ (nrE O q E Rd least).2.1 a = E.2.1 a ∧ (nrE O q E Rd least).2.2 a = E.2.2 a := by
        unfold nrE
        split
        · unfold eSet
          exact ⟨va_up_ne _ _ ha, va_up_ne _ _ ha, va_up_ne _ _ ha⟩
        · exact ⟨rfl, rfl, rfl⟩
      exact ⟨h.1.trans h2.1, h.2.1.trans h2.2.1, h.2.2.trans h2.2.2⟩
    · exact ⟨rfl, rfl, rfl⟩
theorem nrF_ot {O : cO} {q a : Nat} (ha : ¬ a = q) (E : cE) (Rd : cR) : (nrF O q E Rd).1.1 a = E.1 a ∧ (nrF O q E Rd).1.2.1 a = E.2.1 a ∧ (nrF O q E Rd).1.2.2 a = E.2.2 a := by
  have h := nrL_ot (O := O) ha (nrN O Rd) (eClr E q) (wiR (ncR O Rd) (ncC O Rd) (nI 100)) 0
  have e1 : (eClr E q).1 a = E.1 a := va_up_ne _ _ ha
  have e2 : (eClr E q).2.1 a = E.2.1 a := rfl
  have e3 : (eClr E q).2.2 a = E.2.2 a := va_up_ne _ _ ha
  unfold nrF
  exact ⟨h.1.trans e1, h.2.1.trans e2, h.2.2.trans e3⟩
theorem nrL_rd {O : cO} {q q' : Nat} : ∀ (n : Nat) (E E' : cE) (Rd : cR) (least : Nat), (nrL O q n E Rd least).2 = (nrL O q' n E' Rd least).2
  | 0, _, _, _, _ => rfl
  | n + 1, E, E', Rd, least => by
    unfold nrL
    split
    · exact nrL_rd n _ _ _ _
    · rfl
theorem nrF_rd (O : cO) (q q' : Nat) (E E' : cE) (Rd : cR) : (nrF O q E Rd).2 = (nrF O q' E' Rd).2 := nrL_rd _ _ _ _ _
def rrE (O : cO) (E : cE) (Rd : cR) : cE := if nxV O Rd = 0 then (nrF O 25 E (nxR O Rd)).1 else E
def rrA (O : cO) (po : Nat → Option Nat) (s p : Nat) (so ra : Nat → Nat) (Rd : cR) : Nat → Nat :=
  if nxV O Rd = 0 then va_up ra p (nxR O Rd).1
  else if nxV O Rd = nI 1 then
    (if nxN O (nxR O Rd) < s ∧ hoB (va_up so p p) (po (nxN O (nxR O Rd))) = true then va_up (va_up ra p (nxR O Rd).1) p (va_up ra p (nxR O Rd).1 ((po (nxN O (nxR O Rd))).getD 0)) else va_up ra p (nxR O Rd).1)
  else va_up ra p (nxR O Rd).1
theorem rrE_ok {O : cO} {E : cE} {Rd : cR} (h : eOK E) : eOK (rrE O E Rd) := by
  unfold rrE
  split
  · exact nrF_ok (by omega) h
  · exact h
theorem up_le {f : Nat → Nat} {m k v : Nat} (h : ∀ j, f j ≤ m) (hv : v ≤ m) : ∀ j, va_up f k v j ≤ m := by
  intro j
  by_cases e : j = k
  · rw [e, va_up_self]; exact hv
  · rw [va_up_ne _ _ e]; exact h j
theorem rrA_le {O : cO} {po : Nat → Option Nat} {s p m : Nat} {so ra : Nat → Nat} {Rd : cR} (h : ∀ j, ra j ≤ m) (hR : Rd.1 ≤ m) (hO : O.2.1 0 ≤ m) : ∀ j, rrA O po s p so ra Rd j ≤ m := by
  have h1 := up_le (k := p) h (nxR_le hR hO)
  unfold rrA
  split
  · exact h1
  · split
    · split
      · exact up_le h1 (h1 _)
      · exact h1
    · exact h1
def rsE (O : cO) (s : Nat) (X : cX) : cE := if (rsR1 O X).2 = 0 then rrE O X.1 (rsR1 O X) else X.1
def rsA (O : cO) (s : Nat) (X : cX) (ra : Nat → Nat) : Nat → Nat := if (rsR1 O X).2 = 0 then rrA O (rsPo O s X) s (rsP O s X) X.2.2.1 ra (rsR1 O X) else ra
theorem rsE_ok {O : cO} {s : Nat} {X : cX} (h : eOK X.1) : eOK (rsE O s X) := by
  unfold rsE
  split
  · exact rrE_ok h
  · exact h
theorem rsA_le {O : cO} {s : Nat} {X : cX} {ra : Nat → Nat} (hO : O.2.1 0 ≤ 8000) (hX : X.2.2.2.2.1 ≤ 8000) (h : ∀ j, ra j ≤ 8000) : ∀ j, rsA O s X ra j ≤ 8000 := by
  unfold rsA
  split
  · exact rrA_le h (npR_le hX hO) hO
  · exact h
/-- a part's rows, read again -/
def lgE (O : cO) (E : cE) (ra : Nat → Nat) (p : Nat) : cE := (nrF O 25 E (ra p, nI 0)).1
def lgR (O : cO) (E : cE) (ra : Nat → Nat) (p : Nat) : cR := (nrF O 25 E (ra p, nI 0)).2
theorem lgE_ok {O : cO} {E : cE} {ra : Nat → Nat} {p : Nat} (h : eOK E) : eOK (lgE O E ra p) := nrF_ok (by omega) h
/-- the base: each part beside its rows, read again -/
def bnE (O : cO) (E : cE) (ra : Nat → Nat) (seen : Int32) : Nat → cE
  | 0 => E
  | n + 1 => if bt seen n = true then lgE O (bnE O E ra seen n) ra n else eClr (bnE O E ra seen n) 25
def bnR (O : cO) (E : cE) (ra : Nat → Nat) (seen : Int32) (Ra : cR) : Nat → cR
  | 0 => Ra
  | n + 1 => if bt seen n = true then lgR O (bnE O E ra seen n) ra n else bnR O E ra seen Ra n
def bnM (O : cO) (E : cE) (ra : Nat → Nat) (seen : Int32) : Nat → Int32
  | 0 => nI 0
  | n + 1 => if eLike (bnE O E ra seen (n + 1)) n 25 = true then bnM O E ra seen n else bnM O E ra seen n ||| bitI n
def bnS (O : cO) (E : cE) (S : cS) (ra : Nat → Nat) (seen : Int32) (Rd : cR) (n : Nat) : cS := (S.1, bnM O E ra seen n, S.2.2.1, S.2.2.2.1, S.2.2.2.2.1, true, smF (oAt O 0) 0 Rd.1)
theorem bnE_ok {O : cO} {E : cE} {ra : Nat → Nat} {seen : Int32} (h : eOK E) : ∀ n, eOK (bnE O E ra seen n)
  | 0 => h
  | n + 1 => by
    have := bnE_ok (O := O) (ra := ra) (seen := seen) h n
    unfold bnE
    split
    · exact lgE_ok this
    · exact this.clr
/-- sections, one after the other -/
abbrev cU : Type := cT × (Nat → Nat) × cR
def lnE (O : cO) (s : Nat) (T : cT) : cE := if T.1.2.2.2.2.2 = 0 then rsE O s (lsX0 s T.1) else T.1.1
def lnX (O : cO) (s : Nat) (T : cT) : cX := (lnE O s T, (lsX O s T).2)
def lnA (O : cO) (s : Nat) (T : cT) (ra : Nat → Nat) : Nat → Nat := if T.1.2.2.2.2.2 = 0 then rsA O s (lsX0 s T.1) ra else ra
def lnG (O : cO) (s : Nat) (T : cT) (ra : Nat → Nat) : cE := lgE O (lnE O s T) (lnA O s T ra) (lsP O s T)
def lnMg (O : cO) (w : Bool) (s : Nat) (T : cT) (ra : Nat → Nat) : cE × cS × Nat := lsM (lnG O s T ra) T.2.1 w (lsP O s T) 25
def lnS (O : cO) (w : Bool) (s : Nat) (U : cU) : cU :=
  if lsR O s U.1 = 0 then ((((lnMg O w s U.1 U.2.1).1, (lsX O s U.1).2), (lnMg O w s U.1 U.2.1).2.1, va_up U.1.2.2.1 s (lsR O s U.1), va_up (va_up U.1.2.2.2.1 s (nI 0)) s (nI (lnMg O w s U.1 U.2.1).2.2), U.1.2.2.2.2.1, U.1.2.2.2.2.2 + 1), lnA O s U.1 U.2.1, lgR O (lnE O s U.1) (lnA O s U.1 U.2.1) (lsP O s U.1))
  else ((lnX O s U.1, U.1.2.1, va_up U.1.2.2.1 s (lsR O s U.1), va_up U.1.2.2.2.1 s (nI 0), lsRf O s U.1, U.1.2.2.2.2.2), lnA O s U.1 U.2.1, U.2.2)
def lnL (O : cO) (w : Bool) (U : cU) : Nat → cU
  | 0 => U
  | s + 1 => lnS O w s (lnL O w U s)
def lnT0 (E : cE) (S : cS) (O : cO) (po : Nat → Option Nat) (re cf : Nat → Int32) (so ra : Nat → Nat) (Ra : cR) : cU := (lsT0 E S O po re cf so, ra, Ra)
def lnT (E : cE) (S : cS) (O : cO) (po : Nat → Option Nat) (re cf : Nat → Int32) (so ra : Nat → Nat) (Ra : cR) : cU := lnL O (isW O) (lnT0 E S O po re cf so ra Ra) (lsSec O)
/-- the end: the entries, the setter, the second reader -/
def lnEE (O : cO) (U : cU) : cE := if lsB O U.1 = true then bnE O U.1.1.1 U.2.1 U.1.1.2.2.2.1 12 else U.1.1.1
def lnES (O : cO) (U : cU) : cS := if lsB O U.1 = true then bnS O U.1.1.1 U.1.2.1 U.2.1 U.1.1.2.2.2.1 U.1.1.2.2.2.2 12 else U.1.2.1
def lnER (O : cO) (U : cU) : cR := if lsB O U.1 = true then bnR O U.1.1.1 U.2.1 U.1.1.2.2.2.1 U.2.2 12 else U.2.2
def uOK (U : cU) : Prop := cOK U.1.1 ∧ ∀ j, U.2.1 j ≤ 8000
theorem lnX_ok {O : cO} {s : Nat} {T : cT} (hO : O.2.1 0 ≤ 8000) (h : cOK T.1) : cOK (lnX O s T) := by
  refine ⟨?_, (lsX_ok (s := s) hO h).2⟩
  show eOK (lnE O s T)
  unfold lnE
  split
  · exact rsE_ok h.1
  · exact h.1
theorem lnA_le {O : cO} {s : Nat} {T : cT} {ra : Nat → Nat} (hO : O.2.1 0 ≤ 8000) (hX : cOK T.1) (h : ∀ j, ra j ≤ 8000) : ∀ j, lnA O s T ra j ≤ 8000 := by
  unfold lnA
  split
  · exact rsA_le hO hX.2.2.2 h
  · exact h
theorem lnS_ok {O : cO} {w : Bool} {s : Nat} {U : cU} (hO : O.2.1 0 ≤ 8000) (h : uOK U) : uOK (lnS O w s U) := by
  have h1 := lnX_ok (s := s) hO h.1
  have h2 := lnA_le (s := s) hO h.1 h.2
  unfold lnS
  split
  · rename_i h0
    have hp := (lsR_0 h0).2.2
    exact ⟨⟨lsM_ok (lgE_ok h1.1) (by omega), h1.2⟩, h2⟩
  · exact ⟨h1, h2⟩
theorem lnS_ld {O : cO} {w : Bool} {s : Nat} {U : cU} : (lnS O w s U).1.2.2.2.2.2 ≤ U.1.2.2.2.2.2 + 1 := by
  unfold lnS
  split
  · exact Nat.le_refl _
  · dsimp only; omega
theorem lnL_ok {O : cO} {w : Bool} {U : cU} (hO : O.2.1 0 ≤ 8000) (h : uOK U) : ∀ n, uOK (lnL O w U n)
  | 0 => h
  | n + 1 => lnS_ok hO (lnL_ok hO h n)
theorem lnEnd_no {O : cO} {U : cU} (h : isW O = false ∨ ¬ U.1.2.2.2.2.2 = lsSec O) : lnEE O U = U.1.1.1 ∧ lnES O U = U.1.2.1 ∧ lnER O U = U.2.2 := by
  have e : lsB O U.1 = false := by
    unfold lsB
    rcases h with h | h
    · rw [h]; rfl
    · rw [decide_eq_false h, Bool.and_false]
  unfold lnEE lnES lnER
  rw [e]
  exact ⟨rfl, rfl, rfl⟩
theorem lnEnd_yes {O : cO} {U : cU} (h1 : isW O = true) (h2 : U.1.2.2.2.2.2 = lsSec O) : lnEE O U = bnE O U.1.1.1 U.2.1 U.1.1.2.2.2.1 12 ∧ lnES O U = bnS O U.1.1.1 U.1.2.1 U.2.1 U.1.1.2.2.2.1 U.1.1.2.2.2.2 12 ∧ lnER O U = bnR O U.1.1.1 U.2.1 U.1.1.2.2.2.1 U.2.2 12 := by
  have e : lsB O U.1 = true := by
    unfold lsB
    rw [h1, decide_eq_true h2]
    rfl
  unfold lnEE lnES lnER
  rw [e]
  exact ⟨rfl, rfl, rfl⟩
theorem hoB_lt {so : Nat → Nat} {po : Nat → Option Nat} {k : Nat} (hpo : ∀ j q, po j = some q → q < 12) (h : hoB so (po k) = true) : (po k).getD 0 < 12 := by
  cases hq : po k with
  | none => rw [hq] at h; cases h
  | some q => exact hpo k q hq
