/-! the loader -/
def lP (po : Nat → Option Nat) : Nat → Int32 := fun j => fwR (po j)
theorem lP_some (po : Nat → Option Nat) (k p : Nat) : va_up (lP po) k (nI p) = lP (va_up po k (some p)) := by
  funext j
  unfold lP
  by_cases h : j = k
  · rw [h, va_up_self, va_up_self]; rfl
  · rw [va_up_ne _ _ h, va_up_ne _ _ h]
theorem lP_none (po : Nat → Option Nat) (k : Nat) : va_up (lP po) k (-1) = lP (va_up po k none) := by
  funext j
  unfold lP
  by_cases h : j = k
  · rw [h, va_up_self, va_up_self]; rfl
  · rw [va_up_ne _ _ h, va_up_ne _ _ h]
theorem and255 (x : Int32) : x &&& nI 255 = nI (x.toBitVec.toNat % 256) := pk_and x 8 (by decide)
def nxN (O : cO) (Rd : cR) : Nat := (nxV O Rd).toNatClampNeg
theorem nxV_nI (O : cO) (Rd : cR) : nxV O Rd = nI (nxN O Rd) ∧ nxN O Rd < 256 := by
  have h : ∃ j, j < 256 ∧ nxV O Rd = nI j := by
    unfold nxV
    split
    · exact ⟨_, Nat.mod_lt _ (by omega), and255 _⟩
    · exact ⟨0, by omega, rfl⟩
  obtain ⟨j, h1, h2⟩ := h
  unfold nxN
  rw [h2, nI_clamp (by omega)]
  exact ⟨rfl, h1⟩
theorem nxR_mono (O : cO) (Rd : cR) : Rd.1 ≤ (nxR O Rd).1 := by
  unfold nxR
  split
  · split
    · dsimp only; omega
    · exact Nat.le_refl _
  · exact Nat.le_refl _
theorem ncS_mono (O : cO) (k : Nat) (Rd : cR) : Rd.1 ≤ (ncS O k Rd).1 := by
  unfold ncS
  split
  · rw [rfR_1]; exact nxR_mono O Rd
  · exact nxR_mono O Rd
theorem ncL_mono (O : cO) : ∀ (n k : Nat) (v : Int64) (Rd : cR), Rd.1 ≤ (ncL O n k v Rd).2.1
  | 0, _, _, _ => Nat.le_refl _
  | n + 1, k, v, Rd => by
    unfold ncL
    split
    · split
      · exact Nat.le_trans (ncS_mono O k Rd) (ncL_mono O n _ _ _)
      · exact ncS_mono O k Rd
    · exact Nat.le_refl _
theorem ncR_mono (O : cO) (Rd : cR) : Rd.1 ≤ (ncR O Rd).1 := ncL_mono O _ _ _ Rd
theorem nrR_mono (O : cO) (Rd : cR) (least : Nat) : Rd.1 ≤ (nrR O Rd least).1 := by
  refine Nat.le_trans (ncR_mono O Rd) ?_
  have h := ncR_mono O (nrR1 O Rd least)
  unfold nrR1 at h
  rw [wiR_1] at h
  exact h
theorem nrL_mono (O : cO) (q : Nat) : ∀ (n : Nat) (E : cE) (Rd : cR) (least : Nat), Rd.1 ≤ (nrL O q n E Rd least).2.1
  | 0, _, _, _ => Nat.le_refl _
  | n + 1, E, Rd, least => by
    unfold nrL
    split
    · exact Nat.le_trans (nrR_mono O Rd least) (nrL_mono O q n _ _ _)
    · exact Nat.le_refl _
theorem nrF_mono (O : cO) (q : Nat) (E : cE) (Rd : cR) : Rd.1 ≤ (nrF O q E Rd).2.1 := by
  refine Nat.le_trans (ncR_mono O Rd) ?_
  have h := nrL_mono O q (nrN O Rd) (eClr E q) (wiR (ncR O Rd) (ncC O Rd) (nI 100)) 0
  rw [wiR_1] at h
  exact h
theorem nrL_le {O : cO} {m : Nat} (hO : O.2.1 0 ≤ m) (q : Nat) : ∀ (n : Nat) (E : cE) (Rd : cR) (least : Nat), Rd.1 ≤ m → (nrL O q n E Rd least).2.1 ≤ m
  | 0, _, _, _, h => h
  | n + 1, E, Rd, least, h => by
    unfold nrL
    split
    · exact nrL_le hO q n _ _ _ (nrR_le h hO)
    · exact h
theorem nrF_le {O : cO} {m : Nat} (hO : O.2.1 0 ≤ m) (q : Nat) (E : cE) {Rd : cR} (h : Rd.1 ≤ m) : (nrF O q E Rd).2.1 ≤ m := nrL_le hO q _ _ _ _ (by rw [wiR_1]; exact ncR_le h hO)
theorem nrL_ok {O : cO} {q : Nat} (hq : q < 26) : ∀ (n : Nat) (E : cE) (Rd : cR) (least : Nat), eOK E → (Rd.2 = 0 → least ≤ 100) → eOK (nrL O q n E Rd least).1
  | 0, _, _, _, h, _ => h
  | n + 1, E, Rd, least, h, hl => by
    unfold nrL
    split
    · rename_i h0
      refine nrL_ok hq n _ _ _ ?_ (fun z => by have := (nrP_le (O := O) (Rd := Rd) (hl h0)).2 z; omega)
      unfold nrE
      split
      · rename_i h1
        exact h.set hq ((nrP_le (O := O) (Rd := Rd) (hl h0)).2 h1) _
      · exact h
    · exact h
theorem nrF_ok {O : cO} {q : Nat} (hq : q < 26) {E : cE} {Rd : cR} (h : eOK E) : eOK (nrF O q E Rd).1 := nrL_ok hq _ _ _ _ h.clr (fun _ => by omega)
def hoB (so : Nat → Nat) (o : Option Nat) : Bool := match o with
  | none => false
  | some p => decide (so p = p)
def npOk (O : cO) (Rd : cR) (seen : Int32) : Bool := xIn (nxV O Rd) 12 && !bt seen (nxN O Rd)
def npR (O : cO) (Rd : cR) (seen : Int32) : cR := if npOk O Rd seen = true then nxR O Rd else rfR (nxR O Rd) (nI 5)
theorem npR_0 {O : cO} {Rd : cR} {seen : Int32} (h : (npR O Rd seen).2 = 0) : nxN O Rd < 12 := by
  unfold npR at h
  by_cases hb : npOk O Rd seen = true
  · unfold npOk at hb
    rw [Bool.and_eq_true] at hb
    obtain ⟨j, h1, h2⟩ := xIn_of (by omega) hb.1
    unfold nxN
    rw [h2, nI_clamp (by omega)]
    exact h1
  · rw [if_neg hb] at h
    exact absurd h rfR_5
/-- a section's rows: the entries, the sources, the reader behind them -/
def rrF (O : cO) (po : Nat → Option Nat) (s p : Nat) (E : cE) (so : Nat → Nat) (Rd : cR) : cE × (Nat → Nat) × cR :=
  if nxV O Rd = 0 then ((nrF O (13 + p) E (nxR O Rd)).1, va_up so p p, (nrF O (13 + p) E (nxR O Rd)).2)
  else if nxV O Rd = nI 1 then
    (if nxN O (nxR O Rd) < s ∧ hoB (va_up so p p) (po (nxN O (nxR O Rd))) = true then (E, va_up (va_up so p p) p ((po (nxN O (nxR O Rd))).getD 0), nxR O (nxR O Rd)) else (E, va_up so p p, rfR (nxR O (nxR O Rd)) (nI 5)))
  else (E, va_up so p p, rfR (nxR O Rd) (nI 5))
theorem rrF_mono (O : cO) (po : Nat → Option Nat) (s p : Nat) (E : cE) (so : Nat → Nat) (Rd : cR) : Rd.1 ≤ (rrF O po s p E so Rd).2.2.1 := by
  have h1 := nxR_mono O Rd
  have h2 := nxR_mono O (nxR O Rd)
  unfold rrF
  split
  · have := nrF_mono O (13 + p) E (nxR O Rd)
    dsimp only
    omega
  · split
    · split
      · dsimp only; omega
      · dsimp only; rw [rfR_1]; omega
    · dsimp only; rw [rfR_1]; omega
theorem rrF_le {O : cO} {m : Nat} (hO : O.2.1 0 ≤ m) (po : Nat → Option Nat) (s p : Nat) (E : cE) (so : Nat → Nat) {Rd : cR} (h : Rd.1 ≤ m) : (rrF O po s p E so Rd).2.2.1 ≤ m := by
  have h1 := nxR_le h hO
  have h2 := nxR_le h1 hO
  unfold rrF
  split
  · dsimp only; exact nrF_le hO _ _ h1
  · split
    · split
      · exact h2
      · dsimp only; rw [rfR_1]; exact h2
    · dsimp only; rw [rfR_1]; exact h1
theorem rrF_ok {O : cO} {po : Nat → Option Nat} {s p : Nat} {E : cE} {so : Nat → Nat} {Rd : cR} (hp : p < 12) (h : eOK E) : eOK (rrF O po s p E so Rd).1 := by
  unfold rrF
  split
  · dsimp only; exact nrF_ok (by omega) h
  · split
    · split <;> exact h
    · exact h
theorem rrF_so {O : cO} {po : Nat → Option Nat} {s p : Nat} {E : cE} {so : Nat → Nat} {Rd : cR} (hp : p < 12) (h : ∀ j, so j < 12) (hpo : ∀ j q, po j = some q → q < 12) : ∀ j, (rrF O po s p E so Rd).2.1 j < 12 := by
  have h1 : ∀ j, va_up so p p j < 12 := fun j => by
    by_cases e : j = p
    · rw [e, va_up_self]; exact hp
    · rw [va_up_ne _ _ e]; exact h j
  intro j
  unfold rrF
  split
  · exact h1 j
  · split
    · split
      · dsimp only
        by_cases e : j = p
        · rw [e, va_up_self]
          cases hq : po (nxN O (nxR O Rd)) with
          | none => exact (by decide : 0 < 12)
          | some q => exact hpo _ q hq
        · rw [va_up_ne _ _ e]; exact h1 j
      · exact h1 j
    · exact h1 j
/-- a section: why it is refused; the entries, parts, sources, seen, the reader -/
abbrev cX : Type := cE × (Nat → Option Nat) × (Nat → Nat) × Int32 × cR
def rsP (O : cO) (s : Nat) (X : cX) : Nat := nxN O X.2.2.2.2
def rsR1 (O : cO) (X : cX) : cR := npR O X.2.2.2.2 X.2.2.2.1
def rsPo (O : cO) (s : Nat) (X : cX) : Nat → Option Nat := va_up X.2.1 s (some (rsP O s X))
def rsT (O : cO) (s : Nat) (X : cX) : cE × (Nat → Nat) × cR := rrF O (rsPo O s X) s (rsP O s X) X.1 X.2.2.1 (rsR1 O X)
def rsSum (O : cO) (s : Nat) (X : cX) : Int32 := smF (oAt O 0) X.2.2.2.2.1 ((rsT O s X).2.2.1 - X.2.2.2.2.1)
def rsR3 (O : cO) (s : Nat) (X : cX) : cR := n4R O (rsT O s X).2.2 4
def rsX (O : cO) (s : Nat) (X : cX) : cX := if (rsR1 O X).2 = 0 then ((rsT O s X).1, rsPo O s X, (rsT O s X).2.1, X.2.2.2.1 ||| bitI (rsP O s X), rsR3 O s X) else (X.1, X.2.1, X.2.2.1, X.2.2.2.1, rsR1 O X)
def rsV (nd : Nat → Int32) (refused : Int32) (O : cO) (s : Nat) (X : cX) : Int32 :=
  if (rsR1 O X).2 = 0 then
    (if (rsR3 O s X).2 = 0 then
      (if rsSum O s X = n4V O (rsT O s X).2.2 then
        (if bt refused ((rsT O s X).2.1 (rsP O s X)) = true then nI 7 else if refused &&& nd (rsP O s X) = 0 then nI 0 else nI 8)
      else nI 6)
    else (rsR3 O s X).2)
  else (rsR1 O X).2
/-- a section that is loaded -/
def lsM (E : cE) (S : cS) (whole : Bool) (p q : Nat) : cE × cS × Nat := if whole = true then mgE E S p q 100 else ((rpE E S p q 100).1, (rpE E S p q 100).2, 0)
theorem lsM_ok {E : cE} {S : cS} {whole : Bool} {p q : Nat} (h : eOK E) (hp : p < 26) : eOK (lsM E S whole p q).1 := by
  unfold lsM
  split
  · exact mgE_ok h hp 100 (by omega)
  · dsimp only; exact rpE_ok h hp 100 (by omega)
def isW (O : cO) : Bool := decide (oAt O 0 2 = 0)
def hdL (O : cO) : Nat := if isW O = true then 5 else 9
def raW (S : cS) (O : cO) : Int32 :=
  if oAt O 0 0 = nI 70 ∧ oAt O 0 1 = nI 77 ∧ ¬ nI 1 < oAt O 0 2 ∧ hdL O ≤ O.2.1 0 then
    (if oAt O 0 3 ≤ S.2.2.1 then
      (if isW O = false ∧ (S.2.2.2.2.2.1 = false ∨ ¬ S.2.2.2.2.2.2 = four (oAt O 0) 4) then nI 3 else nI 0)
    else nI 2)
  else nI 1
def acI (cf : Nat → Int32) : Nat → Int32
  | 0 => nI 0
  | n + 1 => acI cf n + cf n
def bbM (E : cE) (so : Nat → Nat) (seen : Int32) : Nat → Int32
  | 0 => nI 0
  | p + 1 => if eLike E p (if bt seen p = true then 13 + so p else 12) = true then bbM E so seen p else bbM E so seen p ||| bitI p
def bbS (E : cE) (S : cS) (O : cO) (so : Nat → Nat) (seen : Int32) (Rd : cR) (n : Nat) : cS := (S.1, bbM E so seen n, S.2.2.1, S.2.2.2.1, S.2.2.2.2.1, true, smF (oAt O 0) 0 Rd.1)
theorem hoB_some {so : Nat → Nat} {o : Option Nat} (h : hoB so o = true) : fwR o = nI (o.getD 0) := by
  cases o with
  | none => cases h
  | some p => rfl
def cOK (X : cX) : Prop := eOK X.1 ∧ (∀ j, X.2.2.1 j < 12) ∧ (∀ j q, X.2.1 j = some q → q < 12) ∧ X.2.2.2.2.1 ≤ 8000
theorem up_po {po : Nat → Option Nat} (h : ∀ j q, po j = some q → q < 12) {s p : Nat} (hp : p < 12) : ∀ j q, va_up po s (some p) j = some q → q < 12 := by
  intro j q hj
  by_cases e : j = s
  · rw [e, va_up_self] at hj; cases hj; exact hp
  · rw [va_up_ne _ _ e] at hj; exact h j q hj
theorem up_no {po : Nat → Option Nat} (h : ∀ j q, po j = some q → q < 12) {s : Nat} : ∀ j q, va_up po s none j = some q → q < 12 := by
  intro j q hj
  by_cases e : j = s
  · rw [e, va_up_self] at hj; cases hj
  · rw [va_up_ne _ _ e] at hj; exact h j q hj
theorem npR_le {O : cO} {Rd : cR} {seen : Int32} {m : Nat} (h : Rd.1 ≤ m) (hO : O.2.1 0 ≤ m) : (npR O Rd seen).1 ≤ m := by
  unfold npR
  split
  · exact nxR_le h hO
  · rw [rfR_1]; exact nxR_le h hO
theorem npR_mono (O : cO) (Rd : cR) (seen : Int32) : Rd.1 ≤ (npR O Rd seen).1 := by
  unfold npR
  split
  · exact nxR_mono O Rd
  · rw [rfR_1]; exact nxR_mono O Rd
theorem rsX_ok {O : cO} {s : Nat} {X : cX} (hO : O.2.1 0 ≤ 8000) (h : cOK X) : cOK (rsX O s X) := by
  obtain ⟨h1, h2, h3, h4⟩ := h
  unfold rsX
  split
  · rename_i h0
    have hp : rsP O s X < 12 := npR_0 h0
    have hpo := up_po h3 (s := s) hp
    have a1 : eOK (rsT O s X).1 := by unfold rsT; exact rrF_ok hp h1
    have a2 : ∀ j, (rsT O s X).2.1 j < 12 := by unfold rsT; exact rrF_so hp h2 hpo
    have a3 : (rsT O s X).2.2.1 ≤ 8000 := by unfold rsT; exact rrF_le hO _ _ _ _ _ (npR_le h4 hO)
    have a4 : (rsR3 O s X).1 ≤ 8000 := by unfold rsR3; exact n4R_le a3 hO 4
    exact ⟨a1, a2, hpo, a4⟩
  · exact ⟨h1, h2, h3, npR_le h4 hO⟩
abbrev cT : Type := cX × cS × (Nat → Int32) × (Nat → Int32) × Int32 × Nat
def lsX0 (s : Nat) (X : cX) : cX := (X.1, va_up X.2.1 s none, X.2.2)
def lsR (O : cO) (s : Nat) (T : cT) : Int32 := if T.1.2.2.2.2.2 = 0 then rsV T.2.1.1 T.2.2.2.2.1 O s (lsX0 s T.1) else nI 4
def lsX (O : cO) (s : Nat) (T : cT) : cX := if T.1.2.2.2.2.2 = 0 then rsX O s (lsX0 s T.1) else lsX0 s T.1
def lsP (O : cO) (s : Nat) (T : cT) : Nat := ((lsX O s T).2.1 s).getD 0
def lsMg (O : cO) (w : Bool) (s : Nat) (T : cT) : cE × cS × Nat := lsM (lsX O s T).1 T.2.1 w (lsP O s T) (13 + (lsX O s T).2.2.1 (lsP O s T))
def lsRf (O : cO) (s : Nat) (T : cT) : Int32 := match (lsX O s T).2.1 s with
  | some p => T.2.2.2.2.1 ||| bitI p
  | none => T.2.2.2.2.1
def lsS (O : cO) (w : Bool) (s : Nat) (T : cT) : cT :=
  if lsR O s T = 0 then (((lsMg O w s T).1, (lsX O s T).2), (lsMg O w s T).2.1, va_up T.2.2.1 s (lsR O s T), va_up (va_up T.2.2.2.1 s (nI 0)) s (nI (lsMg O w s T).2.2), T.2.2.2.2.1, T.2.2.2.2.2 + 1)
  else (lsX O s T, T.2.1, va_up T.2.2.1 s (lsR O s T), va_up T.2.2.2.1 s (nI 0), lsRf O s T, T.2.2.2.2.2)
def lsL (O : cO) (w : Bool) (T : cT) : Nat → cT
  | 0 => T
  | s + 1 => lsS O w s (lsL O w T s)
theorem rsV_0 {nd : Nat → Int32} {rf : Int32} {O : cO} {s : Nat} {X : cX} (h : rsV nd rf O s X = 0) : (rsR1 O X).2 = 0 := by
  unfold rsV at h
  by_cases h0 : (rsR1 O X).2 = 0
  · exact h0
  · rw [if_neg h0] at h; exact absurd h h0
theorem lsR_0 {O : cO} {s : Nat} {T : cT} (h : lsR O s T = 0) : T.1.2.2.2.2.2 = 0 ∧ (lsX O s T).2.1 s = some (lsP O s T) ∧ lsP O s T < 12 := by
  unfold lsR at h
  by_cases h0 : T.1.2.2.2.2.2 = 0
  · rw [if_pos h0] at h
    have h1 := rsV_0 h
    have h2 : (lsX O s T).2.1 s = some (rsP O s (lsX0 s T.1)) := by
      unfold lsX
      rw [if_pos h0]
      unfold rsX
      rw [if_pos h1]
      exact va_up_self _ _ _
    refine ⟨h0, ?_, ?_⟩
    · unfold lsP
      rw [h2]
      rfl
    · unfold lsP
      rw [h2]
      exact npR_0 h1
  · rw [if_neg h0] at h
    exact absurd h (by decide)
theorem lsX0_ok {s : Nat} {X : cX} (h : cOK X) : cOK (lsX0 s X) := ⟨h.1, h.2.1, up_no h.2.2.1, h.2.2.2⟩
theorem lsX_ok {O : cO} {s : Nat} {T : cT} (hO : O.2.1 0 ≤ 8000) (h : cOK T.1) : cOK (lsX O s T) := by
  unfold lsX
  split
  · exact rsX_ok hO (lsX0_ok h)
  · exact lsX0_ok h
theorem lsS_ok {O : cO} {w : Bool} {s : Nat} {T : cT} (hO : O.2.1 0 ≤ 8000) (h : cOK T.1) : cOK (lsS O w s T).1 := by
  have h1 := lsX_ok (s := s) hO h
  unfold lsS
  split
  · rename_i h0
    have := (lsR_0 h0).2.2
    exact ⟨lsM_ok h1.1 (by omega), h1.2⟩
  · exact h1
theorem lsL_ok {O : cO} {w : Bool} {T : cT} (hO : O.2.1 0 ≤ 8000) (h : cOK T.1) : ∀ n, cOK (lsL O w T n).1
  | 0 => h
  | n + 1 => lsS_ok hO (lsL_ok hO h n)
theorem lsL_ld {O : cO} {w : Bool} {T : cT} : ∀ n, (lsL O w T n).2.2.2.2.2 ≤ T.2.2.2.2.2 + n
  | 0 => Nat.le_refl _
  | n + 1 => by
    have := lsL_ld (O := O) (w := w) (T := T) n
    show (lsS O w n (lsL O w T n)).2.2.2.2.2 ≤ _
    unfold lsS
    split
    · dsimp only; omega
    · dsimp only; omega
def lsSec (O : cO) : Nat := (oAt O 0 (hdL O - 1)).toNatClampNeg
theorem oAt_nI (O : cO) (b i : Nat) : oAt O b i = nI (oAt O b i).toNatClampNeg ∧ (oAt O b i).toNatClampNeg < 256 := by
  have h : ∃ j, j < 256 ∧ oAt O b i = nI j := by
    unfold oAt
    split
    · exact ⟨_, Nat.mod_lt _ (by omega), and255 _⟩
    · exact ⟨0, by omega, rfl⟩
  obtain ⟨j, h1, h2⟩ := h
  rw [h2, nI_clamp (by omega)]
  exact ⟨rfl, h1⟩
/-- the loading begins -/
def lsT0 (E : cE) (S : cS) (O : cO) (po : Nat → Option Nat) (re cf : Nat → Int32) (so : Nat → Nat) : cT := ((E, po, so, nI 0, (hdL O, nI 0)), S, re, cf, nI 0, 0)
def lsT (E : cE) (S : cS) (O : cO) (po : Nat → Option Nat) (re cf : Nat → Int32) (so : Nat → Nat) : cT := lsL O (isW O) (lsT0 E S O po re cf so) (lsSec O)
def lsB (O : cO) (T : cT) : Bool := isW O && decide (T.2.2.2.2.2 = lsSec O)
def lsEnd (O : cO) (T : cT) : cS := if lsB O T = true then bbS T.1.1 T.2.1 O T.1.2.2.1 T.1.2.2.2.1 T.1.2.2.2.2 12 else T.2.1
theorem raW_ok {S : cS} {O : cO} (h10 : oAt O 0 0 = nI 70) (h23 : oAt O 0 1 = nI 77) (h35 : ¬ nI 1 < oAt O 0 2) (h49 : hdL O ≤ O.2.1 0) (h69 : oAt O 0 3 ≤ S.2.2.1) (h : isW O = true ∨ (S.2.2.2.2.2.1 = true ∧ S.2.2.2.2.2.2 = four (oAt O 0) 4)) : raW S O = nI 0 := by
  unfold raW
  rw [if_pos ⟨h10, h23, h35, h49⟩, if_pos h69, if_neg]
  intro z
  rcases h with h | h
  · rw [h] at z; exact absurd z.1 (by decide)
  · rcases z.2 with z2 | z2
    · rw [h.1] at z2; cases z2
    · exact z2 h.2
theorem raW_3 {S : cS} {O : cO} (h10 : oAt O 0 0 = nI 70) (h23 : oAt O 0 1 = nI 77) (h35 : ¬ nI 1 < oAt O 0 2) (h49 : hdL O ≤ O.2.1 0) (h69 : oAt O 0 3 ≤ S.2.2.1) (h78 : isW O = false) (h : S.2.2.2.2.2.1 = false ∨ ¬ S.2.2.2.2.2.2 = four (oAt O 0) 4) : raW S O = nI 3 := by
  unfold raW
  rw [if_pos ⟨h10, h23, h35, h49⟩, if_pos h69, if_pos ⟨h78, h⟩]
theorem raW_2 {S : cS} {O : cO} (h10 : oAt O 0 0 = nI 70) (h23 : oAt O 0 1 = nI 77) (h35 : ¬ nI 1 < oAt O 0 2) (h49 : hdL O ≤ O.2.1 0) (h69 : ¬ oAt O 0 3 ≤ S.2.2.1) : raW S O = nI 2 := by
  unfold raW
  rw [if_pos ⟨h10, h23, h35, h49⟩, if_neg h69]
theorem raW_1 {S : cS} {O : cO} (h : ¬ (oAt O 0 0 = nI 70 ∧ oAt O 0 1 = nI 77 ∧ ¬ nI 1 < oAt O 0 2 ∧ hdL O ≤ O.2.1 0)) : raW S O = nI 1 := by
  unfold raW
  rw [if_neg h]
theorem rI {a b : Int32} (h : a = b) : some (Value.int a) = some (Value.int b) := by rw [h]
theorem nI1_ne : ¬ nI 1 = 0 := by decide
theorem lsEnd_no {O : cO} {T : cT} (h : isW O = false ∨ ¬ T.2.2.2.2.2 = lsSec O) : lsEnd O T = T.2.1 := by
  unfold lsEnd lsB
  rcases h with h | h
  · rw [h]; rfl
  · rw [decide_eq_false h, Bool.and_false]; rfl
theorem lsEnd_yes {O : cO} {T : cT} (h1 : isW O = true) (h2 : T.2.2.2.2.2 = lsSec O) : lsEnd O T = bbS T.1.1 T.2.1 O T.1.2.2.1 T.1.2.2.2.1 T.1.2.2.2.2 12 := by
  unfold lsEnd lsB
  rw [h1, decide_eq_true h2]
  rfl
