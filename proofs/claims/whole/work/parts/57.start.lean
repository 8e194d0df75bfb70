theorem eD1 {h q : Nat} (h1 : h + 4 ≤ q) (h2 : q < h + 40) : eDec h q = some ((q - (h + 4)) / 3, (q - (h + 4)) % 3) := by
  unfold eDec
  exact if_pos ⟨h1, h2⟩
theorem eD2 {h q : Nat} (h1 : h + 50 ≤ q) (h2 : q < h + 53) : eDec h q = some (25, q - (h + 50)) := by
  unfold eDec
  rw [if_neg (by omega), if_pos ⟨h1, h2⟩]
theorem wCX_loc (G : xD) (h : Nat) (E : cE) (S : cS) (O : cO) (od : Nat → Int32) (L : cL) (Rd : Nat × Int32) (ra : Nat → Int32) (Ra : Nat × Int32) : cLoc (fun w => wC G h E S O od L Rd (wX G h ra Ra w)) h (h + 57) := by
  refine ⟨fun w q hq => ?_, fun w w' q h1 h2 => ?_⟩
  · show wC G h E S O od L Rd (wX G h ra Ra w) q = w q
    unfold wC
    rw [eDec_no (by omega)]
    dsimp only
    rw [if_neg (by omega), if_neg (by omega), if_neg (by omega), if_neg (by omega), if_neg (by omega), if_neg (by omega), if_neg (by omega), if_neg (by omega), if_neg (by omega), if_neg (by omega), if_neg (by omega), if_neg (by omega), if_neg (by omega), if_neg (by omega), if_neg (by omega), if_neg (by omega)]
    unfold wX
    rw [if_neg (by omega), if_neg (by omega)]
  · show wC G h E S O od L Rd (wX G h ra Ra w) q = wC G h E S O od L Rd (wX G h ra Ra w') q
    by_cases r1 : h + 4 ≤ q ∧ q < h + 40
    · unfold wC
      rw [eD1 r1.1 r1.2]
    by_cases r2 : h + 50 ≤ q ∧ q < h + 53
    · unfold wC
      rw [eD2 r2.1 r2.2]
    have hq : q = h ∨ q = h + 1 ∨ q = h + 2 ∨ q = h + 3 ∨ q = h + 40 ∨ q = h + 41 ∨ q = h + 42 ∨ q = h + 43 ∨ q = h + 44 ∨ q = h + 45 ∨ q = h + 46 ∨ q = h + 47 ∨ q = h + 48 ∨ q = h + 49 ∨ q = h + 53 ∨ q = h + 54 ∨ q = h + 55 ∨ q = h + 56 := by omega
    rcases hq with hq | hq | hq | hq | hq | hq | hq | hq | hq | hq | hq | hq | hq | hq | hq | hq | hq | hq
    · rw [hq, wl_FF, wl_FF]
    · rw [hq, wl_Setter, wl_Setter]
    · rw [hq, wl_parts, wl_parts]
    · rw [hq, wl_needed, wl_needed]
    · rw [hq, wl_Oct0, wl_Oct0]
    · rw [hq, wl_by0, wl_by0]
    · rw [hq, wl_Writer, wl_Writer]
    · rw [hq, wl_Oct2, wl_Oct2]
    · rw [hq, wl_by2, wl_by2]
    · rw [hq, wl_order, wl_order]
    · rw [hq, wl_Loader, wl_Loader]
    · rw [hq, wl_partOf, wl_partOf]
    · rw [hq, wl_reasonOf, wl_reasonOf]
    · rw [hq, wl_conflictsOf, wl_conflictsOf]
    · rw [hq, wl_rowsAt, wl_rowsAt]
    · rw [hq, wl_sourceOf, wl_sourceOf]
    · rw [hq, wl_Reader, wl_Reader]
    · rw [hq, wl_Readerb, wl_Readerb]
theorem wC_e (G : xD) (h : Nat) (E : cE) (S : cS) (O : cO) (od : Nat → Int32) (L : cL) (Rd : Nat × Int32) (w0 : xw) {q r : Nat} (hq : q < 12 ∨ q = 25) (hr : r < 3) : wC G h E S O od L Rd w0 (eA h q + r) = xE3 G h E q r := by
  unfold wC
  rw [eDec_at hq hr]
/-! the start -/
def sE : cE := (fun _ _ => false, fun _ _ => 0, fun _ => 0)
def sS : cS := (fun _ => nI 0, nI 0, nI 1, nI 0, false, false, nI 0)
def sO : cO := (fun _ _ => nI 0, fun _ => 0, fun _ => false)
def sPo : Nat → Option Nat := fun _ => some 0
def sZ : Nat → Int32 := fun _ => nI 0
def sN : Nat → Nat := fun _ => 0
def sL : cL := (0, lP sPo, sZ, sZ, oN sN, nI 0, nI 0)
theorem cEnt_x (G : xD) (h q : Nat) {base : Nat} (hb : base = eA h q) (w : xw) {r : Nat} (hr : r < 3) : cEnt G base w (base + r) = xE3 G h sE q r := by
  subst hb
  have h3 : r = 0 ∨ r = 1 ∨ r = 2 := by omega
  rcases h3 with z | z | z
  · subst z
    show xup _ (eA h q) _ (eA h q) = _
    rw [xup_self]
    rfl
  · subst z
    unfold cEnt
    rw [xup_ne (by omega), xup_ne (by omega), xup_self]
    rfl
  · subst z
    unfold cEnt
    rw [xup_ne (by omega), xup_self]
    rfl
theorem cSet_e (G : xD) (b : Nat) (w : xw) {p r : Nat} (hp : p < 12) (hr : r < 3) : cSet G b w (b + 3 + 3 * p + r) = cEnt G (b + 3 + 3 * p) w (b + 3 + 3 * p + r) := by
  unfold cSet
  rw [xup_ne (by omega), xup_ne (by omega)]
  exact cEnts_at G (b + 3) _ w 12 p r hp hr
theorem cLoa_n (G : xD) (b q1 q2 : Nat) (w : xw) {r : Nat} (hr : r < 3) : cLoa G b q1 q2 w (b + 4 + r) = cEnt G (b + 4) w (b + 4 + r) := by
  unfold cLoa cRea
  rw [xup_ne (by omega), xup_ne (by omega), xup_ne (by omega), xup_ne (by omega), xup_ne (by omega)]
  exact (cEnt_loc G (b + 4)).2 _ _ _ (by omega) (by omega)
theorem cFF_eq (G : xD) (h : Nat) (w : xw) {q : Nat} (n2 : q ≠ h + 2) : cFF G h w q = wC G h sE sS sO (oN sN) sL (0, nI 0) (wX G h (oN sN) (0, nI 0) w) q := by
  by_cases g1 : h ≤ q ∧ q < h + 57
  · by_cases r1 : h + 4 ≤ q ∧ q < h + 40
    · obtain ⟨p, r, hp, hr, e⟩ : ∃ p r, p < 12 ∧ r < 3 ∧ q = h + 4 + 3 * p + r := ⟨(q - (h + 4)) / 3, (q - (h + 4)) % 3, by omega, by omega, by omega⟩
      have ea : eA h p = h + 1 + 3 + 3 * p := by have := eA_c h p; omega
      have e2 : q = eA h p + r := by omega
      have e3 : q = h + 1 + 3 + 3 * p + r := by omega
      rw [e2, wC_e _ _ _ _ _ _ _ _ _ (by omega) hr, ← e2]
      unfold cFF
      rw [xup_ne (by omega), (cLoa_loc G (h + 46) (h + 1) (h + 40)).1 _ _ (by omega), (cWri_loc G (h + 42) (h + 1)).1 _ _ (by omega), (cOct_loc G (h + 40) 8000).1 _ _ (by omega), e3, cSet_e G (h + 1) w hp hr]
      exact cEnt_x G h p ea.symm w hr
    by_cases r2 : h + 50 ≤ q ∧ q < h + 53
    · obtain ⟨r, hr, e⟩ : ∃ r, r < 3 ∧ q = h + 46 + 4 + r := ⟨q - (h + 50), by omega, by omega⟩
      have ea : eA h 25 = h + 46 + 4 := by have := eA_c h 25; omega
      have e2 : q = eA h 25 + r := by omega
      rw [e2, wC_e _ _ _ _ _ _ _ _ _ (by omega) hr, ← e2]
      unfold cFF
      rw [xup_ne (by omega), e, cLoa_n G (h + 46) (h + 1) (h + 40) _ hr]
      exact cEnt_x G h 25 ea.symm _ hr
    have hq : q = h ∨ q = h + 1 ∨ q = h + 3 ∨ q = h + 40 ∨ q = h + 41 ∨ q = h + 42 ∨ q = h + 43 ∨ q = h + 44 ∨ q = h + 45 ∨ q = h + 46 ∨ q = h + 47 ∨ q = h + 48 ∨ q = h + 49 ∨ q = h + 53 ∨ q = h + 54 ∨ q = h + 55 ∨ q = h + 56 := by omega
    rcases hq with hq | hq | hq | hq | hq | hq | hq | hq | hq | hq | hq | hq | hq | hq | hq | hq | hq
    · rw [hq, wl_FF]
      unfold cFF
      rw [xup_self]
      rfl
    · rw [hq, wl_Setter]
      unfold cFF
      rw [xup_ne (by omega), (cLoa_loc G (h + 46) (h + 1) (h + 40)).1 _ _ (by omega), (cWri_loc G (h + 42) (h + 1)).1 _ _ (by omega), (cOct_loc G (h + 40) 8000).1 _ _ (by omega), cSet, xup_self]
      rfl
    · rw [hq, wl_needed]
      unfold cFF
      rw [xup_ne (by omega), (cLoa_loc G (h + 46) (h + 1) (h + 40)).1 _ _ (by omega), (cWri_loc G (h + 42) (h + 1)).1 _ _ (by omega), (cOct_loc G (h + 40) 8000).1 _ _ (by omega), cSet, xup_ne (by omega), xup_ne (by omega), (cEnts_loc G (h + 1 + 3) 12).1 _ _ (by omega), xup_self]
      rfl
    · rw [hq, wl_Oct0]
      unfold cFF
      rw [xup_ne (by omega), (cLoa_loc G (h + 46) (h + 1) (h + 40)).1 _ _ (by omega), (cWri_loc G (h + 42) (h + 1)).1 _ _ (by omega), cOct, xup_self]
      rfl
    · rw [hq, wl_by0]
      unfold cFF
      rw [xup_ne (by omega), (cLoa_loc G (h + 46) (h + 1) (h + 40)).1 _ _ (by omega), (cWri_loc G (h + 42) (h + 1)).1 _ _ (by omega), cOct, xup_ne (by omega), xup_self]
      rfl
    · rw [hq, wl_Writer]
      unfold cFF
      rw [xup_ne (by omega), (cLoa_loc G (h + 46) (h + 1) (h + 40)).1 _ _ (by omega), cWri, xup_self]
      rfl
    · rw [hq, wl_Oct2]
      unfold cFF
      rw [xup_ne (by omega), (cLoa_loc G (h + 46) (h + 1) (h + 40)).1 _ _ (by omega), cWri, xup_ne (by omega), xup_ne (by omega), cOct, xup_self]
      rfl
    · rw [hq, wl_by2]
      unfold cFF
      rw [xup_ne (by omega), (cLoa_loc G (h + 46) (h + 1) (h + 40)).1 _ _ (by omega), cWri, xup_ne (by omega), xup_ne (by omega), cOct, xup_ne (by omega), xup_self]
      rfl
    · rw [hq, wl_order]
      unfold cFF
      rw [xup_ne (by omega), (cLoa_loc G (h + 46) (h + 1) (h + 40)).1 _ _ (by omega), cWri, xup_ne (by omega), xup_self]
      rfl
    · rw [hq, wl_Loader]
      unfold cFF
      rw [xup_ne (by omega), cLoa, xup_self]
      rfl
    · rw [hq, wl_partOf]
      unfold cFF
      rw [xup_ne (by omega), cLoa, xup_ne (by omega), cRea, xup_ne (by omega), cRea, xup_ne (by omega), xup_ne (by omega), xup_ne (by omega), (cEnt_loc G (h + 46 + 4)).1 _ _ (by omega), xup_ne (by omega), xup_ne (by omega), xup_self]
      rfl
    · rw [hq, wl_reasonOf]
      unfold cFF
      rw [xup_ne (by omega), cLoa, xup_ne (by omega), cRea, xup_ne (by omega), cRea, xup_ne (by omega), xup_ne (by omega), xup_ne (by omega), (cEnt_loc G (h + 46 + 4)).1 _ _ (by omega), xup_ne (by omega), xup_self]
      rfl
    · rw [hq, wl_conflictsOf]
      unfold cFF
      rw [xup_ne (by omega), cLoa, xup_ne (by omega), cRea, xup_ne (by omega), cRea, xup_ne (by omega), xup_ne (by omega), xup_ne (by omega), (cEnt_loc G (h + 46 + 4)).1 _ _ (by omega), xup_self]
      rfl
    · rw [hq, wl_rowsAt]
      unfold cFF
      rw [xup_ne (by omega), cLoa, xup_ne (by omega), cRea, xup_ne (by omega), cRea, xup_ne (by omega), xup_ne (by omega), xup_self]
      rfl
    · rw [hq, wl_sourceOf]
      unfold cFF
      rw [xup_ne (by omega), cLoa, xup_ne (by omega), cRea, xup_ne (by omega), cRea, xup_ne (by omega), xup_self]
      rfl
    · rw [hq, wl_Reader]
      unfold cFF
      rw [xup_ne (by omega), cLoa, xup_ne (by omega), cRea, xup_ne (by omega), cRea, xup_self]
      rfl
    · rw [hq, wl_Readerb]
      unfold cFF
      rw [xup_ne (by omega), cLoa, xup_ne (by omega), cRea, xup_self]
      rfl
  · have hw := (wCX_loc G h sE sS sO (oN sN) sL (0, nI 0) (oN sN) (0, nI 0)).1 w q (by omega)
    dsimp only at hw
    rw [hw]
    unfold cFF
    rw [xup_ne (by omega), (cLoa_loc G (h + 46) (h + 1) (h + 40)).1 _ _ (by omega), (cWri_loc G (h + 42) (h + 1)).1 _ _ (by omega), (cOct_loc G (h + 40) 8000).1 _ _ (by omega), (cSet_loc G (h + 1)).1 _ _ (by omega)]
theorem cFF_2 (G : xD) (h : Nat) (w : xw) : cFF G h w (h + 2) = some (.inl (G.2 4, cPar (h + 4) 12)) := by
  unfold cFF
  rw [xup_ne (by omega), (cLoa_loc G (h + 46) (h + 1) (h + 40)).1 _ _ (by omega), (cWri_loc G (h + 42) (h + 1)).1 _ _ (by omega), (cOct_loc G (h + 40) 8000).1 _ _ (by omega), cSet, xup_ne (by omega), xup_self]
theorem par_at (D : va_G) (cA : ClassId) (a b : Nat) {f : Nat → Option Nat} (hf : ∀ j, j < 12 → f j = some (b + 3 * j)) (H : Heap) (h : va_at D vwCl (a, .inl (cA, cPar b 12)) H) : va_at D vwCl (a, .inl (cA, 12, .inr (.inr (.inr (.inr f))))) H := by
  have h : H[a]? = some (vp_cell cA (cPar b 12)) := h
  show H[a]? = some (vp_cell cA (12, .inr (.inr (.inr (.inr f)))))
  rw [h]
  refine congrArg some ?_
  show arrV cA 12 (fun j => va_rf (if j < 12 then some (b + 3 * j) else none)) = arrV cA 12 (fun j => va_rf (f j))
  refine arrV_cong (fun j hj => ?_)
  rw [if_pos hj, hf j hj]
theorem cFF_le (G : xD) (h : Nat) (w : xw) : ∀ a e', wC G h sE sS sO (oN sN) sL (0, nI 0) (wX G h (oN sN) (0, nI 0) w) a = some e' → ∃ e0, cFF G h w a = some e0 ∧ ∀ H : Heap, va_at G.1 vwCl (a, e0) H → va_at G.1 vwCl (a, e') H := by
  intro a e' he
  by_cases n2 : a = h + 2
  · subst n2
    rw [wl_parts] at he
    refine ⟨_, cFF_2 G h w, fun H z => ?_⟩
    have he := Option.some.inj he
    subst he
    refine par_at _ _ _ _ (fun j hj => ?_) H z
    have := eA_c h j
    exact congrArg some (by omega)
  · exact ⟨e', (cFF_eq G h w n2).trans he, fun H z => z⟩
theorem bt_n0 (i : Nat) : bt (nI 0) i = false := b_0 i
theorem rel_0 : Rel sE sS sO 0 sPo sZ sZ sN sM := by
  refine ⟨⟨⟨⟨fun i => ?_, rfl⟩, fun p i _ _ => ⟨rfl, rfl⟩, ⟨fun p _ => (bt_n0 p).symm, fun p _ => bt_n0 p⟩, fun p q _ _ => (bt_n0 q).symm, rfl, rfl, rfl, rfl, rfl⟩, fun p i _ _ => rfl, fun j hj => absurd hj (Nat.not_lt_zero j), rfl⟩, by omega, ⟨fun q _ => ?_, fun j => ?_, fun j q hq => ?_, fun i _ => rfl⟩, ⟨fun b j => ?_, ?_, ?_⟩, ?_, fun _ => 0, fun p q _ _ hb => ?_⟩
  · show nI 0 = nI 0 &&& nI 255
    decide
  · show 0 = cnt (fun _ => false) 100
    rw [cnt_0 (fun _ _ => rfl)]
  · show 0 < 12
    omega
  · have h0 : some 0 = some q := hq
    have := Option.some.inj h0
    omega
  · show fits .byte (.int (nI 0)) = true
    decide
  · show 0 ≤ 8000
    omega
  · show 0 ≤ 8000
    omega
  · show fvB (nI 1) = true
    decide
  · have hb : bt (nI 0) q = true := hb
    rw [bt_n0] at hb
    exact absurd hb (by decide)
