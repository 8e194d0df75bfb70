/-! saving and loading keep the relation -/
theorem wsO_o (E : cE) (on : Nat → Nat) (O : cO) (s : Nat) : (wsO E on O s).1 0 = O.1 0 ∧ (wsO E on O s).2.1 0 = O.2.1 0 := by
  have h1 := oApps_o (secB E on s) O
  have h2 := oApps_o (b4 (smF (oAt (wsO1 E on O s) 1) (O.2.1 1) ((wsO1 E on O s).2.1 1 - O.2.1 1)) 4) (wsO1 E on O s)
  exact ⟨h2.1.trans h1.1, h2.2.trans h1.2⟩
theorem wfL_o {E : cE} {nd : Nat → Int32} : ∀ (n s : Nat) (O : cO) (on : Nat → Nat) (w : Int32), (wfL E nd n s O on w).1.2.1 0 = O.2.1 0
  | 0, _, O, _, _ => rfl
  | n + 1, s, O, on, w => by
    unfold wfL
    split
    · rfl
    · split
      · rfl
      · rename_i p hp
        exact (wfL_o n (s + 1) (wsO E (va_up on s p) O s) (va_up on s p) (w &&& (bitI p ^^^ (-1)))).trans (wsO_o E (va_up on s p) O s).2
theorem wfF_o {E : cE} {S : cS} {O : cO} {on : Nat → Nat} {d : Bool} : (wfF E S O on d).1.2.1 0 = O.2.1 0 := by
  have h1 := wfL_o (E := E) (nd := S.1) 12 0 (wfO0 S O d (wfW E S d)) on (wfW E S d)
  have h2 := (oApp_o (oApps (O.1, va_up O.2.1 1 0, va_up O.2.2 1 false) 1 (headB S d)) (bcI (wfW E S d))).2
  have h3 := (oApps_o (headB S d) (O.1, va_up O.2.1 1 0, va_up O.2.2 1 false)).2
  have h4 : va_up O.2.1 1 0 0 = O.2.1 0 := va_up_ne _ _ (by decide)
  exact h1.trans (h2.trans (h3.trans h4))
theorem oFit_fsO2 {O : cO} (h : oFit O) : oFit (fsO2 O) := by
  intro b j
  show fits .byte (.int (va_up O.1 0 (va_cpy (O.1 1) (O.1 0) 0 0 (O.2.1 1)) b j)) = true
  by_cases e : b = 0
  · subst e
    rw [va_up_self]
    unfold va_cpy
    split
    · exact h 1 _
    · exact h 0 j
  · rw [va_up_ne _ _ e]; exact h b j
theorem fsOf_ok {E : cE} {S : cS} {O : cO} {on : Nat → Nat} {d : Bool} (hF : oFit O) (h0 : O.2.1 0 ≤ 8000) (h1 : O.2.1 1 ≤ 8000) : oFit (fsOf E S O on d) ∧ (fsOf E S O on d).2.1 0 ≤ 8000 ∧ (fsOf E S O on d).2.1 1 ≤ 8000 := by
  have a1 := oFit_wfF (E := E) (S := S) (on := on) (d := d) hF
  have a2 := wfF_len (E := E) (S := S) (O := O) (on := on) (d := d)
  have a3 := wfF_o (E := E) (S := S) (O := O) (on := on) (d := d)
  unfold fsOf
  split
  · split
    · refine ⟨a1, ?_, a2⟩
      show (wfF E S O on d).1.2.1 0 ≤ 8000
      rw [a3]; exact h0
    · refine ⟨oFit_fsO2 a1, fsO2_len a2, ?_⟩
      show va_up (wfF E S O on d).1.2.1 0 ((wfF E S O on d).1.2.1 1) 1 ≤ 8000
      rw [va_up_ne _ _ (by decide)]; exact a2
  · exact ⟨hF, h0, h1⟩
theorem fsSf_k {E : cE} {S : cS} {O : cO} {on : Nat → Nat} {d : Bool} : (fsSf E S O on d).1 = S.1 ∧ (fsSf E S O on d).2.2.1 = S.2.2.1 := by
  unfold fsSf
  split <;> exact ⟨rfl, rfl⟩
theorem mgE_k {E : cE} {S : cS} {p q : Nat} : ∀ i, (mgE E S p q i).2.1.1 = S.1 ∧ (mgE E S p q i).2.1.2.2 = S.2.2
  | 0 => ⟨rfl, rfl⟩
  | i + 1 => by
    have ih := mgE_k (E := E) (S := S) (p := p) (q := q) i
    have hk := seS_k (mgE E S p q i).1 (mgE E S p q i).2.1 p i ((mgE E S p q i).1.2.1 q i)
    unfold mgE
    dsimp only
    by_cases hd : mgD (mgE E S p q i).1 (mgE E S p q i).2.1 p q i = true
    · simp only [if_pos hd]
      exact ⟨hk.1.trans ih.1, hk.2.trans ih.2⟩
    · simp only [if_neg hd]
      exact ih
theorem rpE_k {E : cE} {S : cS} {p q : Nat} : ∀ i, (rpE E S p q i).2.1 = S.1 ∧ (rpE E S p q i).2.2.2 = S.2.2
  | 0 => ⟨rfl, rfl⟩
  | i + 1 => by
    have ih := rpE_k (E := E) (S := S) (p := p) (q := q) i
    have hk := seS_k (rpE E S p q i).1 (rpE E S p q i).2 p i ((rpE E S p q i).1.2.1 q i)
    have hj := drS_k (rpE E S p q i).1 (rpE E S p q i).2 p i
    unfold rpE
    dsimp only
    by_cases hd : (rpE E S p q i).1.1 q i = true
    · simp only [if_pos hd]
      exact ⟨hk.1.trans ih.1, hk.2.trans ih.2⟩
    · simp only [if_neg hd]
      exact ⟨hj.1.trans ih.1, hj.2.trans ih.2⟩
theorem lsM_k {E : cE} {S : cS} {w : Bool} {p q : Nat} : (lsM E S w p q).2.1.1 = S.1 ∧ (lsM E S w p q).2.1.2.2 = S.2.2 := by
  unfold lsM
  split
  · exact mgE_k (E := E) (S := S) (p := p) (q := q) 100
  · have h := rpE_k (E := E) (S := S) (p := p) (q := q) 100
    generalize rpE E S p q 100 = Z at h
    exact h
theorem lsS_k {O : cO} {w : Bool} {s : Nat} {T : cT} : (lsS O w s T).2.1.1 = T.2.1.1 ∧ (lsS O w s T).2.1.2.2 = T.2.1.2.2 := by
  unfold lsS
  split
  · exact lsM_k
  · exact ⟨rfl, rfl⟩
theorem lsL_k {O : cO} {w : Bool} {T : cT} : ∀ n, (lsL O w T n).2.1.1 = T.2.1.1 ∧ (lsL O w T n).2.1.2.2 = T.2.1.2.2
  | 0 => ⟨rfl, rfl⟩
  | n + 1 => by
    have h1 := lsL_k (O := O) (w := w) (T := T) n
    have h2 := lsS_k (O := O) (w := w) (s := n) (T := lsL O w T n)
    exact ⟨h2.1.trans h1.1, h2.2.trans h1.2⟩
theorem lsEnd_k {O : cO} {T : cT} : (lsEnd O T).1 = T.2.1.1 ∧ (lsEnd O T).2.2.1 = T.2.1.2.2.1 := by
  unfold lsEnd
  split <;> exact ⟨rfl, rfl⟩
section RELS
variable {E : cE} {S : cS} {O : cO} {sec : Nat} {po : Nat → Option Nat} {re cf : Nat → Int32} {so : Nat → Nat} {M M' : mT} {on : Nat → Nat} {d : Bool}
theorem rel_save (h : Rel E S O sec po re cf so M) (hs : saveP M E S O on d M') : Rel E (fsSf E S O on d) (fsOf E S O on d) sec po re cf so M' := by
  obtain ⟨g1, g21, g14, g15, g16, g17⟩ := hs
  obtain ⟨⟨b1, c1, c2, c3⟩, d1, e1, ⟨f1, f2, f3⟩, v1, v2⟩ := h
  have k := fsSf_k (E := E) (S := S) (O := O) (on := on) (d := d)
  refine ⟨⟨g1, fun p i hp hi => ?_, fun j hj => ?_, g14.trans c3⟩, d1, e1, fsOf_ok f1 f2 f3, ?_, ?_⟩
  · show M'.2.2.2.2.2.1 21 _ = _
    rw [g21]; exact c1 p i hp hi
  · show M'.2.2.2.2.1 15 j = _ ∧ M'.2.2.2.2.1 16 j = _ ∧ M'.2.2.2.2.1 17 j = _
    rw [g15, g16, g17]; exact c2 j hj
  · rw [k.2]; exact v1
  · rw [k.1]; exact v2
theorem rel_load_b (h : Rel E S O sec po re cf so M) (hb : S.2.2.2.2.1 = true) (hl : loadP M E S O po re cf so M') : Rel E S O sec po re cf so M' := by
  rw [hl.1 hb]; exact h.t0
theorem rel_load_0 (h : Rel E S O sec po re cf so M) (hb : S.2.2.2.2.1 = false) (h0 : O.2.1 0 = 0 ∨ ¬ raW S O = 0) (hl : loadP M E S O po re cf so M') : Rel E S O 0 po re cf so M' := by
  rw [hl.2.1 hb h0]
  exact ⟨⟨RB_fr h.1.1 rfl rfl rfl rfl rfl rfl rfl rfl rfl rfl rfl, h.1.2.1, fun j hj => absurd hj (Nat.not_lt_zero j), rfl⟩, by omega, h.2.2⟩
theorem rel_load_go (h : Rel E S O sec po re cf so M) (hb : S.2.2.2.2.1 = false) (h0 : ¬ O.2.1 0 = 0) (hr : raW S O = 0) (hl : loadP M E S O po re cf so M') :
    Rel (lsT E S O po re cf so).1.1 (lsEnd O (lsT E S O po re cf so)) O (lsSec O) (lsT E S O po re cf so).1.2.1 (lsT E S O po re cf so).2.2.1 (lsT E S O po re cf so).2.2.2.1 (lsT E S O po re cf so).1.2.2.1 M' := by
  obtain ⟨g1, g2, g3, g4, g5⟩ := hl.2.2 hb h0 hr
  have h59 := hdL_59 O
  have hc : cOK (lsT E S O po re cf so).1 := lsL_ok h.2.2.2.1.2.1 ⟨h.2.2.1.1, h.2.2.1.2.1, h.2.2.1.2.2.1, show hdL O ≤ 8000 by omega⟩ _
  have hk := lsL_k (O := O) (w := isW O) (T := lsT0 E S O po re cf so) (lsSec O)
  have he := lsEnd_k (O := O) (T := lsT E S O po re cf so)
  have h255 := (oAt_nI O 0 (hdL O - 1)).2
  have k1 : (lsT E S O po re cf so).2.1.1 = S.1 := hk.1
  have k2 : (lsT E S O po re cf so).2.1.2.2 = S.2.2 := hk.2
  refine ⟨⟨g1, g2, g3, g4⟩, by unfold lsSec; omega, ⟨hc.1, hc.2.1, hc.2.2.1, g5⟩, h.2.2.2.1, ?_, ?_⟩
  · rw [he.2, k2]; exact h.2.2.2.2.1
  · rw [he.1, k1]; exact h.2.2.2.2.2
end RELS
