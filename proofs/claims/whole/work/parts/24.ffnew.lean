/-! saving: the file is measured, then written in place -/
theorem fstB_cong {f g : Nat → Bool} : ∀ {n : Nat}, (∀ i, i < n → f i = g i) → fstB f n = fstB g n
  | 0, _ => rfl
  | n + 1, h => by
    unfold fstB
    rw [fstB_cong (n := n) (fun i hi => h i (by omega)), h n (by omega)]
theorem secB_cong {E : cE} {on on' : Nat → Nat} {s : Nat} (h : ∀ j, j ≤ s → on j = on' j) : secB E on s = secB E on' s := by
  have h1 : faN E on s = faN E on' s := by
    unfold faN
    rw [fstB_cong (f := fun e => eLike E (on e) (on s)) (g := fun e => eLike E (on' e) (on' s)) (fun i hi => by show eLike E (on i) (on s) = eLike E (on' i) (on' s); rw [h i (by omega), h s (by omega)])]
  unfold secB
  rw [h1, h s (by omega)]
theorem up_cong {on on' : Nat → Nat} {s p : Nat} (h : ∀ j, j < s → on j = on' j) : ∀ j, j ≤ s → va_up on s p j = va_up on' s p j := by
  intro j hj
  by_cases e : j = s
  · rw [e, va_up_self, va_up_self]
  · rw [va_up_ne _ _ e, va_up_ne _ _ e]; exact h j (by omega)
theorem wfLN_ln {E : cE} {nd : Nat → Int32} {b b' : Nat} : ∀ (n s : Nat) (O O' : cO) (on on' : Nat → Nat) (w : Int32), O.2.1 b = O'.2.1 b' → (∀ j, j < s → on j = on' j) → (wfLN E nd b n s O on w).1.2.1 b = (wfLN E nd b' n s O' on' w).1.2.1 b'
  | 0, _, _, _, _, _, _, h, _ => h
  | n + 1, s, O, O', on, on', w, h, ho => by
    unfold wfLN
    by_cases hw : w = 0
    · rw [if_pos hw, if_pos hw]; exact h
    · rw [if_neg hw, if_neg hw]
      cases hf : fstB (fwOk nd w) 12 with
      | none => exact h
      | some p =>
        have hc := up_cong (p := p) ho
        refine wfLN_ln n (s + 1) _ _ _ _ _ ?_ (fun j hj => hc j (by omega))
        rw [wsN_len, wsN_len, h, secB_cong hc]
theorem wfN_ln (E : cE) (S : cS) (O O' : cO) (on on' : Nat → Nat) (b b' : Nat) (d : Bool) : (wfN E S O on b d).1.2.1 b = (wfN E S O' on' b' d).1.2.1 b' := by
  unfold wfN
  refine wfLN_ln 12 0 _ _ _ _ _ ?_ (fun j hj => absurd hj (Nat.not_lt_zero j))
  rw [wfN0_len, wfN0_len]
def nsL (E : cE) (S : cS) (O : cO) (on : Nat → Nat) (d : Bool) : Nat := (wfN E S O on 2 d).1.2.1 2
def nsO1 (E : cE) (S : cS) (O : cO) (on : Nat → Nat) (d : Bool) : cO := (wfN E S O on 2 d).1
def nsN1 (E : cE) (S : cS) (O : cO) (on : Nat → Nat) (d : Bool) : Nat → Nat := (wfN E S O on 2 d).2
def nsO2 (E : cE) (S : cS) (O : cO) (on : Nat → Nat) (d : Bool) : cO := (wfN E S (nsO1 E S O on d) (nsN1 E S O on d) 0 d).1
def nsN2 (E : cE) (S : cS) (O : cO) (on : Nat → Nat) (d : Bool) : Nat → Nat := (wfN E S (nsO1 E S O on d) (nsN1 E S O on d) 0 d).2
theorem nsL_le (E : cE) (S : cS) (O : cO) (on : Nat → Nat) (d : Bool) : nsL E S O on d ≤ 30000 := wfN_le
theorem nsO2_len (E : cE) (S : cS) (O : cO) (on : Nat → Nat) (d : Bool) : (nsO2 E S O on d).2.1 0 = nsL E S O on d := wfN_ln _ _ _ _ _ _ _ _ _
def nsOf (E : cE) (S : cS) (O : cO) (on : Nat → Nat) (d : Bool) : cO := if fsG S d = true then (if nsL E S O on d ≤ 8000 then nsO2 E S O on d else nsO1 E S O on d) else O
def nsOn (E : cE) (S : cS) (O : cO) (on : Nat → Nat) (d : Bool) : Nat → Nat := if fsG S d = true then (if nsL E S O on d ≤ 8000 then nsN2 E S O on d else nsN1 E S O on d) else on
def nsSf (E : cE) (S : cS) (O : cO) (on : Nat → Nat) (d : Bool) : cS := if (fsG S d && decide (nsL E S O on d ≤ 8000) && d) = true then fsS2 S (nsO2 E S O on d) else S
def nsV (E : cE) (S : cS) (O : cO) (on : Nat → Nat) (d : Bool) : Int32 := if fsG S d = true then (if nsL E S O on d ≤ 8000 then nI ((nsO2 E S O on d).2.1 0) else -4) else -3
theorem ns_1 {E : cE} {S : cS} {O : cO} {on : Nat → Nat} {d : Bool} (h : fsG S d = false) : nsV E S O on d = -3 ∧ nsSf E S O on d = S ∧ nsOf E S O on d = O ∧ nsOn E S O on d = on := by
  unfold nsV nsSf nsOf nsOn
  simp [h]
theorem ns_2 {E : cE} {S : cS} {O : cO} {on : Nat → Nat} {d : Bool} (h : fsG S d = true) (h2 : ¬ nsL E S O on d ≤ 8000) : nsV E S O on d = -4 ∧ nsSf E S O on d = S ∧ nsOf E S O on d = nsO1 E S O on d ∧ nsOn E S O on d = nsN1 E S O on d := by
  unfold nsV nsSf nsOf nsOn
  rw [h, if_pos rfl, if_neg h2, if_pos rfl, if_neg h2, if_pos rfl, if_neg h2, decide_eq_false h2, if_neg (by simp)]
  exact ⟨rfl, rfl, rfl, rfl⟩
theorem ns_3 {E : cE} {S : cS} {O : cO} {on : Nat → Nat} {d : Bool} (h : fsG S d = true) (h2 : nsL E S O on d ≤ 8000) : nsV E S O on d = nI ((nsO2 E S O on d).2.1 0) ∧ nsSf E S O on d = (if d = true then fsS2 S (nsO2 E S O on d) else S) ∧ nsOf E S O on d = nsO2 E S O on d ∧ nsOn E S O on d = nsN2 E S O on d := by
  unfold nsV nsSf nsOf nsOn
  rw [h, if_pos rfl, if_pos h2, if_pos rfl, if_pos h2, if_pos rfl, if_pos h2, decide_eq_true h2]
  refine ⟨rfl, ?_, rfl, rfl⟩
  cases d <;> rfl
theorem oApR_0 {O : cO} {x : Int32} (h : O.2.1 0 < 8000) : oApR O 0 x = oApp O 0 x := by
  unfold oApR oApp
  rw [if_pos (show O.2.1 0 < rm 0 from h), if_pos h]
