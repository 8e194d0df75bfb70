/-! the writer, into octets with a room -/
def wsN1 (E : cE) (on : Nat → Nat) (O : cO) (b s : Nat) : cO := oApsR O b (secB E on s)
def wsN (E : cE) (on : Nat → Nat) (O : cO) (b s : Nat) : cO := oApsR (wsN1 E on O b s) b (b4 (smF (oAtR (wsN1 E on O b s) b) (O.2.1 b) ((wsN1 E on O b s).2.1 b - O.2.1 b)) 4)
def wfLN (E : cE) (nd : Nat → Int32) (b : Nat) : Nat → Nat → cO → (Nat → Nat) → Int32 → cO × (Nat → Nat)
  | 0, _, O, on, _ => (O, on)
  | n + 1, s, O, on, w => if w = 0 then (O, on) else match fstB (fwOk nd w) 12 with
    | none => (O, on)
    | some p => wfLN E nd b n (s + 1) (wsN E (va_up on s p) O b s) (va_up on s p) (w &&& (bitI p ^^^ (-1)))
def wfN0 (S : cS) (O : cO) (b : Nat) (whole : Bool) (w : Int32) : cO := oApR (oApsR (O.1, va_up O.2.1 b 0, O.2.2) b (headB S whole)) b (bcI w)
def wfN (E : cE) (S : cS) (O : cO) (on : Nat → Nat) (b : Nat) (whole : Bool) : cO × (Nat → Nat) := wfLN E S.1 b 12 0 (wfN0 S O b whole (wfW E S whole)) on (wfW E S whole)
theorem wrL_len (E : cE) (q : Nat) : ∀ i, (wrL E q i).2.length ≤ 10 + 20 * i
  | 0 => cB_len 9 _
  | i + 1 => by
    have := wrL_len E q i
    unfold wrL
    split
    · have h1 := cB_len 9 (lN (i - (wrL E q i).1))
      have h2 := cB_len 9 (zzE (E.2.1 q i))
      dsimp only
      rw [List.length_append, List.length_append]
      omega
    · omega
theorem secB_ln (E : cE) (on : Nat → Nat) (s : Nat) : (secB E on s).length ≤ 2012 := by
  have := wrL_len E (on s) 100
  unfold secB
  rw [List.length_cons]
  split
  · simp
  · rw [List.length_cons]; omega
theorem wsN1_len (E : cE) (on : Nat → Nat) (O : cO) (b s : Nat) : (wsN1 E on O b s).2.1 b = O.2.1 b + (secB E on s).length := oApsR_len b _ _
theorem wsN_len (E : cE) (on : Nat → Nat) (O : cO) (b s : Nat) : (wsN E on O b s).2.1 b = O.2.1 b + (secB E on s).length + 4 := by
  unfold wsN
  rw [oApsR_len, b4_len, wsN1_len]
theorem headB_ln (S : cS) (d : Bool) : (headB S d).length ≤ 8 := by
  unfold headB
  cases d <;> simp [b4_len]
theorem wfN0_len (S : cS) (O : cO) (b : Nat) (d : Bool) (w : Int32) : (wfN0 S O b d w).2.1 b = (headB S d).length + 1 := by
  unfold wfN0
  rw [oApR_len, oApsR_len]
  show va_up O.2.1 b 0 b + _ + 1 = _
  rw [va_up_self, Nat.zero_add]
theorem wfLN_end {E : cE} {nd : Nat → Int32} {b n s : Nat} {O : cO} {on : Nat → Nat} {w : Int32} (h : n = 0 ∨ w = 0 ∨ fstB (fwOk nd w) 12 = none) : wfLN E nd b n s O on w = (O, on) := by
  cases n with
  | zero => rfl
  | succ n =>
    unfold wfLN
    rcases h with h | h | h
    · omega
    · rw [if_pos h]
    · rw [h]
      split <;> rfl
theorem wfLN_go {E : cE} {nd : Nat → Int32} {b n s p : Nat} {O : cO} {on : Nat → Nat} {w : Int32} (h : ¬ w = 0) (hf : fstB (fwOk nd w) 12 = some p) : wfLN E nd b (n + 1) s O on w = wfLN E nd b n (s + 1) (wsN E (va_up on s p) O b s) (va_up on s p) (w &&& (bitI p ^^^ (-1))) := by
  rw [wfLN, if_neg h, hf]
theorem wfLN_le {E : cE} {nd : Nat → Int32} {b : Nat} : ∀ (n s : Nat) (O : cO) (on : Nat → Nat) (w : Int32), (wfLN E nd b n s O on w).1.2.1 b ≤ O.2.1 b + 2016 * n
  | 0, _, _, _, _ => Nat.le_refl _
  | n + 1, s, O, on, w => by
    unfold wfLN
    split
    · dsimp only; omega
    · split
      · dsimp only; omega
      · rename_i p _
        have h1 := wfLN_le (E := E) (nd := nd) (b := b) n (s + 1) (wsN E (va_up on s p) O b s) (va_up on s p) (w &&& (bitI p ^^^ (-1)))
        have h2 := wsN_len E (va_up on s p) O b s
        have h3 := secB_ln E (va_up on s p) s
        omega
theorem wfN_le {E : cE} {S : cS} {O : cO} {on : Nat → Nat} {b : Nat} {d : Bool} : (wfN E S O on b d).1.2.1 b ≤ 30000 := by
  have h1 := wfLN_le (E := E) (nd := S.1) (b := b) 12 0 (wfN0 S O b d (wfW E S d)) on (wfW E S d)
  have h2 := wfN0_len S O b d (wfW E S d)
  have h3 := headB_ln S d
  unfold wfN
  omega
