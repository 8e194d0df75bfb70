/-! the writer -/
def ush (x : Int32) (k : Nat) : Int32 := (x.toUInt32 >>> ((nI k).toUInt32 &&& Int32.toUInt32 31)).toInt32
def bc1 (x : Int32) : Int32 := x - (ush x 1 &&& 1431655765)
def bc2 (x : Int32) : Int32 := (x &&& 858993459) + (ush x 2 &&& 858993459)
def bc3 (x : Int32) : Int32 := (x + ush x 4) &&& 252645135
def bc4 (x : Int32) : Int32 := x + ush x 8
def bc5 (x : Int32) : Int32 := x + ush x 16
def bcI (x : Int32) : Int32 := bc5 (bc4 (bc3 (bc2 (bc1 x)))) &&& nI 63
def zzE (v : Int64) : Int64 := if v < 0 then -1 - v - v else v + v
def wrL (E : cE) (q : Nat) : Nat → Nat × List Int32
  | 0 => (0, cB 9 (lN (E.2.2 q)))
  | i + 1 => if E.1 q i = true then (i + 1, ((wrL E q i).2 ++ cB 9 (lN (i - (wrL E q i).1))) ++ cB 9 (zzE (E.2.1 q i))) else wrL E q i
theorem wrL_le (E : cE) (q : Nat) : ∀ i, (wrL E q i).1 ≤ i
  | 0 => Nat.le_refl 0
  | i + 1 => by
    have := wrL_le E q i
    unfold wrL
    split
    · exact Nat.le_refl _
    · omega
theorem gapI {i nx : Nat} (h : nx ≤ i) : nI i - (nI nx - nI 1) - nI 1 = nI (i - nx) := by
  rw [← pk_sub h]
  generalize nI i = a
  generalize nI nx = b
  generalize nI 1 = c
  grind
def oN (on : Nat → Nat) : Nat → Int32 := fun j => nI (on j)
theorem oN_up (on : Nat → Nat) (k v : Nat) : va_up (oN on) k (nI v) = oN (va_up on k v) := by
  funext j
  unfold oN
  by_cases h : j = k
  · rw [h, va_up_self, va_up_self]
  · rw [va_up_ne _ _ h, va_up_ne _ _ h]
def faO (o : Option Nat) (s : Nat) : Nat := match o with
  | some e => e
  | none => s
def faN (E : cE) (on : Nat → Nat) (s : Nat) : Nat := faO (fstB (fun e => eLike E (on e) (on s)) s) s
theorem fstB_lt {ok : Nat → Bool} : ∀ {n p : Nat}, fstB ok n = some p → p < n ∧ ok p = true
  | n + 1, p, h => by
    unfold fstB at h
    cases hf : fstB ok n with
    | some p' =>
      rw [hf] at h
      cases h
      have := fstB_lt hf
      exact ⟨by omega, this.2⟩
    | none =>
      rw [hf] at h
      dsimp only at h
      split at h
      · cases h; exact ⟨by omega, by assumption⟩
      · cases h
theorem faN_le (E : cE) (on : Nat → Nat) (s : Nat) : faN E on s ≤ s := by
  unfold faN faO
  split
  · rename_i e he
    have := (fstB_lt he).1
    omega
  · exact Nat.le_refl s
def secB (E : cE) (on : Nat → Nat) (s : Nat) : List Int32 := nI (on s) :: (if faN E on s < s then [nI 1, nI (faN E on s)] else nI 0 :: (wrL E (on s) 100).2)
def wsO1 (E : cE) (on : Nat → Nat) (O : cO) (s : Nat) : cO := oApps O 1 (secB E on s)
def wsO (E : cE) (on : Nat → Nat) (O : cO) (s : Nat) : cO := oApps (wsO1 E on O s) 1 (b4 (smF (oAt (wsO1 E on O s) 1) (O.2.1 1) ((wsO1 E on O s).2.1 1 - O.2.1 1)) 4)
theorem oApp_mono (O : cO) (b : Nat) (x : Int32) : O.2.1 b ≤ (oApp O b x).2.1 b := by
  unfold oApp
  split
  · simp [va_up]
  · exact Nat.le_refl _
theorem oApps_mono (b : Nat) : ∀ (xs : List Int32) (O : cO), O.2.1 b ≤ (oApps O b xs).2.1 b
  | [], _ => Nat.le_refl _
  | x :: xs, O => Nat.le_trans (oApp_mono O b x) (oApps_mono b xs _)
def headB (S : cS) (whole : Bool) : List Int32 := [nI 70, nI 77, if whole = true then nI 0 else nI 1, S.2.2.1] ++ (if whole = true then [] else b4 S.2.2.2.2.2.2 4)
def wfL (E : cE) (nd : Nat → Int32) : Nat → Nat → cO → (Nat → Nat) → Int32 → cO × (Nat → Nat)
  | 0, _, O, on, _ => (O, on)
  | n + 1, s, O, on, w => if w = 0 then (O, on) else match fstB (fwOk nd w) 12 with
    | none => (O, on)
    | some p => wfL E nd n (s + 1) (wsO E (va_up on s p) O s) (va_up on s p) (w &&& (bitI p ^^^ (-1)))
def wfW (E : cE) (S : cS) (whole : Bool) : Int32 := if whole = true then pwE E 12 else S.2.1
def wfO0 (S : cS) (O : cO) (whole : Bool) (w : Int32) : cO := oApp (oApps (O.1, va_up O.2.1 1 0, va_up O.2.2 1 false) 1 (headB S whole)) 1 (bcI w)
def wfF (E : cE) (S : cS) (O : cO) (on : Nat → Nat) (whole : Bool) : cO × (Nat → Nat) := wfL E S.1 12 0 (wfO0 S O whole (wfW E S whole)) on (wfW E S whole)
theorem wsO_len {E : cE} {on : Nat → Nat} {O : cO} {s : Nat} (h : O.2.1 1 ≤ 8000) : (wsO E on O s).2.1 1 ≤ 8000 := oApps_len (oApps_len h)
theorem wfL_end {E : cE} {nd : Nat → Int32} {n s : Nat} {O : cO} {on : Nat → Nat} {w : Int32} (h : n = 0 ∨ w = 0 ∨ fstB (fwOk nd w) 12 = none) : wfL E nd n s O on w = (O, on) := by
  cases n with
  | zero => rfl
  | succ n =>
    unfold wfL
    rcases h with h | h | h
    · omega
    · rw [if_pos h]
    · rw [h]
      split <;> rfl
theorem wfL_go {E : cE} {nd : Nat → Int32} {n s p : Nat} {O : cO} {on : Nat → Nat} {w : Int32} (h : ¬ w = 0) (hf : fstB (fwOk nd w) 12 = some p) : wfL E nd (n + 1) s O on w = wfL E nd n (s + 1) (wsO E (va_up on s p) O s) (va_up on s p) (w &&& (bitI p ^^^ (-1))) := by
  rw [wfL, if_neg h, hf]
theorem oApps_2 (O : cO) (b : Nat) (x y : Int32) (xs : List Int32) : oApps O b (x :: y :: xs) = oApps (oApp (oApp O b x) b y) b xs := rfl
theorem oApps_n (O : cO) (b : Nat) : oApps O b [] = O := rfl
