/-! the object's own methods -/
def cl (x : Int32) : Nat := x.toNatClampNeg
theorem xIn_cl {x : Int32} {n : Nat} (hn : n < 2 ^ 31) (h : xIn x n = true) : cl x < n ∧ x = nI (cl x) := by
  obtain ⟨j, h1, h2⟩ := xIn_of hn h
  have : cl x = j := by unfold cl; rw [h2, nI_clamp (by omega)]
  rw [this]
  exact ⟨h1, h2⟩
def rocV (S : cS) (x y : Int32) : Int32 := if xIn x 12 = true then (if xIn y 100 = true then (if S.2.2.2.2.1 = true then -3 else nI 0) else -2) else -1
theorem roc_0 {S : cS} {x y : Int32} (h : rocV S x y = 0) : xIn x 12 = true ∧ xIn y 100 = true ∧ S.2.2.2.2.1 = false := by
  unfold rocV at h
  by_cases h1 : xIn x 12 = true
  · by_cases h2 : xIn y 100 = true
    · by_cases h3 : S.2.2.2.2.1 = true
      · rw [if_pos h1, if_pos h2, if_pos h3] at h; exact absurd h (by decide)
      · exact ⟨h1, h2, by simpa using h3⟩
    · rw [if_pos h1, if_neg h2] at h; exact absurd h (by decide)
  · rw [if_neg h1] at h; exact absurd h (by decide)
def fpE (E : cE) (S : cS) (x y : Int32) (v : Int64) : cE := if rocV S x y = 0 then seE E (cl x) (cl y) v else E
def fpS (E : cE) (S : cS) (x y : Int32) (v : Int64) : cS := if rocV S x y = 0 then seS E S (cl x) (cl y) v else S
def fpV (E : cE) (S : cS) (x y : Int32) (v : Int64) : Int32 := if rocV S x y = 0 then nI ((seE E (cl x) (cl y) v).2.2 (cl x)) else rocV S x y
def ftE (E : cE) (S : cS) (x y : Int32) : cE := if rocV S x y = 0 then drE E (cl x) (cl y) else E
def ftS (E : cE) (S : cS) (x y : Int32) : cS := if rocV S x y = 0 then drS E S (cl x) (cl y) else S
def ftV (E : cE) (S : cS) (x y : Int32) : Int32 := if rocV S x y = 0 then cI (E.1 (cl x) (cl y)) else rocV S x y
def fnB (S : cS) (x y : Int32) (d : Bool) : Bool := d && bt (ldR S.1 (bitI (cl y)) 11) (cl x)
def fnV (S : cS) (x y : Int32) (d : Bool) : Int32 := if (xIn x 12 && xIn y 12) = true then (if fnB S x y d = true then -3 else cI (!decide (bt (S.1 (cl x)) (cl y) = d))) else -1
def fnS (S : cS) (x y : Int32) (d : Bool) : cS := if (xIn x 12 && xIn y 12) = true then (if fnB S x y d = true then S else (if bt (S.1 (cl x)) (cl y) = d then S else (va_up S.1 (cl x) (S.1 (cl x) ^^^ bitI (cl y)), S.2))) else S
def fvB (x : Int32) : Bool := decide (nI 1 ≤ x) && decide (x ≤ nI 200)
def fmB (x : Int32) : Bool := decide (0 ≤ x) && decide (x ≤ nI 1)
def fsG (S : cS) (d : Bool) : Bool := d || S.2.2.2.2.2.1
def fsO (E : cE) (S : cS) (O : cO) (on : Nat → Nat) (d : Bool) : cO := (wfF E S O on d).1
def fsOv (E : cE) (S : cS) (O : cO) (on : Nat → Nat) (d : Bool) : Bool := (fsO E S O on d).2.2 1
def fsO2 (O1 : cO) : cO := (va_up O1.1 0 (va_cpy (O1.1 1) (O1.1 0) 0 0 (O1.2.1 1)), va_up O1.2.1 0 (O1.2.1 1), O1.2.2)
def fsOf (E : cE) (S : cS) (O : cO) (on : Nat → Nat) (d : Bool) : cO := if fsG S d = true then (if fsOv E S O on d = true then fsO E S O on d else fsO2 (fsO E S O on d)) else O
def fsOn (E : cE) (S : cS) (O : cO) (on : Nat → Nat) (d : Bool) : Nat → Nat := if fsG S d = true then (wfF E S O on d).2 else on
def fsS2 (S : cS) (O2 : cO) : cS := (S.1, nI 0, S.2.2.1, S.2.2.2.1, S.2.2.2.2.1, true, smF (oAt O2 0) 0 (O2.2.1 0))
def fsSf (E : cE) (S : cS) (O : cO) (on : Nat → Nat) (d : Bool) : cS := if (fsG S d && !fsOv E S O on d && d) = true then fsS2 S (fsO2 (fsO E S O on d)) else S
def fsV (E : cE) (S : cS) (O : cO) (on : Nat → Nat) (d : Bool) : Int32 := if fsG S d = true then (if fsOv E S O on d = true then -4 else nI ((fsO2 (fsO E S O on d)).2.1 0)) else -3
def oFit (O : cO) : Prop := ∀ b j, fits .byte (.int (O.1 b j)) = true
theorem oFit_app {O : cO} (h : oFit O) (b : Nat) (x : Int32) : oFit (oApp O b x) := by
  intro a j
  unfold oApp
  split
  · dsimp only
    by_cases e : a = b
    · subst e
      rw [va_up_self]
      by_cases e2 : j = O.2.1 a
      · rw [e2, va_up_self]; exact pk_fb x
      · rw [va_up_ne _ _ e2]; exact h a j
    · rw [va_up_ne _ _ e]; exact h a j
  · exact h a j
theorem oFit_apps : ∀ (xs : List Int32) {O : cO} (b : Nat), oFit O → oFit (oApps O b xs)
  | [], _, _, h => h
  | x :: xs, _, b, h => oFit_apps xs b (oFit_app h b x)
theorem oFit_wfL {E : cE} {nd : Nat → Int32} : ∀ (n s : Nat) (O : cO) (on : Nat → Nat) (w : Int32), oFit O → oFit (wfL E nd n s O on w).1
  | 0, _, _, _, _, h => h
  | n + 1, s, O, on, w, h => by
    unfold wfL
    split
    · exact h
    · split
      · exact h
      · exact oFit_wfL n _ _ _ _ (oFit_apps _ _ (oFit_apps _ _ h))
theorem oFit_wfF {E : cE} {S : cS} {O : cO} {on : Nat → Nat} {d : Bool} (h : oFit O) : oFit (wfF E S O on d).1 := by
  have h0 : oFit (O.1, va_up O.2.1 1 0, va_up O.2.2 1 false) := fun b j => h b j
  have h1 := oFit_apps (headB S d) 1 h0
  have h2 := oFit_app h1 1 (bcI (wfW E S d))
  exact oFit_wfL 12 0 _ on (wfW E S d) h2
theorem wfL_len {E : cE} {nd : Nat → Int32} : ∀ (n s : Nat) (O : cO) (on : Nat → Nat) (w : Int32), O.2.1 1 ≤ 8000 → (wfL E nd n s O on w).1.2.1 1 ≤ 8000
  | 0, _, _, _, _, h => h
  | n + 1, s, O, on, w, h => by
    unfold wfL
    split
    · exact h
    · split
      · exact h
      · exact wfL_len n _ _ _ _ (wsO_len h)
theorem wfF_len {E : cE} {S : cS} {O : cO} {on : Nat → Nat} {d : Bool} : (wfF E S O on d).1.2.1 1 ≤ 8000 := by
  unfold wfF wfO0
  exact wfL_len _ _ _ _ _ (oApp_len (oApps_len (by simp [va_up])))
def fcB (O : cO) (x : Int32) : Bool := decide (0 ≤ x) && decide (x ≤ nI (O.2.1 0))
def faV (O : cO) (x : Int32) : Int32 := if O.2.1 0 < 8000 then nI ((oApp O 0 x).2.1 0) else -4
def faO' (O : cO) (x : Int32) : cO := if O.2.1 0 < 8000 then oApp O 0 x else O
def fkB (x : Int32) : Bool := decide (nI 1 ≤ x) && decide (x ≤ nI 255)
def fkO (O : cO) (x y : Int32) : cO := if (xIn x (O.2.1 0) && fkB y) = true then (va_up O.1 0 (va_up (O.1 0) (cl x) (xb (O.1 0 (cl x) ^^^ y))), O.2) else O
def fkV (O : cO) (x y : Int32) : Int32 := if xIn x (O.2.1 0) = true then (if fkB y = true then oAt (fkO O x y) 0 (cl x) else -2) else -1
def ftoV (sec : Nat) (po : Nat → Option Nat) (re cf : Nat → Int32) (x y : Int32) : Int32 := if xIn x sec = true then (if y = nI 0 then lP po (cl x) else if y = nI 1 then re (cl x) else if y = nI 2 then cf (cl x) else -1) else -1
def fcoV (E : cE) (S : cS) (O : cO) (sec : Nat) (cf : Nat → Int32) (x : Int32) : Int32 := if x = nI 0 then nI sec else if x = nI 1 then acI cf sec else if x = nI 2 then nI (O.2.1 0) else if x = nI 3 then bcI (pwE E 12) else if x = nI 4 then bcI S.2.1 else if x = nI 5 then nI (aeE E 12) else -2
def fsaV (E : cE) (x y : Int32) : Bool := xIn x 12 && (xIn y 12 && eLike E (cl x) (cl y))
def flG (S : cS) (O : cO) : Bool := !S.2.2.2.2.1 && (decide (¬ O.2.1 0 = 0) && decide (raW S O = 0))
theorem fn_1 {S : cS} {x y : Int32} {d : Bool} (h : xIn x 12 = false ∨ xIn y 12 = false) : fnV S x y d = -1 ∧ fnS S x y d = S := by
  unfold fnV fnS
  rcases h with h | h
  · simp [h]
  · simp [h]
theorem fn_2 {S : cS} {x y : Int32} {d : Bool} (h1 : xIn x 12 = true) (h2 : xIn y 12 = true) (h : fnB S x y d = true) : fnV S x y d = -3 ∧ fnS S x y d = S := by
  unfold fnV fnS
  simp [h1, h2, h]
theorem fn_3 {S : cS} {x y : Int32} {d : Bool} (h1 : xIn x 12 = true) (h2 : xIn y 12 = true) (h : fnB S x y d = false) : fnV S x y d = cI (!decide (bt (S.1 (cl x)) (cl y) = d)) ∧ fnS S x y d = (if bt (S.1 (cl x)) (cl y) = d then S else (va_up S.1 (cl x) (S.1 (cl x) ^^^ bitI (cl y)), S.2)) := by
  unfold fnV fnS
  simp [h1, h2, h]
theorem fs_1 {E : cE} {S : cS} {O : cO} {on : Nat → Nat} {d : Bool} (h : fsG S d = false) : fsV E S O on d = -3 ∧ fsSf E S O on d = S ∧ fsOf E S O on d = O ∧ fsOn E S O on d = on := by
  unfold fsV fsSf fsOf fsOn
  simp [h]
theorem fs_2 {E : cE} {S : cS} {O : cO} {on : Nat → Nat} {d : Bool} (h : fsG S d = true) (h2 : fsOv E S O on d = true) : fsV E S O on d = -4 ∧ fsSf E S O on d = S ∧ fsOf E S O on d = fsO E S O on d ∧ fsOn E S O on d = (wfF E S O on d).2 := by
  unfold fsV fsSf fsOf fsOn
  simp [h, h2]
theorem fs_3 {E : cE} {S : cS} {O : cO} {on : Nat → Nat} {d : Bool} (h : fsG S d = true) (h2 : fsOv E S O on d = false) : fsV E S O on d = nI ((fsO2 (fsO E S O on d)).2.1 0) ∧ fsSf E S O on d = (if d = true then fsS2 S (fsO2 (fsO E S O on d)) else S) ∧ fsOf E S O on d = fsO2 (fsO E S O on d) ∧ fsOn E S O on d = (wfF E S O on d).2 := by
  unfold fsV fsSf fsOf fsOn
  simp [h, h2]
theorem fsO2_len {O : cO} (h : O.2.1 1 ≤ 8000) : (fsO2 O).2.1 0 ≤ 8000 := by
  unfold fsO2
  dsimp only
  rw [va_up_self]
  exact h
def flT (E : cE) (S : cS) (O : cO) (po : Nat → Option Nat) (re cf : Nat → Int32) (so : Nat → Nat) : cT := lsT E S O po re cf so
def flV (E : cE) (S : cS) (O : cO) (po : Nat → Option Nat) (re cf : Nat → Int32) (so : Nat → Nat) : Int32 := if S.2.2.2.2.1 = true then -3 else if O.2.1 0 = 0 then nI 0 else if raW S O = 0 then nI (lsT E S O po re cf so).2.2.2.2.2 else -10 - raW S O
theorem raW_n (S : cS) (O : cO) : raW S O = nI 0 ∨ raW S O = nI 1 ∨ raW S O = nI 2 ∨ raW S O = nI 3 := by
  unfold raW
  split
  · split
    · split
      · simp
      · simp
    · simp
  · simp
theorem byte_0 (O : cO) (b i : Nat) (x : Int32) : vp_nar .byte (xb x) = xb x := pk_vb x
