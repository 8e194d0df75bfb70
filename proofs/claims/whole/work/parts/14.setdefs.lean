/-! the setter's state: pure pictures of its methods -/
def cnt (f : Nat → Bool) : Nat → Nat
  | 0 => 0
  | n + 1 => cnt f n + (if f n = true then 1 else 0)
theorem cnt_le (f : Nat → Bool) : ∀ n, cnt f n ≤ n
  | 0 => Nat.le_refl 0
  | n + 1 => by
    have := cnt_le f n
    unfold cnt
    split <;> omega
theorem cnt_pos {f : Nat → Bool} {i : Nat} (h : f i = true) : ∀ {n : Nat}, i < n → 1 ≤ cnt f n
  | n + 1, hi => by
    unfold cnt
    by_cases e : i = n
    · subst e; rw [if_pos h]; omega
    · have := cnt_pos (f := f) h (show i < n by omega)
      omega
theorem cnt_out {f : Nat → Bool} {i : Nat} {b : Bool} : ∀ {n : Nat}, n ≤ i → cnt (va_up f i b) n = cnt f n
  | 0, _ => rfl
  | n + 1, h => by
    unfold cnt
    rw [cnt_out (show n ≤ i by omega), va_up_ne _ _ (show n ≠ i by omega)]
theorem cnt_t {f : Nat → Bool} {i : Nat} : ∀ {n : Nat}, i < n → cnt (va_up f i true) n = if f i = true then cnt f n else cnt f n + 1
  | n + 1, h => by
    by_cases e : i = n
    · subst e
      unfold cnt
      rw [cnt_out (Nat.le_refl i), va_up_self]
      by_cases hf : f i = true
      · simp [hf]
      · simp [hf]
    · unfold cnt
      rw [cnt_t (show i < n by omega), va_up_ne _ _ (show n ≠ i by omega)]
      by_cases hf : f i = true
      · simp [hf]
      · simp only [hf, if_false, Bool.false_eq_true]; omega
theorem cnt_f {f : Nat → Bool} {i : Nat} : ∀ {n : Nat}, i < n → cnt (va_up f i false) n = if f i = true then cnt f n - 1 else cnt f n
  | n + 1, h => by
    by_cases e : i = n
    · subst e
      unfold cnt
      rw [cnt_out (Nat.le_refl i), va_up_self]
      by_cases hf : f i = true
      · simp [hf]
      · simp [hf]
    · unfold cnt
      rw [cnt_f (show i < n by omega), va_up_ne _ _ (show n ≠ i by omega)]
      by_cases hf : f i = true
      · have := cnt_pos (f := f) hf (show i < n by omega)
        simp only [hf, if_true]; omega
      · simp [hf]
def eOK (E : cE) : Prop := ∀ q, q < 26 → E.2.2 q = cnt (E.1 q) 100
theorem eOK.lt {E : cE} (h : eOK E) {q : Nat} (hq : q < 26) : E.2.2 q ≤ 100 := by rw [h q hq]; exact cnt_le _ _
theorem eOK.pos {E : cE} (h : eOK E) {q i : Nat} (hq : q < 26) (hi : i < 100) (ht : E.1 q i = true) : 1 ≤ E.2.2 q := by rw [h q hq]; exact cnt_pos ht hi
theorem eOK.set {E : cE} (h : eOK E) {a i : Nat} (ha : a < 26) (hi : i < 100) (v : Int64) : eOK (eSet E a i v) := by
  intro q hq
  unfold eSet
  dsimp only
  by_cases e : q = a
  · subst e
    rw [va_up_self, va_up_self, cnt_t hi, h q hq]
  · rw [va_up_ne _ _ e, va_up_ne _ _ e]; exact h q hq
theorem eOK.drop {E : cE} (h : eOK E) {a i : Nat} (ha : a < 26) (hi : i < 100) : eOK (eDrop E a i) := by
  intro q hq
  unfold eDrop
  dsimp only
  by_cases e : q = a
  · subst e
    rw [va_up_self, va_up_self, cnt_f hi, h q hq]
  · rw [va_up_ne _ _ e, va_up_ne _ _ e]; exact h q hq
theorem cnt_0 {f : Nat → Bool} : ∀ {n : Nat}, (∀ i, i < n → f i = false) → cnt f n = 0
  | 0, _ => rfl
  | n + 1, h => by
    unfold cnt
    rw [cnt_0 (fun i hi => h i (by omega)), h n (by omega)]
    rfl
theorem eOK.clr {E : cE} (h : eOK E) {a : Nat} : eOK (eClr E a) := by
  intro q hq
  unfold eClr
  dsimp only
  by_cases e : q = a
  · subst e
    rw [va_up_self, va_up_self, cnt_0 (fun i hi => by simp [hi])]
  · rw [va_up_ne _ _ e, va_up_ne _ _ e]; exact h q hq
def seE (E : cE) (p i : Nat) (v : Int64) : cE := if eHolds E p i v = true then E else eSet E p i v
def seS (E : cE) (S : cS) (p i : Nat) (v : Int64) : cS := if eHolds E p i v = true then S else (S.1, S.2.1 ||| bitI p, S.2.2)
def drE (E : cE) (p i : Nat) : cE := if E.1 p i = true then eDrop E p i else E
def drS (E : cE) (S : cS) (p i : Nat) : cS := if E.1 p i = true then (S.1, S.2.1 ||| bitI p, S.2.2) else S
theorem eOK.se {E : cE} (h : eOK E) {p i : Nat} (hp : p < 26) (hi : i < 100) (v : Int64) : eOK (seE E p i v) := by
  unfold seE
  split
  · exact h
  · exact h.set hp hi v
theorem eOK.dr {E : cE} (h : eOK E) {p i : Nat} (hp : p < 26) (hi : i < 100) : eOK (drE E p i) := by
  unfold drE
  split
  · exact h.drop hp hi
  · exact h
def ldS (nd : Nat → Int32) (r : Int32) (q : Nat) : Int32 := if bt r q = true then r ||| nd q else r
def ldP (nd : Nat → Int32) (r : Int32) : Nat → Int32
  | 0 => r
  | q + 1 => ldS nd (ldP nd r q) q
def ldR (nd : Nat → Int32) (r : Int32) : Nat → Int32
  | 0 => r
  | k + 1 => ldP nd (ldR nd r k) 12
/-- the least below n that is so -/
def fstB (ok : Nat → Bool) : Nat → Option Nat
  | 0 => none
  | n + 1 => match fstB ok n with
    | some p => some p
    | none => if ok n = true then some n else none
theorem fstB_no {ok : Nat → Bool} : ∀ {n : Nat}, (∀ i, i < n → ok i = false) → fstB ok n = none
  | 0, _ => rfl
  | n + 1, h => by
    unfold fstB
    rw [fstB_no (fun i hi => h i (by omega))]
    simp [h n (by omega)]
theorem fstB_yes {ok : Nat → Bool} {i : Nat} (hi : ok i = true) (hb : ∀ j, j < i → ok j = false) : ∀ {n : Nat}, i < n → fstB ok n = some i
  | n + 1, h => by
    unfold fstB
    by_cases e : i = n
    · subst e
      rw [fstB_no hb]
      simp [hi]
    · rw [fstB_yes hi hb (show i < n by omega)]
def fwOk (nd : Nat → Int32) (w : Int32) (p : Nat) : Bool := bt w p && decide (nd p &&& w = 0)
def fwR (o : Option Nat) : Int32 := match o with
  | some p => nI p
  | none => -1
def pwE (E : cE) : Nat → Int32
  | 0 => nI 0
  | n + 1 => if 0 < E.2.2 n then pwE E n ||| bitI n else pwE E n
def aeE (E : cE) : Nat → Nat
  | 0 => 0
  | n + 1 => aeE E n + E.2.2 n
/-- a conflict at i: another one is there -/
def cfl (E : cE) (p q i : Nat) : Bool := E.1 p i && !decide (E.2.1 p i = E.2.1 q i)
def mgC (E : cE) (p q i : Nat) : Bool := E.1 q i && cfl E p q i
def mgD (E : cE) (S : cS) (p q i : Nat) : Bool := E.1 q i && (!cfl E p q i || decide (S.2.2.2.1 = nI 1))
def mgE (E : cE) (S : cS) (p q : Nat) : Nat → cE × cS × Nat
  | 0 => (E, S, 0)
  | i + 1 => let T := mgE E S p q i
    (if mgD T.1 T.2.1 p q i = true then seE T.1 p i (T.1.2.1 q i) else T.1, if mgD T.1 T.2.1 p q i = true then seS T.1 T.2.1 p i (T.1.2.1 q i) else T.2.1, if mgC T.1 p q i = true then T.2.2 + 1 else T.2.2)
def rpE (E : cE) (S : cS) (p q : Nat) : Nat → cE × cS
  | 0 => (E, S)
  | i + 1 => let T := rpE E S p q i
    if T.1.1 q i = true then (seE T.1 p i (T.1.2.1 q i), seS T.1 T.2 p i (T.1.2.1 q i)) else (drE T.1 p i, drS T.1 T.2 p i)
theorem mgE_ok {E : cE} {S : cS} {p q : Nat} (h : eOK E) (hp : p < 26) : ∀ i, i ≤ 100 → eOK (mgE E S p q i).1
  | 0, _ => h
  | i + 1, hi => by
    have := mgE_ok (S := S) (q := q) h hp i (by omega)
    unfold mgE
    dsimp only
    split
    · exact this.se hp (by omega) _
    · exact this
theorem rpE_ok {E : cE} {S : cS} {p q : Nat} (h : eOK E) (hp : p < 26) : ∀ i, i ≤ 100 → eOK (rpE E S p q i).1
  | 0, _ => h
  | i + 1, hi => by
    have := rpE_ok (S := S) (q := q) h hp i (by omega)
    unfold rpE
    dsimp only
    split
    · exact this.se hp (by omega) _
    · exact this.dr hp (by omega)
theorem mgE_cn {E : cE} {S : cS} {p q : Nat} : ∀ i, (mgE E S p q i).2.2 ≤ i
  | 0 => Nat.le_refl 0
  | i + 1 => by
    have := mgE_cn (E := E) (S := S) (p := p) (q := q) i
    unfold mgE
    dsimp only
    split <;> omega
