theorem xz_eq {n : Nat} (h : n < 2 ^ 31) : nI n = 0 ↔ n = 0 := by rw [← nI_0]; exact nI_eq h (by decide)
theorem xz_le {n : Nat} (h : n < 2 ^ 31) : nI n ≤ 0 ↔ n = 0 := by rw [← nI_0, nI_leI h (by decide)]; omega
theorem xz_gt {n : Nat} (h : n < 2 ^ 31) : 0 < nI n ↔ 0 < n := by rw [← nI_0]; exact nI_ltI (by decide) h
section XB
variable {p : Program} {l : Launch} {e : Env} {R : Room} {s : State} {m : MethodId} {args : Array Value} {below : List Frame} {meth : Method} {c : Code}
variable {G : xD} {A : Nat → Prop} {nL : Nat} {Q : State → Prop} {sz cs ss pc : Nat} {w : xw} {lv : List (Nat × Value)} {st : List Value}
theorem xv_rs {v : Value} (k : xV p l e R s m args below meth c G A nL Q sz w cs ss pc lv (v :: st)) : xV p l e R s m args below meth c G A nL Q sz w cs ss pc lv ((some v).toList ++ st) := k
theorem xv_rn (k : xV p l e R s m args below meth c G A nL Q sz w cs ss pc lv st) : xV p l e R s m args below meth c G A nL Q sz w cs ss pc lv ((none : Option Value).toList ++ st) := k
end XB
/-! rows of a part -/
def eSet (E : cE) (q i : Nat) (v : Int64) : cE := (va_up E.1 q (va_up (E.1 q) i true), va_up E.2.1 q (va_up (E.2.1 q) i v), va_up E.2.2 q (if E.1 q i = true then E.2.2 q else E.2.2 q + 1))
def eDrop (E : cE) (q i : Nat) : cE := (va_up E.1 q (va_up (E.1 q) i false), E.2.1, va_up E.2.2 q (if E.1 q i = true then E.2.2 q - 1 else E.2.2 q))
def eClr (E : cE) (q : Nat) : cE := (va_up E.1 q (fun j => if j < 100 then false else E.1 q j), E.2.1, va_up E.2.2 q 0)
def allB (f : Nat → Bool) : Nat → Bool
  | 0 => true
  | n + 1 => allB f n && f n
theorem allB_iff (f : Nat → Bool) : ∀ n, allB f n = true ↔ ∀ i, i < n → f i = true
  | 0 => ⟨fun _ i h => absurd h (Nat.not_lt_zero i), fun _ => rfl⟩
  | n + 1 => by
    rw [allB, Bool.and_eq_true, allB_iff f n]
    exact ⟨fun h => lt_s h.1 h.2, fun h => ⟨fun i hi => h i (by omega), h n (by omega)⟩⟩
theorem allB_no {f : Nat → Bool} {n i : Nat} (hi : i < n) (h : f i = false) : allB f n = false := by
  cases hb : allB f n with
  | false => rfl
  | true => rw [(allB_iff f n).mp hb i hi] at h; cases h
def eHolds (E : cE) (q i : Nat) (v : Int64) : Bool := E.1 q i && decide (E.2.1 q i = v)
def eIn (E : cE) (a b : Nat) : Bool := allB (fun i => !(E.1 a i) || eHolds E b i (E.2.1 a i)) 100
def eLike (E : cE) (a b : Nat) : Bool := decide (E.2.2 a = E.2.2 b) && eIn E a b
theorem lcmp_ne {x y : Int64} : ¬ lg_cmp x y = 0 ↔ x ≠ y := by
  unfold lg_cmp
  by_cases h1 : y < x
  · simp only [h1, if_true]
    exact ⟨fun _ e => absurd h1 (by rw [e]; exact Int64.lt_irrefl), fun _ => by decide⟩
  · by_cases h2 : x = y
    · simp [h2]
    · simp [h1, h2]
theorem va_up_id {α : Type} {f : Nat → α} {k : Nat} {v : α} (h : f k = v) : va_up f k v = f := by
  funext j
  by_cases hj : j = k
  · rw [hj, va_up_self, h]
  · rw [va_up_ne _ _ hj]
theorem eqP {α β : Type} {a a' : α} {b b' : β} (h1 : a = a') (h2 : b = b') : (a, b) = (a', b') := by rw [h1, h2]
theorem clr_s (f : Nat → Bool) (i : Nat) : va_up (fun j => if j < i then false else f j) i false = fun j => if j < i + 1 then false else f j := by
  funext j
  by_cases hj : j = i
  · rw [hj, va_up_self, if_pos (by omega)]
  · rw [va_up_ne _ _ hj]
    by_cases h2 : j < i
    · rw [if_pos h2, if_pos (by omega)]
    · rw [if_neg h2, if_neg (by omega)]
theorem cI_c1 : nI 1 = cI true := by decide
theorem cI_c0 : nI 0 = cI false := by decide
