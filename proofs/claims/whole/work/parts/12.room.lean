/-! octets with a room: a byte beyond it is counted alone -/
def oApR (O : cO) (b : Nat) (x : Int32) : cO := (if O.2.1 b < rm b then va_up O.1 b (va_up (O.1 b) (O.2.1 b) (xb x)) else O.1, va_up O.2.1 b (O.2.1 b + 1), O.2.2)
def oApsR (O : cO) (b : Nat) (xs : List Int32) : cO := xs.foldl (fun O x => oApR O b x) O
theorem oApsR_s (O : cO) (b : Nat) (xs : List Int32) (x : Int32) : oApsR O b (xs ++ [x]) = oApR (oApsR O b xs) b x := by simp [oApsR, List.foldl_append]
theorem oApsR_c (O : cO) (b : Nat) (xs : List Int32) (x : Int32) : oApsR O b (x :: xs) = oApsR (oApR O b x) b xs := rfl
theorem oApsR_app (O : cO) (b : Nat) (xs ys : List Int32) : oApsR O b (xs ++ ys) = oApsR (oApsR O b xs) b ys := by simp [oApsR, List.foldl_append]
theorem oApsR_n (O : cO) (b : Nat) : oApsR O b [] = O := rfl
theorem oApR_len (O : cO) (b : Nat) (x : Int32) : (oApR O b x).2.1 b = O.2.1 b + 1 := va_up_self _ _ _
theorem oApsR_len (b : Nat) : ∀ (xs : List Int32) (O : cO), (oApsR O b xs).2.1 b = O.2.1 b + xs.length
  | [], _ => rfl
  | x :: xs, O => by
    rw [oApsR_c, oApsR_len b xs, oApR_len, List.length_cons]
    omega
def oAtR (O : cO) (b i : Nat) : Int32 := if i < O.2.1 b ∧ i < rm b then O.1 b i &&& nI 255 else nI 0
theorem oAtR_0 {O : cO} (h : O.2.1 0 ≤ 8000) : oAtR O 0 = oAt O 0 := by
  funext i
  unfold oAtR oAt
  by_cases h1 : i < O.2.1 0
  · rw [if_pos h1, if_pos ⟨h1, show i < 8000 by omega⟩]
  · rw [if_neg h1, if_neg (fun z => h1 z.1)]
theorem cB_len : ∀ (n : Nat) (v : Int64), (cB n v).length ≤ n + 1
  | 0, _ => Nat.le_refl 1
  | n + 1, v => by
    unfold cB
    split
    · simp
    · have := cB_len n (ush7 v)
      rw [List.length_cons]
      omega
theorem b4_len (v : Int32) (k : Nat) : (b4 v k).length = k := by simp [b4]
theorem xIn_and {x : Int32} {m n : Nat} (h : m ≤ n) (hn : n < 2 ^ 31) : (xIn x m && xIn x n) = xIn x m := by
  cases hx : xIn x m with
  | false => rfl
  | true =>
    obtain ⟨j, h1, h2⟩ := xIn_of (by omega) hx
    rw [h2, xIn_nI (by omega) hn, decide_eq_true (by omega)]
    rfl
