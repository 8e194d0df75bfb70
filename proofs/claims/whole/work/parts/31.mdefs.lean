/-! the reference: pure pictures -/
theorem ixm (a p i : Nat) : nI a * nI p + nI i = nI (a * p + i) := by rw [pk_mul, nI_add]
def inL (v a b : Int64) : Bool := decide (a ≤ v) && decide (v ≤ b)
theorem inX {y : Int32} {n : Nat} {b : Int64} (hn : n + 1 < 2 ^ 31) (hb : b.toInt = n) : inL y.toInt64 0 b = xIn y (n + 1) := by
  unfold inL xIn
  have h0 : (0 : Int64).toInt = 0 := by decide
  have h00 : (0 : Int32).toInt = 0 := by decide
  congr 1
  · congr 1
    rw [Int64.le_iff_toInt_le, Int32.lt_iff_toInt_lt, Int32.toInt_toInt64, h0, h00]
    exact propext ⟨fun h => by omega, fun h => by omega⟩
  · congr 1
    rw [Int64.le_iff_toInt_le, Int32.le_iff_toInt_le, Int32.toInt_toInt64, hb, nI_toInt hn]
    exact propext ⟨fun h => by omega, fun h => by omega⟩
abbrev mz (M : mT) (k i : Nat) : Bool := M.2.2.2.1 k i
abbrev my (M : mT) (k i : Nat) : Int32 := M.2.2.2.2.1 k i
abbrev mj (M : mT) (k i : Nat) : Int64 := M.2.2.2.2.2.1 k i
def mHas (M : mT) (p : Nat) : Nat → Bool := fun i => mz M 1 (100 * p + i)
def mEnt (M : mT) (p : Nat) : Nat := cnt (mHas M p) 100
def mSet (M : mT) (p i : Nat) (v : Int64) : mT := mJi (mZi (mZi M 4 p (mz M 4 p || (!mz M 1 (100 * p + i) || !decide (mj M 2 (100 * p + i) = v)))) 1 (100 * p + i) true) 2 (100 * p + i) v
def mRem (M : mT) (p i : Nat) : mT := mZi (mZi M 1 (100 * p + i) false) 4 p (mz M 4 p || mz M 1 (100 * p + i))
def mRoc (M : mT) (x y : Int32) : Int32 := if xIn x 12 = true then (if xIn y 100 = true then (if M.2.1 7 = true then -3 else nI 0) else -2) else -1
def mT0 (M : mT) : mT := mI M 0 (nI 0)
def mqR (nd : Nat → Bool) (R : Nat → Bool) (p n : Nat) : Nat → Bool := fun q => if q < n then R q || (R p && nd (12 * p + q)) else R q
def mpR (nd : Nat → Bool) (R : Nat → Bool) : Nat → Nat → Bool
  | 0 => R
  | p + 1 => mqR nd (mpR nd R p) p 12
def mrR (nd : Nat → Bool) (R : Nat → Bool) : Nat → Nat → Bool
  | 0 => R
  | k + 1 => mpR nd (mrR nd R k) 12
def m0R (R : Nat → Bool) (f n : Nat) : Nat → Bool := fun p => if p < n then decide (p = f) else R p
theorem m0R_s (R : Nat → Bool) (f n : Nat) : va_up (m0R R f n) n (decide (n = f)) = m0R R f (n + 1) := by
  funext p
  unfold m0R
  by_cases h : p = n
  · rw [h, va_up_self, if_pos (by omega)]
  · rw [va_up_ne _ _ h]
    by_cases h2 : p < n
    · rw [if_pos h2, if_pos (by omega)]
    · rw [if_neg h2, if_neg (by omega)]
theorem m0R_0 (R : Nat → Bool) (f : Nat) : m0R R f 0 = R := by
  funext p
  unfold m0R
  rw [if_neg (by omega)]
theorem mqR_s (nd R : Nat → Bool) (p n : Nat) : va_up (mqR nd R p n) n (R n || (R p && nd (12 * p + n))) = mqR nd R p (n + 1) := by
  funext q
  unfold mqR
  by_cases h : q = n
  · rw [h, va_up_self, if_pos (by omega)]
  · rw [va_up_ne _ _ h]
    by_cases h2 : q < n
    · rw [if_pos h2, if_pos (by omega)]
    · rw [if_neg h2, if_neg (by omega)]
theorem mqR_0 (nd R : Nat → Bool) (p : Nat) : mqR nd R p 0 = R := by
  funext q
  unfold mqR
  rw [if_neg (by omega)]
theorem mqR_p (nd R : Nat → Bool) (p n : Nat) : mqR nd R p n p = R p := by
  unfold mqR
  split
  · cases R p <;> rfl
  · rfl
theorem mqR_n (nd R : Nat → Bool) (p n : Nat) : mqR nd R p n n = R n := by
  unfold mqR
  rw [if_neg (by omega)]
def mReach (M : mT) (f : Nat) : Nat → Bool := mrR (fun i => mz M 3 i) (m0R (fun i => mz M 25 i) f 12) 12
/-! the draft: what is written -/
def mWr (M : mT) (x : Int32) : mT := mN (mYi M 12 (M.2.2.1 13) x) 13 (M.2.2.1 13 + 1)
def mWs (M : mT) (xs : List Int32) : mT := xs.foldl mWr M
theorem mWs_s (M : mT) (xs : List Int32) (x : Int32) : mWs M (xs ++ [x]) = mWr (mWs M xs) x := by simp [mWs, List.foldl_append]
theorem mWs_app (M : mT) (xs ys : List Int32) : mWs M (xs ++ ys) = mWs (mWs M xs) ys := by simp [mWs, List.foldl_append]
theorem mWs_n : ∀ (xs : List Int32) (M : mT), (mWs M xs).2.2.1 13 = M.2.2.1 13 + xs.length
  | [], _ => rfl
  | x :: xs, M => by
    show (mWs (mWr M x) xs).2.2.1 13 = _
    rw [mWs_n xs, List.length_cons]
    show va_up M.2.2.1 13 (M.2.2.1 13 + 1) 13 + xs.length = _
    rw [va_up_self]
    omega
/-- the count's bytes, with or -/
def cM : Nat → Int64 → List Int32
  | 0, v => [v.toInt32]
  | n + 1, v => if ush7 v = 0 then [v.toInt32] else ((v &&& 127).toInt32 ||| nI 128) :: cM n (ush7 v)
theorem cM_end {n : Nat} {u : Int64} (h : n = 0 ∨ ush7 u = 0) : cM n u = [u.toInt32] := by
  cases n with
  | zero => rfl
  | succ n =>
    rcases h with h | h
    · omega
    · show (if ush7 u = 0 then _ else _) = _
      rw [if_pos h]
theorem cM_go {n : Nat} {u : Int64} (hn : 1 ≤ n) (h : ¬ ush7 u = 0) : cM n u = ((u &&& 127).toInt32 ||| nI 128) :: cM (n - 1) (ush7 u) := by
  cases n with
  | zero => omega
  | succ n =>
    show (if ush7 u = 0 then _ else _) = _
    rw [if_neg h]
    rfl
theorem cM_len : ∀ (n : Nat) (v : Int64), (cM n v).length ≤ n + 1
  | 0, _ => Nat.le_refl 1
  | n + 1, v => by
    unfold cM
    split
    · exact Nat.succ_le_succ (Nat.zero_le _)
    · have := cM_len n (ush7 v)
      rw [List.length_cons]
      omega
/-- how much of a long is left -/
theorem ush7_n (v : Int64) : (ush7 v).toBitVec.toNat = v.toBitVec.toNat / 128 := by
  have h : (v.toUInt64 >>> ((nI 7).toInt64.toUInt64 &&& Int64.toUInt64 63)).toNat = v.toUInt64.toNat >>> (((nI 7).toInt64.toUInt64 &&& Int64.toUInt64 63).toNat % 64) := UInt64.toNat_shiftRight _ _
  rw [show ((nI 7).toInt64.toUInt64 &&& Int64.toUInt64 63).toNat % 64 = 7 by decide, Nat.shiftRight_eq_div_pow] at h
  exact h
theorem ush7_z {v : Int64} (h : v.toBitVec.toNat < 128) : ush7 v = 0 := by
  refine Int64.toBitVec_inj.mp (BitVec.eq_of_toNat_eq ?_)
  rw [ush7_n, Nat.div_eq_of_lt h]
  rfl
def mSame (M : mT) (p q i : Nat) : Bool := decide (mz M 1 (100 * p + i) = mz M 1 (100 * q + i)) && (!mz M 1 (100 * p + i) || decide (mj M 2 (100 * p + i) = mj M 2 (100 * q + i)))
def mrL (M : mT) (p : Nat) : Nat → Nat × List Int32
  | 0 => (0, cM 9 (lN (mEnt M p)))
  | i + 1 => if mz M 1 (100 * p + i) = true then (i + 1, ((mrL M p i).2 ++ cM 9 (lN (i - (mrL M p i).1))) ++ cM 9 (zzE (mj M 2 (100 * p + i)))) else mrL M p i
theorem mrL_le (M : mT) (p : Nat) : ∀ i, (mrL M p i).1 ≤ i
  | 0 => Nat.le_refl 0
  | i + 1 => by
    have := mrL_le M p i
    unfold mrL
    split
    · exact Nat.le_refl _
    · omega
theorem cM_small {n : Nat} (h : n < 128) (k : Nat) : (cM k (lN n)).length = 1 := by
  rw [cM_end (Or.inr (ush7_z (v := lN n) (by show (BitVec.ofNat 64 n).toNat < 128; rw [BitVec.toNat_ofNat]; omega)))]
  rfl
theorem mrL_len (M : mT) (p : Nat) : ∀ i, i ≤ 100 → (mrL M p i).2.length ≤ 1 + 11 * i
  | 0, _ => by
    have h := cnt_le (mHas M p) 100
    have := cM_small (n := mEnt M p) (by unfold mEnt; omega) 9
    show (cM 9 (lN (mEnt M p))).length ≤ _
    omega
  | i + 1, hi => by
    have h := mrL_len M p i (by omega)
    unfold mrL
    split
    · have h1 := cM_small (n := i - (mrL M p i).1) (by omega) 9
      have h2 := cM_len 9 (zzE (mj M 2 (100 * p + i)))
      rw [List.length_append, List.length_append]
      omega
    · omega
theorem mWs_z : ∀ (xs : List Int32) (M : mT), (mWs M xs).2.2.2.1 = M.2.2.2.1
  | [], _ => rfl
  | _ :: xs, M => by show (mWs (mWr M _) xs).2.2.2.1 = _; rw [mWs_z xs]; rfl
theorem mWs_j : ∀ (xs : List Int32) (M : mT), (mWs M xs).2.2.2.2.2.1 = M.2.2.2.2.2.1
  | [], _ => rfl
  | _ :: xs, M => by show (mWs (mWr M _) xs).2.2.2.2.2.1 = _; rw [mWs_j xs]; rfl
/-- nextPart: the least that is free -/
def mFr (wt nd : Nat → Bool) (p : Nat) : Nat → Bool
  | 0 => wt p
  | q + 1 => mFr wt nd p q && !(decide (q ≠ p) && (wt q && nd (12 * p + q)))
def mNp (wt nd : Nat → Bool) : Nat → Int32
  | 0 => -1
  | k + 1 => if mFr wt nd (11 - k) 12 = true then nI (11 - k) else mNp wt nd k
theorem mZ_i (M : mT) (k i : Nat) (f : Nat → Bool) (b : Bool) : mZi (mZ M k f) k i b = mZ M k (va_up f i b) := by
  unfold mZi mZ
  dsimp only
  rw [va_up_self, bx_uu]
theorem mZ_id (M : mT) (k : Nat) : mZ M k (M.2.2.2.1 k) = M := by
  unfold mZ
  rw [va_up_id rfl]
theorem mZ_id' (M : mT) (k : Nat) : mZ M k (fun i => mz M k i) = M := mZ_id M k
def mPuV (M : mT) (x y : Int32) (v : Int64) : Int32 := if mRoc M x y = 0 then nI (mEnt (mSet (mT0 M) (cl x) (cl y) v) (cl x)) else mRoc M x y
def mPuM (M : mT) (x y : Int32) (v : Int64) : mT := if mRoc M x y = 0 then mSet (mT0 M) (cl x) (cl y) v else mT0 M
def mTaV (M : mT) (x y : Int32) : Int32 := if mRoc M x y = 0 then cI (mz M 1 (100 * cl x + cl y)) else mRoc M x y
def mTaM (M : mT) (x y : Int32) : mT := if mRoc M x y = 0 then mRem (mT0 M) (cl x) (cl y) else mT0 M
theorem mRoc_1 {M : mT} {x y : Int32} (h : xIn x 12 = false) : mRoc M x y = -1 := by unfold mRoc; simp [h]
theorem mRoc_2 {M : mT} {x y : Int32} (h : xIn x 12 = true) (h2 : xIn y 100 = false) : mRoc M x y = -2 := by unfold mRoc; simp [h, h2]
theorem mRoc_3 {M : mT} {x y : Int32} (h : xIn x 12 = true) (h2 : xIn y 100 = true) (h3 : M.2.1 7 = true) : mRoc M x y = -3 := by unfold mRoc; simp [h, h2, h3]
theorem mRoc_0 {M : mT} {x y : Int32} (h : xIn x 12 = true) (h2 : xIn y 100 = true) (h3 : M.2.1 7 = false) : mRoc M x y = 0 := by unfold mRoc; simp [h, h2, h3]; rfl
theorem mPu_n {M : mT} {x y : Int32} {v : Int64} {r : Int32} (h : mRoc M x y = r) (hr : ¬ r = 0) : mPuV M x y v = r ∧ mPuM M x y v = mT0 M := by
  unfold mPuV mPuM
  rw [h, if_neg hr, if_neg hr]
  exact ⟨rfl, rfl⟩
theorem mPu_y {M : mT} {x y : Int32} {v : Int64} (h : mRoc M x y = 0) : mPuV M x y v = nI (mEnt (mSet (mT0 M) (cl x) (cl y) v) (cl x)) ∧ mPuM M x y v = mSet (mT0 M) (cl x) (cl y) v := by
  unfold mPuV mPuM
  rw [if_pos h, if_pos h]
  exact ⟨rfl, rfl⟩
theorem mTa_n {M : mT} {x y : Int32} {r : Int32} (h : mRoc M x y = r) (hr : ¬ r = 0) : mTaV M x y = r ∧ mTaM M x y = mT0 M := by
  unfold mTaV mTaM
  rw [h, if_neg hr, if_neg hr]
  exact ⟨rfl, rfl⟩
theorem mTa_y {M : mT} {x y : Int32} (h : mRoc M x y = 0) : mTaV M x y = cI (mz M 1 (100 * cl x + cl y)) ∧ mTaM M x y = mRem (mT0 M) (cl x) (cl y) := by
  unfold mTaV mTaM
  rw [if_pos h, if_pos h]
  exact ⟨rfl, rfl⟩
def mGeB (M : mT) (x y : Int32) : Bool := xIn x 12 && (xIn y 100 && mz M 1 (100 * cl x + cl y))
def mGeV (M : mT) (x y : Int32) : Int64 := if mGeB M x y = true then mj M 2 (100 * cl x + cl y) else 0
def mGeM (M : mT) (x y : Int32) : mT := mI M 0 (if mGeB M x y = true then nI 0 else nI 1)
def mNeM1 (M : mT) (y : Int32) : mT := mZ (mT0 M) 25 (mReach (mT0 M) (cl y))
def mNeV (M : mT) (x y : Int32) (d : Bool) : Int32 := if (xIn x 12 && xIn y 12) = true then (if mz M 3 (12 * cl x + cl y) = d then nI 0 else if (d && mReach (mT0 M) (cl y) (cl x)) = true then -3 else nI 1) else -1
def mNeM (M : mT) (x y : Int32) (d : Bool) : mT := if (xIn x 12 && xIn y 12) = true then (if mz M 3 (12 * cl x + cl y) = d then mT0 M else if (d && mReach (mT0 M) (cl y) (cl x)) = true then mNeM1 M y else mZi (if d = true then mNeM1 M y else mT0 M) 3 (12 * cl x + cl y) d) else mT0 M
theorem mNe_1 {M : mT} {x y : Int32} {d : Bool} (h : xIn x 12 = false ∨ xIn y 12 = false) : mNeV M x y d = -1 ∧ mNeM M x y d = mT0 M := by
  unfold mNeV mNeM
  rcases h with h | h
  · simp [h]
  · simp [h]
theorem mNe_2 {M : mT} {x y : Int32} {d : Bool} (h1 : xIn x 12 = true) (h2 : xIn y 12 = true) (h : mz M 3 (12 * cl x + cl y) = d) : mNeV M x y d = nI 0 ∧ mNeM M x y d = mT0 M := by
  unfold mNeV mNeM
  simp [h1, h2, h]
theorem mNe_3 {M : mT} {x y : Int32} {d : Bool} (h1 : xIn x 12 = true) (h2 : xIn y 12 = true) (h : ¬ mz M 3 (12 * cl x + cl y) = d) (h3 : (d && mReach (mT0 M) (cl y) (cl x)) = true) : mNeV M x y d = -3 ∧ mNeM M x y d = mNeM1 M y := by
  have h0 : (xIn x 12 && xIn y 12) = true := by rw [h1, h2]; rfl
  unfold mNeV mNeM
  rw [if_pos h0, if_pos h0, if_neg h, if_neg h, if_pos h3, if_pos h3]
  exact ⟨rfl, rfl⟩
theorem mNe_4 {M : mT} {x y : Int32} {d : Bool} (h1 : xIn x 12 = true) (h2 : xIn y 12 = true) (h : ¬ mz M 3 (12 * cl x + cl y) = d) (h3 : (d && mReach (mT0 M) (cl y) (cl x)) = false) : mNeV M x y d = nI 1 ∧ mNeM M x y d = mZi (if d = true then mNeM1 M y else mT0 M) 3 (12 * cl x + cl y) d := by
  have h4 : ¬ (d && mReach (mT0 M) (cl y) (cl x)) = true := by rw [h3]; decide
  have h0 : (xIn x 12 && xIn y 12) = true := by rw [h1, h2]; rfl
  unfold mNeV mNeM
  rw [if_pos h0, if_pos h0, if_neg h, if_neg h, if_neg h4, if_neg h4]
  exact ⟨rfl, rfl⟩
