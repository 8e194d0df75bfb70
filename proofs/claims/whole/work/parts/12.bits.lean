/-! ===== Int32 by its bits: bt x i ===== -/
def bt (x : Int32) (i : Nat) : Bool := x.toBitVec.getLsbD i
theorem b_ext {x y : Int32} (h : ∀ i, i < 32 → bt x i = bt y i) : x = y := Int32.toBitVec_inj.mp (BitVec.eq_of_getLsbD_eq (fun i hi => h i hi))
theorem b_or (x y : Int32) (i : Nat) : bt (x ||| y) i = (bt x i || bt y i) := by unfold bt; rw [Int32.toBitVec_or, BitVec.getLsbD_or]
theorem b_and (x y : Int32) (i : Nat) : bt (x &&& y) i = (bt x i && bt y i) := by unfold bt; rw [Int32.toBitVec_and, BitVec.getLsbD_and]
theorem b_xor (x y : Int32) (i : Nat) : bt (x ^^^ y) i = (bt x i ^^ bt y i) := by unfold bt; rw [Int32.toBitVec_xor, BitVec.getLsbD_xor]
theorem b_big {x : Int32} {i : Nat} (h : 32 ≤ i) : bt x i = false := BitVec.getLsbD_of_ge _ _ h
theorem b_255 (i : Nat) : bt 255 i = decide (i < 8) := by
  rcases Nat.lt_or_ge i 32 with h | h
  · exact (by decide +kernel : ∀ i, i < 32 → bt 255 i = decide (i < 8)) i h
  · rw [b_big h, decide_eq_false (by omega)]
theorem b_65535 (i : Nat) : bt 65535 i = decide (i < 16) := by
  rcases Nat.lt_or_ge i 32 with h | h
  · exact (by decide +kernel : ∀ i, i < 32 → bt 65535 i = decide (i < 16)) i h
  · rw [b_big h, decide_eq_false (by omega)]
theorem b_m1 : ∀ i, i < 32 → bt (-1) i = true := by decide +kernel
theorem b_0 (i : Nat) : bt 0 i = false := BitVec.getLsbD_zero
theorem s_l : ∀ n, n < 32 → ((nI n &&& 31).toBitVec.smod 32).toNat = n := by decide +kernel
theorem s_u : ∀ n, n < 32 → (((nI n).toUInt32 &&& Int32.toUInt32 31).toBitVec % 32).toNat = n := by decide +kernel
theorem b_shl (n : Nat) (hn : n < 32) (x : Int32) {i : Nat} (hi : i < 32) : bt (x <<< (nI n &&& 31)) i = (decide (n ≤ i) && bt x (i - n)) := by
  unfold bt
  rw [Int32.toBitVec_shiftLeft]
  show (x.toBitVec <<< ((nI n &&& 31).toBitVec.smod 32).toNat).getLsbD i = _
  rw [s_l n hn, BitVec.getLsbD_shiftLeft]
  rcases Nat.lt_or_ge i n with h | h
  · simp [h, Nat.not_le.mpr h]
  · simp [hi, h, Nat.not_lt.mpr h]
theorem b_ushr (n : Nat) (hn : n < 32) (x : Int32) (i : Nat) : bt ((x.toUInt32 >>> ((nI n).toUInt32 &&& Int32.toUInt32 31)).toInt32) i = bt x (n + i) := by
  show (x.toUInt32 >>> ((nI n).toUInt32 &&& Int32.toUInt32 31)).toBitVec.getLsbD i = x.toUInt32.toBitVec.getLsbD (n + i)
  rw [UInt32.toBitVec_shiftRight]
  show (x.toUInt32.toBitVec >>> (((nI n).toUInt32 &&& Int32.toUInt32 31).toBitVec % 32).toNat).getLsbD i = _
  rw [s_u n hn, BitVec.getLsbD_ushiftRight]
theorem b_sshr (n : Nat) (hn : n < 32) (x : Int32) {i : Nat} (hi : i < 32) : bt (x >>> (nI n &&& 31)) i = if n + i < 32 then bt x (n + i) else bt x 31 := by
  unfold bt
  rw [Int32.toBitVec_shiftRight]
  show (x.toBitVec.sshiftRight ((nI n &&& 31).toBitVec.smod 32).toNat).getLsbD i = _
  rw [s_l n hn, BitVec.getLsbD_sshiftRight, BitVec.msb_eq_getLsbD_last]
  simp [hi]
theorem b_shl8 (x : Int32) {i : Nat} (hi : i < 32) : bt (x <<< ((8 : Int32) &&& 31)) i = (decide (8 ≤ i) && bt x (i - 8)) := b_shl 8 (by omega) x hi
theorem b_shl16 (x : Int32) {i : Nat} (hi : i < 32) : bt (x <<< ((16 : Int32) &&& 31)) i = (decide (16 ≤ i) && bt x (i - 16)) := b_shl 16 (by omega) x hi
theorem b_shl24 (x : Int32) {i : Nat} (hi : i < 32) : bt (x <<< ((24 : Int32) &&& 31)) i = (decide (24 ≤ i) && bt x (i - 24)) := b_shl 24 (by omega) x hi
theorem b_sshr8 (x : Int32) {i : Nat} (hi : i < 32) : bt (x >>> ((8 : Int32) &&& 31)) i = if 8 + i < 32 then bt x (8 + i) else bt x 31 := b_sshr 8 (by omega) x hi
/-! numbers that a caller hands in -/
def xIn (x : Int32) (n : Nat) : Bool := decide (¬ x < 0) && decide (¬ nI n ≤ x)
theorem xIn_nI {i n : Nat} (hi : i < 2 ^ 31) (hn : n < 2 ^ 31) : xIn (nI i) n = decide (i < n) := by
  unfold xIn
  rw [decide_eq_true (nI_pos hi), Bool.true_and]
  by_cases h : i < n
  · rw [decide_eq_true h, decide_eq_true (nI_ge h hn)]
  · rw [decide_eq_false h, decide_eq_false (fun z => z (nI_le (by omega) hi))]
theorem xIn_of {x : Int32} {n : Nat} (hn : n < 2 ^ 31) (h : xIn x n = true) : ∃ j : Nat, j < n ∧ x = nI j := by
  unfold xIn at h
  simp only [Bool.and_eq_true, decide_eq_true_eq] at h
  rcases pk_ix x hn with h1 | h1 | h1
  · exact absurd h1 h.1
  · exact absurd h1 h.2
  · exact h1
theorem xbit {x : Int32} {p : Nat} (hp : p < 32) : (x.toUInt32 >>> ((nI p).toUInt32 &&& Int32.toUInt32 31)).toInt32 &&& nI 1 = cI (bt x p) := by
  refine b_ext (fun i hi => ?_)
  rw [b_and, b_ushr p hp]
  cases i with
  | zero =>
    rw [show bt (nI 1) 0 = true by decide, Bool.and_true, Nat.add_zero]
    cases bt x p <;> decide
  | succ i =>
    rw [(by decide +kernel : ∀ i, i < 32 → bt (nI 1) i = decide (i = 0)) (i + 1) hi]
    rw [show decide (i + 1 = 0) = false by simp, Bool.and_false]
    cases bt x p
    · exact (b_0 _).symm
    · exact (((by decide +kernel : ∀ i, i < 32 → bt (cI true) i = decide (i = 0)) (i + 1) hi).trans (by simp)).symm
/-- the set of one part -/
def bitI (p : Nat) : Int32 := nI 1 <<< (nI p &&& 31)
theorem bt_bit {p i : Nat} (hp : p < 32) (hi : i < 32) : bt (bitI p) i = decide (i = p) := by
  unfold bitI
  rw [b_shl p hp _ hi]
  by_cases h : p ≤ i
  · rw [(by decide +kernel : ∀ i, i < 32 → bt (nI 1) i = decide (i = 0)) (i - p) (by omega)]
    by_cases h2 : i = p
    · subst h2; simp
    · rw [decide_eq_false h2, decide_eq_false (show ¬ i - p = 0 by omega), Bool.and_false]
  · rw [decide_eq_false h, decide_eq_false (show ¬ i = p by omega), Bool.false_and]
/-! octets -/
def xb (x : Int32) : Int32 := x.toInt8.toInt32
def oAt (O : cO) (b i : Nat) : Int32 := if i < O.2.1 b then O.1 b i &&& nI 255 else nI 0
def oApp (O : cO) (b : Nat) (x : Int32) : cO := if O.2.1 b < 8000 then (va_up O.1 b (va_up (O.1 b) (O.2.1 b) (xb x)), va_up O.2.1 b (O.2.1 b + 1), O.2.2) else (O.1, O.2.1, va_up O.2.2 b true)
def oApps (O : cO) (b : Nat) (xs : List Int32) : cO := xs.foldl (fun O x => oApp O b x) O
theorem oApps_s (O : cO) (b : Nat) (xs : List Int32) (x : Int32) : oApps O b (xs ++ [x]) = oApp (oApps O b xs) b x := by simp [oApps, List.foldl_append]
theorem oApps_c (O : cO) (b : Nat) (xs : List Int32) (x : Int32) : oApps O b (x :: xs) = oApps (oApp O b x) b xs := rfl
theorem oApps_app (O : cO) (b : Nat) (xs ys : List Int32) : oApps O b (xs ++ ys) = oApps (oApps O b xs) b ys := by simp [oApps, List.foldl_append]
theorem oApp_len {O : cO} {b : Nat} {x : Int32} (h : O.2.1 b ≤ 8000) : (oApp O b x).2.1 b ≤ 8000 := by
  unfold oApp
  by_cases h1 : O.2.1 b < 8000
  · rw [if_pos h1]; simp [va_up]; omega
  · rw [if_neg h1]; exact h
theorem oApps_len {b : Nat} : ∀ {xs : List Int32} {O : cO}, O.2.1 b ≤ 8000 → (oApps O b xs).2.1 b ≤ 8000
  | [], _, h => h
  | _ :: xs, _, h => oApps_len (xs := xs) (oApp_len h)
def by4 (v : Int32) (k : Nat) : Int32 := (v.toUInt32 >>> ((nI (8 * k)).toUInt32 &&& Int32.toUInt32 31)).toInt32 &&& nI 255
def b4 (v : Int32) (k : Nat) : List Int32 := (List.range k).map (by4 v)
theorem b4_s (v : Int32) (k : Nat) : b4 v (k + 1) = b4 v k ++ [by4 v k] := by simp [b4, List.range_succ]
def ush7 (v : Int64) : Int64 := (v.toUInt64 >>> ((nI 7).toInt64.toUInt64 &&& Int64.toUInt64 63)).toInt64
def cB : Nat → Int64 → List Int32
  | 0, v => [v.toInt32]
  | n + 1, v => if ush7 v = 0 then [v.toInt32] else ((v &&& 127).toInt32 + nI 128) :: cB n (ush7 v)
def rot13 (x : Int32) : Int32 := (x <<< (nI 13 &&& 31)) ||| (x.toUInt32 >>> ((nI 19).toUInt32 &&& Int32.toUInt32 31)).toInt32
def smF (f : Nat → Int32) (a : Nat) : Nat → Int32
  | 0 => nI 0
  | n + 1 => rot13 (smF f a n ^^^ f (a + n)) * (-1028477379)
theorem rot19 : (-(nI 13)).toUInt32 &&& Int32.toUInt32 31 = (nI 19).toUInt32 &&& Int32.toUInt32 31 := by decide
def four (f : Nat → Int32) (i : Nat) : Int32 := ((f i ||| f (i + 1) <<< (nI 8 &&& 31)) ||| f (i + 2) <<< (nI 16 &&& 31)) ||| f (i + 3) <<< (nI 24 &&& 31)
theorem cB_end {n : Nat} {u : Int64} (h : n = 0 ∨ ush7 u = 0) : cB n u = [u.toInt32] := by
  cases n with
  | zero => rfl
  | succ n =>
    rcases h with h | h
    · omega
    · show (if ush7 u = 0 then _ else _) = _
      rw [if_pos h]
theorem cB_go {n : Nat} {u : Int64} (hn : 1 ≤ n) (h : ¬ ush7 u = 0) : cB n u = ((u &&& 127).toInt32 + nI 128) :: cB (n - 1) (ush7 u) := by
  cases n with
  | zero => omega
  | succ n =>
    show (if ush7 u = 0 then _ else _) = _
    rw [if_neg h]
    rfl
theorem rN0 {b : Bool} (h : b = false) : some (Value.int (cI b)) = some (.int (nI 0)) := by rw [h]; rfl
theorem rN1 {b : Bool} (h : b = true) : some (Value.int (cI b)) = some (.int (nI 1)) := by rw [h]; rfl
def xall (lv : List (Nat × Value)) : List (Nat × Value) → Prop
  | [] => True
  | q :: t => xget lv q.1 = some q.2 ∧ xall lv t
theorem xall_mem {lv : List (Nat × Value)} : ∀ {lv' : List (Nat × Value)}, xall lv lv' → ∀ q ∈ lv', q ∈ lv
  | q :: t, h, x, hx => by
    rcases List.mem_cons.mp hx with e | e
    · rw [e]; exact xget_mem h.1
    · exact xall_mem h.2 x e
section XLV
variable {p : Program} {l : Launch} {e : Env} {R : Room} {s : State} {m : MethodId} {args : Array Value} {below : List Frame} {meth : Method} {c : Code}
variable {G : xD} {A : Nat → Prop} {nL : Nat} {Q : State → Prop} {sz cs ss pc : Nat} {w : xw} {lv : List (Nat × Value)} {st : List Value}
theorem xv_lv {lv' : List (Nat × Value)} (h : lv = lv') (k : xV p l e R s m args below meth c G A nL Q sz w cs ss pc lv' st) : xV p l e R s m args below meth c G A nL Q sz w cs ss pc lv st := by rw [h]; exact k
theorem xV.to (lv' : List (Nat × Value)) (h : xall lv lv') (k : xV p l e R s m args below meth c G A nL Q sz w cs ss pc lv' st) : xV p l e R s m args below meth c G A nL Q sz w cs ss pc lv st := xV.sub lv' (xall_mem h) k
end XLV
