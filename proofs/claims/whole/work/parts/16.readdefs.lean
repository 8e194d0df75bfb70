/-! the reader -/
abbrev cR : Type := Nat × Int32
def nxV (O : cO) (Rd : cR) : Int32 := if Rd.2 = 0 ∧ Rd.1 < O.2.1 0 then O.1 0 Rd.1 &&& nI 255 else nI 0
def nxR (O : cO) (Rd : cR) : cR := if Rd.2 = 0 then (if Rd.1 < O.2.1 0 then (Rd.1 + 1, Rd.2) else (Rd.1, nI 4)) else Rd
def rfR (Rd : cR) (x : Int32) : cR := if Rd.2 = 0 then (Rd.1, x) else Rd
theorem nxR_le {O : cO} {Rd : cR} {n : Nat} (h : Rd.1 ≤ n) (hO : O.2.1 0 ≤ n) : (nxR O Rd).1 ≤ n := by
  unfold nxR
  split
  · split
    · dsimp only; omega
    · exact h
  · exact h
theorem rfR_1 (Rd : cR) (x : Int32) : (rfR Rd x).1 = Rd.1 := by unfold rfR; split <;> rfl
def nless (k : Nat) (b : Int32) : Bool := decide (0 < k) && decide (b = 0)
def tomu (k : Nat) (b : Int32) : Bool := decide (k = 9) && decide (nI 1 < b)
def ncS (O : cO) (k : Nat) (Rd : cR) : cR := if (nless k (nxV O Rd) || tomu k (nxV O Rd)) = true then rfR (nxR O Rd) (nI 5) else nxR O Rd
def ncV (k : Nat) (v : Int64) (b : Int32) : Int64 := v ||| (b &&& nI 127).toInt64 <<< ((nI (7 * k)).toInt64 &&& 63)
def ncL (O : cO) : Nat → Nat → Int64 → cR → Int64 × cR
  | 0, _, v, Rd => (v, Rd)
  | n + 1, k, v, Rd => if Rd.2 = 0 then (if nI 128 ≤ nxV O Rd then ncL O n (k + 1) (ncV k v (nxV O Rd)) (ncS O k Rd) else (ncV k v (nxV O Rd), ncS O k Rd)) else (v, Rd)
theorem ncS_le {O : cO} {Rd : cR} {n k : Nat} (h : Rd.1 ≤ n) (hO : O.2.1 0 ≤ n) : (ncS O k Rd).1 ≤ n := by
  unfold ncS
  split
  · rw [rfR_1]; exact nxR_le h hO
  · exact nxR_le h hO
theorem ncL_le {O : cO} {m : Nat} (hO : O.2.1 0 ≤ m) : ∀ (n k : Nat) (v : Int64) (Rd : cR), Rd.1 ≤ m → (ncL O n k v Rd).2.1 ≤ m
  | 0, _, _, _, h => h
  | n + 1, k, v, Rd, h => by
    unfold ncL
    split
    · split
      · exact ncL_le hO n _ _ _ (ncS_le h hO)
      · exact ncS_le h hO
    · exact h
def ncR (O : cO) (Rd : cR) : cR := (ncL O 10 0 0 Rd).2
def ncC (O : cO) (Rd : cR) : Int64 := if (ncR O Rd).2 = 0 then (ncL O 10 0 0 Rd).1 else 0
theorem ncR_le {O : cO} {Rd : cR} {m : Nat} (h : Rd.1 ≤ m) (hO : O.2.1 0 ≤ m) : (ncR O Rd).1 ≤ m := ncL_le hO _ _ _ _ h
def n4R (O : cO) (Rd : cR) : Nat → cR
  | 0 => Rd
  | n + 1 => nxR O (n4R O Rd n)
theorem n4R_le {O : cO} {Rd : cR} {m : Nat} (h : Rd.1 ≤ m) (hO : O.2.1 0 ≤ m) : ∀ n, (n4R O Rd n).1 ≤ m
  | 0 => h
  | n + 1 => nxR_le (n4R_le h hO n) hO
def n4V (O : cO) (Rd : cR) : Int32 := if (n4R O Rd 4).2 = 0 then four (oAt O 0) Rd.1 else nI 0
def wiB (c : Int64) (x : Int32) : Bool := decide (c < 0) || decide (x.toInt64 < c)
def wiR (Rd : cR) (c : Int64) (x : Int32) : cR := if wiB c x = true then rfR Rd (nI 5) else Rd
def wiV (Rd : cR) (c : Int64) (x : Int32) : Int32 := if (wiR Rd c x).2 = 0 then c.toInt32 else nI 0
theorem wiR_1 (Rd : cR) (c : Int64) (x : Int32) : (wiR Rd c x).1 = Rd.1 := by
  unfold wiR
  split
  · exact rfR_1 _ _
  · rfl
/-- what within answers is a number up to the most -/
def wiN (Rd : cR) (c : Int64) (x : Int32) : Nat := if (wiR Rd c x).2 = 0 then c.toInt.toNat else 0
theorem rfR_5 {Rd : cR} : ¬ (rfR Rd (nI 5)).2 = 0 := by
  unfold rfR
  split
  · exact (by decide : ¬ nI 5 = 0)
  · assumption
theorem wi_ok {Rd : cR} {c : Int64} {x : Int32} (h : (wiR Rd c x).2 = 0) : 0 ≤ c.toInt ∧ c.toInt ≤ x.toInt ∧ Rd.2 = 0 ∧ wiR Rd c x = Rd := by
  unfold wiR at h
  by_cases hb : wiB c x = true
  · rw [if_pos hb] at h
    exact absurd h rfR_5
  · rw [if_neg hb] at h
    have hb2 := hb
    unfold wiB at hb
    simp only [Bool.or_eq_true, decide_eq_true_eq, not_or, Int64.lt_iff_toInt_lt, Int32.toInt_toInt64] at hb
    refine ⟨?_, by omega, h, by unfold wiR; rw [if_neg hb2]⟩
    have h0 : (0 : Int64).toInt = 0 := by decide
    omega
theorem wi_nI {Rd : cR} {c : Int64} {x : Int32} : wiV Rd c x = nI (wiN Rd c x) := by
  unfold wiV wiN
  by_cases h : (wiR Rd c x).2 = 0
  · rw [if_pos h, if_pos h]
    obtain ⟨h1, h2, -⟩ := wi_ok h
    have hx := Int32.toInt_lt x
    refine Int32.toInt_inj.mp ?_
    rw [nI_toInt (by omega), Int64.toInt_toInt32, Int.bmod_eq_of_le (by omega) (by omega)]
    omega
  · rw [if_neg h, if_neg h]
theorem wiN_le {Rd : cR} {c : Int64} {x : Int32} {n : Nat} (hx : x.toInt ≤ n) : wiN Rd c x ≤ n := by
  unfold wiN
  split
  · rename_i h
    obtain ⟨h1, h2, -⟩ := wi_ok h
    omega
  · omega
/-- the long that a count tells -/
def zzD (v : Int64) : Int64 := if v &&& 1 = 0 then (v.toUInt64 >>> ((nI 1).toInt64.toUInt64 &&& Int64.toUInt64 63)).toInt64 else -1 - (v.toUInt64 >>> ((nI 1).toInt64.toUInt64 &&& Int64.toUInt64 63)).toInt64
def nrM (least : Nat) : Int32 := nI 99 - nI least
def nrR1 (O : cO) (Rd : cR) (least : Nat) : cR := wiR (ncR O Rd) (ncC O Rd) (nrM least)
def nrP (O : cO) (Rd : cR) (least : Nat) : Nat := least + wiN (ncR O Rd) (ncC O Rd) (nrM least)
def nrR (O : cO) (Rd : cR) (least : Nat) : cR := ncR O (nrR1 O Rd least)
def nrE (O : cO) (q : Nat) (E : cE) (Rd : cR) (least : Nat) : cE := if (nrR O Rd least).2 = 0 then eSet E q (nrP O Rd least) (zzD (ncC O (nrR1 O Rd least))) else E
/-- the rows' loop: n rows at most are left -/
def nrL (O : cO) (q : Nat) : Nat → cE → cR → Nat → cE × cR
  | 0, E, Rd, _ => (E, Rd)
  | n + 1, E, Rd, least => if Rd.2 = 0 then nrL O q n (nrE O q E Rd least) (nrR O Rd least) (nrP O Rd least + 1) else (E, Rd)
def nrN (O : cO) (Rd : cR) : Nat := wiN (ncR O Rd) (ncC O Rd) (nI 100)
def nrF (O : cO) (q : Nat) (E : cE) (Rd : cR) : cE × cR := nrL O q (nrN O Rd) (eClr E q) (wiR (ncR O Rd) (ncC O Rd) (nI 100)) 0
theorem nrR1_le {O : cO} {Rd : cR} {m least : Nat} (h : Rd.1 ≤ m) (hO : O.2.1 0 ≤ m) : (nrR1 O Rd least).1 ≤ m := by unfold nrR1; rw [wiR_1]; exact ncR_le h hO
theorem nrR_le {O : cO} {Rd : cR} {m least : Nat} (h : Rd.1 ≤ m) (hO : O.2.1 0 ≤ m) : (nrR O Rd least).1 ≤ m := ncR_le (nrR1_le h hO) hO
theorem ncL_ft {O : cO} : ∀ (n k : Nat) (v : Int64) (Rd : cR), ¬ Rd.2 = 0 → ncL O n k v Rd = (v, Rd)
  | 0, _, _, _, _ => rfl
  | n + 1, k, v, Rd, h => by unfold ncL; rw [if_neg h]
theorem ncR_ft {O : cO} {Rd : cR} (h : ¬ Rd.2 = 0) : ncR O Rd = Rd := by unfold ncR; rw [ncL_ft _ _ _ _ h]
theorem nrM_to {least : Nat} (h : least ≤ 101) : (nrM least).toInt = 99 - (least : Int) := by
  unfold nrM
  rw [pk_sub_toInt (by omega) (by omega)]
  rfl
theorem nrP_le {O : cO} {Rd : cR} {least : Nat} (h : least ≤ 100) : nrP O Rd least ≤ 100 ∧ ((nrR O Rd least).2 = 0 → nrP O Rd least < 100) := by
  unfold nrP
  constructor
  · unfold wiN
    split
    · rename_i hw
      obtain ⟨h1, h2, -⟩ := wi_ok hw
      rw [nrM_to (by omega)] at h2
      omega
    · omega
  · intro h0
    have hw : (wiR (ncR O Rd) (ncC O Rd) (nrM least)).2 = 0 := by
      by_cases hf : (nrR1 O Rd least).2 = 0
      · exact hf
      · unfold nrR at h0
        rw [ncR_ft hf] at h0
        exact absurd h0 hf
    unfold wiN
    rw [if_pos hw]
    obtain ⟨h1, h2, -⟩ := wi_ok hw
    rw [nrM_to (by omega)] at h2
    omega
theorem nrL_end {O : cO} {q n least : Nat} {E : cE} {Rd : cR} (h : n = 0 ∨ ¬ Rd.2 = 0) : nrL O q n E Rd least = (E, Rd) := by
  cases n with
  | zero => rfl
  | succ n =>
    rcases h with h | h
    · omega
    · rw [nrL, if_neg h]
