/-! reading: the reference beside the reader -/
theorem c1_of {b : Bool} (h : b = true) : nI 1 = cI b := by rw [h]; rfl
theorem c0_of {b : Bool} (h : b = false) : nI 0 = cI b := by rw [h]; rfl
theorem ndR_ft {r : cR} {b : Bool} (h : ¬ r.2 = 0) : ndR r b = r := nd_same (Or.inl h)
theorem rfR_ft {r : cR} {x : Int32} (h : ¬ r.2 = 0) : rfR r x = r := by unfold rfR; rw [if_neg h]
theorem ndR_wi (r : cR) (c : Int64) (x : Int32) : ndR r (!wiB c x) = wiR r c x := by
  unfold ndR wiR
  cases wiB c x <;> rfl
theorem wiR_ft {r : cR} {c : Int64} {x : Int32} (h : ¬ r.2 = 0) : wiR r c x = r := by
  unfold wiR
  split
  · exact rfR_ft h
  · rfl
theorem ndW (O : cO) (r : cR) (x : Int32) : ndR (ncR O r) (!wiB (ncL O 10 0 0 r).1 x) = wiR (ncR O r) (ncC O r) x := by
  by_cases h : (ncR O r).2 = 0
  · rw [ndR_wi, ncC, if_pos h]
  · rw [ndR_ft h, wiR_ft h]
def rcF (k : Nat) (b : Int32) (r : cR) : Bool := !(decide (0 < k) && (decide (b = 0) && decide (r.2 = 0))) && !tomu k b
theorem rcF_S (O : cO) (k : Nat) (r : cR) : ndR (nxR O r) (rcF k (nxV O r) (nxR O r)) = ncS O k r := by
  by_cases h : (nxR O r).2 = 0
  · unfold rcF ncS ndR nless
    rw [decide_eq_true h, Bool.and_true]
    cases decide (0 < k) <;> cases decide (nxV O r = 0) <;> cases tomu k (nxV O r) <;> rfl
  · rw [ndR_ft h]
    unfold ncS
    split
    · rw [rfR_ft h]
    · rfl
theorem rc_end {O : cO} {n k : Nat} {v1 : Int64} {r1 : cR} {mo : Bool} {X : Int64 × cR} (hu : (if mo = true then ncL O n k v1 r1 else (v1, r1)) = X) (h : n = 0 ∨ mo = false ∨ ¬ r1.2 = 0) : X = (v1, r1) := by
  rw [← hu]
  cases mo with
  | false => rfl
  | true =>
    rw [if_pos rfl]
    rcases h with h | h | h
    · subst h; rfl
    · cases h
    · exact ncL_ft n k v1 r1 h
theorem rc_go {O : cO} {n k : Nat} {v1 : Int64} {r1 : cR} {mo : Bool} {X : Int64 × cR} (hu : (if mo = true then ncL O (n + 1) k v1 r1 else (v1, r1)) = X) (h : mo = true) (h0 : r1.2 = 0) : (if decide (nI 128 ≤ nxV O r1) = true then ncL O n (k + 1) (ncV k v1 (nxV O r1)) (ncS O k r1) else (ncV k v1 (nxV O r1), ncS O k r1)) = X := by
  rw [← hu, h, if_pos rfl]
  show _ = if r1.2 = 0 then _ else _
  rw [if_pos h0]
  by_cases hb : nI 128 ≤ nxV O r1
  · rw [if_pos hb, if_pos (decide_eq_true hb)]
  · rw [if_neg hb, if_neg (by rw [decide_eq_false hb]; decide)]
theorem mRe.nc {r : cR} (h : mRe r) (O : cO) (k : Nat) : mRe (ncS O k r) := by
  rw [← rcF_S]
  exact (h.nx O).nd _
theorem mRe.ncL {O : cO} : ∀ (n k : Nat) (v : Int64) (r : cR), mRe r → mRe (ncL O n k v r).2
  | 0, _, _, _, h => h
  | n + 1, k, v, r, h => by
    unfold Jvm.Pilot.@@N@@.ncL
    split
    · split
      · exact mRe.ncL n _ _ _ (h.nc O k)
      · exact h.nc O k
    · exact h
theorem mRe.ncR {r : cR} (h : mRe r) (O : cO) : mRe (ncR O r) := mRe.ncL 10 0 0 r h
theorem mRe.wi {r : cR} (h : mRe r) (c : Int64) (x : Int32) : mRe (wiR r c x) := by
  rw [← ndR_wi]
  exact h.nd _
theorem mS_K (M : mT) (r r' : cR) (c : Int64) : mS (mK (mS M r) c) r' = mK (mS M r') c := by
  unfold mS mI mN mK
  dsimp only
  rw [va_up_up, va_up_up]
theorem mS_K0 (M : mT) (r' : cR) (c : Int64) : mS (mK M c) r' = mK (mS M r') c := rfl
theorem mK_K (M : mT) (c d : Int64) : mK (mK M c) d = mK M d := rfl
theorem mK_S (M : mT) (r : cR) : mK M 0 = mK (mS M (mRd M)) 0 := by rw [mS_id]
/-- rows: cleared up to i -/
def clZ (z : Nat → Bool) (a i : Nat) : Nat → Bool := fun k => if a ≤ k ∧ k < a + i then false else z k
theorem clZ_0 (z : Nat → Bool) (a : Nat) : clZ z a 0 = z := by
  funext k
  unfold clZ
  rw [if_neg (by omega)]
theorem clZ_s (z : Nat → Bool) (a i : Nat) : va_up (clZ z a i) (a + i) false = clZ z a (i + 1) := by
  funext k
  unfold clZ
  by_cases h : k = a + i
  · rw [h, va_up_self, if_pos (by omega)]
  · rw [va_up_ne _ _ h]
    by_cases h2 : a ≤ k ∧ k < a + i
    · rw [if_pos h2, if_pos (by omega)]
    · rw [if_neg h2, if_neg (by omega)]
/-- the rows of part p in the reference, beside E's rows q -/
def rwP (M : mT) (p : Nat) (E : cE) (q : Nat) (Z : Nat → Bool) (J : Nat → Int64) : Prop :=
  (∀ i, i < 100 → Z (100 * p + i) = E.1 q i ∧ J (100 * p + i) = E.2.1 q i) ∧ (∀ k, (k < 100 * p ∨ 100 * p + 100 ≤ k) → Z k = mz M 20 k ∧ J k = mj M 21 k)
theorem rwP_clr {M : mT} {p q : Nat} {E : cE} (hv : ∀ i, i < 100 → mj M 21 (100 * p + i) = E.2.1 q i) : rwP M p (eClr E q) q (clZ (M.2.2.2.1 20) (100 * p) 100) (M.2.2.2.2.2.1 21) := by
  constructor
  · intro i hi
    refine ⟨?_, hv i hi⟩
    unfold clZ eClr
    dsimp only
    rw [va_up_self, if_pos (by omega), if_pos hi]
  · intro k hk
    refine ⟨?_, rfl⟩
    unfold clZ
    rw [if_neg (by omega)]
theorem rwP_set {M : mT} {p q i : Nat} {E : cE} {Z : Nat → Bool} {J : Nat → Int64} (h : rwP M p E q Z J) (hi : i < 100) (v : Int64) : rwP M p (eSet E q i v) q (va_up Z (100 * p + i) true) (va_up J (100 * p + i) v) := by
  constructor
  · intro j hj
    unfold eSet
    dsimp only
    rw [va_up_self, va_up_self]
    by_cases e : j = i
    · subst e
      rw [va_up_self, va_up_self, va_up_self, va_up_self]
      exact ⟨rfl, rfl⟩
    · rw [va_up_ne _ _ e, va_up_ne _ _ e, va_up_ne _ _ (by omega), va_up_ne _ _ (by omega)]
      exact h.1 j hj
  · intro k hk
    rw [va_up_ne _ _ (by omega), va_up_ne _ _ (by omega)]
    exact h.2 k hk
theorem mRw_set (M : mT) (Z : Nat → Bool) (J : Nat → Int64) (r : cR) (c : Int64) (i : Nat) (v : Int64) : mJi (mZi (mK (mS (mJ (mZ M 20 Z) 21 J) r) c) 20 i true) 21 i v = mK (mS (mJ (mZ M 20 (va_up Z i true)) 21 (va_up J i v)) r) c := by
  unfold mJi mZi mK mS mI mN mJ mZ
  dsimp only
  rw [va_up_up, va_up_up, va_up_self, va_up_self]
theorem mJ_id (M : mT) (k : Nat) : mJ M k (M.2.2.2.2.2.1 k) = M := by
  unfold mJ
  rw [va_up_id rfl]
/-- what the reference asks of a place -/
theorem wi3 {c : Int64} {least : Nat} (hl : least ≤ 100) : wiB c (nrM least) = false ↔ (¬ c < 0 ∧ ¬ 99 < c + (nI least - nI 1).toInt64 + 1 ∧ ¬ 100 ≤ c) := by
  unfold wiB
  have h0 : (0 : Int64).toInt = 0 := by decide
  have h1 : (1 : Int64).toInt = 1 := by decide
  have h99 : (99 : Int64).toInt = 99 := by decide
  have h100 : (100 : Int64).toInt = 100 := by decide
  have hm := nrM_to (least := least) (by omega)
  have hp : ((nI least - nI 1).toInt64).toInt = (least : Int) - 1 := by rw [Int32.toInt_toInt64, pk_sub_toInt (by omega) (by omega)]; rfl
  simp only [Bool.or_eq_false_iff, decide_eq_false_iff_not, Int64.lt_iff_toInt_lt, Int64.le_iff_toInt_le, Int32.toInt_toInt64, hm, h0, h99, h100]
  constructor
  · intro h
    have hs : (c + (nI least - nI 1).toInt64 + 1).toInt = c.toInt + ((least : Int) - 1) + 1 := by
      rw [Int64.toInt_add, Int64.toInt_add, hp, h1, Int.bmod_eq_of_le (n := c.toInt + ((least : Int) - 1)) (by omega) (by omega), Int.bmod_eq_of_le (by omega) (by omega)]
    refine ⟨h.1, ?_, by omega⟩
    rw [hs]
    omega
  · intro h
    have hs : (c + (nI least - nI 1).toInt64 + 1).toInt = c.toInt + ((least : Int) - 1) + 1 := by
      rw [Int64.toInt_add, Int64.toInt_add, hp, h1, Int.bmod_eq_of_le (n := c.toInt + ((least : Int) - 1)) (by omega) (by omega), Int.bmod_eq_of_le (by omega) (by omega)]
    refine ⟨h.1, ?_⟩
    have h2 := h.2.1
    rw [hs] at h2
    omega
theorem wi100 {c : Int64} : wiB c (nI 100) = false ↔ (¬ c < 0 ∧ ¬ 100 < c) := by
  unfold wiB
  rw [show (nI 100).toInt64 = (100 : Int64) by decide]
  simp only [Bool.or_eq_false_iff, decide_eq_false_iff_not]
/-- the place, where it may be -/
theorem plc {O : cO} {r : cR} {least : Nat} (hl : least ≤ 100) (h : (nrR1 O r least).2 = 0) : nI least - nI 1 + nI 1 + (ncL O 10 0 0 r).1.toInt32 = nI (nrP O r least) ∧ nrP O r least < 100 := by
  have hw : (wiR (ncR O r) (ncC O r) (nrM least)).2 = 0 := h
  obtain ⟨h1, h2, h3, -⟩ := wi_ok hw
  have hc : ncC O r = (ncL O 10 0 0 r).1 := by rw [ncC, if_pos h3]
  have hv := wi_nI (Rd := ncR O r) (c := ncC O r) (x := nrM least)
  rw [wiV, if_pos hw, hc] at hv
  rw [nrM_to (by omega)] at h2
  have hn : wiN (ncR O r) (ncC O r) (nrM least) = (ncC O r).toInt.toNat := by rw [wiN, if_pos hw]
  constructor
  · rw [hv, nrP, ← hc, ← nI_add]
    generalize nI least = a
    generalize nI 1 = b
    generalize nI (wiN (ncR O r) (ncC O r) (nrM least)) = d
    grind
  · rw [nrP, hn]
    omega
theorem nr_many {O : cO} {r : cR} (h : (wiR (ncR O r) (ncC O r) (nI 100)).2 = 0) : (ncL O 10 0 0 r).1.toInt32 = nI (nrN O r) ∧ nrN O r ≤ 100 := by
  obtain ⟨h1, h2, h3, -⟩ := wi_ok h
  have hc : ncC O r = (ncL O 10 0 0 r).1 := by rw [ncC, if_pos h3]
  have hv := wi_nI (Rd := ncR O r) (c := ncC O r) (x := nI 100)
  rw [wiV, if_pos h, hc] at hv
  constructor
  · rw [hv, nrN, hc]
  · exact wiN_le (by rw [nI_toInt (by omega)]; exact Int.le_refl _)
theorem nr_none {O : cO} {r : cR} (h : ¬ (wiR (ncR O r) (ncC O r) (nI 100)).2 = 0) : nrN O r = 0 := by
  rw [nrN, wiN, if_neg h]
theorem nr_next {O : cO} {q n least : Nat} {E : cE} {r : cR} (h0 : r.2 = 0) : nrL O q (n + 1) E r least = nrL O q n (nrE O q E r least) (nrR O r least) (nrP O r least + 1) := by
  rw [nrL, if_pos h0]
theorem nrR_bad {O : cO} {r : cR} {least : Nat} (h : ¬ (nrR1 O r least).2 = 0) : nrR O r least = nrR1 O r least := ncR_ft h
theorem nrE_bad {O : cO} {q : Nat} {E : cE} {r : cR} {least : Nat} (h : ¬ (nrR O r least).2 = 0) : nrE O q E r least = E := by rw [nrE, if_neg h]
theorem nrE_good {O : cO} {q : Nat} {E : cE} {r : cR} {least : Nat} (h : (nrR O r least).2 = 0) : nrE O q E r least = eSet E q (nrP O r least) (zzD (ncL O 10 0 0 (nrR1 O r least)).1) := by
  rw [nrE, if_pos h]
  have : ncC O (nrR1 O r least) = (ncL O 10 0 0 (nrR1 O r least)).1 := by
    rw [ncC]
    exact if_pos h
  rw [this]
theorem wi_no {c : Int64} {least : Nat} (hl : least ≤ 100) (h : c < 0 ∨ 99 < c + (nI least - nI 1).toInt64 + 1 ∨ 100 ≤ c) : wiB c (nrM least) = true := by
  cases hb : wiB c (nrM least) with
  | true => rfl
  | false =>
    have := (wi3 hl).mp hb
    rcases h with h | h | h
    · exact absurd h this.1
    · exact absurd h this.2.1
    · exact absurd h this.2.2
def rcA (k : Nat) (b : Int32) (r : cR) : Bool := decide (0 < k) && (decide (b = 0) && decide (r.2 = 0))
theorem rcF_1 {k : Nat} {b : Int32} {r : cR} (hA : rcA k b r = false) (hB : tomu k b = false) : rcF k b r = true := by
  unfold rcF
  rw [show (decide (0 < k) && (decide (b = 0) && decide (r.2 = 0))) = false from hA, hB]
  rfl
theorem rcF_0a {k : Nat} {b : Int32} {r : cR} (hA : rcA k b r = true) : rcF k b r = false := by
  unfold rcF
  rw [show (decide (0 < k) && (decide (b = 0) && decide (r.2 = 0))) = true from hA]
  rfl
theorem rcF_0b {k : Nat} {b : Int32} {r : cR} (hB : tomu k b = true) : rcF k b r = false := by
  unfold rcF
  rw [hB]
  exact Bool.and_false _
theorem rw_id (M : mT) (Z : Nat → Bool) : mZ M 20 Z = mK (mS (mJ (mZ M 20 Z) 21 (M.2.2.2.2.2.1 21)) (mRd M)) M.2.2.2.2.2.2 := by
  unfold mK mS mRd mI mN mJ mZ
  dsimp only
  rw [va_up_id rfl, va_up_id rfl, va_up_id rfl]
theorem nc_pair (O : cO) (r : cR) : ∃ (c : Int64) (r' : cR), (ncL O 10 0 0 r).1 = c ∧ ncR O r = r' := ⟨_, _, rfl, rfl⟩
theorem nd_ex (r : cR) (b : Bool) : ∃ r' : cR, ndR r b = r' := ⟨_, rfl⟩
theorem nP_ex (O : cO) (r : cR) (least : Nat) : ∃ P : Nat, nrP O r least = P := ⟨_, rfl⟩
/-- a row's reading, by its steps -/
def rowS (O : cO) (r1 : cR) (least : Nat) (c2 : Int64) (r2 r3 : cR) : Prop := (ncL O 10 0 0 r1).1 = c2 ∧ ncR O r1 = r2 ∧ nrR1 O r1 least = r3
theorem rowS_of {O : cO} {r1 : cR} {least : Nat} {c2 : Int64} {r2 r3 : cR} (h1 : (ncL O 10 0 0 r1).1 = c2) (h2 : ncR O r1 = r2) (h3 : ndR r2 (!wiB c2 (nrM least)) = r3) : rowS O r1 least c2 r2 r3 := ⟨h1, h2, by rw [← h3, ← h1, ← h2, ndW, nrR1]⟩
theorem rowS_le {O : cO} {r1 : cR} {least : Nat} {c2 : Int64} {r2 r3 : cR} (h : rowS O r1 least c2 r2 r3) (hr : r1.1 ≤ O.2.1 0) (he : mRe r1) : r3.1 ≤ O.2.1 0 ∧ mRe r3 := by
  rw [← h.2.2]
  exact ⟨nrR1_le hr (Nat.le_refl _), (he.ncR O).wi _ _⟩
theorem rowS_plc {O : cO} {r1 : cR} {least P : Nat} {c2 : Int64} {r2 r3 : cR} (h : rowS O r1 least c2 r2 r3) (hl : least ≤ 100) (h0 : r3.2 = 0) (hP : nrP O r1 least = P) : nI least - nI 1 + nI 1 + c2.toInt32 = nI P ∧ P < 100 := by
  rw [← hP, ← h.1]
  exact plc hl (by rw [h.2.2]; exact h0)
theorem rowS_bad {O : cO} {q n least : Nat} {E : cE} {r1 r2 r3 : cR} {c2 : Int64} {X : cE × cR} (h : rowS O r1 least c2 r2 r3) (h0 : r1.2 = 0) (hb : ¬ r3.2 = 0) (hu : nrL O q (n + 1) E r1 least = X) : nrL O q n E r3 least = X := by
  have hb' : ¬ (nrR1 O r1 least).2 = 0 := by rw [h.2.2]; exact hb
  rw [← hu, nr_next h0, nrE_bad (by rw [nrR_bad hb']; exact hb'), nrR_bad hb', h.2.2, nrL_end (Or.inr hb), nrL_end (Or.inr hb)]
theorem rowS_bad2 {O : cO} {q n least P : Nat} {E : cE} {r1 r2 r3 r4 : cR} {c2 : Int64} {X : cE × cR} (h : rowS O r1 least c2 r2 r3) (h4 : ncR O r3 = r4) (hP : nrP O r1 least = P) (h0 : r1.2 = 0) (hb : ¬ r4.2 = 0) (hu : nrL O q (n + 1) E r1 least = X) : nrL O q n E r4 (P + 1) = X := by
  have e : nrR O r1 least = r4 := by rw [nrR, h.2.2, h4]
  rw [← hu, nr_next h0, nrE_bad (by rw [e]; exact hb), e, hP]
theorem rowS_good {O : cO} {q n least P : Nat} {E : cE} {r1 r2 r3 r4 : cR} {c2 c4 : Int64} {X : cE × cR} (h : rowS O r1 least c2 r2 r3) (h4 : ncR O r3 = r4) (hc4 : (ncL O 10 0 0 r3).1 = c4) (hP : nrP O r1 least = P) (h0 : r1.2 = 0) (hb : r4.2 = 0) (hu : nrL O q (n + 1) E r1 least = X) : nrL O q n (eSet E q P (zzD c4)) r4 (P + 1) = X := by
  have e : nrR O r1 least = r4 := by rw [nrR, h.2.2, h4]
  rw [← hu, nr_next h0, nrE_good (by rw [e]; exact hb), e, hP, h.2.2, hc4]
def rowB (O : cO) (r : cR) (c0 : Int64) (ra rb : cR) : Prop := (ncL O 10 0 0 r).1 = c0 ∧ ncR O r = ra ∧ wiR (ncR O r) (ncC O r) (nI 100) = rb
theorem rowB_of {O : cO} {r ra rb : cR} {c0 : Int64} (h1 : (ncL O 10 0 0 r).1 = c0) (h2 : ncR O r = ra) (h3 : ndR ra (!wiB c0 (nI 100)) = rb) : rowB O r c0 ra rb := ⟨h1, h2, by rw [← h3, ← h1, ← h2, ndW]⟩
theorem rowB_le {O : cO} {r ra rb : cR} {c0 : Int64} (h : rowB O r c0 ra rb) (hr : r.1 ≤ O.2.1 0) (he : mRe r) : rb.1 ≤ O.2.1 0 ∧ mRe rb := by
  rw [← h.2.2]
  exact ⟨by rw [wiR_1]; exact ncR_le hr (Nat.le_refl _), (he.ncR O).wi _ _⟩
theorem rowB_n {O : cO} {r ra rb : cR} {c0 : Int64} (h : rowB O r c0 ra rb) : ∃ N, nrN O r = N ∧ N ≤ 100 ∧ (rb.2 = 0 → c0.toInt32 = nI N) := by
  refine ⟨_, rfl, ?_, ?_⟩
  · by_cases z : (wiR (ncR O r) (ncC O r) (nI 100)).2 = 0
    · exact (nr_many z).2
    · rw [nr_none z]; omega
  · intro z
    rw [← h.2.2] at z
    rw [← h.1]
    exact (nr_many z).1
theorem rowB_u {O : cO} {q N : Nat} {E : cE} {r ra rb : cR} {c0 : Int64} (h : rowB O r c0 ra rb) (hN : nrN O r = N) : nrL O q N (eClr E q) rb 0 = nrF O q E r := by
  rw [nrF, hN, h.2.2]
