/-! loading: the reference beside the loader -/
def RSc (M : mT) (S : cS) : Prop := M.1 5 = S.2.2.1 ∧ M.1 6 = S.2.2.2.1 ∧ M.2.1 7 = S.2.2.2.2.1 ∧ M.2.1 8 = S.2.2.2.2.2.1 ∧ M.1 9 = S.2.2.2.2.2.2
def RTo (M : mT) (po : Nat → Option Nat) (re cf : Nat → Int32) (n : Nat) : Prop := ∀ j, j < n → my M 15 j = lP po j ∧ my M 16 j = re j ∧ my M 17 j = cf j
def RB (M : mT) (E : cE) (S : cS) (O : cO) : Prop := mBy M O ∧ RE M E ∧ RC M S.2.1 ∧ lrN S.1 M ∧ RSc M S
theorem RB_fr {M M' : mT} {E : cE} {S : cS} {O : cO} (h : RB M E S O) (e1 : M'.2.2.2.1 1 = M.2.2.2.1 1) (e2 : M'.2.2.2.2.2.1 2 = M.2.2.2.2.2.1 2) (e3 : M'.2.2.2.1 3 = M.2.2.2.1 3) (e4 : M'.2.2.2.1 4 = M.2.2.2.1 4) (e10 : M'.2.2.2.2.1 10 = M.2.2.2.2.1 10) (e11 : M'.2.2.1 11 = M.2.2.1 11) (e5 : M'.1 5 = M.1 5) (e6 : M'.1 6 = M.1 6) (e7 : M'.2.1 7 = M.2.1 7) (e8 : M'.2.1 8 = M.2.1 8) (e9 : M'.1 9 = M.1 9) : RB M' E S O := by
  obtain ⟨h1, h2, h3, h4, h5, h6, h7, h8, h9⟩ := h
  refine ⟨⟨fun i => ?_, ?_⟩, fun p i hp hi => ?_, ⟨fun p hp => ?_, h3.2⟩, fun p q hp hq => ?_, ?_, ?_, ?_, ?_, ?_⟩
  · show M'.2.2.2.2.1 10 i = _; rw [e10]; exact h1.1 i
  · rw [e11]; exact h1.2
  · show M'.2.2.2.1 1 _ = _ ∧ M'.2.2.2.2.2.1 2 _ = _; rw [e1, e2]; exact h2 p i hp hi
  · show M'.2.2.2.1 4 p = _; rw [e4]; exact h3.1 p hp
  · show M'.2.2.2.1 3 _ = _; rw [e3]; exact h4 p q hp hq
  · rw [e5]; exact h5
  · rw [e6]; exact h6
  · rw [e7]; exact h7
  · rw [e8]; exact h8
  · rw [e9]; exact h9
theorem RE_E {M : mT} {E E' : cE} (h : RE M E) (he : ∀ p, p < 12 → E'.1 p = E.1 p ∧ E'.2.1 p = E.2.1 p) : RE M E' := fun p i hp hi => by
  rw [(he p hp).1, (he p hp).2]
  exact h p i hp hi
theorem rsX_E {O : cO} {s : Nat} {X : cX} {a : Nat} (ha : a < 13) : (rsX O s X).1.1 a = X.1.1 a ∧ (rsX O s X).1.2.1 a = X.1.2.1 a := by
  unfold rsX
  split
  · exact rsT_E (by omega)
  · exact ⟨rfl, rfl⟩
theorem lsX_E {O : cO} {s : Nat} {T : cT} {a : Nat} (ha : a < 13) : (lsX O s T).1.1 a = T.1.1.1 a ∧ (lsX O s T).1.2.1 a = T.1.1.2.1 a := by
  unfold lsX
  split
  · exact rsX_E ha
  · exact ⟨rfl, rfl⟩
theorem rsX_le {O : cO} {s : Nat} {X : cX} (h : X.2.2.2.2.1 ≤ O.2.1 0) : (rsX O s X).2.2.2.2.1 ≤ O.2.1 0 := by
  have a : (rsR3 O s X).1 ≤ O.2.1 0 := by unfold rsR3; exact n4R_le (rsT_le h) (Nat.le_refl _) 4
  unfold rsX
  split
  · exact a
  · exact npR_le h (Nat.le_refl _)
theorem lsX_le {O : cO} {s : Nat} {T : cT} (h : T.1.2.2.2.2.1 ≤ O.2.1 0) : (lsX O s T).2.2.2.2.1 ≤ O.2.1 0 := by
  unfold lsX
  split
  · exact rsX_le h
  · exact h
/-! faults of the reader: 4 and 5 alone -/
def m45 (r : cR) : Prop := r.2 = 0 ∨ r.2 = nI 4 ∨ r.2 = nI 5
theorem m45.nx {r : cR} (h : m45 r) (O : cO) : m45 (nxR O r) := by
  unfold nxR
  split
  · split
    · exact h
    · exact Or.inr (Or.inl rfl)
  · exact h
theorem m45.rf {r : cR} (h : m45 r) : m45 (rfR r (nI 5)) := by
  unfold rfR
  split
  · exact Or.inr (Or.inr rfl)
  · exact h
theorem m45.nd {r : cR} (h : m45 r) (b : Bool) : m45 (ndR r b) := by
  unfold ndR
  split
  · exact h
  · exact h.rf
theorem m45.nc {r : cR} (h : m45 r) (O : cO) (k : Nat) : m45 (ncS O k r) := by
  rw [← rcF_S]
  exact (h.nx O).nd _
theorem m45.ncL {O : cO} : ∀ (n k : Nat) (v : Int64) (r : cR), m45 r → m45 (ncL O n k v r).2
  | 0, _, _, _, h => h
  | n + 1, k, v, r, h => by
    unfold Jvm.Pilot.@@N@@.ncL
    split
    · split
      · exact m45.ncL n _ _ _ (h.nc O k)
      · exact h.nc O k
    · exact h
theorem m45.ncR {r : cR} (h : m45 r) (O : cO) : m45 (ncR O r) := m45.ncL 10 0 0 r h
theorem m45.wi {r : cR} (h : m45 r) (c : Int64) (x : Int32) : m45 (wiR r c x) := by
  rw [← ndR_wi]
  exact h.nd _
theorem m45.n4 {r : cR} (h : m45 r) (O : cO) : ∀ n, m45 (n4R O r n)
  | 0 => h
  | n + 1 => (m45.n4 h O n).nx O
theorem m45.np {r : cR} (h : m45 r) (O : cO) (seen : Int32) : m45 (npR O r seen) := (h.nx O).nd _
theorem m45.nrL {O : cO} {q : Nat} : ∀ (n : Nat) (E : cE) (r : cR) (least : Nat), m45 r → m45 (nrL O q n E r least).2
  | 0, _, _, _, h => h
  | n + 1, E, r, least, h => by
    unfold Jvm.Pilot.@@N@@.nrL
    split
    · exact m45.nrL n _ _ _ (((h.ncR O).wi _ _).ncR O)
    · exact h
theorem m45.nrF {r : cR} (h : m45 r) (O : cO) (q : Nat) (E : cE) : m45 (nrF O q E r).2 := m45.nrL _ _ _ _ ((h.ncR O).wi _ _)
theorem m45.rr {r : cR} (h : m45 r) (O : cO) (po : Nat → Option Nat) (s p : Nat) (E : cE) (so : Nat → Nat) : m45 (rrF O po s p E so r).2.2 := by
  have a := (h.nx O).nrF O (13 + p) E
  have b := ((h.nx O).nx O)
  have c := ((h.nx O).nx O).rf
  have d := (h.nx O).rf
  unfold rrF
  split
  · dsimp only; exact a
  · split
    · split
      · dsimp only; exact b
      · dsimp only; exact c
    · dsimp only; exact d
/-- the answer of a section's reading, and its fault -/
theorem rsV_45 {nd : Nat → Int32} {rf : Int32} {O : cO} {s : Nat} {X : cX} (h : m45 X.2.2.2.2) : ((rsX O s X).2.2.2.2.2 = 0 ∧ ¬ rsV nd rf O s X = nI 4 ∧ ¬ rsV nd rf O s X = nI 5 ∧ (rsV nd rf O s X = 0 ∨ 0 < rsV nd rf O s X)) ∨ (¬ (rsX O s X).2.2.2.2.2 = 0 ∧ rsV nd rf O s X = (rsX O s X).2.2.2.2.2 ∧ (rsV nd rf O s X = nI 4 ∨ rsV nd rf O s X = nI 5) ∧ 0 < rsV nd rf O s X) := by
  have h1 : m45 (rsR1 O X) := h.np O _
  have h3 : m45 (rsR3 O s X) := by
    unfold rsR3 rsT
    exact (h1.rr O _ _ _ _ _).n4 O 4
  have pos : ∀ r : cR, m45 r → ¬ r.2 = 0 → (r.2 = nI 4 ∨ r.2 = nI 5) ∧ 0 < r.2 := fun r hr h0 => by
    rcases hr with z | z | z
    · exact absurd z h0
    · rw [z]; exact ⟨Or.inl rfl, by decide⟩
    · rw [z]; exact ⟨Or.inr rfl, by decide⟩
  by_cases z1 : (rsR1 O X).2 = 0
  · have e : (rsX O s X).2.2.2.2 = rsR3 O s X := by unfold rsX; rw [if_pos z1]
    rw [e]
    by_cases z3 : (rsR3 O s X).2 = 0
    · refine Or.inl ⟨z3, ?_⟩
      unfold rsV
      rw [if_pos z1, if_pos z3]
      split
      · split
        · decide
        · split <;> decide
      · decide
    · refine Or.inr ⟨z3, ?_⟩
      rw [rsV_f z1 z3]
      exact ⟨rfl, pos _ h3 z3⟩
  · have e : (rsX O s X).2.2.2.2 = rsR1 O X := by unfold rsX; rw [if_neg z1]
    have e2 : rsV nd rf O s X = (rsR1 O X).2 := by unfold rsV; rw [if_neg z1]
    rw [e, e2]
    exact Or.inr ⟨z1, rfl, pos _ h1 z1⟩
theorem rsX_f {O : cO} {s : Nat} {X : cX} (h : m45 X.2.2.2.2) : m45 (rsX O s X).2.2.2.2 := by
  have h1 : m45 (rsR1 O X) := h.np O _
  unfold rsX
  split
  · have a : m45 (rsR3 O s X) := by unfold rsR3 rsT; exact (h1.rr O _ _ _ _ _).n4 O 4
    dsimp only
    exact a
  · dsimp only; exact h1
theorem lsX_f {O : cO} {s : Nat} {T : cT} (h : m45 T.1.2.2.2.2) : m45 (lsX O s T).2.2.2.2 := by
  unfold lsX
  split
  · exact rsX_f h
  · exact h
theorem lsR_45 {O : cO} {s : Nat} {T : cT} (h : m45 T.1.2.2.2.2) (h0 : T.1.2.2.2.2.2 = 0) : ((lsX O s T).2.2.2.2.2 = 0 ∧ ¬ lsR O s T = nI 4 ∧ ¬ lsR O s T = nI 5 ∧ (lsR O s T = 0 ∨ 0 < lsR O s T)) ∨ (¬ (lsX O s T).2.2.2.2.2 = 0 ∧ (lsR O s T = nI 4 ∨ lsR O s T = nI 5) ∧ 0 < lsR O s T) := by
  have e1 : lsX O s T = rsX O s (lsX0 s T.1) := by unfold lsX; rw [if_pos h0]
  have e2 : lsR O s T = rsV T.2.1.1 T.2.2.2.2.1 O s (lsX0 s T.1) := by unfold lsR; rw [if_pos h0]
  rw [e1, e2]
  rcases rsV_45 (nd := T.2.1.1) (rf := T.2.2.2.2.1) (O := O) (s := s) (X := lsX0 s T.1) h with z | z
  · exact Or.inl z
  · exact Or.inr ⟨z.1, z.2.2⟩
/-- the loop of the loading -/
def LI (O : cO) (T : cT) (k : Nat) (M : mT) : Prop :=
  RB M T.1.1 T.2.1 O ∧ rvP M T.1.1 ∧ RTo M T.1.2.1 T.2.2.1 T.2.2.2.1 k ∧ M.2.2.1 22 = T.1.2.2.2.2.1 ∧ (T.1.2.2.2.2.2 = 0 → lrC T.1 k M ∧ lrF T.1 T.2.2.1 T.2.2.2.2.1 k) ∧
  T.2.2.2.2.2 ≤ k ∧ (¬ T.1.2.2.2.2.2 = 0 → T.2.2.2.2.2 < k) ∧ cOK T.1 ∧ T.1.2.2.2.2.1 ≤ O.2.1 0 ∧ m45 T.1.2.2.2.2 ∧ (∀ i, i < 100 → T.1.1.1 12 i = false)
def LJ (O : cO) (T : cT) (k : Nat) (M : mT) : Prop :=
  RB M (lsX O k T).1 T.2.1 O ∧ rvP M (lsX O k T).1 ∧ RTo M (lsX O k T).2.1 (va_up T.2.2.1 k (lsR O k T)) (va_up T.2.2.2.1 k (nI 0)) (k + 1) ∧ M.2.2.1 22 = (lsX O k T).2.2.2.2.1 ∧ ((lsX O k T).2.2.2.2.2 = 0 → lrC (lsX O k T) (k + 1) M ∧ lrF T.1 T.2.2.1 T.2.2.2.2.1 k ∧ T.1.2.2.2.2.2 = 0) ∧
  T.2.2.2.2.2 ≤ k ∧ cOK T.1 ∧ T.1.2.2.2.2.1 ≤ O.2.1 0 ∧ m45 T.1.2.2.2.2 ∧ (∀ i, i < 100 → T.1.1.1 12 i = false)
theorem lP_up {po : Nat → Option Nat} {k j : Nat} {o : Option Nat} (h : j ≠ k) : lP (va_up po k o) j = lP po j := by unfold lP; rw [va_up_ne _ _ h]
theorem lrC_0 {X : cX} {k : Nat} {M : mT} (h : lrC X k M) : lrC (lsX0 k X) k M := by
  have e : ∀ j, j < k → (lsX0 k X).2.1 j = X.2.1 j := fun j hj => va_up_ne _ _ (by omega)
  refine ⟨fun j hj => ?_, fun i j q hi hj h1 h2 => ?_, fun q hq => ?_⟩
  · obtain ⟨q, a1, a2, a3, a4, a5, i, a6, a7⟩ := h.1 j hj
    exact ⟨q, (e j hj).trans a1, a2, a3, a4, a5, i, a6, (e i a6).trans a7⟩
  · rw [e i hi] at h1
    rw [e j hj] at h2
    exact h.2.1 i j q hi hj h1 h2
  · refine (h.2.2 q hq).trans ⟨fun ⟨j, b1, b2⟩ => ⟨j, b1, (e j b1).trans b2⟩, fun ⟨j, b1, b2⟩ => ⟨j, b1, (e j b1).symm.trans b2⟩⟩
theorem lrF_0 {X : cX} {re : Nat → Int32} {rf : Int32} {k : Nat} (h : lrF X re rf k) : lrF (lsX0 k X) re rf k := by
  have e : ∀ j, j < k → (lsX0 k X).2.1 j = X.2.1 j := fun j hj => va_up_ne _ _ (by omega)
  refine ⟨fun q hq => (h.1 q hq).trans ⟨fun ⟨j, b1, b2, b3⟩ => ⟨j, b1, (e j b1).trans b2, b3⟩, fun ⟨j, b1, b2, b3⟩ => ⟨j, b1, (e j b1).symm.trans b2, b3⟩⟩, h.2⟩
theorem LJ_read {O : cO} {T : cT} {k : Nat} {M : mT} {f15 f19 : Nat → Int32} {z18 z20 : Nat → Bool} {j21 : Nat → Int64} {r' : cR} {c' : Int64} (hI : LI O T k M) (h0 : T.1.2.2.2.2.2 = 0) (hs : secPost O (lsX0 k T.1) T.2.1.1 T.2.2.2.2.1 k (mK (mS (mLb M f15 (va_up (M.2.2.2.2.1 17) k (nI 0)) f19 z18 z20 j21) r') c')) : LJ O T k (mYi (mK (mS (mLb M f15 (va_up (M.2.2.2.2.1 17) k (nI 0)) f19 z18 z20 j21) r') c') 16 k r'.2) := by
  obtain ⟨a1, a2, a3, a4, a5, a6, a7, a8, a9, a10, a11⟩ := hI
  have e1 : lsX O k T = rsX O k (lsX0 k T.1) := by unfold lsX; rw [if_pos h0]
  have e2 : lsR O k T = rsV T.2.1.1 T.2.2.2.2.1 O k (lsX0 k T.1) := by unfold lsR; rw [if_pos h0]
  obtain ⟨s1, s2, s3, s4, s5⟩ := hs
  unfold LJ
  rw [e1, e2]
  have b1 := RB_fr (M' := mYi (mK (mS (mLb M f15 (va_up (M.2.2.2.2.1 17) k (nI 0)) f19 z18 z20 j21) r') c') 16 k r'.2) a1 rfl rfl rfl rfl rfl rfl rfl rfl rfl rfl rfl
  refine ⟨⟨b1.1, RE_E b1.2.1 (fun p hp => rsX_E (by omega)), b1.2.2⟩, s4, fun j hj => ⟨s1 j hj, ?_, ?_⟩, s2, fun z => ⟨s5 z, (a5 h0).2, h0⟩, a6, a8, a9, a10, a11⟩
  · show va_up (M.2.2.2.2.1 16) k r'.2 j = va_up T.2.2.1 k _ j
    have s3' : r'.2 = rsV T.2.1.1 T.2.2.2.2.1 O k (lsX0 k T.1) := s3
    by_cases e : j = k
    · rw [e, va_up_self, va_up_self]; exact s3'
    · rw [va_up_ne _ _ e, va_up_ne _ _ e]; exact (a3 j (by omega)).2.1
  · show va_up (M.2.2.2.2.1 17) k (nI 0) j = va_up T.2.2.2.1 k (nI 0) j
    by_cases e : j = k
    · rw [e, va_up_self, va_up_self]
    · rw [va_up_ne _ _ e, va_up_ne _ _ e]; exact (a3 j (by omega)).2.2
theorem LJ_not {O : cO} {T : cT} {k : Nat} {M : mT} (hI : LI O T k M) (h0 : ¬ T.1.2.2.2.2.2 = 0) : LJ O T k (mYi (mYi (mYi M 15 k (-1)) 16 k (nI 4)) 17 k (nI 0)) := by
  obtain ⟨a1, a2, a3, a4, a5, a6, a7, a8, a9, a10, a11⟩ := hI
  have e1 : lsX O k T = lsX0 k T.1 := by unfold lsX; rw [if_neg h0]
  have e2 : lsR O k T = nI 4 := by unfold lsR; rw [if_neg h0]
  unfold LJ
  rw [e1, e2]
  have b1 := RB_fr (M' := mYi (mYi (mYi M 15 k (-1)) 16 k (nI 4)) 17 k (nI 0)) a1 rfl rfl rfl rfl rfl rfl rfl rfl rfl rfl rfl
  refine ⟨b1, a2, fun j hj => ?_, a4, fun z => absurd z h0, a6, a8, a9, a10, a11⟩
  show va_up (M.2.2.2.2.1 15) k (-1) j = lP (va_up T.1.2.1 k none) j ∧ va_up (M.2.2.2.2.1 16) k (nI 4) j = va_up T.2.2.1 k (nI 4) j ∧ va_up (M.2.2.2.2.1 17) k (nI 0) j = va_up T.2.2.2.1 k (nI 0) j
  by_cases e : j = k
  · rw [e, va_up_self, va_up_self, va_up_self, va_up_self, va_up_self]
    unfold lP
    rw [va_up_self]
    exact ⟨rfl, rfl, rfl⟩
  · rw [va_up_ne _ _ e, va_up_ne _ _ e, va_up_ne _ _ e, va_up_ne _ _ e, va_up_ne _ _ e, lP_up e]
    exact a3 j (by omega)
theorem lsX_po {O : cO} {k : Nat} {T : cT} {j : Nat} (h : j ≠ k) : (lsX O k T).2.1 j = T.1.2.1 j := by
  unfold lsX
  split
  · unfold rsX
    split
    · show va_up (va_up T.1.2.1 k none) k _ j = _
      rw [va_up_ne _ _ h, va_up_ne _ _ h]
    · exact va_up_ne _ _ h
  · exact va_up_ne _ _ h
theorem LI_no {O : cO} {T : cT} {k : Nat} {M : mT} {w : Bool} (hO : O.2.1 0 ≤ 8000) (hJ : LJ O T k M) (hn : ¬ lsR O k T = 0) : LI O (lsS O w k T) (k + 1) M := by
  obtain ⟨a1, a2, a3, a4, a5, a6, a8, a9, a10, a11⟩ := hJ
  have e : lsS O w k T = (lsX O k T, T.2.1, va_up T.2.2.1 k (lsR O k T), va_up T.2.2.2.1 k (nI 0), lsRf O k T, T.2.2.2.2.2) := by unfold lsS; rw [if_neg hn]
  rw [e]
  refine ⟨a1, a2, a3, a4, fun z => ?_, Nat.le_succ_of_le a6, fun _ => Nat.lt_succ_of_le a6, ⟨(lsX_ok (s := k) hO a8).1, (lsX_ok (s := k) hO a8).2.1, (lsX_ok (s := k) hO a8).2.2.1, (lsX_ok (s := k) hO a8).2.2.2⟩, lsX_le a9, lsX_f a10, fun i hi => ?_⟩
  · obtain ⟨c1, c2, c3⟩ := a5 z
    refine ⟨c1, ?_⟩
    obtain ⟨P, p1, p2, -⟩ := c1.1 k (by omega)
    have hrf : lsRf O k T = T.2.2.2.2.1 ||| bitI P := by unfold lsRf; rw [p1]
    have hpos : 0 < lsR O k T := by
      rcases lsR_45 (s := k) a10 c3 with g | g
      · exact g.2.2.2.elim (fun g' => absurd g' hn) id
      · exact g.2.2
    show lrF (lsX O k T) (va_up T.2.2.1 k (lsR O k T)) (lsRf O k T) (k + 1)
    rw [hrf]
    refine ⟨fun q hq => ?_, fun q hq => ?_⟩
    · rw [b_or, bt_bit (by omega) (by omega), Bool.or_eq_true, c2.1 q hq, decide_eq_true_eq]
      constructor
      · rintro (⟨j, g1, g2, g3⟩ | g)
        · exact ⟨j, by omega, (lsX_po (by omega)).trans g2, by rw [va_up_ne _ _ (by omega)]; exact g3⟩
        · exact ⟨k, by omega, by rw [p1, g], by rw [va_up_self]; exact hpos⟩
      · rintro ⟨j, g1, g2, g3⟩
        by_cases ej : j = k
        · subst ej
          rw [p1] at g2
          cases g2
          exact Or.inr rfl
        · rw [lsX_po ej] at g2
          rw [va_up_ne _ _ ej] at g3
          exact Or.inl ⟨j, by omega, g2, g3⟩
    · rw [b_or, c2.2 q hq, Bool.false_or]
      rcases Nat.lt_or_ge q 32 with g | g
      · rw [bt_bit (by omega) g, decide_eq_false (by omega)]
      · exact bt_big g
  · show (lsX O k T).1.1 12 i = false
    rw [(lsX_E (by omega)).1]
    exact a11 i hi
theorem LI_yes {O : cO} {T : cT} {k : Nat} {M : mT} {w : Bool} (hO : O.2.1 0 ≤ 8000) (hJ : LJ O T k M) (hn : lsR O k T = 0) : LI O (lsS O w k T) (k + 1) (coL M w k (lsP O k T) ((lsX O k T).2.2.1 (lsP O k T)) 100) := by
  obtain ⟨a1, a2, a3, a4, a5, a6, a8, a9, a10, a11⟩ := hJ
  have e : lsS O w k T = (((lsMg O w k T).1, (lsX O k T).2), (lsMg O w k T).2.1, va_up T.2.2.1 k (lsR O k T), va_up (va_up T.2.2.2.1 k (nI 0)) k (nI (lsMg O w k T).2.2), T.2.2.2.2.1, T.2.2.2.2.2 + 1) := by unfold lsS; rw [if_pos hn]
  have hok := lsS_ok (w := w) (s := k) hO a8
  obtain ⟨q0, q1, q2⟩ := lsR_0 hn
  have hf : (lsX O k T).2.2.2.2.2 = 0 := by
    rcases lsR_45 (s := k) a10 q0 with g | g
    · exact g.1
    · rw [hn] at g; exact absurd g.2.2 (by decide)
  obtain ⟨c1, c2, c3⟩ := a5 hf
  obtain ⟨P, p1, p2, p3, p4, p5, p6⟩ := c1.1 k (by omega)
  have hP : lsP O k T = P := by rw [q1] at p1; exact Option.some.inj p1
  rw [e] at hok ⊢
  unfold lsMg at hok ⊢
  rw [hP] at hok ⊢
  have hq : (lsX O k T).2.2.1 P < 12 := (lsX_ok (s := k) hO a8).2.1 P
  have hco := co_ls (M := M) (E := (lsX O k T).1) (S := T.2.1) (k := k) (p := P) (q := (lsX O k T).2.2.1 P) (d := w) p2 a1.2.1 a1.2.2.1 p5 a2 hq a1.2.2.2.2.2.1
  generalize coL M w k P ((lsX O k T).2.2.1 P) 100 = M3 at hco ⊢
  generalize lsM (lsX O k T).1 T.2.1 w P (13 + (lsX O k T).2.2.1 P) = L3 at hco hok ⊢
  obtain ⟨⟨z1, z4, j2, f17, b1, b1'⟩, b2, b3, b4, b5, b6, b7⟩ := hco
  subst b1
  have hE : ∀ a, 12 ≤ a → L3.1.1 a = (lsX O k T).1.1 a ∧ L3.1.2.1 a = (lsX O k T).1.2.1 a := fun a ha => b7 a (by omega)
  refine ⟨⟨a1.1, b3, b4, ?_, ?_⟩, ?_, ?_, a4, fun z => ⟨?_, ?_⟩, Nat.succ_le_succ a6, fun z => absurd hf z, hok, lsX_le a9, lsX_f a10, fun i hi => ?_⟩
  · show lrN L3.2.1.1 _
    rw [b5]
    exact a1.2.2.2.1
  · show RSc _ L3.2.1
    obtain ⟨g5, g6, g7, g8, g9⟩ := a1.2.2.2.2
    unfold RSc
    rw [b6]
    exact ⟨g5, g6, g7, g8, g9⟩
  · intro p i hp hi
    show M.2.2.2.2.2.1 21 (100 * p + i) = L3.1.2.1 (13 + p) i
    rw [(hE (13 + p) (by omega)).2]
    exact a2 p i hp hi
  · intro j hj
    refine ⟨(a3 j hj).1, (a3 j hj).2.1, ?_⟩
    show f17 j = va_up (va_up T.2.2.2.1 k (nI 0)) k (nI L3.2.2) j
    by_cases ej : j = k
    · have h17 := (a3 k (by omega)).2.2
      rw [va_up_self] at h17
      rw [ej, va_up_self]
      have b2' : f17 k = my M 17 k + nI L3.2.2 := b2
      rw [b2', h17, show nI 0 = (0 : Int32) from rfl, Int32.zero_add]
    · rw [va_up_ne _ _ ej, b1' j ej]
      have := (a3 j hj).2.2
      rw [this, va_up_ne _ _ ej]
  · refine ⟨fun j hj => ?_, c1.2.1, c1.2.2⟩
    obtain ⟨q, d1, d2, d3, d4, d5, d6⟩ := c1.1 j hj
    refine ⟨q, d1, d2, d3, d4, fun i hi => ?_, d6⟩
    show M.2.2.2.1 20 (100 * (lsX O k T).2.2.1 q + i) = L3.1.1 (13 + (lsX O k T).2.2.1 q) i
    rw [(hE _ (by omega)).1]
    exact d5 i hi
  · show lrF ((L3.1), (lsX O k T).2) (va_up T.2.2.1 k (lsR O k T)) T.2.2.2.2.1 (k + 1)
    rw [hn]
    refine ⟨fun q hq => (c2.1 q hq).trans ⟨?_, ?_⟩, c2.2⟩
    · rintro ⟨j, g1, g2, g3⟩
      exact ⟨j, by omega, (lsX_po (by omega)).trans g2, by rw [va_up_ne _ _ (by omega)]; exact g3⟩
    · rintro ⟨j, g1, g2, g3⟩
      by_cases ej : j = k
      · rw [ej, va_up_self] at g3
        exact absurd g3 (by decide)
      · rw [va_up_ne _ _ ej] at g3
        exact ⟨j, by omega, (lsX_po ej).symm.trans g2, g3⟩
  · show L3.1.1 12 i = false
    rw [(hE 12 (by omega)).1, (lsX_E (by omega)).1]
    exact a11 i hi
theorem LJ_come {O : cO} {T : cT} {k : Nat} {M : mT} (hO : O.2.1 0 ≤ 8000) (hJ : LJ O T k M) (hn : lsR O k T = 0) : my M 15 k = nI (lsP O k T) ∧ my M 19 k = nI ((lsX O k T).2.2.1 (lsP O k T)) ∧ lsP O k T < 12 ∧ (lsX O k T).2.2.1 (lsP O k T) < 12 := by
  obtain ⟨a1, a2, a3, a4, a5, a6, a8, a9, a10, a11⟩ := hJ
  obtain ⟨q0, q1, q2⟩ := lsR_0 hn
  have hf : (lsX O k T).2.2.2.2.2 = 0 := by
    rcases lsR_45 (s := k) a10 q0 with g | g
    · exact g.1
    · rw [hn] at g; exact absurd g.2.2 (by decide)
  obtain ⟨c1, c2, c3⟩ := a5 hf
  obtain ⟨P, p1, p2, p3, p4, p5, p6⟩ := c1.1 k (by omega)
  have hP : lsP O k T = P := by rw [q1] at p1; exact Option.some.inj p1
  rw [hP]
  refine ⟨?_, p3, p2, (lsX_ok (s := k) hO a8).2.1 P⟩
  rw [(a3 k (by omega)).1]
  unfold lP
  rw [p1]
  rfl
theorem LI_0 {M : mT} {E : cE} {S : cS} {O : cO} {po : Nat → Option Nat} {re cf : Nat → Int32} {so : Nat → Nat} (hO : O.2.1 0 ≤ 8000) (h : RB M E S O) (hv : rvP M E) (hE : eOK E) (hso : ∀ j, so j < 12) (hpo : ∀ j q, po j = some q → q < 12) (hno : ∀ i, i < 100 → E.1 12 i = false) (hat : M.2.2.1 22 = hdL O) (hl : hdL O ≤ O.2.1 0) : LI O (lsT0 E S O po re cf so) 0 M := by
  refine ⟨h, hv, fun j hj => absurd hj (Nat.not_lt_zero j), hat, fun _ => ⟨⟨fun j hj => absurd hj (Nat.not_lt_zero j), fun i j q hi => absurd hi (Nat.not_lt_zero i), fun q hq => ?_⟩, fun q hq => ?_, fun q hq => ?_⟩, Nat.le_refl 0, fun z => absurd rfl z, ⟨hE, hso, hpo, Nat.le_trans hl hO⟩, hl, Or.inl rfl, hno⟩
  · show bt (nI 0) q = true ↔ _
    rw [show nI 0 = (0 : Int32) from rfl, b_0]
    exact ⟨fun z => (by cases z), fun ⟨j, hj, _⟩ => absurd hj (Nat.not_lt_zero j)⟩
  · show bt (nI 0) q = true ↔ _
    rw [show nI 0 = (0 : Int32) from rfl, b_0]
    exact ⟨fun z => (by cases z), fun ⟨j, hj, _⟩ => absurd hj (Nat.not_lt_zero j)⟩
  · show bt (nI 0) q = false
    exact b_0 q
/-! what is alike -/
theorem cnt_mono {f g : Nat → Bool} : ∀ {n : Nat}, (∀ i, i < n → f i = true → g i = true) → cnt f n ≤ cnt g n
  | 0, _ => Nat.le_refl 0
  | n + 1, h => by
    have := cnt_mono (f := f) (g := g) (n := n) (fun i hi => h i (by omega))
    unfold cnt
    by_cases hf : f n = true
    · rw [if_pos hf, if_pos (h n (by omega) hf)]; omega
    · rw [if_neg hf]; omega
theorem cnt_sub {f g : Nat → Bool} : ∀ {n : Nat}, (∀ i, i < n → f i = true → g i = true) → cnt f n = cnt g n → ∀ i, i < n → f i = g i
  | 0, _, _, i, hi => absurd hi (Nat.not_lt_zero i)
  | n + 1, h, e, i, hi => by
    have hm := cnt_mono (f := f) (g := g) (n := n) (fun i hi => h i (by omega))
    unfold cnt at e
    have hn : f n = g n := by
      cases hf : f n with
      | true => rw [h n (by omega) hf]
      | false =>
        cases hg : g n with
        | false => rfl
        | true => rw [hf, hg, if_neg (by decide), if_pos rfl] at e; omega
    rw [hn] at e
    by_cases ei : i = n
    · rw [ei]; exact hn
    · exact cnt_sub (n := n) (fun i hi => h i (by omega)) (by omega) i (by omega)
theorem cnt_cong {f g : Nat → Bool} : ∀ {n : Nat}, (∀ i, i < n → f i = g i) → cnt f n = cnt g n
  | 0, _ => rfl
  | n + 1, h => by
    unfold cnt
    rw [cnt_cong (n := n) (fun i hi => h i (by omega)), h n (by omega)]
theorem eLike_iff {E : cE} (hE : eOK E) {a b : Nat} (ha : a < 26) (hb : b < 26) : eLike E a b = true ↔ ∀ i, i < 100 → E.1 a i = E.1 b i ∧ (E.1 a i = true → E.2.1 a i = E.2.1 b i) := by
  unfold eLike eIn
  rw [Bool.and_eq_true, decide_eq_true_eq, allB_iff, hE a ha, hE b hb]
  have key : ∀ i, ((!E.1 a i || eHolds E b i (E.2.1 a i)) = true ↔ (E.1 a i = true → E.1 b i = true ∧ E.2.1 a i = E.2.1 b i)) := fun i => by
    unfold eHolds
    cases E.1 a i with
    | false => exact ⟨fun _ z => (by cases z), fun _ => rfl⟩
    | true =>
      rw [Bool.not_true, Bool.false_or, Bool.and_eq_true, decide_eq_true_eq]
      exact ⟨fun z _ => ⟨z.1, z.2.symm⟩, fun z => ⟨(z rfl).1, (z rfl).2.symm⟩⟩
  constructor
  · rintro ⟨h1, h2⟩ i hi
    have h3 : ∀ i, i < 100 → (E.1 a i = true → E.1 b i = true ∧ E.2.1 a i = E.2.1 b i) := fun i hi => (key i).mp (h2 i hi)
    exact ⟨cnt_sub (fun i hi z => (h3 i hi z).1) h1 i hi, fun z => (h3 i hi z).2⟩
  · intro h
    refine ⟨cnt_cong (fun i hi => (h i hi).1), fun i hi => (key i).mpr (fun z => ⟨?_, (h i hi).2 z⟩)⟩
    rw [← (h i hi).1]; exact z
theorem bbM_bt {E : cE} {so : Nat → Nat} {seen : Int32} {p : Nat} (hp : p < 32) : ∀ n, n ≤ 32 → bt (bbM E so seen n) p = (decide (p < n) && !eLike E p (if bt seen p = true then 13 + so p else 12))
  | 0, _ => by
    show bt (nI 0) p = _
    rw [show nI 0 = (0 : Int32) from rfl, b_0, decide_eq_false (by omega)]
    rfl
  | n + 1, hn => by
    have ih := bbM_bt (E := E) (so := so) (seen := seen) hp n (by omega)
    unfold bbM
    by_cases hl : eLike E n (if bt seen n = true then 13 + so n else 12) = true
    · rw [if_pos hl, ih]
      by_cases e : p = n
      · subst e
        rw [hl]
        simp
      · rw [show decide (p < n + 1) = decide (p < n) by rw [decide_eq_decide]; omega]
    · rw [if_neg hl, b_or, ih, bt_bit (by omega) hp]
      by_cases e : p = n
      · subst e
        rw [show eLike E p (if bt seen p = true then 13 + so p else 12) = false from Bool.not_eq_true _ ▸ hl]
        simp
      · rw [show decide (p < n + 1) = decide (p < n) by rw [decide_eq_decide]; omega, decide_eq_false e, Bool.or_false]
theorem ca_like {M : mT} {E : cE} {so : Nat → Nat} {po : Nat → Option Nat} {seen : Int32} {Rd : cR} {n p : Nat} (hp : p < 12) (hE : eOK E) (hRE : RE M E) (hv : rvP M E) (hC : lrC (E, po, so, seen, Rd) n M) (hT : ∀ j, j < n → my M 15 j = lP po j) (hpo : ∀ j q, po j = some q → q < 12) (hso : ∀ j, so j < 12) (hno : ∀ i, i < 100 → E.1 12 i = false) (hn : M.2.2.1 14 = n) :
    allB (caS M p (caO M p)) 100 = eLike E p (if bt seen p = true then 13 + so p else 12) := by
  have hsq : ∃ a, (if bt seen p = true then 13 + so p else 12) = a ∧ a < 26 ∧ ∀ i, i < 100 → caT M (caO M p) i = E.1 a i ∧ (caT M (caO M p) i = true → mj M 21 (100 * caQ M (caO M p) + i) = E.2.1 a i) := by
    refine ⟨_, rfl, ?_, ?_⟩
    · have := hso p
      split <;> omega
    · cases ho : caO M p with
      | none =>
        have hns := mLs_no ho
        have hb : bt seen p = false := by
          cases hb : bt seen p with
          | false => rfl
          | true =>
            obtain ⟨j, j1, j2⟩ := (hC.2.2 p hp).mp hb
            exfalso
            refine hns j (by omega) ?_
            show my M 15 j = nI p
            rw [hT j j1]
            exact (lP_eq hpo (by omega)).mpr j2
        intro i hi
        rw [hb, if_neg (by decide), hno i hi]
        exact ⟨rfl, fun z => (by cases z)⟩
      | some k =>
        obtain ⟨k1, k2⟩ := mLs_lt ho
        rw [hn] at k1
        have hk : po k = some p := (lP_eq hpo (by omega)).mp ((hT k k1).symm.trans k2)
        have hb : bt seen p = true := (hC.2.2 p hp).mpr ⟨k, k1, hk⟩
        obtain ⟨q, d1, d2, d3, d4, d5, d6⟩ := hC.1 k k1
        have hqp : q = p := by
          have d1' : po k = some q := d1
          rw [hk] at d1'
          exact (Option.some.inj d1').symm
        subst hqp
        have hsp := hso q
        have hcq : caQ M (some k) = so q := by
          show cl (my M 19 k) = so q
          rw [d3]
          exact nI_clamp (show so q < 2 ^ 31 by omega)
        intro i hi
        rw [hb, if_pos rfl]
        unfold caT
        rw [hcq]
        exact ⟨d5 i hi, fun _ => hv (so q) i hsp hi⟩
  obtain ⟨a, ha1, ha2, ha3⟩ := hsq
  rw [ha1, Bool.eq_iff_iff, eLike_iff hE (by omega) ha2, allB_iff]
  constructor
  · intro h i hi
    have h1 := h i hi
    unfold caS at h1
    rw [Bool.and_eq_true, decide_eq_true_eq, (hRE p i hp hi).1, (ha3 i hi).1] at h1
    refine ⟨h1.1.symm, fun z => ?_⟩
    have z' : E.1 a i = true := by rw [h1.1]; exact z
    have h2 := h1.2
    rw [z', Bool.not_true, Bool.false_or, decide_eq_true_eq, (hRE p i hp hi).2, (ha3 i hi).2 (by rw [(ha3 i hi).1]; exact z')] at h2
    exact h2
  · intro h i hi
    obtain ⟨h1, h2⟩ := h i hi
    unfold caS
    rw [Bool.and_eq_true, decide_eq_true_eq, (hRE p i hp hi).1, (ha3 i hi).1]
    refine ⟨h1.symm, ?_⟩
    cases z : E.1 a i with
    | false => rfl
    | true =>
      rw [Bool.not_true, Bool.false_or, decide_eq_true_eq, (hRE p i hp hi).2, (ha3 i hi).2 (by rw [(ha3 i hi).1]; exact z)]
      exact h2 (by rw [h1]; exact z)
/-- the loading ends -/
theorem LI_end1 {O : cO} {T : cT} {n : Nat} {M : mT} (h : LI O T n M) : RB (mN M 14 n) T.1.1 T.2.1 O ∧ rvP (mN M 14 n) T.1.1 ∧ RTo (mN M 14 n) T.1.2.1 T.2.2.1 T.2.2.2.1 n ∧ (mN M 14 n).2.2.1 14 = n ∧ (∀ i, i < 100 → T.1.1.1 12 i = false) := ⟨RB_fr h.1 rfl rfl rfl rfl rfl rfl rfl rfl rfl rfl rfl, h.2.1, h.2.2.1, rfl, h.2.2.2.2.2.2.2.2.2.2⟩
theorem LI_end2 {O : cO} {T : cT} {n : Nat} {M M1 : mT} (h : LI O T n M) (hld : T.2.2.2.2.2 = n) (hM1 : M1 = mI (mB (mN M 14 n) 8 true) 9 (smF (M.2.2.2.2.1 10) 0 (M.2.2.1 22))) :
    RB (mZ M1 4 (caZ M1 12)) T.1.1 (bbS T.1.1 T.2.1 O T.1.2.2.1 T.1.2.2.2.1 T.1.2.2.2.2 12) O ∧ rvP (mZ M1 4 (caZ M1 12)) T.1.1 ∧ RTo (mZ M1 4 (caZ M1 12)) T.1.2.1 T.2.2.1 T.2.2.2.1 n ∧ (mZ M1 4 (caZ M1 12)).2.2.1 14 = n ∧ (∀ i, i < 100 → T.1.1.1 12 i = false) := by
  obtain ⟨a1, a2, a3, a4, a5, a6, a7, a8, a9, a10, a11⟩ := h
  have hf : T.1.2.2.2.2.2 = 0 := Classical.byContradiction (fun z => by have := a7 z; omega)
  have hC := (a5 hf).1
  obtain ⟨b1, b2, b3, b4, b5⟩ := a1
  refine ⟨⟨?_, ?_, ⟨fun p hp => ?_, fun p hp => ?_⟩, ?_, ?_⟩, ?_, ?_, ?_, a11⟩
  · subst hM1; exact b1
  · subst hM1; exact b2
  · show caZ M1 12 p = bt (bbM T.1.1 T.1.2.2.1 T.1.2.2.2.1 12) p
    rw [bbM_bt (by omega) 12 (by omega), decide_eq_true hp, Bool.true_and]
    unfold caZ
    rw [if_pos hp, ca_like (M := M1) (E := T.1.1) (so := T.1.2.2.1) (po := T.1.2.1) (seen := T.1.2.2.2.1) (Rd := T.1.2.2.2.2) (n := n) hp a8.1 (by subst hM1; exact b2) (by subst hM1; exact a2) (by subst hM1; exact hC) (fun j hj => by subst hM1; exact (a3 j hj).1) a8.2.2.1 a8.2.1 a11 (by subst hM1; rfl)]
  · show bt (bbM T.1.1 T.1.2.2.1 T.1.2.2.2.1 12) p = false
    rcases Nat.lt_or_ge p 32 with g | g
    · rw [bbM_bt g 12 (by omega), decide_eq_false (by omega)]
      rfl
    · exact bt_big g
  · subst hM1; exact b4
  · subst hM1
    refine ⟨b5.1, b5.2.1, b5.2.2.1, rfl, ?_⟩
    show smF (M.2.2.2.2.1 10) 0 (M.2.2.1 22) = smF (oAt O 0) 0 T.1.2.2.2.2.1
    rw [a4]
    exact smF_cong (fun i _ hi => b1.at (by omega))
  · subst hM1; exact a2
  · subst hM1; exact a3
  · subst hM1; rfl
theorem LI_19 {O : cO} {T : cT} {n : Nat} {M : mT} (h : LI O T n M) (hld : T.2.2.2.2.2 = n) : ∀ k, k < n → ∃ q, q < 12 ∧ my M 19 k = nI q := by
  obtain ⟨a1, a2, a3, a4, a5, a6, a7, a8, a9, a10, a11⟩ := h
  have hf : T.1.2.2.2.2.2 = 0 := Classical.byContradiction (fun z => by have := a7 z; omega)
  intro k hk
  obtain ⟨q, d1, d2, d3, d4, d5, d6⟩ := (a5 hf).1.1 k hk
  exact ⟨_, a8.2.1 q, d3⟩
/-- what load leaves -/
def loadP (M : mT) (E : cE) (S : cS) (O : cO) (po : Nat → Option Nat) (re cf : Nat → Int32) (so : Nat → Nat) (M' : mT) : Prop :=
  (S.2.2.2.2.1 = true → M' = mT0 M) ∧ (S.2.2.2.2.1 = false → (O.2.1 0 = 0 ∨ ¬ raW S O = 0) → M' = mN (mT0 M) 14 0) ∧
  (S.2.2.2.2.1 = false → ¬ O.2.1 0 = 0 → raW S O = 0 → RB M' (lsT E S O po re cf so).1.1 (lsEnd O (lsT E S O po re cf so)) O ∧ rvP M' (lsT E S O po re cf so).1.1 ∧ RTo M' (lsT E S O po re cf so).1.2.1 (lsT E S O po re cf so).2.2.1 (lsT E S O po re cf so).2.2.2.1 (lsSec O) ∧ M'.2.2.1 14 = lsSec O ∧ (∀ i, i < 100 → (lsT E S O po re cf so).1.1.1 12 i = false))
theorem lsS_f {O : cO} {w : Bool} {k : Nat} {T : cT} : (lsS O w k T).1.2.2.2.2 = (lsX O k T).2.2.2.2 := by
  unfold lsS
  split <;> rfl
theorem lsS_y {O : cO} {w : Bool} {k : Nat} {T : cT} (h : lsR O k T = 0) : (lsS O w k T).2.2.2.2.2 = T.2.2.2.2.2 + 1 := by
  unfold lsS
  rw [if_pos h]
theorem lsS_n {O : cO} {w : Bool} {k : Nat} {T : cT} (h : ¬ lsR O k T = 0) : (lsS O w k T).2.2.2.2.2 = T.2.2.2.2.2 := by
  unfold lsS
  rw [if_neg h]
theorem rd_0 {O : cO} {k : Nat} {T : cT} (h : m45 T.1.2.2.2.2) (h0 : T.1.2.2.2.2.2 = 0) (h4 : lsR O k T = nI 4 ∨ lsR O k T = nI 5) : false = decide ((lsX O k T).2.2.2.2.2 = 0) := by
  rcases lsR_45 (s := k) h h0 with g | g
  · exact absurd h4 (fun z => z.elim g.2.1 g.2.2.1)
  · rw [decide_eq_false g.1]
theorem rd_1 {O : cO} {k : Nat} {T : cT} (h : m45 T.1.2.2.2.2) (h0 : T.1.2.2.2.2.2 = 0) (h4 : ¬ lsR O k T = nI 4) (h5 : ¬ lsR O k T = nI 5) : true = decide ((lsX O k T).2.2.2.2.2 = 0) := by
  rcases lsR_45 (s := k) h h0 with g | g
  · rw [decide_eq_true g.1]
  · exact absurd g.2.1 (fun z => z.elim h4 h5)
theorem rd_n {O : cO} {k : Nat} {T : cT} (h0 : ¬ T.1.2.2.2.2.2 = 0) : false = decide ((lsX O k T).2.2.2.2.2 = 0) := by
  have e1 : lsX O k T = lsX0 k T.1 := by unfold lsX; rw [if_neg h0]
  rw [e1]
  show false = decide (T.1.2.2.2.2.2 = 0)
  rw [decide_eq_false h0]
section LOADP
variable {M0 : mT} {E : cE} {S : cS} {O : cO} {po : Nat → Option Nat} {re cf : Nat → Int32} {so : Nat → Nat}
theorem load_V {T : cT} (hb : S.2.2.2.2.1 = false) (h0 : ¬ O.2.1 0 = 0) (hr : raW S O = 0) (hT : lsL O (isW O) (lsT0 E S O po re cf so) (lsSec O) = T) : flV E S O po re cf so = nI T.2.2.2.2.2 := by
  unfold flV lsT
  rw [if_neg (by rw [hb]; decide), if_neg h0, if_pos hr, hT]
theorem load_go1 {M : mT} {T : cT} (hb : S.2.2.2.2.1 = false) (h0 : ¬ O.2.1 0 = 0) (hr : raW S O = 0) (hT : lsL O (isW O) (lsT0 E S O po re cf so) (lsSec O) = T) (hI : LI O T (lsSec O) M) (hB : isW O = false ∨ ¬ T.2.2.2.2.2 = lsSec O) : loadP M0 E S O po re cf so (mN M 14 (lsSec O)) := by
  refine ⟨fun z => ?_, fun _ z => ?_, fun _ _ _ => ?_⟩
  · rw [hb] at z; cases z
  · rcases z with z | z
    · exact absurd z h0
    · exact absurd hr z
  · have e : lsT E S O po re cf so = T := hT
    rw [e]
    have hB' : lsB O T = false := by
      unfold lsB
      rcases hB with z | z
      · rw [z]; rfl
      · rw [decide_eq_false z]; exact Bool.and_false _
    have : lsEnd O T = T.2.1 := by unfold lsEnd; rw [if_neg (by rw [hB']; decide)]
    rw [this]
    exact LI_end1 hI
theorem load_go2 {M M1 : mT} {T : cT} (hb : S.2.2.2.2.1 = false) (h0 : ¬ O.2.1 0 = 0) (hr : raW S O = 0) (hT : lsL O (isW O) (lsT0 E S O po re cf so) (lsSec O) = T) (hI : LI O T (lsSec O) M) (hw : isW O = true) (hl : T.2.2.2.2.2 = lsSec O) (hM1 : M1 = mI (mB (mN M 14 (lsSec O)) 8 true) 9 (smF (M.2.2.2.2.1 10) 0 (M.2.2.1 22))) : loadP M0 E S O po re cf so (mZ M1 4 (caZ M1 12)) := by
  refine ⟨fun z => ?_, fun _ z => ?_, fun _ _ _ => ?_⟩
  · rw [hb] at z; cases z
  · rcases z with z | z
    · exact absurd z h0
    · exact absurd hr z
  · have e : lsT E S O po re cf so = T := hT
    rw [e]
    have hB' : lsB O T = true := by
      unfold lsB
      rw [hw, decide_eq_true hl]
      rfl
    have : lsEnd O T = bbS T.1.1 T.2.1 O T.1.2.2.1 T.1.2.2.2.1 T.1.2.2.2.2 12 := by unfold lsEnd; rw [if_pos hB']
    rw [this]
    exact LI_end2 hI hl hM1
theorem load_ref (hb : S.2.2.2.2.1 = false) (h0 : ¬ O.2.1 0 = 0) {x : Int32} (hr : raW S O = x) (hx : ¬ x = 0) : flV E S O po re cf so = -10 - x ∧ loadP M0 E S O po re cf so (mN (mT0 M0) 14 0) := by
  subst hr
  refine ⟨?_, fun z => ?_, fun _ _ => rfl, fun _ _ z => absurd z hx⟩
  · unfold flV
    rw [if_neg (by rw [hb]; decide), if_neg h0, if_neg hx]
  · rw [hb] at z; cases z
theorem load_0 (hb : S.2.2.2.2.1 = false) (h0 : O.2.1 0 = 0) : flV E S O po re cf so = nI 0 ∧ loadP M0 E S O po re cf so (mN (mT0 M0) 14 0) := by
  refine ⟨?_, fun z => ?_, fun _ _ => rfl, fun _ z => absurd h0 z⟩
  · unfold flV
    rw [if_neg (by rw [hb]; decide), if_pos h0]
  · rw [hb] at z; cases z
theorem load_b (hb : S.2.2.2.2.1 = true) : flV E S O po re cf so = -3 ∧ loadP M0 E S O po re cf so (mT0 M0) := by
  refine ⟨?_, fun _ => rfl, fun z => ?_, fun z => ?_⟩
  · unfold flV
    rw [if_pos hb]
  · rw [hb] at z; cases z
  · rw [hb] at z; cases z
end LOADP
theorem raW_1' {S : cS} {O : cO} (h : ¬ oAt O 0 0 = nI 70 ∨ ¬ oAt O 0 1 = nI 77 ∨ nI 1 < oAt O 0 2 ∨ O.2.1 0 < hdL O) : raW S O = nI 1 := by
  unfold raW
  rw [if_neg]
  rintro ⟨z1, z2, z3, z4⟩
  rcases h with h | h | h | h
  · exact h z1
  · exact h z2
  · exact z3 h
  · omega
theorem hdL_2 {O : cO} (h : O.2.1 0 ≤ 2) : O.2.1 0 < hdL O := by
  unfold hdL
  split <;> omega
theorem hdL_59 (O : cO) : 5 ≤ hdL O ∧ hdL O ≤ 9 := by
  unfold hdL
  split <;> omega
theorem raW_2' {S : cS} {O : cO} (h10 : oAt O 0 0 = nI 70) (h23 : oAt O 0 1 = nI 77) (h35 : ¬ nI 1 < oAt O 0 2) (h49 : hdL O ≤ O.2.1 0) (h : S.2.2.1 < oAt O 0 3) : raW S O = nI 2 := by
  unfold raW
  rw [if_pos ⟨h10, h23, h35, h49⟩, if_neg (Int32.not_le.mpr h)]
theorem i1_lt {x : Int32} (h : nI 2 ≤ x) : nI 1 < x := by
  rw [Int32.le_iff_toInt_le, nI_toInt (by omega)] at h
  rw [Int32.lt_iff_toInt_lt, nI_toInt (by omega)]
  omega
theorem i1_le {x : Int32} (h : nI 1 < x) : nI 2 ≤ x := by
  rw [Int32.lt_iff_toInt_lt, nI_toInt (by omega)] at h
  rw [Int32.le_iff_toInt_le, nI_toInt (by omega)]
  omega
