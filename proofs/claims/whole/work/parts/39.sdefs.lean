/-! a section: the reference beside the loader -/
theorem mEa_iff (f : Nat → Int32) (x : Int32) : ∀ s, mEa f x s = true ↔ ∃ j, j < s ∧ f j = x
  | 0 => ⟨fun h => (by cases h), fun ⟨j, h, _⟩ => absurd h (Nat.not_lt_zero j)⟩
  | s + 1 => by
    rw [mEa, Bool.or_eq_true, mEa_iff f x s, decide_eq_true_eq]
    constructor
    · rintro (⟨j, h1, h2⟩ | h)
      · exact ⟨j, by omega, h2⟩
      · exact ⟨s, by omega, h⟩
    · rintro ⟨j, h1, h2⟩
      by_cases e : j = s
      · subst e; exact Or.inr h2
      · exact Or.inl ⟨j, by omega, h2⟩
theorem lP_eq {po : Nat → Option Nat} (hpo : ∀ j q, po j = some q → q < 12) {j P : Nat} (hP : P < 256) : lP po j = nI P ↔ po j = some P := by
  unfold lP
  cases h : po j with
  | none =>
    constructor
    · intro z
      have : (-1 : Int32) < 0 := by decide
      rw [show fwR none = (-1 : Int32) from rfl] at z
      rw [z] at this
      exact absurd this (nI_pos (by omega))
    · intro z; cases z
  | some q =>
    have hq := hpo j q h
    show nI q = nI P ↔ _
    rw [nI_eq (by omega) (by omega)]
    constructor
    · intro z; rw [z]
    · intro z; cases z; rfl
def rvP (M : mT) (E : cE) : Prop := ∀ p i, p < 12 → i < 100 → mj M 21 (100 * p + i) = E.2.1 (13 + p) i
def rgP (M : mT) (E : cE) (q : Nat) : Prop := ∀ i, i < 100 → mz M 20 (100 * q + i) = E.1 (13 + q) i
def lrC (X : cX) (s : Nat) (M : mT) : Prop :=
  (∀ j, j < s → ∃ q, X.2.1 j = some q ∧ q < 12 ∧ my M 19 j = nI (X.2.2.1 q) ∧ mz M 18 j = decide (X.2.2.1 q = q) ∧ rgP M X.1 (X.2.2.1 q) ∧ ∃ i, i < s ∧ X.2.1 i = some (X.2.2.1 q)) ∧
  (∀ i j q, i < s → j < s → X.2.1 i = some q → X.2.1 j = some q → i = j) ∧
  (∀ q, q < 12 → (bt X.2.2.2.1 q = true ↔ ∃ j, j < s ∧ X.2.1 j = some q))
def lrF (X : cX) (re : Nat → Int32) (rf : Int32) (s : Nat) : Prop :=
  (∀ q, q < 12 → (bt rf q = true ↔ ∃ j, j < s ∧ X.2.1 j = some q ∧ 0 < re j)) ∧ (∀ q, 12 ≤ q → bt rf q = false)
def lrN (nd : Nat → Int32) (M : mT) : Prop := ∀ p q, p < 12 → q < 12 → mz M 3 (12 * p + q) = bt (nd p) q
def secPost (O : cO) (X : cX) (nd : Nat → Int32) (rf : Int32) (s : Nat) (M' : mT) : Prop :=
  (∀ j, j < s + 1 → my M' 15 j = lP (rsX O s X).2.1 j) ∧ M'.2.2.1 22 = (rsX O s X).2.2.2.2.1 ∧ M'.1 23 = rsV nd rf O s X ∧ rvP M' (rsX O s X).1 ∧ ((rsX O s X).2.2.2.2.2 = 0 → lrC (rsX O s X) (s + 1) M')
/-- the cells that a section's reading changes -/
def mLb (M : mT) (f15 f17 f19 : Nat → Int32) (z18 z20 : Nat → Bool) (j21 : Nat → Int64) : mT := mJ (mZ (mZ (mY (mY (mY M 15 f15) 17 f17) 19 f19) 18 z18) 20 z20) 21 j21
theorem mY_id (M : mT) (k : Nat) : mY M k (M.2.2.2.2.1 k) = M := by
  unfold mY
  rw [va_up_id rfl]
theorem lb_id (M : mT) : mLb M (M.2.2.2.2.1 15) (M.2.2.2.2.1 17) (M.2.2.2.2.1 19) (M.2.2.2.1 18) (M.2.2.2.1 20) (M.2.2.2.2.2.1 21) = M := by
  unfold mLb
  rw [mY_id, mY_id, mY_id, mZ_id, mZ_id, mJ_id]
theorem lb_start (M : mT) (r0 : cR) (h1 : M.2.2.1 22 = r0.1) (h2 : r0.2 = 0) : mI M 23 (nI 0) = mK (mS (mLb M (M.2.2.2.2.1 15) (M.2.2.2.2.1 17) (M.2.2.2.2.1 19) (M.2.2.2.1 18) (M.2.2.2.1 20) (M.2.2.2.2.2.1 21)) r0) M.2.2.2.2.2.2 := by
  rw [lb_id]
  unfold mK mS mI mN
  dsimp only
  rw [h2, va_up_id h1]
  rfl
theorem lb_15 (M : mT) (f15 f17 f19 : Nat → Int32) (z18 z20 : Nat → Bool) (j21 : Nat → Int64) (r : cR) (c : Int64) (k : Nat) (v : Int32) : mYi (mK (mS (mLb M f15 f17 f19 z18 z20 j21) r) c) 15 k v = mK (mS (mLb M (va_up f15 k v) f17 f19 z18 z20 j21) r) c := by
  unfold mYi mK mS mLb mI mN mJ mZ mY
  dsimp only
  rw [show va_up (va_up (va_up M.2.2.2.2.1 15 f15) 17 f17) 19 f19 15 = f15 from rfl]
  congr 5
  funext a
  by_cases h15 : a = 15
  · subst h15; simp [va_up]
  · simp [va_up, h15]
theorem lb_17 (M : mT) (f15 f17 f19 : Nat → Int32) (z18 z20 : Nat → Bool) (j21 : Nat → Int64) (r : cR) (c : Int64) (k : Nat) (v : Int32) : mYi (mK (mS (mLb M f15 f17 f19 z18 z20 j21) r) c) 17 k v = mK (mS (mLb M f15 (va_up f17 k v) f19 z18 z20 j21) r) c := by
  unfold mYi mK mS mLb mI mN mJ mZ mY
  dsimp only
  rw [show va_up (va_up (va_up M.2.2.2.2.1 15 f15) 17 f17) 19 f19 17 = f17 from rfl]
  congr 5
  funext a
  by_cases h15 : a = 17
  · subst h15; simp [va_up]
  · simp [va_up, h15]
theorem lb_19 (M : mT) (f15 f17 f19 : Nat → Int32) (z18 z20 : Nat → Bool) (j21 : Nat → Int64) (r : cR) (c : Int64) (k : Nat) (v : Int32) : mYi (mK (mS (mLb M f15 f17 f19 z18 z20 j21) r) c) 19 k v = mK (mS (mLb M f15 f17 (va_up f19 k v) z18 z20 j21) r) c := by
  unfold mYi mK mS mLb mI mN mJ mZ mY
  dsimp only
  rw [show va_up (va_up (va_up M.2.2.2.2.1 15 f15) 17 f17) 19 f19 19 = f19 from rfl, va_up_up]
theorem lb_18 (M : mT) (f15 f17 f19 : Nat → Int32) (z18 z20 : Nat → Bool) (j21 : Nat → Int64) (r : cR) (c : Int64) (k : Nat) (v : Bool) : mZi (mK (mS (mLb M f15 f17 f19 z18 z20 j21) r) c) 18 k v = mK (mS (mLb M f15 f17 f19 (va_up z18 k v) z20 j21) r) c := by
  unfold mZi mK mS mLb mI mN mJ mZ mY
  dsimp only
  rw [show va_up (va_up M.2.2.2.1 18 z18) 20 z20 18 = z18 from rfl]
  congr 4
  funext a
  by_cases h15 : a = 18
  · subst h15; simp [va_up]
  · simp [va_up, h15]
theorem lb_rows (M : mT) (f15 f17 f19 : Nat → Int32) (z18 z20 : Nat → Bool) (j21 : Nat → Int64) (r : cR) (c : Int64) (Z : Nat → Bool) (J : Nat → Int64) (r' : cR) (c' : Int64) : mK (mS (mJ (mZ (mK (mS (mLb M f15 f17 f19 z18 z20 j21) r) c) 20 Z) 21 J) r') c' = mK (mS (mLb M f15 f17 f19 z18 Z J) r') c' := by
  unfold mK mS mLb mI mN mJ mZ mY
  dsimp only
  rw [va_up_up, va_up_up, va_up_up, va_up_up]
theorem lb_re (M : mT) (f15 f17 f19 : Nat → Int32) (z18 z20 : Nat → Bool) (j21 : Nat → Int64) (r : cR) (c : Int64) (x : Int32) : mI (mK (mS (mLb M f15 f17 f19 z18 z20 j21) r) c) 23 x = mK (mS (mLb M f15 f17 f19 z18 z20 j21) (r.1, x)) c := by
  unfold mK mS mI mN
  dsimp only
  rw [va_up_up]
/-! reading on -/
theorem nx_ok {O : cO} {r : cR} (h : (nxR O r).2 = 0) : r.2 = 0 ∧ r.1 < O.2.1 0 ∧ (nxR O r).1 = r.1 + 1 := by
  unfold nxR at h ⊢
  by_cases h0 : r.2 = 0
  · rw [if_pos h0] at h ⊢
    by_cases h1 : r.1 < O.2.1 0
    · rw [if_pos h1]
      exact ⟨h0, h1, rfl⟩
    · rw [if_neg h1] at h
      exact absurd h (by decide : ¬ nI 4 = 0)
  · rw [if_neg h0] at h
    exact absurd h h0
theorem n4_ok {O : cO} {r : cR} (h : (n4R O r 4).2 = 0) : r.2 = 0 ∧ r.1 + 4 ≤ O.2.1 0 := by
  obtain ⟨a3, b3, c3⟩ := nx_ok (r := n4R O r 3) h
  obtain ⟨a2, b2, c2⟩ := nx_ok (r := n4R O r 2) a3
  obtain ⟨a1, b1, c1⟩ := nx_ok (r := n4R O r 1) a2
  obtain ⟨a0, b0, c0⟩ := nx_ok (r := n4R O r 0) a1
  have e0 : (n4R O r 0).1 = r.1 := rfl
  have e1 : (n4R O r 1).1 = r.1 + 1 := c0
  have e2 : (n4R O r 2).1 = r.1 + 2 := c1.trans (by rw [e1])
  have e3 : (n4R O r 3).1 = r.1 + 3 := c2.trans (by rw [e2])
  exact ⟨a0, by omega⟩
theorem mRe.n4 {r : cR} (h : mRe r) (O : cO) : ∀ n, mRe (n4R O r n)
  | 0 => h
  | n + 1 => (mRe.n4 h O n).nx O
theorem smF_cong {f g : Nat → Int32} {a : Nat} : ∀ {n : Nat}, (∀ i, a ≤ i → i < a + n → f i = g i) → smF f a n = smF g a n
  | 0, _ => rfl
  | n + 1, h => by
    unfold smF
    rw [smF_cong (n := n) (fun i h1 h2 => h i h1 (by omega)), h (a + n) (by omega) (by omega)]
theorem four_cong {f g : Nat → Int32} {a : Nat} (h : ∀ i, a ≤ i → i < a + 4 → f i = g i) : four f a = four g a := by
  unfold four
  rw [h a (by omega) (by omega), h (a + 1) (by omega) (by omega), h (a + 2) (by omega) (by omega), h (a + 3) (by omega) (by omega)]
theorem mBy.at {M : mT} {O : cO} (h : mBy M O) {i : Nat} (hi : i < O.2.1 0) : my M 10 i = oAt O 0 i := by rw [h.1, oAt, if_pos hi]
theorem nrL_oth {O : cO} {q q' : Nat} (hq : q' ≠ q) : ∀ (n : Nat) (E : cE) (r : cR) (least : Nat), (nrL O q n E r least).1.1 q' = E.1 q' ∧ (nrL O q n E r least).1.2.1 q' = E.2.1 q'
  | 0, _, _, _ => ⟨rfl, rfl⟩
  | n + 1, E, r, least => by
    unfold nrL
    split
    · have h := nrL_oth (O := O) hq n (nrE O q E r least) (nrR O r least) (nrP O r least + 1)
      rw [h.1, h.2]
      unfold nrE
      split
      · unfold eSet
        dsimp only
        rw [va_up_ne _ _ hq, va_up_ne _ _ hq]
        exact ⟨rfl, rfl⟩
      · exact ⟨rfl, rfl⟩
    · exact ⟨rfl, rfl⟩
theorem nrF_oth {O : cO} {q q' : Nat} (hq : q' ≠ q) (E : cE) (r : cR) : (nrF O q E r).1.1 q' = E.1 q' ∧ (nrF O q E r).1.2.1 q' = E.2.1 q' := by
  have h := nrL_oth (O := O) hq (nrN O r) (eClr E q) (wiR (ncR O r) (ncC O r) (nI 100)) 0
  unfold nrF
  rw [h.1, h.2]
  unfold eClr
  dsimp only
  rw [va_up_ne _ _ hq]
  exact ⟨rfl, rfl⟩
theorem nrF_bad {O : cO} {q : Nat} {E : cE} {r : cR} (h : ¬ r.2 = 0) : nrF O q E r = (eClr E q, r) := by
  have h1 : ncR O r = r := ncR_ft h
  unfold nrF
  rw [h1, wiR_ft h, nrL_end (Or.inr h)]
theorem rfR_fault {r : cR} {x : Int32} (hx : ¬ x = 0) : ¬ (rfR r x).2 = 0 := by
  unfold rfR
  split
  · exact hx
  · assumption
theorem nI5_ne : ¬ nI 5 = 0 := by decide
theorem rsT_so {O : cO} {s : Nat} {X : cX} {q : Nat} (hq : q ≠ rsP O s X) : (rsT O s X).2.1 q = X.2.2.1 q := by
  unfold rsT rrF
  split
  · dsimp only; rw [va_up_ne _ _ hq]
  · split
    · split
      · dsimp only; rw [va_up_ne _ _ hq, va_up_ne _ _ hq]
      · dsimp only; rw [va_up_ne _ _ hq]
    · dsimp only; rw [va_up_ne _ _ hq]
theorem rsT_E {O : cO} {s : Nat} {X : cX} {q : Nat} (hq : q ≠ 13 + rsP O s X) : (rsT O s X).1.1 q = X.1.1 q ∧ (rsT O s X).1.2.1 q = X.1.2.1 q := by
  unfold rsT rrF
  split
  · dsimp only; exact nrF_oth hq _ _
  · split
    · split <;> exact ⟨rfl, rfl⟩
    · exact ⟨rfl, rfl⟩
def s207 (O : cO) (s : Nat) (X : cX) (M : mT) (f19 : Nat → Int32) (z18 z20 : Nat → Bool) (j21 : Nat → Int64) (r7 : cR) (nm : Nat) : Prop :=
  (rsT O s X).2.2 = r7 ∧ (∀ p i, p < 12 → i < 100 → j21 (100 * p + i) = (rsT O s X).1.2.1 (13 + p) i) ∧
  (r7.2 = 0 → (∀ j, j < s → f19 j = my M 19 j ∧ z18 j = mz M 18 j) ∧ f19 s = nI ((rsT O s X).2.1 (rsP O s X)) ∧ z18 s = decide ((rsT O s X).2.1 (rsP O s X) = rsP O s X) ∧
    (∀ q i, q < 12 → q ≠ rsP O s X → i < 100 → z20 (100 * q + i) = mz M 20 (100 * q + i)) ∧
    (∀ i, i < 100 → z20 (100 * (rsT O s X).2.1 (rsP O s X) + i) = (rsT O s X).1.1 (13 + (rsT O s X).2.1 (rsP O s X)) i) ∧
    ((nm = s ∧ (rsT O s X).2.1 (rsP O s X) = rsP O s X) ∨ (nm < s ∧ X.2.1 nm = some ((rsT O s X).2.1 (rsP O s X)))))
theorem sec_fail {O : cO} {s : Nat} {X : cX} {nd : Nat → Int32} {rf : Int32} {M : mT} {f17 : Nat → Int32} {c : Int64} (hP : ∀ j, j < s → my M 15 j = lP X.2.1 j) (hs : X.2.1 s = none) (hv : rvP M X.1) (h : ¬ (rsR1 O X).2 = 0) : secPost O X nd rf s (mK (mS (mLb M (va_up (M.2.2.2.2.1 15) s (-1)) f17 (M.2.2.2.2.1 19) (M.2.2.2.1 18) (M.2.2.2.1 20) (M.2.2.2.2.2.1 21)) (rsR1 O X)) c) := by
  have e : rsX O s X = (X.1, X.2.1, X.2.2.1, X.2.2.2.1, rsR1 O X) := by unfold rsX; rw [if_neg h]
  unfold secPost
  rw [e]
  refine ⟨fun j hj => ?_, rfl, ?_, hv, fun z => absurd z h⟩
  · show va_up (M.2.2.2.2.1 15) s (-1) j = lP X.2.1 j
    by_cases ej : j = s
    · rw [ej, va_up_self, lP, hs]; rfl
    · rw [va_up_ne _ _ ej]; exact hP j (by omega)
  · show (rsR1 O X).2 = _
    unfold rsV
    rw [if_neg h]
theorem sec_post {O : cO} {s : Nat} {X : cX} {nd : Nat → Int32} {rf : Int32} {M : mT} {f17 f19 : Nat → Int32} {z18 z20 : Nat → Bool} {j21 : Nat → Int64} {r7 r' : cR} {nm : Nat} {c : Int64}
    (hP : ∀ j, j < s → my M 15 j = lP X.2.1 j) (hC : lrC X s M) (hn : (rsR1 O X).2 = 0) (hns : ∀ j, j < s → X.2.1 j ≠ some (rsP O s X)) (h : s207 O s X M f19 z18 z20 j21 r7 nm) (h1 : r'.1 = (rsR3 O s X).1) (h2 : r'.2 = rsV nd rf O s X) :
    secPost O X nd rf s (mK (mS (mLb M (va_up (va_up (M.2.2.2.2.1 15) s (-1)) s (nI (rsP O s X))) f17 f19 z18 z20 j21) r') c) := by
  have e : rsX O s X = ((rsT O s X).1, rsPo O s X, (rsT O s X).2.1, X.2.2.2.1 ||| bitI (rsP O s X), rsR3 O s X) := by unfold rsX; rw [if_pos hn]
  have hp : rsP O s X < 12 := npR_0 hn
  unfold secPost
  rw [e]
  refine ⟨fun j hj => ?_, h1, h2, h.2.1, fun z => ?_⟩
  · show va_up (va_up (M.2.2.2.2.1 15) s (-1)) s (nI (rsP O s X)) j = lP (rsPo O s X) j
    unfold rsPo lP
    by_cases ej : j = s
    · rw [ej, va_up_self, va_up_self]; rfl
    · rw [va_up_ne _ _ ej, va_up_ne _ _ ej, va_up_ne _ _ ej]; exact hP j (by omega)
  · have z8 : (rsR3 O s X).2 = 0 := z
    unfold rsR3 at z8
    have z7 : r7.2 = 0 := by rw [← h.1]; exact (n4_ok z8).1
    obtain ⟨g1, g2, g3, g4, g5, g6⟩ := h.2.2 z7
    have poj : ∀ j, j < s → rsPo O s X j = X.2.1 j := fun j hj => by unfold rsPo; rw [va_up_ne _ _ (by omega)]
    have pos : rsPo O s X s = some (rsP O s X) := by unfold rsPo; rw [va_up_self]
    refine ⟨fun j hj => ?_, fun i j q hi hj h1 h2 => ?_, fun q hq => ?_⟩
    · by_cases ej : j = s
      · subst ej
        refine ⟨rsP O j X, pos, hp, g2, g3, g5, ?_⟩
        rcases g6 with ⟨-, g⟩ | ⟨g, g'⟩
        · exact ⟨j, by omega, pos.trans (congrArg some g.symm)⟩
        · exact ⟨nm, by omega, (poj nm g).trans g'⟩
      · have hj' : j < s := by omega
        obtain ⟨q, a1, a2, a3, a4, a5, i0, a6, a7⟩ := hC.1 j hj'
        have hqP : q ≠ rsP O s X := fun z => hns j hj' (by rw [a1, z])
        have hsP : X.2.2.1 q ≠ rsP O s X := fun z => hns i0 a6 (by rw [a7, z])
        have hs12 : X.2.2.1 q < 12 := by
          obtain ⟨q2, b1, b2, -⟩ := hC.1 i0 a6
          rw [a7] at b1
          cases b1
          exact b2
        dsimp only
        refine ⟨q, (poj j hj').trans a1, a2, ?_, ?_, ?_, i0, by omega, ?_⟩
        · rw [rsT_so hqP]; exact (g1 j hj').1.trans a3
        · rw [rsT_so hqP]; exact (g1 j hj').2.trans a4
        · rw [rsT_so hqP]
          intro i hi
          rw [(rsT_E (O := O) (s := s) (X := X) (q := 13 + X.2.2.1 q) (by omega)).1]
          exact (g4 _ i hs12 hsP hi).trans (a5 i hi)
        · rw [rsT_so hqP]; exact (poj i0 a6).trans a7
    · dsimp only at h1 h2
      by_cases ei : i = s
      · by_cases ej : j = s
        · omega
        · subst ei
          rw [pos] at h1
          rw [poj j (by omega)] at h2
          exact absurd (h2.trans h1.symm) (hns j (by omega))
      · by_cases ej : j = s
        · subst ej
          rw [pos] at h2
          rw [poj i (by omega)] at h1
          exact absurd (h1.trans h2.symm) (hns i (by omega))
        · rw [poj i (by omega)] at h1
          rw [poj j (by omega)] at h2
          exact hC.2.1 i j q (by omega) (by omega) h1 h2
    · dsimp only
      rw [b_or, bt_bit (by omega) (by omega), Bool.or_eq_true, hC.2.2 q hq, decide_eq_true_eq]
      constructor
      · rintro (⟨j, b1, b2⟩ | b)
        · exact ⟨j, by omega, (poj j b1).trans b2⟩
        · exact ⟨s, by omega, by rw [pos, b]⟩
      · rintro ⟨j, b1, b2⟩
        by_cases ej : j = s
        · subst ej
          rw [pos] at b2
          cases b2
          exact Or.inr rfl
        · exact Or.inl ⟨j, by omega, by rw [← poj j (by omega)]; exact b2⟩
theorem nxV_bad {O : cO} {r : cR} (h : ¬ (nxR O r).2 = 0) : nxV O r = 0 := by
  unfold nxV
  split
  · rename_i z
    exfalso
    apply h
    unfold nxR
    rw [if_pos z.1, if_pos z.2]
    exact z.1
  · rfl
theorem s207_A {O : cO} {s : Nat} {X : cX} {M : mT} (f19 : Nat → Int32) (z18 z20 : Nat → Bool) (nm : Nat) (hv : rvP M X.1) (h3 : ¬ (nxR O (rsR1 O X)).2 = 0) : s207 O s X M f19 z18 z20 (M.2.2.2.2.2.1 21) (nxR O (rsR1 O X)) nm := by
  have e : rsT O s X = (eClr X.1 (13 + rsP O s X), va_up X.2.2.1 (rsP O s X) (rsP O s X), nxR O (rsR1 O X)) := by
    unfold rsT rrF
    rw [if_pos (nxV_bad h3), nrF_bad h3]
  refine ⟨by rw [e], ?_, fun z => absurd z h3⟩
  rw [e]
  exact hv
theorem s207_A2 {O : cO} {s : Nat} {X : cX} {M : mT} (f19 : Nat → Int32) (z18 z20 : Nat → Bool) (nm : Nat) (hv : rvP M X.1) (h0 : ¬ nxV O (rsR1 O X) = 0) (h1 : ¬ nxV O (rsR1 O X) = nI 1) : s207 O s X M f19 z18 z20 (M.2.2.2.2.2.1 21) (rfR (nxR O (rsR1 O X)) (nI 5)) nm := by
  have e : rsT O s X = (X.1, va_up X.2.2.1 (rsP O s X) (rsP O s X), rfR (nxR O (rsR1 O X)) (nI 5)) := by
    unfold rsT rrF
    rw [if_neg h0, if_neg h1]
  refine ⟨by rw [e], ?_, fun z => absurd z (rfR_fault nI5_ne)⟩
  rw [e]
  exact hv
theorem s207_B {O : cO} {s : Nat} {X : cX} {M : mT} {Z : Nat → Bool} {J : Nat → Int64} (hv : rvP M X.1) (h0 : nxV O (rsR1 O X) = 0) (hw : rwP M (rsP O s X) (nrF O (13 + rsP O s X) X.1 (nxR O (rsR1 O X))).1 (13 + rsP O s X) Z J) : s207 O s X M (va_up (M.2.2.2.2.1 19) s (nI (rsP O s X))) (va_up (M.2.2.2.1 18) s true) Z J (nrF O (13 + rsP O s X) X.1 (nxR O (rsR1 O X))).2 s := by
  have e : rsT O s X = ((nrF O (13 + rsP O s X) X.1 (nxR O (rsR1 O X))).1, va_up X.2.2.1 (rsP O s X) (rsP O s X), (nrF O (13 + rsP O s X) X.1 (nxR O (rsR1 O X))).2) := by
    unfold rsT rrF
    rw [if_pos h0]
  refine ⟨by rw [e], ?_, fun _ => ?_⟩
  · rw [e]
    intro p i hp hi
    dsimp only
    by_cases ep : p = rsP O s X
    · rw [ep]; exact (hw.1 i hi).2
    · rw [(nrF_oth (O := O) (q := 13 + rsP O s X) (q' := 13 + p) (by omega) X.1 _).2, ← hv p i hp hi]
      exact (hw.2 _ (by omega)).2
  · have et : (rsT O s X).2.1 (rsP O s X) = rsP O s X := by rw [e]; exact va_up_self _ _ _
    have eE : (rsT O s X).1 = (nrF O (13 + rsP O s X) X.1 (nxR O (rsR1 O X))).1 := by rw [e]
    rw [et, eE, va_up_self, va_up_self]
    refine ⟨fun j hj => ?_, rfl, (decide_eq_true rfl).symm, fun q i hq hqP hi => ?_, fun i hi => (hw.1 i hi).1, Or.inl ⟨rfl, rfl⟩⟩
    · rw [va_up_ne _ _ (by omega), va_up_ne _ _ (by omega)]; exact ⟨rfl, rfl⟩
    · exact (hw.2 _ (by omega)).1
theorem s207_C1 {O : cO} {s : Nat} {X : cX} {M : mT} {f19 : Nat → Int32} (hv : rvP M X.1) (hC : lrC X s M) (hns : ∀ j, j < s → X.2.1 j ≠ some (rsP O s X)) (h0 : ¬ nxV O (rsR1 O X) = 0) (h1 : nxV O (rsR1 O X) = nI 1) (hN : nxN O (nxR O (rsR1 O X)) < s) (ho : mz M 18 (nxN O (nxR O (rsR1 O X))) = true)
    (hf : ∀ j, j < s → f19 j = my M 19 j) (hfs : (nxR O (nxR O (rsR1 O X))).2 = 0 → f19 s = my M 19 (nxN O (nxR O (rsR1 O X)))) : s207 O s X M f19 (va_up (M.2.2.2.1 18) s false) (M.2.2.2.1 20) (M.2.2.2.2.2.1 21) (nxR O (nxR O (rsR1 O X))) (nxN O (nxR O (rsR1 O X))) := by
  obtain ⟨q, a1, a2, a3, a4, a5, a6⟩ := hC.1 _ hN
  have hsq : X.2.2.1 q = q := by rw [ho] at a4; exact of_decide_eq_true a4.symm
  have hqP : q ≠ rsP O s X := fun z => hns _ hN (by rw [a1, z])
  have hpo : rsPo O s X (nxN O (nxR O (rsR1 O X))) = some q := by unfold rsPo; rw [va_up_ne _ _ (by omega)]; exact a1
  have e : rsT O s X = (X.1, va_up (va_up X.2.2.1 (rsP O s X) (rsP O s X)) (rsP O s X) q, nxR O (nxR O (rsR1 O X))) := by
    unfold rsT rrF
    rw [if_neg h0, if_pos h1, hpo, if_pos ⟨hN, by unfold hoB; dsimp only; rw [va_up_ne _ _ hqP, hsq]; exact decide_eq_true rfl⟩]
    rfl
  refine ⟨by rw [e], ?_, fun z => ?_⟩
  · rw [e]; exact hv
  · have et : (rsT O s X).2.1 (rsP O s X) = q := by rw [e]; exact va_up_self _ _ _
    have eE : (rsT O s X).1 = X.1 := by rw [e]
    rw [et, eE, va_up_self]
    refine ⟨fun j hj => ⟨hf j hj, ?_⟩, ?_, (decide_eq_false hqP).symm, fun q i _ _ _ => rfl, ?_, Or.inr ⟨hN, a1⟩⟩
    · rw [va_up_ne _ _ (by omega)]
    · rw [hfs z, a3, hsq]
    · intro i hi
      have := a5 i hi
      rw [hsq] at this
      exact this
theorem s207_C2 {O : cO} {s : Nat} {X : cX} {M : mT} (f19 : Nat → Int32) (z18 z20 : Nat → Bool) (nm : Nat) (hv : rvP M X.1) (hC : lrC X s M) (hns : ∀ j, j < s → X.2.1 j ≠ some (rsP O s X)) (h0 : ¬ nxV O (rsR1 O X) = 0) (h1 : nxV O (rsR1 O X) = nI 1) (hN : ¬ nxN O (nxR O (rsR1 O X)) < s ∨ mz M 18 (nxN O (nxR O (rsR1 O X))) = false) : s207 O s X M f19 z18 z20 (M.2.2.2.2.2.1 21) (rfR (nxR O (nxR O (rsR1 O X))) (nI 5)) nm := by
  have e : rsT O s X = (X.1, va_up X.2.2.1 (rsP O s X) (rsP O s X), rfR (nxR O (nxR O (rsR1 O X))) (nI 5)) := by
    unfold rsT rrF
    rw [if_neg h0, if_pos h1, if_neg]
    rintro ⟨z1, z2⟩
    obtain ⟨q, a1, a2, a3, a4, a5, a6⟩ := hC.1 _ z1
    have hqP : q ≠ rsP O s X := fun z => hns _ z1 (by rw [a1, z])
    have hpo : rsPo O s X (nxN O (nxR O (rsR1 O X))) = some q := by unfold rsPo; rw [va_up_ne _ _ (by omega)]; exact a1
    rw [hpo] at z2
    unfold hoB at z2
    dsimp only at z2
    rw [va_up_ne _ _ hqP, ← a4] at z2
    rcases hN with z | z
    · exact z z1
    · rw [z] at z2; cases z2
  refine ⟨by rw [e], ?_, fun z => absurd z (rfR_fault nI5_ne)⟩
  rw [e]
  exact hv
theorem and_zero {x y : Int32} : x &&& y = 0 ↔ ∀ i, i < 32 → ¬ (bt x i = true ∧ bt y i = true) := by
  constructor
  · intro h i _ ⟨h1, h2⟩
    have := b_and x y i
    rw [h, b_0, h1, h2] at this
    cases this
  · intro h
    refine b_ext (fun i hi => ?_)
    rw [b_and, b_0]
    cases h1 : bt x i with
    | false => rfl
    | true =>
      cases h2 : bt y i with
      | false => rfl
      | true => exact absurd ⟨h1, h2⟩ (h i hi)
theorem mLk_iff {po : Nat → Option Nat} {re : Nat → Int32} {nd : Nat → Bool} {P : Nat} : ∀ s, mLk po re nd P s = true ↔ ∃ j q, j < s ∧ po j = some q ∧ 0 < re j ∧ nd (12 * P + q) = true
  | 0 => ⟨fun h => (by cases h), fun ⟨j, _, h, _⟩ => absurd h (Nat.not_lt_zero j)⟩
  | s + 1 => by
    rw [mLk, Bool.or_eq_true, mLk_iff s]
    constructor
    · rintro (⟨j, q, h1, h2⟩ | h)
      · exact ⟨j, q, by omega, h2⟩
      · cases hp : po s with
        | none => rw [hp] at h; cases h
        | some q =>
          rw [hp] at h
          unfold lkO at h
          rw [Bool.and_eq_true, decide_eq_true_eq] at h
          exact ⟨s, q, by omega, hp, h.1, h.2⟩
    · rintro ⟨j, q, h1, h2, h3, h4⟩
      by_cases e : j = s
      · subst e
        right
        rw [h2]
        show (decide (0 < re j) && nd (12 * P + q)) = true
        rw [decide_eq_true h3, h4]
        rfl
      · exact Or.inl ⟨j, q, by omega, h2, h3, h4⟩
theorem lk_rf {X : cX} {re : Nat → Int32} {rf : Int32} {s P : Nat} {M : mT} {nd : Nat → Int32} (hre : ∀ j, j < s → my M 16 j = re j) (hF : lrF X re rf s) (hN : lrN nd M) (hP : P < 12) (hpo : ∀ j q, X.2.1 j = some q → q < 12) : mLk X.2.1 (M.2.2.2.2.1 16) (M.2.2.2.1 3) P s = true ↔ ¬ rf &&& nd P = 0 := by
  rw [mLk_iff, and_zero]
  constructor
  · rintro ⟨j, q, h1, h2, h3, h4⟩ z
    have hq := hpo j q h2
    refine z q (by omega) ⟨(hF.1 q hq).mpr ⟨j, h1, h2, ?_⟩, ?_⟩
    · rw [← hre j h1]; exact h3
    · rw [← hN P q hP hq]; exact h4
  · intro z
    have : ∃ i, i < 32 ∧ bt rf i = true ∧ bt (nd P) i = true := by
      apply Classical.byContradiction
      intro g
      exact z (fun i hi hb => g ⟨i, hi, hb⟩)
    obtain ⟨i, hi, h1, h2⟩ := this
    have hi12 : i < 12 := by
      rcases Nat.lt_or_ge i 12 with g | g
      · exact g
      · rw [hF.2 i g] at h1; cases h1
    obtain ⟨j, a1, a2, a3⟩ := (hF.1 i hi12).mp h1
    exact ⟨j, i, a1, a2, by rw [show M.2.2.2.2.1 16 j = re j from hre j a1]; exact a3, by rw [show M.2.2.2.1 3 (12 * P + i) = bt (nd P) i from hN P i hP hi12]; exact h2⟩
theorem src_own {X : cX} {re : Nat → Int32} {rf : Int32} {s P : Nat} (hF : lrF X re rf s) (hP : P < 12) (hns : ∀ j, j < s → X.2.1 j ≠ some P) : bt rf P = false := by
  cases h : bt rf P with
  | false => rfl
  | true =>
    obtain ⟨j, a1, a2, -⟩ := (hF.1 P hP).mp h
    exact absurd a2 (hns j a1)
theorem src_oth {X : cX} {re : Nat → Int32} {rf : Int32} {s nm q : Nat} {M : mT} (hF : lrF X re rf s) (hC : lrC X s M) (hn : nm < s) (hq : X.2.1 nm = some q) (hq12 : q < 12) : bt rf q = true ↔ 0 < re nm := by
  rw [hF.1 q hq12]
  constructor
  · rintro ⟨j, a1, a2, a3⟩
    rw [hC.2.1 nm j q hn a1 hq a2]
    exact a3
  · intro h
    exact ⟨nm, hn, hq, h⟩
theorem np_ok {O : cO} {X : cX} {s : Nat} {M : mT} (hC : lrC X s M) (hPa : ∀ j, j < s → my M 15 j = lP X.2.1 j) (hpo : ∀ j q, X.2.1 j = some q → q < 12) (h12 : rsP O s X < 12) : mEa (M.2.2.2.2.1 15) (nI (rsP O s X)) s = bt X.2.2.2.1 (rsP O s X) := by
  have hI := hC.2.2 (rsP O s X) h12
  rw [Bool.eq_iff_iff, hI, mEa_iff]
  constructor
  · rintro ⟨j, h1, h2⟩
    exact ⟨j, h1, (lP_eq hpo (by omega)).mp ((hPa j h1).symm.trans h2)⟩
  · rintro ⟨j, h1, h2⟩
    exact ⟨j, h1, (hPa j h1).trans ((lP_eq hpo (by omega)).mpr h2)⟩
theorem mEa_cong {f g : Nat → Int32} {x : Int32} : ∀ {s : Nat}, (∀ j, j < s → f j = g j) → mEa f x s = mEa g x s
  | 0, _ => rfl
  | s + 1, h => by rw [mEa, mEa, mEa_cong (fun j hj => h j (by omega)), h s (by omega)]
theorem np_ns {O : cO} {X : cX} {s : Nat} {M : mT} (hC : lrC X s M) (hn : (rsR1 O X).2 = 0) : ∀ j, j < s → X.2.1 j ≠ some (rsP O s X) := by
  intro j hj z
  have h12 : rsP O s X < 12 := npR_0 hn
  have hb := (hC.2.2 _ h12).mpr ⟨j, hj, z⟩
  have : npOk O X.2.2.2.2 X.2.2.2.1 = false := by
    unfold npOk
    rw [show nxN O X.2.2.2.2 = rsP O s X from rfl, hb]
    exact Bool.and_false _
  unfold rsR1 npR at hn
  rw [if_neg (by rw [this]; decide)] at hn
  exact rfR_fault nI5_ne hn
theorem rsT_mono {O : cO} {s : Nat} {X : cX} : X.2.2.2.2.1 ≤ (rsT O s X).2.2.1 := Nat.le_trans (npR_mono O X.2.2.2.2 X.2.2.2.1) (rrF_mono O _ _ _ _ _ _)
theorem rsT_le {O : cO} {s : Nat} {X : cX} (h : X.2.2.2.2.1 ≤ O.2.1 0) : (rsT O s X).2.2.1 ≤ O.2.1 0 := rrF_le (Nat.le_refl _) _ _ _ _ _ (npR_le h (Nat.le_refl _))
theorem sec_sum {O : cO} {s : Nat} {X : cX} {M : mT} (hB : mBy M O) (h : X.2.2.2.2.1 ≤ O.2.1 0) : smF (M.2.2.2.2.1 10) X.2.2.2.2.1 ((rsT O s X).2.2.1 - X.2.2.2.2.1) = rsSum O s X := by
  have h1 := rsT_mono (O := O) (s := s) (X := X)
  have h2 := rsT_le (O := O) (s := s) (X := X) h
  exact smF_cong (fun i _ hi => hB.at (by omega))
theorem sec_four {O : cO} {s : Nat} {X : cX} {M : mT} (hB : mBy M O) (h : (rsR3 O s X).2 = 0) : four (M.2.2.2.2.1 10) (rsT O s X).2.2.1 = n4V O (rsT O s X).2.2 := by
  unfold rsR3 at h
  have h4 := (n4_ok h).2
  unfold n4V
  rw [if_pos h]
  exact four_cong (fun i _ hi => hB.at (by omega))
theorem rsV_f {nd : Nat → Int32} {rf : Int32} {O : cO} {s : Nat} {X : cX} (h1 : (rsR1 O X).2 = 0) (h3 : ¬ (rsR3 O s X).2 = 0) : rsV nd rf O s X = (rsR3 O s X).2 := by
  unfold rsV
  rw [if_pos h1, if_neg h3]
theorem rsV_6 {nd : Nat → Int32} {rf : Int32} {O : cO} {s : Nat} {X : cX} (h1 : (rsR1 O X).2 = 0) (h3 : (rsR3 O s X).2 = 0) (h : ¬ rsSum O s X = n4V O (rsT O s X).2.2) : rsV nd rf O s X = nI 6 := by
  unfold rsV
  rw [if_pos h1, if_pos h3, if_neg h]
theorem rsV_7 {nd : Nat → Int32} {rf : Int32} {O : cO} {s : Nat} {X : cX} (h1 : (rsR1 O X).2 = 0) (h3 : (rsR3 O s X).2 = 0) (h : rsSum O s X = n4V O (rsT O s X).2.2) (h7 : bt rf ((rsT O s X).2.1 (rsP O s X)) = true) : rsV nd rf O s X = nI 7 := by
  unfold rsV
  rw [if_pos h1, if_pos h3, if_pos h, if_pos h7]
theorem rsV_8 {nd : Nat → Int32} {rf : Int32} {O : cO} {s : Nat} {X : cX} (h1 : (rsR1 O X).2 = 0) (h3 : (rsR3 O s X).2 = 0) (h : rsSum O s X = n4V O (rsT O s X).2.2) (h7 : bt rf ((rsT O s X).2.1 (rsP O s X)) = false) (h8 : ¬ rf &&& nd (rsP O s X) = 0) : rsV nd rf O s X = nI 8 := by
  unfold rsV
  rw [if_pos h1, if_pos h3, if_pos h, if_neg (by rw [h7]; decide), if_neg h8]
theorem rsV_00 {nd : Nat → Int32} {rf : Int32} {O : cO} {s : Nat} {X : cX} (h1 : (rsR1 O X).2 = 0) (h3 : (rsR3 O s X).2 = 0) (h : rsSum O s X = n4V O (rsT O s X).2.2) (h7 : bt rf ((rsT O s X).2.1 (rsP O s X)) = false) (h8 : rf &&& nd (rsP O s X) = 0) : rsV nd rf O s X = nI 0 := by
  unfold rsV
  rw [if_pos h1, if_pos h3, if_pos h, if_neg (by rw [h7]; decide), if_pos h8]
theorem np_1 {O : cO} {r : cR} {seen : Int32} {P : Nat} (hb : nxV O r = nI P ∧ P < 256) (h1 : P < 12) (h2 : bt seen P = false) : npOk O r seen = true := by
  unfold npOk nxN
  rw [hb.1, nI_clamp (by omega), xIn_nI (by omega) (by omega), decide_eq_true h1, h2]
  rfl
theorem np_0a {O : cO} {r : cR} {seen : Int32} {P : Nat} (hb : nxV O r = nI P ∧ P < 256) (h1 : 12 ≤ P) : npOk O r seen = false := by
  unfold npOk
  rw [hb.1, xIn_nI (by omega) (by omega), decide_eq_false (by omega)]
  rfl
theorem np_0b {O : cO} {r : cR} {seen : Int32} {P : Nat} (hb : nxV O r = nI P ∧ P < 256) (h2 : bt seen P = true) : npOk O r seen = false := by
  unfold npOk nxN
  rw [hb.1, nI_clamp (by omega), h2]
  exact Bool.and_false _
theorem on_1 {a b : Nat} {z : Nat → Bool} (h1 : a < b) (h2 : z a = true) : (decide (a < b) && z a) = true := by rw [decide_eq_true h1, h2]; rfl
theorem on_0a {a b : Nat} {z : Nat → Bool} (h1 : ¬ a < b) : (decide (a < b) && z a) = false := by rw [decide_eq_false h1]; rfl
theorem on_0b {a b : Nat} {z : Nat → Bool} (h2 : z a = false) : (decide (a < b) && z a) = false := by rw [h2]; exact Bool.and_false _
theorem nd_ok {r : cR} {b : Bool} (h : (ndR r b).2 = 0) : r.2 = 0 ∧ b = true := by
  cases b with
  | true => exact ⟨h, rfl⟩
  | false => exact absurd h (rfR_fault nI5_ne)
theorem nd_le {r : cR} {b : Bool} {n : Nat} (h : r.1 ≤ n) : (ndR r b).1 ≤ n := by
  unfold ndR
  split
  · exact h
  · rw [rfR_1]; exact h
theorem mRe.np {r : cR} (h : mRe r) (O : cO) (seen : Int32) : mRe (npR O r seen) := (h.nx O).nd _
theorem mRe.nrL {O : cO} {q : Nat} : ∀ (n : Nat) (E : cE) (r : cR) (least : Nat), mRe r → mRe (nrL O q n E r least).2
  | 0, _, _, _, h => h
  | n + 1, E, r, least, h => by
    unfold Jvm.Pilot.@@N@@.nrL
    split
    · exact mRe.nrL n _ _ _ (((h.ncR O).wi _ _).ncR O)
    · exact h
theorem mRe.nrF {r : cR} (h : mRe r) (O : cO) (q : Nat) (E : cE) : mRe (nrF O q E r).2 := mRe.nrL _ _ _ _ ((h.ncR O).wi _ _)
theorem s207_B' {O : cO} {s P K : Nat} {X : cX} {M : mT} {Z : Nat → Bool} {J : Nat → Int64} {r4 r7 : cR} (hv : rvP M X.1) (h0 : nxV O (rsR1 O X) = 0) (hP : rsP O s X = P) (hr : nxR O (rsR1 O X) = r4) (hK : K = 0) (hw : rwP M P (nrF O (13 + P) X.1 r4).1 (13 + P) Z J) (h7 : (nrF O (13 + P) X.1 r4).2 = r7) : s207 O s X M (va_up (M.2.2.2.2.1 19) s (nI P)) (va_up (M.2.2.2.1 18) s (decide (K = 0))) Z J r7 s := by
  subst hP hr hK h7
  exact s207_B hv h0 hw
theorem s207_C1' {O : cO} {s N K : Nat} {X : cX} {M : mT} {f19 : Nat → Int32} {r5 : cR} (hv : rvP M X.1) (hC : lrC X s M) (hns : ∀ j, j < s → X.2.1 j ≠ some (rsP O s X)) (h0 : ¬ nxV O (rsR1 O X) = 0) (h1 : nxV O (rsR1 O X) = nI 1) (hn : nxN O (nxR O (rsR1 O X)) = N) (hr : nxR O (nxR O (rsR1 O X)) = r5) (hN : N < s) (ho : M.2.2.2.1 18 N = true) (hK : ¬ K = 0)
    (hf : ∀ j, j < s → f19 j = M.2.2.2.2.1 19 j) (hfs : r5.2 = 0 → f19 s = M.2.2.2.2.1 19 N) : s207 O s X M f19 (va_up (M.2.2.2.1 18) s (decide (K = 0))) (M.2.2.2.1 20) (M.2.2.2.2.2.1 21) r5 N := by
  subst hn hr
  rw [decide_eq_false hK]
  exact s207_C1 hv hC hns h0 h1 hN ho hf hfs
theorem s207_C2' {O : cO} {s N : Nat} {X : cX} {M : mT} {r5 : cR} (f19 : Nat → Int32) (z18 z20 : Nat → Bool) (nm : Nat) (hv : rvP M X.1) (hC : lrC X s M) (hns : ∀ j, j < s → X.2.1 j ≠ some (rsP O s X)) (h0 : ¬ nxV O (rsR1 O X) = 0) (h1 : nxV O (rsR1 O X) = nI 1) (hn : nxN O (nxR O (rsR1 O X)) = N) (hr : nxR O (nxR O (rsR1 O X)) = r5) (hok : (decide (N < s) && (M.2.2.2.1 18) N) = false) : s207 O s X M f19 z18 z20 (M.2.2.2.2.2.1 21) (rfR r5 (nI 5)) nm := by
  subst hn hr
  refine s207_C2 f19 z18 z20 nm hv hC hns h0 h1 ?_
  rw [Bool.and_eq_false_iff, decide_eq_false_iff_not] at hok
  exact hok
