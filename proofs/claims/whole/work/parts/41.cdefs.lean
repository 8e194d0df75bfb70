/-! the reference's come and compareAll: pure pictures -/
def coC (M : mT) (d : Bool) (p q i : Nat) : Bool := d && (mz M 1 (100 * p + i) && !decide (mj M 2 (100 * p + i) = mj M 21 (100 * q + i)))
def coM (M : mT) (d : Bool) (k p q i : Nat) : mT :=
  if mz M 20 (100 * q + i) = true then
    (if coC M d p q i = true then (if M.1 6 = nI 1 then mSet (mYi M 17 k (my M 17 k + nI 1)) p i (mj M 21 (100 * q + i)) else mYi M 17 k (my M 17 k + nI 1))
    else mSet (mYi M 17 k (my M 17 k)) p i (mj M 21 (100 * q + i)))
  else (if d = true then M else mRem M p i)
def coL (M : mT) (d : Bool) (k p q : Nat) : Nat → mT
  | 0 => M
  | i + 1 => coM (coL M d k p q i) d k p q i
theorem coM_a {M : mT} {d : Bool} {k p q i : Nat} (h : mz M 20 (100 * q + i) = false) (hd : d = true) : coM M d k p q i = M := by
  unfold coM
  rw [if_neg (by rw [h]; decide), if_pos hd]
theorem coM_b {M : mT} {d : Bool} {k p q i : Nat} (h : mz M 20 (100 * q + i) = false) (hd : d = false) : coM M d k p q i = mRem M p i := by
  unfold coM
  rw [if_neg (by rw [h]; decide), if_neg (by rw [hd]; decide)]
theorem coM_c {M : mT} {d : Bool} {k p q i : Nat} (h : mz M 20 (100 * q + i) = true) (hc : coC M d p q i = true) (hm : ¬ M.1 6 = nI 1) : coM M d k p q i = mYi M 17 k (my M 17 k + nI 1) := by
  unfold coM
  rw [if_pos h, if_pos hc, if_neg hm]
theorem coM_d {M : mT} {d : Bool} {k p q i : Nat} (h : mz M 20 (100 * q + i) = true) (hc : coC M d p q i = true) (hm : M.1 6 = nI 1) : coM M d k p q i = mSet (mYi M 17 k (my M 17 k + nI 1)) p i (mj M 21 (100 * q + i)) := by
  unfold coM
  rw [if_pos h, if_pos hc, if_pos hm]
theorem coM_e {M : mT} {d : Bool} {k p q i : Nat} (h : mz M 20 (100 * q + i) = true) (hc : coC M d p q i = false) : coM M d k p q i = mSet (mYi M 17 k (my M 17 k)) p i (mj M 21 (100 * q + i)) := by
  unfold coM
  rw [if_pos h, if_neg (by rw [hc]; decide)]
theorem coC_1 {M : mT} {d : Bool} {p q i : Nat} (hd : d = true) (h1 : mz M 1 (100 * p + i) = true) (h2 : ¬ mj M 2 (100 * p + i) = mj M 21 (100 * q + i)) : coC M d p q i = true := by
  unfold coC
  rw [hd, h1, decide_eq_false h2]
  rfl
theorem coC_0a {M : mT} {d : Bool} {p q i : Nat} (hd : d = false) : coC M d p q i = false := by
  unfold coC
  rw [hd]
  rfl
theorem coC_0b {M : mT} {d : Bool} {p q i : Nat} (h1 : mz M 1 (100 * p + i) = false) : coC M d p q i = false := by
  unfold coC
  rw [h1]
  exact Bool.and_false _
theorem coC_0c {M : mT} {d : Bool} {p q i : Nat} (h2 : mj M 2 (100 * p + i) = mj M 21 (100 * q + i)) : coC M d p q i = false := by
  unfold coC
  rw [decide_eq_true h2]
  cases d <;> cases mz M 1 (100 * p + i) <;> rfl
/-- the cells that come changes -/
def mCb (M : mT) (z1 z4 : Nat → Bool) (j2 : Nat → Int64) (f17 : Nat → Int32) : mT := mY (mJ (mZ (mZ M 1 z1) 4 z4) 2 j2) 17 f17
theorem cb_id (M : mT) : mCb M (M.2.2.2.1 1) (M.2.2.2.1 4) (M.2.2.2.2.2.1 2) (M.2.2.2.2.1 17) = M := by
  unfold mCb mY mJ mZ
  dsimp only
  rw [va_up_id rfl, va_up_id rfl, va_up_id rfl, va_up_id rfl]
theorem cb_set (M : mT) (z1 z4 : Nat → Bool) (j2 : Nat → Int64) (f17 : Nat → Int32) (p i : Nat) (v : Int64) : mSet (mCb M z1 z4 j2 f17) p i v = mCb M (va_up z1 (100 * p + i) true) (va_up z4 p (z4 p || (!z1 (100 * p + i) || !decide (j2 (100 * p + i) = v)))) (va_up j2 (100 * p + i) v) f17 := by
  unfold mSet mCb mJi mZi mY mJ mZ
  refine Prod.ext rfl (Prod.ext rfl (Prod.ext rfl (Prod.ext ?_ (Prod.ext rfl (Prod.ext ?_ rfl)))))
  · funext a
    by_cases h1 : a = 1
    · subst h1; simp [va_up]
    · by_cases h4 : a = 4
      · subst h4; simp [va_up]; rfl
      · simp [va_up, h1, h4]
  · funext a
    by_cases h1 : a = 2
    · subst h1; simp [va_up]
    · simp [va_up, h1]
theorem cb_rem (M : mT) (z1 z4 : Nat → Bool) (j2 : Nat → Int64) (f17 : Nat → Int32) (p i : Nat) : mRem (mCb M z1 z4 j2 f17) p i = mCb M (va_up z1 (100 * p + i) false) (va_up z4 p (z4 p || z1 (100 * p + i))) j2 f17 := by
  unfold mRem mCb mZi mY mJ mZ
  refine Prod.ext rfl (Prod.ext rfl (Prod.ext rfl (Prod.ext ?_ (Prod.ext rfl (Prod.ext rfl rfl)))))
  funext a
  by_cases h1 : a = 1
  · subst h1; simp [va_up]
  · by_cases h4 : a = 4
    · subst h4; simp [va_up]; rfl
    · simp [va_up, h1, h4]
theorem cb_yi (M : mT) (z1 z4 : Nat → Bool) (j2 : Nat → Int64) (f17 : Nat → Int32) (k : Nat) (v : Int32) : mYi (mCb M z1 z4 j2 f17) 17 k v = mCb M z1 z4 j2 (va_up f17 k v) := by
  unfold mCb mYi mY mJ mZ
  refine Prod.ext rfl (Prod.ext rfl (Prod.ext rfl (Prod.ext rfl (Prod.ext ?_ rfl))))
  funext a
  by_cases h1 : a = 17
  · subst h1; simp [va_up]
  · simp [va_up, h1]
/-- entries and values of the parts beside the component's -/
def RE (M : mT) (E : cE) : Prop := ∀ p i, p < 12 → i < 100 → mz M 1 (100 * p + i) = E.1 p i ∧ mj M 2 (100 * p + i) = E.2.1 p i
/-- the changed parts -/
def RC (M : mT) (ch : Int32) : Prop := (∀ p, p < 12 → mz M 4 p = bt ch p) ∧ (∀ p, 12 ≤ p → bt ch p = false)
/-- one step of come beside the component's -/
def coP (M : mT) (E : cE) (S : cS) (k p q : Nat) (M' : mT) (E' : cE) (S' : cS) (c : Nat) : Prop :=
  (∃ z1 z4 j2 f17, M' = mCb M z1 z4 j2 f17 ∧ (∀ j, j ≠ k → f17 j = my M 17 j)) ∧ my M' 17 k = my M 17 k + nI c ∧ RE M' E' ∧ RC M' S'.2.1 ∧ S'.1 = S.1 ∧ S'.2.2 = S.2.2 ∧ (∀ a, a ≠ p → E'.1 a = E.1 a ∧ E'.2.1 a = E.2.1 a)
theorem bt_big {x : Int32} {i : Nat} (h : 32 ≤ i) : bt x i = false := by
  unfold bt
  exact BitVec.getLsbD_of_ge _ _ h
theorem RC_or {M M' : mT} {ch : Int32} {p : Nat} {b : Bool} (h : RC M ch) (hp : p < 12) (h4 : M'.2.2.2.1 4 = va_up (M.2.2.2.1 4) p (M.2.2.2.1 4 p || b)) : RC M' (if b = true then ch ||| bitI p else ch) := by
  constructor
  · intro a ha
    show M'.2.2.2.1 4 a = _
    rw [h4]
    have h1 := h.1 a ha
    by_cases e : a = p
    · subst e
      rw [va_up_self]
      cases b with
      | false => rw [Bool.or_false, if_neg (by decide)]; exact h1
      | true => rw [Bool.or_true, if_pos rfl, b_or, bt_bit (by omega) (by omega), decide_eq_true rfl, Bool.or_true]
    · rw [va_up_ne _ _ e]
      cases b with
      | false => rw [if_neg (by decide)]; exact h1
      | true => rw [if_pos rfl, b_or, bt_bit (by omega) (by omega), decide_eq_false e, Bool.or_false]; exact h1
  · intro a ha
    cases b with
    | false => rw [if_neg (by decide)]; exact h.2 a ha
    | true => 
      rw [if_pos rfl, b_or, h.2 a ha, Bool.false_or]
      rcases Nat.lt_or_ge a 32 with g | g
      · rw [bt_bit (by omega) g, decide_eq_false (by omega)]
      · exact bt_big g
theorem co_set {M : mT} {E : cE} {S : cS} {k p q i : Nat} {v : Int64} {z1 z4 : Nat → Bool} {j2 : Nat → Int64} {f17 : Nat → Int32} (hp : p < 12) (hi : i < 100) (hE : RE (mCb M z1 z4 j2 f17) E) (hC : RC (mCb M z1 z4 j2 f17) S.2.1) :
    RE (mSet (mCb M z1 z4 j2 f17) p i v) (seE E p i v) ∧ RC (mSet (mCb M z1 z4 j2 f17) p i v) (seS E S p i v).2.1 := by
  have h0 := hE p i hp hi
  have h01 : z1 (100 * p + i) = E.1 p i := h0.1
  have h02 : j2 (100 * p + i) = E.2.1 p i := h0.2
  have hb : (!z1 (100 * p + i) || !decide (j2 (100 * p + i) = v)) = !eHolds E p i v := by
    unfold eHolds
    rw [h01, h02]
    cases E.1 p i <;> cases decide (E.2.1 p i = v) <;> rfl
  constructor
  · rw [cb_set]
    intro a b ha hb'
    have h1 := hE a b ha hb'
    have h11 : z1 (100 * a + b) = E.1 a b := h1.1
    have h12 : j2 (100 * a + b) = E.2.1 a b := h1.2
    show va_up z1 (100 * p + i) true (100 * a + b) = _ ∧ va_up j2 (100 * p + i) v (100 * a + b) = _
    by_cases e : a = p ∧ b = i
    · obtain ⟨rfl, rfl⟩ := e
      rw [va_up_self, va_up_self]
      unfold seE
      split
      · rename_i hh
        unfold eHolds at hh
        rw [Bool.and_eq_true, decide_eq_true_eq] at hh
        exact ⟨hh.1.symm, hh.2.symm⟩
      · unfold eSet
        dsimp only
        rw [va_up_self, va_up_self, va_up_self, va_up_self]
        exact ⟨rfl, rfl⟩
    · have e' : 100 * a + b ≠ 100 * p + i := by
        intro z
        apply e
        constructor <;> omega
      rw [va_up_ne _ _ e', va_up_ne _ _ e', h11, h12]
      unfold seE
      split
      · exact ⟨rfl, rfl⟩
      · unfold eSet
        dsimp only
        by_cases ea : a = p
        · subst ea
          have eb : b ≠ i := fun z => e ⟨rfl, z⟩
          rw [va_up_self, va_up_self, va_up_ne _ _ eb, va_up_ne _ _ eb]
          exact ⟨rfl, rfl⟩
        · rw [va_up_ne _ _ ea, va_up_ne _ _ ea]
          exact ⟨rfl, rfl⟩
  · have := RC_or (M' := mSet (mCb M z1 z4 j2 f17) p i v) (b := !eHolds E p i v) hC hp (by rw [cb_set, hb]; rfl)
    unfold seS
    cases hh : eHolds E p i v with
    | true => rw [hh] at this; exact this
    | false => rw [hh] at this; exact this
theorem co_rem {M : mT} {E : cE} {S : cS} {p i : Nat} {z1 z4 : Nat → Bool} {j2 : Nat → Int64} {f17 : Nat → Int32} (hp : p < 12) (hi : i < 100) (hE : RE (mCb M z1 z4 j2 f17) E) (hC : RC (mCb M z1 z4 j2 f17) S.2.1) :
    RE (mRem (mCb M z1 z4 j2 f17) p i) (drE E p i) ∧ RC (mRem (mCb M z1 z4 j2 f17) p i) (drS E S p i).2.1 := by
  have h0 := hE p i hp hi
  have h01 : z1 (100 * p + i) = E.1 p i := h0.1
  constructor
  · rw [cb_rem]
    intro a b ha hb'
    have h1 := hE a b ha hb'
    have h11 : z1 (100 * a + b) = E.1 a b := h1.1
    have h12 : j2 (100 * a + b) = E.2.1 a b := h1.2
    show va_up z1 (100 * p + i) false (100 * a + b) = _ ∧ j2 (100 * a + b) = _
    by_cases e : a = p ∧ b = i
    · obtain ⟨rfl, rfl⟩ := e
      rw [va_up_self, h12]
      unfold drE
      split
      · unfold eDrop
        dsimp only
        rw [va_up_self, va_up_self]
        exact ⟨rfl, rfl⟩
      · rename_i hh
        exact ⟨(Bool.not_eq_true _ ▸ hh : E.1 a b = false).symm, rfl⟩
    · have e' : 100 * a + b ≠ 100 * p + i := by
        intro z
        apply e
        constructor <;> omega
      rw [va_up_ne _ _ e', h11, h12]
      unfold drE
      split
      · unfold eDrop
        dsimp only
        by_cases ea : a = p
        · subst ea
          have eb : b ≠ i := fun z => e ⟨rfl, z⟩
          rw [va_up_self, va_up_ne _ _ eb]
          exact ⟨rfl, rfl⟩
        · rw [va_up_ne _ _ ea]
          exact ⟨rfl, rfl⟩
      · exact ⟨rfl, rfl⟩
  · have := RC_or (M' := mRem (mCb M z1 z4 j2 f17) p i) (b := E.1 p i) hC hp (by rw [cb_rem, h01]; rfl)
    unfold drS
    cases hh : E.1 p i with
    | true => rw [hh] at this; exact this
    | false => rw [hh] at this; exact this
theorem se_oth {E : cE} {p i a : Nat} {v : Int64} (h : a ≠ p) : (seE E p i v).1 a = E.1 a ∧ (seE E p i v).2.1 a = E.2.1 a := by
  unfold seE
  split
  · exact ⟨rfl, rfl⟩
  · unfold eSet
    dsimp only
    rw [va_up_ne _ _ h, va_up_ne _ _ h]
    exact ⟨rfl, rfl⟩
theorem dr_oth {E : cE} {p i a : Nat} (h : a ≠ p) : (drE E p i).1 a = E.1 a ∧ (drE E p i).2.1 a = E.2.1 a := by
  unfold drE
  split
  · unfold eDrop
    dsimp only
    rw [va_up_ne _ _ h]
    exact ⟨rfl, rfl⟩
  · exact ⟨rfl, rfl⟩
theorem seS_k (E : cE) (S : cS) (p i : Nat) (v : Int64) : (seS E S p i v).1 = S.1 ∧ (seS E S p i v).2.2 = S.2.2 := by
  unfold seS
  split <;> exact ⟨rfl, rfl⟩
theorem drS_k (E : cE) (S : cS) (p i : Nat) : (drS E S p i).1 = S.1 ∧ (drS E S p i).2.2 = S.2.2 := by
  unfold drS
  split <;> exact ⟨rfl, rfl⟩
/-- a whole file's section comes -/
theorem co_mg {M : mT} {E : cE} {S : cS} {k p q : Nat} (hp : p < 12) (hE : RE M E) (hC : RC M S.2.1) (hg : rgP M E q) (hv : rvP M E) (hq : q < 12) (hm : M.1 6 = S.2.2.2.1) : ∀ i, i ≤ 100 → coP M E S k p q (coL M true k p q i) (mgE E S p (13 + q) i).1 (mgE E S p (13 + q) i).2.1 (mgE E S p (13 + q) i).2.2
  | 0, _ => ⟨⟨_, _, _, _, (cb_id M).symm, fun _ _ => rfl⟩, by show my M 17 k = my M 17 k + nI 0; rw [show nI 0 = (0 : Int32) from rfl, Int32.add_zero], hE, hC, rfl, rfl, fun _ _ => ⟨rfl, rfl⟩⟩
  | i + 1, hi => by
    obtain ⟨⟨z1, z4, j2, f17, a1, a1'⟩, a2, a3, a4, a5, a6, a7⟩ := co_mg (k := k) hp hE hC hg hv hq hm i (by omega)
    have hi' : i < 100 := by omega
    show coP M E S k p q (coM (coL M true k p q i) true k p q i) _ _ _
    generalize coL M true k p q i = M1 at a1 a2 a3 a4
    unfold mgE
    dsimp only
    generalize (mgE E S p (13 + q) i).1 = E1 at a3 a7 ⊢
    generalize (mgE E S p (13 + q) i).2.1 = S1 at a4 a5 a6 ⊢
    generalize (mgE E S p (13 + q) i).2.2 = c1 at a2 ⊢
    have hpq : 13 + q ≠ p := by omega
    have r20 : mz M1 20 (100 * q + i) = E1.1 (13 + q) i := by rw [a1, (a7 _ hpq).1]; exact hg i hi'
    have r21 : mj M1 21 (100 * q + i) = E1.2.1 (13 + q) i := by rw [a1, (a7 _ hpq).2]; exact hv q i hq hi'
    have r6 : M1.1 6 = S1.2.2.2.1 := by rw [a6, a1]; exact hm
    have rp := a3 p i hp hi'
    have hcc : coC M1 true p q i = cfl E1 p (13 + q) i := by
      unfold coC cfl
      rw [rp.1, rp.2, r21]
      rfl
    cases h20 : E1.1 (13 + q) i with
    | false =>
      rw [coM_a (by rw [r20, h20]) rfl]
      have e1 : mgD E1 S1 p (13 + q) i = false := by unfold mgD; rw [h20]; rfl
      have e2 : mgC E1 p (13 + q) i = false := by unfold mgC; rw [h20]; rfl
      rw [e1, e2, if_neg (by decide), if_neg (by decide), if_neg (by decide)]
      exact ⟨⟨z1, z4, j2, f17, a1, a1'⟩, a2, a3, a4, a5, a6, a7⟩
    | true =>
      have h20' : mz M1 20 (100 * q + i) = true := by rw [r20, h20]
      have e2 : mgC E1 p (13 + q) i = coC M1 true p q i := by unfold mgC; rw [h20, hcc]; rfl
      have e1 : mgD E1 S1 p (13 + q) i = (!coC M1 true p q i || decide (M1.1 6 = nI 1)) := by unfold mgD; rw [h20, hcc, r6]; rfl
      rw [e1, e2]
      cases hc : coC M1 true p q i with
      | false =>
        rw [coM_e h20' hc, Bool.not_false, Bool.true_or, if_pos rfl, if_pos rfl, if_neg (by decide), r21]
        subst a1
        rw [cb_yi]
        have hs := co_set (M := M) (k := k) (q := q) (v := E1.2.1 (13 + q) i) (S := S1) (f17 := va_up f17 k (my (mCb M z1 z4 j2 f17) 17 k)) hp hi' a3 a4
        refine ⟨⟨_, _, _, _, cb_set _ _ _ _ _ _ _ _, fun j hj => by rw [va_up_ne _ _ hj]; exact a1' j hj⟩, ?_, hs.1, hs.2, (seS_k _ _ _ _ _).1.trans a5, (seS_k _ _ _ _ _).2.trans a6, fun a ha => ⟨(se_oth ha).1.trans (a7 a ha).1, (se_oth ha).2.trans (a7 a ha).2⟩⟩
        rw [cb_set, ← a2]
        exact va_up_self _ _ _
      | true =>
        have hcn : my M1 17 k + nI 1 = my M 17 k + nI (c1 + 1) := by rw [a2, Int32.add_assoc, nI_add]
        by_cases h6 : M1.1 6 = nI 1
        · rw [coM_d h20' hc h6, decide_eq_true h6, Bool.or_true, if_pos rfl, if_pos rfl, if_pos rfl, r21]
          subst a1
          rw [cb_yi]
          have hs := co_set (M := M) (k := k) (q := q) (v := E1.2.1 (13 + q) i) (S := S1) (f17 := va_up f17 k (my (mCb M z1 z4 j2 f17) 17 k + nI 1)) hp hi' a3 a4
          refine ⟨⟨_, _, _, _, cb_set _ _ _ _ _ _ _ _, fun j hj => by rw [va_up_ne _ _ hj]; exact a1' j hj⟩, ?_, hs.1, hs.2, (seS_k _ _ _ _ _).1.trans a5, (seS_k _ _ _ _ _).2.trans a6, fun a ha => ⟨(se_oth ha).1.trans (a7 a ha).1, (se_oth ha).2.trans (a7 a ha).2⟩⟩
          rw [cb_set, ← hcn]
          exact va_up_self _ _ _
        · rw [coM_c h20' hc h6, decide_eq_false h6, if_neg (by decide), if_neg (by decide), if_pos rfl]
          subst a1
          rw [cb_yi]
          refine ⟨⟨_, _, _, _, rfl, fun j hj => by rw [va_up_ne _ _ hj]; exact a1' j hj⟩, ?_, a3, a4, a5, a6, a7⟩
          rw [← hcn]
          exact va_up_self _ _ _
/-- a section of a file of changes comes -/
theorem co_rp {M : mT} {E : cE} {S : cS} {k p q : Nat} (hp : p < 12) (hE : RE M E) (hC : RC M S.2.1) (hg : rgP M E q) (hv : rvP M E) (hq : q < 12) : ∀ i, i ≤ 100 → coP M E S k p q (coL M false k p q i) (rpE E S p (13 + q) i).1 (rpE E S p (13 + q) i).2 0
  | 0, _ => ⟨⟨_, _, _, _, (cb_id M).symm, fun _ _ => rfl⟩, by show my M 17 k = my M 17 k + nI 0; rw [show nI 0 = (0 : Int32) from rfl, Int32.add_zero], hE, hC, rfl, rfl, fun _ _ => ⟨rfl, rfl⟩⟩
  | i + 1, hi => by
    obtain ⟨⟨z1, z4, j2, f17, a1, a1'⟩, a2, a3, a4, a5, a6, a7⟩ := co_rp (k := k) hp hE hC hg hv hq i (by omega)
    have hi' : i < 100 := by omega
    show coP M E S k p q (coM (coL M false k p q i) false k p q i) _ _ _
    generalize coL M false k p q i = M1 at a1 a2 a3 a4
    unfold rpE
    dsimp only
    generalize (rpE E S p (13 + q) i).1 = E1 at a3 a7 ⊢
    generalize (rpE E S p (13 + q) i).2 = S1 at a4 a5 a6 ⊢
    have hpq : 13 + q ≠ p := by omega
    have r20 : mz M1 20 (100 * q + i) = E1.1 (13 + q) i := by rw [a1, (a7 _ hpq).1]; exact hg i hi'
    have r21 : mj M1 21 (100 * q + i) = E1.2.1 (13 + q) i := by rw [a1, (a7 _ hpq).2]; exact hv q i hq hi'
    cases h20 : E1.1 (13 + q) i with
    | false =>
      rw [coM_b (by rw [r20, h20]) rfl, if_neg (by decide)]
      subst a1
      have hs := co_rem (M := M) (S := S1) hp hi' a3 a4
      refine ⟨⟨_, _, _, _, cb_rem _ _ _ _ _ _ _, a1'⟩, ?_, hs.1, hs.2, (drS_k _ _ _ _).1.trans a5, (drS_k _ _ _ _).2.trans a6, fun a ha => ⟨(dr_oth ha).1.trans (a7 a ha).1, (dr_oth ha).2.trans (a7 a ha).2⟩⟩
      rw [cb_rem, ← a2]
      rfl
    | true =>
      rw [coM_e (by rw [r20, h20]) (coC_0a rfl), if_pos rfl, r21]
      subst a1
      rw [cb_yi]
      have hs := co_set (M := M) (k := k) (q := q) (v := E1.2.1 (13 + q) i) (S := S1) (f17 := va_up f17 k (my (mCb M z1 z4 j2 f17) 17 k)) hp hi' a3 a4
      refine ⟨⟨_, _, _, _, cb_set _ _ _ _ _ _ _ _, fun j hj => by rw [va_up_ne _ _ hj]; exact a1' j hj⟩, ?_, hs.1, hs.2, (seS_k _ _ _ _ _).1.trans a5, (seS_k _ _ _ _ _).2.trans a6, fun a ha => ⟨(se_oth ha).1.trans (a7 a ha).1, (se_oth ha).2.trans (a7 a ha).2⟩⟩
      rw [cb_set, ← a2]
      exact va_up_self _ _ _
theorem co_ls {M : mT} {E : cE} {S : cS} {k p q : Nat} {d : Bool} (hp : p < 12) (hE : RE M E) (hC : RC M S.2.1) (hg : rgP M E q) (hv : rvP M E) (hq : q < 12) (hm : M.1 6 = S.2.2.2.1) : coP M E S k p q (coL M d k p q 100) (lsM E S d p (13 + q)).1 (lsM E S d p (13 + q)).2.1 (lsM E S d p (13 + q)).2.2 := by
  cases d with
  | true => exact co_mg hp hE hC hg hv hq hm 100 (by omega)
  | false =>
    have h := co_rp (S := S) (k := k) hp hE hC hg hv hq 100 (by omega)
    unfold lsM
    rw [if_neg (by decide)]
    dsimp only
    exact h
/-- come keeps the cells that it reads of the section -/
theorem coL_k {M : mT} {d : Bool} {k p q : Nat} : ∀ i, ∃ z1 z4 j2 f17, coL M d k p q i = mCb M z1 z4 j2 f17
  | 0 => ⟨_, _, _, _, (cb_id M).symm⟩
  | i + 1 => by
    obtain ⟨z1, z4, j2, f17, h⟩ := coL_k (M := M) (d := d) (k := k) (p := p) (q := q) i
    show ∃ z1 z4 j2 f17, coM (coL M d k p q i) d k p q i = _
    rw [h]
    unfold coM
    split
    · split
      · split
        · rw [cb_yi, cb_set]; exact ⟨_, _, _, _, rfl⟩
        · rw [cb_yi]; exact ⟨_, _, _, _, rfl⟩
      · rw [cb_yi, cb_set]; exact ⟨_, _, _, _, rfl⟩
    · split
      · exact ⟨_, _, _, _, rfl⟩
      · rw [cb_rem]; exact ⟨_, _, _, _, rfl⟩
/-- the last section of a part -/
def mLs (f : Nat → Int32) (x : Int32) : Nat → Option Nat
  | 0 => none
  | k + 1 => if f k = x then some k else mLs f x k
def caQ (M : mT) (o : Option Nat) : Nat := cl (my M 19 (o.getD 0))
def caT (M : mT) (o : Option Nat) (i : Nat) : Bool := o.isSome && mz M 20 (100 * caQ M o + i)
def caS (M : mT) (p : Nat) (o : Option Nat) (i : Nat) : Bool := decide (caT M o i = mz M 1 (100 * p + i)) && (!caT M o i || decide (mj M 2 (100 * p + i) = mj M 21 (100 * caQ M o + i)))
def caO (M : mT) (p : Nat) : Option Nat := mLs (M.2.2.2.2.1 15) (nI p) (M.2.2.1 14)
def caZ (M : mT) (n : Nat) : Nat → Bool := fun p => if p < n then !allB (caS M p (caO M p)) 100 else M.2.2.2.1 4 p
theorem caZ_0 (M : mT) : caZ M 0 = M.2.2.2.1 4 := by
  funext p
  unfold caZ
  rw [if_neg (by omega)]
theorem caZ_s (M : mT) (n : Nat) : va_up (caZ M n) n (!allB (caS M n (caO M n)) 100) = caZ M (n + 1) := by
  funext p
  unfold caZ
  by_cases h : p = n
  · rw [h, va_up_self, if_pos (by omega)]
  · rw [va_up_ne _ _ h]
    by_cases h2 : p < n
    · rw [if_pos h2, if_pos (by omega)]
    · rw [if_neg h2, if_neg (by omega)]
theorem mLs_lt {f : Nat → Int32} {x : Int32} {k : Nat} : ∀ {s : Nat}, mLs f x s = some k → k < s ∧ f k = x
  | 0, h => by cases h
  | s + 1, h => by
    unfold mLs at h
    split at h
    · rename_i hh
      cases h
      exact ⟨by omega, hh⟩
    · have := mLs_lt h
      exact ⟨by omega, this.2⟩
theorem mLs_no {f : Nat → Int32} {x : Int32} : ∀ {s : Nat}, mLs f x s = none → ∀ j, j < s → f j ≠ x
  | 0, _, j, hj => absurd hj (Nat.not_lt_zero j)
  | s + 1, h, j, hj => by
    unfold mLs at h
    split at h
    · cases h
    · rename_i hh
      by_cases e : j = s
      · rw [e]; exact hh
      · exact mLs_no h j (by omega)
