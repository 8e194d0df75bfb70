/-! THE RELATION, and what each call keeps of it -/
def Rel (E : cE) (S : cS) (O : cO) (sec : Nat) (po : Nat → Option Nat) (re cf : Nat → Int32) (so : Nat → Nat) (M : mT) : Prop :=
  (RB M E S O ∧ rvP M E ∧ RTo M po re cf sec ∧ M.2.2.1 14 = sec) ∧ sec ≤ 255 ∧ (eOK E ∧ (∀ j, so j < 12) ∧ (∀ j q, po j = some q → q < 12) ∧ (∀ i, i < 100 → E.1 12 i = false)) ∧ (oFit O ∧ O.2.1 0 ≤ 8000 ∧ O.2.1 1 ≤ 8000) ∧ fvB S.2.2.1 = true ∧ AC S.1
section REL
variable {E : cE} {S : cS} {O : cO} {sec : Nat} {po : Nat → Option Nat} {re cf : Nat → Int32} {so : Nat → Nat} {M : mT}
theorem Rel.t0 (h : Rel E S O sec po re cf so M) : Rel E S O sec po re cf so (mT0 M) := ⟨⟨RB_fr h.1.1 rfl rfl rfl rfl rfl rfl rfl rfl rfl rfl rfl, h.1.2.1, h.1.2.2.1, h.1.2.2.2⟩, h.2⟩
theorem Rel.i0 (h : Rel E S O sec po re cf so M) (x : Int32) : Rel E S O sec po re cf so (mI M 0 x) := ⟨⟨RB_fr h.1.1 rfl rfl rfl rfl rfl rfl rfl rfl rfl rfl rfl, h.1.2.1, h.1.2.2.1, h.1.2.2.2⟩, h.2⟩
theorem Rel.z25 (h : Rel E S O sec po re cf so M) (z : Nat → Bool) : Rel E S O sec po re cf so (mZ M 25 z) := ⟨⟨RB_fr h.1.1 rfl rfl rfl rfl rfl rfl rfl rfl rfl rfl rfl, h.1.2.1, h.1.2.2.1, h.1.2.2.2⟩, h.2⟩
theorem Rel.es (h : Rel E S O sec po re cf so M) {M' : mT} {E' : cE} {S' : cS} (h21 : M'.2.2.2.2.2.1 21 = M.2.2.2.2.2.1 21) (h14 : M'.2.2.1 14 = M.2.2.1 14) (h15 : M'.2.2.2.2.1 15 = M.2.2.2.2.1 15) (h16 : M'.2.2.2.2.1 16 = M.2.2.2.2.1 16) (h17 : M'.2.2.2.2.1 17 = M.2.2.2.2.1 17) (h10 : M'.2.2.2.2.1 10 = M.2.2.2.2.1 10) (h11 : M'.2.2.1 11 = M.2.2.1 11) (h3 : M'.2.2.2.1 3 = M.2.2.2.1 3) (h5 : M'.1 5 = M.1 5) (h6 : M'.1 6 = M.1 6) (h7 : M'.2.1 7 = M.2.1 7) (h8 : M'.2.1 8 = M.2.1 8) (h9 : M'.1 9 = M.1 9)
    (hE : RE M' E') (hC : RC M' S'.2.1) (hS1 : S'.1 = S.1) (hS2 : S'.2.2 = S.2.2) (hO : eOK E') (ho : ∀ a, 12 ≤ a → E'.1 a = E.1 a ∧ E'.2.1 a = E.2.1 a) : Rel E' S' O sec po re cf so M' := by
  obtain ⟨⟨⟨b1, b2, b3, b4, b5⟩, c1, c2, c3⟩, d1, ⟨e1, e2, e3, e4⟩, f1, f2, f3⟩ := h
  refine ⟨⟨⟨⟨fun i => ?_, ?_⟩, hE, hC, ?_, ?_⟩, ?_, ?_, ?_⟩, d1, ⟨hO, e2, e3, fun i hi => ?_⟩, f1, ?_, ?_⟩
  · show M'.2.2.2.2.1 10 i = _; rw [h10]; exact b1.1 i
  · rw [h11]; exact b1.2
  · rw [hS1]; intro p q hp hq; show M'.2.2.2.1 3 _ = _; rw [h3]; exact b4 p q hp hq
  · unfold RSc; rw [hS2, h5, h6, h7, h8, h9]; exact b5
  · intro p i hp hi; show M'.2.2.2.2.2.1 21 _ = _; rw [h21, (ho (13 + p) (by omega)).2]; exact c1 p i hp hi
  · intro j hj; show M'.2.2.2.2.1 15 j = _ ∧ M'.2.2.2.2.1 16 j = _ ∧ M'.2.2.2.2.1 17 j = _; rw [h15, h16, h17]; exact c2 j hj
  · rw [h14]; exact c3
  · rw [(ho 12 (by omega)).1]; exact e4 i hi
  · rw [hS2]; exact f2
  · rw [hS1]; exact f3
theorem roc_eq (h : Rel E S O sec po re cf so M) (x y : Int32) : mRoc M x y = rocV S x y := by
  unfold mRoc rocV
  rw [h.1.1.2.2.2.2.2.2.1]
theorem roc_cl {x y : Int32} (h : rocV S x y = 0) : cl x < 12 ∧ cl y < 100 := by
  unfold rocV at h
  by_cases hx : xIn x 12 = true
  · rw [if_pos hx] at h
    by_cases hy : xIn y 100 = true
    · exact ⟨(xIn_cl (by omega) hx).1, (xIn_cl (by omega) hy).1⟩
    · rw [if_neg hy] at h; exact absurd h (by decide)
  · rw [if_neg hx] at h; exact absurd h (by decide)
theorem rel_put (h : Rel E S O sec po re cf so M) (x y : Int32) (v : Int64) : fpV E S x y v = mPuV M x y v ∧ Rel (fpE E S x y v) (fpS E S x y v) O sec po re cf so (mPuM M x y v) := by
  have hr := roc_eq h x y
  unfold fpV fpE fpS
  by_cases h0 : rocV S x y = 0
  · rw [if_pos h0, if_pos h0, if_pos h0, (mPu_y (hr.trans h0)).1, (mPu_y (hr.trans h0)).2]
    obtain ⟨hx, hy⟩ := roc_cl h0
    have ht := h.t0
    have hc := co_set (M := mT0 M) (E := E) (S := S) (k := 0) (q := 0) (v := v) (z1 := (mT0 M).2.2.2.1 1) (z4 := (mT0 M).2.2.2.1 4) (j2 := (mT0 M).2.2.2.2.2.1 2) (f17 := (mT0 M).2.2.2.2.1 17) hx hy (by rw [cb_id]; exact ht.1.1.2.1) (by rw [cb_id]; exact ht.1.1.2.2.1)
    rw [cb_id] at hc
    have hE := h.2.2.1.1.se (p := cl x) (i := cl y) (by omega) hy v
    refine ⟨?_, ht.es rfl rfl rfl rfl rfl rfl rfl rfl rfl rfl rfl rfl rfl hc.1 hc.2 (seS_k _ _ _ _ _).1 (seS_k _ _ _ _ _).2 hE (fun a ha => se_oth (by omega))⟩
    rw [ent_eq hE hc.1 hx]
  · rw [if_neg h0, if_neg h0, if_neg h0, (mPu_n hr h0).1, (mPu_n hr h0).2]
    exact ⟨rfl, h.t0⟩
theorem rel_take (h : Rel E S O sec po re cf so M) (x y : Int32) : ftV E S x y = mTaV M x y ∧ Rel (ftE E S x y) (ftS E S x y) O sec po re cf so (mTaM M x y) := by
  have hr := roc_eq h x y
  unfold ftV ftE ftS
  by_cases h0 : rocV S x y = 0
  · rw [if_pos h0, if_pos h0, if_pos h0, (mTa_y (hr.trans h0)).1, (mTa_y (hr.trans h0)).2]
    obtain ⟨hx, hy⟩ := roc_cl h0
    have ht := h.t0
    have hc := co_rem (M := mT0 M) (E := E) (S := S) (p := cl x) (i := cl y) (z1 := (mT0 M).2.2.2.1 1) (z4 := (mT0 M).2.2.2.1 4) (j2 := (mT0 M).2.2.2.2.2.1 2) (f17 := (mT0 M).2.2.2.2.1 17) hx hy (by rw [cb_id]; exact ht.1.1.2.1) (by rw [cb_id]; exact ht.1.1.2.2.1)
    rw [cb_id] at hc
    have hE := h.2.2.1.1.dr (p := cl x) (i := cl y) (by omega) hy
    refine ⟨?_, ht.es rfl rfl rfl rfl rfl rfl rfl rfl rfl rfl rfl rfl rfl hc.1 hc.2 (drS_k _ _ _ _).1 (drS_k _ _ _ _).2 hE (fun a ha => dr_oth (by omega))⟩
    rw [(h.1.1.2.1 (cl x) (cl y) hx hy).1]
  · rw [if_neg h0, if_neg h0, if_neg h0, (mTa_n hr h0).1, (mTa_n hr h0).2]
    exact ⟨rfl, h.t0⟩
/-- what get answers, and whether it is there -/
def fgB (E : cE) (x y : Int32) : Bool := xIn x 12 && (xIn y 100 && E.1 (cl x) (cl y))
theorem rel_get (h : Rel E S O sec po re cf so M) (x y : Int32) : mGeB M x y = fgB E x y ∧ (fgB E x y = true → mGeV M x y = E.2.1 (cl x) (cl y)) ∧ Rel E S O sec po re cf so (mGeM M x y) := by
  have hb : mGeB M x y = fgB E x y := by
    unfold mGeB fgB
    cases hx : xIn x 12 with
    | false => rfl
    | true =>
      cases hy : xIn y 100 with
      | false => rfl
      | true => rw [(h.1.1.2.1 (cl x) (cl y) (xIn_cl (by omega) hx).1 (xIn_cl (by omega) hy).1).1]
  refine ⟨hb, fun hg => ?_, h.i0 _⟩
  unfold mGeV
  rw [if_pos (hb.trans hg)]
  unfold fgB at hg
  rw [Bool.and_eq_true, Bool.and_eq_true] at hg
  exact (h.1.1.2.1 (cl x) (cl y) (xIn_cl (by omega) hg.1).1 (xIn_cl (by omega) hg.2.1).1).2
theorem rel_version (h : Rel E S O sec po re cf so M) (x : Int32) : (if fvB x = true then S.2.2.1 else -2) = (if fvB x = true then M.1 5 else -2) ∧ Rel E (if fvB x = true then (S.1, S.2.1, x, S.2.2.2) else S) O sec po re cf so (if fvB x = true then mI (mT0 M) 5 x else mT0 M) := by
  rw [h.1.1.2.2.2.2.1]
  refine ⟨rfl, ?_⟩
  by_cases hx : fvB x = true
  · rw [if_pos hx, if_pos hx]
    obtain ⟨⟨⟨b1, b2, b3, b4, b5⟩, c1, c2, c3⟩, d1, e1, f1, f2, f3⟩ := h
    exact ⟨⟨⟨b1, b2, b3, b4, ⟨rfl, b5.2.1, b5.2.2.1, b5.2.2.2.1, b5.2.2.2.2⟩⟩, c1, c2, c3⟩, d1, e1, f1, hx, f3⟩
  · rw [if_neg hx, if_neg hx]
    exact h.t0
theorem rel_mode (h : Rel E S O sec po re cf so M) (x : Int32) : (if fmB x = true then S.2.2.2.1 else -2) = (if fmB x = true then M.1 6 else -2) ∧ Rel E (if fmB x = true then (S.1, S.2.1, S.2.2.1, x, S.2.2.2.2) else S) O sec po re cf so (if fmB x = true then mI (mT0 M) 6 x else mT0 M) := by
  rw [h.1.1.2.2.2.2.2.1]
  refine ⟨rfl, ?_⟩
  by_cases hx : fmB x = true
  · rw [if_pos hx, if_pos hx]
    obtain ⟨⟨⟨b1, b2, b3, b4, b5⟩, c1, c2, c3⟩, d1, e1, f1, f2, f3⟩ := h
    exact ⟨⟨⟨b1, b2, b3, b4, ⟨b5.1, rfl, b5.2.2.1, b5.2.2.2.1, b5.2.2.2.2⟩⟩, c1, c2, c3⟩, d1, e1, f1, f2, f3⟩
  · rw [if_neg hx, if_neg hx]
    exact h.t0
theorem rel_busy (h : Rel E S O sec po re cf so M) (d : Bool) : cI (!decide (S.2.2.2.2.1 = d)) = cI (!decide (M.2.1 7 = d)) ∧ Rel E (S.1, S.2.1, S.2.2.1, S.2.2.2.1, d, S.2.2.2.2.2) O sec po re cf so (mB (mT0 M) 7 d) := by
  rw [h.1.1.2.2.2.2.2.2.1]
  refine ⟨rfl, ?_⟩
  obtain ⟨⟨⟨b1, b2, b3, b4, b5⟩, c1, c2, c3⟩, d1, e1, f1, f2, f3⟩ := h
  exact ⟨⟨⟨b1, b2, b3, b4, ⟨b5.1, b5.2.1, rfl, b5.2.2.2.1, b5.2.2.2.2⟩⟩, c1, c2, c3⟩, d1, e1, f1, f2, f3⟩
/-- needs -/
theorem rel_nd (h : Rel E S O sec po re cf so M) {M' : mT} {x y : Nat} {d : Bool} (hx : x < 12) (hy : y < 12) (hb : ¬ bt (S.1 x) y = d) (hM : Rel E S O sec po re cf so M') (hA : AC (va_up S.1 x (S.1 x ^^^ bitI y))) : Rel E (va_up S.1 x (S.1 x ^^^ bitI y), S.2) O sec po re cf so (mZi M' 3 (12 * x + y) d) := by
  obtain ⟨⟨⟨b1, b2, b3, b4, b5⟩, c1, c2, c3⟩, d1, e1, f1, f2, f3⟩ := hM
  refine ⟨⟨⟨b1, b2, b3, ?_, b5⟩, c1, c2, c3⟩, d1, e1, f1, f2, hA⟩
  intro p q hp hq
  show va_up (M'.2.2.2.1 3) (12 * x + y) d (12 * p + q) = bt (va_up S.1 x (S.1 x ^^^ bitI y) p) q
  by_cases e : p = x
  · subst e
    rw [va_up_self, b_xor, bt_bit (by omega) (by omega)]
    by_cases e2 : q = y
    · subst e2
      rw [va_up_self, decide_eq_true rfl]
      cases hd : bt (S.1 p) q <;> cases d <;> first | rfl | (exact absurd hd hb)
    · rw [va_up_ne _ _ (by omega), decide_eq_false e2, Bool.xor_false]
      exact b4 p q hp hq
  · rw [va_up_ne _ _ e, va_up_ne _ _ (by omega)]
    exact b4 p q hp hq
theorem rel_needs (h : Rel E S O sec po re cf so M) (x y : Int32) (d : Bool) : fnV S x y d = mNeV M x y d ∧ Rel E (fnS S x y d) O sec po re cf so (mNeM M x y d) := by
  cases hx : xIn x 12 with
  | false => rw [(fn_1 (Or.inl hx)).1, (fn_1 (Or.inl hx)).2, (mNe_1 (Or.inl hx)).1, (mNe_1 (Or.inl hx)).2]; exact ⟨rfl, h.t0⟩
  | true =>
    cases hy : xIn y 12 with
    | false => rw [(fn_1 (Or.inr hy)).1, (fn_1 (Or.inr hy)).2, (mNe_1 (Or.inr hy)).1, (mNe_1 (Or.inr hy)).2]; exact ⟨rfl, h.t0⟩
    | true =>
      have hcx := (xIn_cl (by omega) hx).1
      have hcy := (xIn_cl (by omega) hy).1
      have hA : AC S.1 := h.2.2.2.2.2
      have hN : mz M 3 (12 * cl x + cl y) = bt (S.1 (cl x)) (cl y) := h.1.1.2.2.2.1 _ _ hcx hcy
      have hR : mReach (mT0 M) (cl y) (cl x) = rcB S.1 (cl y) (cl x) := rc_mr (M := mT0 M) h.t0.1.1.2.2.2.1 hcx hcy
      have hxy : (xIn x 12 && xIn y 12) = true := by rw [hx, hy]; rfl
      have e0 : fnB S x y d = (d && rcB S.1 (cl y) (cl x)) := rfl
      unfold mNeV mNeM
      rw [if_pos hxy, if_pos hxy, hN, hR]
      by_cases hb : bt (S.1 (cl x)) (cl y) = d
      · have hf : fnB S x y d = false := by
          rw [e0]
          cases d with
          | false => rfl
          | true => rw [ac_back hA hcx hcy hb]; rfl
        rw [(fn_3 hx hy hf).1, (fn_3 hx hy hf).2, if_pos hb, if_pos hb, if_pos hb, decide_eq_true hb]
        exact ⟨rfl, h.t0⟩
      · rw [if_neg hb, if_neg hb]
        cases hf : fnB S x y d with
        | true =>
          rw [(fn_2 hx hy hf).1, (fn_2 hx hy hf).2]
          rw [e0] at hf
          rw [hf, if_pos rfl, if_pos rfl]
          exact ⟨rfl, h.t0.z25 _⟩
        | false =>
          rw [(fn_3 hx hy hf).1, (fn_3 hx hy hf).2, if_neg hb, decide_eq_false hb]
          rw [e0] at hf
          rw [hf, if_neg (by decide), if_neg (by decide)]
          refine ⟨rfl, ?_⟩
          cases d with
          | true =>
            rw [if_pos rfl]
            refine rel_nd h hcx hcy hb (h.t0.z25 _) (ac_add hA hcx hcy (by rw [Bool.true_and] at hf; exact hf) (fun q hq hq2 => ?_))
            rw [b_xor, bt_bit (by omega) (by omega)] at hq2
            by_cases e : q = cl y
            · exact Or.inr e
            · rw [decide_eq_false e, Bool.xor_false] at hq2; exact Or.inl hq2
          | false =>
            rw [if_neg (by decide)]
            refine rel_nd h hcx hcy hb h.t0 (ac_sub hA (fun q hq hq2 => ?_))
            rw [b_xor, bt_bit (by omega) (by omega)] at hq2
            by_cases e : q = cl y
            · subst e
              cases hbq : bt (S.1 (cl x)) (cl y) with
              | true => rfl
              | false => exact absurd hbq hb
            · rw [decide_eq_false e, Bool.xor_false] at hq2; exact hq2
/-- the bytes at hand -/
theorem rel_cut (h : Rel E S O sec po re cf so M) (x : Int32) : (if fcB O x = true then x else -2) = (if mCuB M x = true then x else -2) ∧ Rel E S (if fcB O x = true then (O.1, va_up O.2.1 0 (cl x), O.2.2) else O) sec po re cf so (if mCuB M x = true then mN (mT0 M) 11 (cl x) else mT0 M) := by
  have hc : mCuB M x = fcB O x := by
    unfold mCuB fcB
    rw [h.1.1.1.2]
    rfl
  rw [hc]
  refine ⟨rfl, ?_⟩
  by_cases hb : fcB O x = true
  · rw [if_pos hb, if_pos hb]
    have hO := h.2.2.2.1
    have hl : cl x ≤ O.2.1 0 := by
      unfold fcB at hb
      rw [Bool.and_eq_true, decide_eq_true_eq, decide_eq_true_eq, Int32.le_iff_toInt_le, Int32.le_iff_toInt_le, nI_toInt (by omega)] at hb
      unfold cl
      rw [Int32.toNatClampNeg]
      omega
    obtain ⟨⟨⟨b1, b2, b3, b4, b5⟩, c1, c2, c3⟩, d1, e1, ⟨f1, f2, f3⟩, f4⟩ := h
    refine ⟨⟨⟨⟨b1.1, ?_⟩, b2, b3, b4, b5⟩, c1, c2, c3⟩, d1, e1, ⟨f1, ?_, f3⟩, f4⟩
    · show cl x = va_up O.2.1 0 (cl x) 0
      rw [va_up_self]
    · show va_up O.2.1 0 (cl x) 0 ≤ 8000
      rw [va_up_self]; omega
  · rw [if_neg hb, if_neg hb]
    exact h.t0
theorem rel_add (h : Rel E S O sec po re cf so M) (x : Int32) : faV O x = (if M.2.2.1 11 = 8000 then -4 else nI (M.2.2.1 11 + 1)) ∧ Rel E S (faO' O x) sec po re cf so (mAdM M x) := by
  have hl : M.2.2.1 11 = O.2.1 0 := h.1.1.1.2
  have hO := h.2.2.2.1
  unfold faV faO' mAdM
  rw [hl]
  by_cases h8 : O.2.1 0 < 8000
  · rw [if_pos h8, if_pos h8, if_neg (by omega), if_neg (by omega)]
    have e : oApp O 0 x = (va_up O.1 0 (va_up (O.1 0) (O.2.1 0) (xb x)), va_up O.2.1 0 (O.2.1 0 + 1), O.2.2) := by unfold oApp; rw [if_pos h8]
    rw [e]
    refine ⟨by show nI (va_up O.2.1 0 (O.2.1 0 + 1) 0) = _; rw [va_up_self], ?_⟩
    obtain ⟨⟨⟨b1, b2, b3, b4, b5⟩, c1, c2, c3⟩, d1, e1, ⟨f1, f2, f3⟩, f4⟩ := h
    refine ⟨⟨⟨⟨fun i => ?_, ?_⟩, b2, b3, b4, b5⟩, c1, c2, c3⟩, d1, e1, ⟨by rw [← e]; exact oFit_app f1 0 x, ?_, f3⟩, f4⟩
    · show va_up (M.2.2.2.2.1 10) (O.2.1 0) (x &&& nI 255) i = va_up O.1 0 (va_up (O.1 0) (O.2.1 0) (xb x)) 0 i &&& nI 255
      rw [va_up_self]
      by_cases ei : i = O.2.1 0
      · rw [ei, va_up_self, va_up_self, xb255]
      · rw [va_up_ne _ _ ei, va_up_ne _ _ ei]; exact b1.1 i
    · show va_up (mYi (mT0 M) 10 (O.2.1 0) (x &&& nI 255)).2.2.1 11 (O.2.1 0 + 1) 11 = va_up O.2.1 0 (O.2.1 0 + 1) 0
      rw [va_up_self, va_up_self]
    · show va_up O.2.1 0 (O.2.1 0 + 1) 0 ≤ 8000
      rw [va_up_self]; omega
  · rw [if_neg h8, if_neg h8, if_pos (by omega), if_pos (by omega)]
    exact ⟨rfl, h.t0⟩
theorem k255 {y : Int32} (h : fkB y = true) : y &&& nI 255 = y := by
  unfold fkB at h
  rw [Bool.and_eq_true, decide_eq_true_eq, decide_eq_true_eq, Int32.le_iff_toInt_le, Int32.le_iff_toInt_le, nI_toInt (by omega), nI_toInt (by omega)] at h
  have e : y = nI (y.toInt.toNat) := by
    refine Int32.toInt_inj.mp ?_
    rw [nI_toInt (by omega)]
    omega
  rw [e]
  exact small255 (by omega)
theorem xor255 (a : Int32) {y : Int32} (h : y &&& nI 255 = y) : (a &&& nI 255) ^^^ y = xb (a ^^^ y) &&& nI 255 := by
  rw [xb255]
  refine b_ext (fun i hi => ?_)
  have hy : bt y i = (bt y i && bt (nI 255) i) := by rw [← b_and, h]
  rw [b_xor, b_and, b_and, b_xor]
  revert hy
  cases bt a i <;> cases bt y i <;> cases bt (nI 255) i <;> decide
theorem rel_poke (h : Rel E S O sec po re cf so M) (x y : Int32) : fkV O x y = mPkV M x y ∧ Rel E S (fkO O x y) sec po re cf so (mPkM M x y) := by
  have hl : M.2.2.1 11 = O.2.1 0 := h.1.1.1.2
  have hO := h.2.2.2.1
  unfold fkV mPkV mPkM mPkB
  rw [hl]
  by_cases hx : xIn x (O.2.1 0) = true
  · rw [if_pos hx, if_pos hx]
    obtain ⟨hc, hxe⟩ := xIn_cl (by omega) hx
    by_cases hy : fkB y = true
    · have hb : (xIn x (O.2.1 0) && fkB y) = true := by rw [hx, hy]; rfl
      rw [if_pos hy, if_pos hy, if_pos hb]
      have e : fkO O x y = (va_up O.1 0 (va_up (O.1 0) (cl x) (xb (O.1 0 (cl x) ^^^ y))), O.2) := by unfold fkO; rw [if_pos hb]
      have hv : my M 10 (cl x) ^^^ y = xb (O.1 0 (cl x) ^^^ y) &&& nI 255 := by rw [h.1.1.1.1 (cl x)]; exact xor255 _ (k255 hy)
      rw [e]
      refine ⟨?_, ?_⟩
      · unfold oAt
        rw [if_pos (show cl x < O.2.1 0 from hc)]
        show va_up O.1 0 (va_up (O.1 0) (cl x) (xb (O.1 0 (cl x) ^^^ y))) 0 (cl x) &&& nI 255 = _
        rw [va_up_self, va_up_self, hv]
      · obtain ⟨⟨⟨b1, b2, b3, b4, b5⟩, c1, c2, c3⟩, d1, e1, ⟨f1, f2, f3⟩, f4⟩ := h
        refine ⟨⟨⟨⟨fun i => ?_, b1.2⟩, b2, b3, b4, b5⟩, c1, c2, c3⟩, d1, e1, ⟨fun b j => ?_, f2, f3⟩, f4⟩
        · show va_up (M.2.2.2.2.1 10) (cl x) (my M 10 (cl x) ^^^ y) i = va_up O.1 0 (va_up (O.1 0) (cl x) (xb (O.1 0 (cl x) ^^^ y))) 0 i &&& nI 255
          rw [va_up_self]
          by_cases ei : i = cl x
          · rw [ei, va_up_self, va_up_self]; exact hv
          · rw [va_up_ne _ _ ei, va_up_ne _ _ ei]; exact b1.1 i
        · show fits .byte (.int (va_up O.1 0 (va_up (O.1 0) (cl x) (xb (O.1 0 (cl x) ^^^ y))) b j)) = true
          by_cases eb : b = 0
          · subst eb
            rw [va_up_self]
            by_cases ej : j = cl x
            · rw [ej, va_up_self]; exact pk_fb _
            · rw [va_up_ne _ _ ej]; exact f1 0 j
          · rw [va_up_ne _ _ eb]; exact f1 b j
    · have hb : ¬ (xIn x (O.2.1 0) && fkB y) = true := by rw [Bool.and_eq_true]; exact fun z => hy z.2
      rw [if_neg hy, if_neg hy, if_neg hb]
      have e : fkO O x y = O := by unfold fkO; rw [if_neg hb]
      rw [e]
      exact ⟨rfl, h.t0⟩
  · have hb : ¬ (xIn x (O.2.1 0) && fkB y) = true := by rw [Bool.and_eq_true]; exact fun z => hx z.1
    rw [if_neg hx, if_neg hx, if_neg hb]
    have e : fkO O x y = O := by unfold fkO; rw [if_neg hb]
    rw [e]
    exact ⟨rfl, h.t0⟩
theorem xb_fit {v : Int32} (h : fits .byte (.int v) = true) : xb v = v := by
  have h1 : (-128 : Int32).toInt = -128 := by decide
  have h2 : (127 : Int32).toInt = 127 := by decide
  simp only [fits, Bool.and_eq_true, decide_eq_true_eq, Int32.le_iff_toInt_le, h1, h2] at h
  unfold xb
  refine Int32.toInt_inj.mp ?_
  rw [Int8.toInt_toInt32, Int32.toInt_toInt8, Int.bmod_eq_of_le (by omega) (by omega)]
theorem xb_255 (v : Int32) : xb (v &&& nI 255) = xb v := by
  unfold xb
  have : (v &&& nI 255).toInt8 = v.toInt8 := by
    refine Int8.toBitVec_inj.mp (BitVec.eq_of_getLsbD_eq (fun i hi => ?_))
    rw [Int32.toBitVec_toInt8, Int32.toBitVec_toInt8, BitVec.getLsbD_signExtend, BitVec.getLsbD_signExtend, if_pos (by omega), if_pos (by omega)]
    have := b_and v (nI 255) i
    rw [b255 i (by omega), decide_eq_true hi, Bool.and_true] at this
    rw [show (v &&& nI 255).toBitVec.getLsbD i = v.toBitVec.getLsbD i from this]
  rw [this]
theorem rel_octet (h : Rel E S O sec po re cf so M) (x : Int32) : (if xIn x (M.2.2.1 11) = true then nI 0 else nI 1) = (if xIn x (O.2.1 0) = true then nI 0 else nI 1) ∧ (xIn x (O.2.1 0) = true → mOcV M x = O.1 0 (cl x)) ∧ Rel E S O sec po re cf so (mOcM M x) := by
  have hl : M.2.2.1 11 = O.2.1 0 := h.1.1.1.2
  refine ⟨by rw [hl], fun hx => ?_, h.i0 _⟩
  unfold mOcV
  rw [hl, if_pos hx, h.1.1.1.1 (cl x)]
  have hf := h.2.2.2.1.1 0 (cl x)
  have e1 : xb (O.1 0 (cl x)) = O.1 0 (cl x) := xb_fit hf
  rw [xb_255, e1]
theorem rel_told (h : Rel E S O sec po re cf so M) (x y : Int32) : ftoV sec po re cf x y = mToV M x y ∧ Rel E S O sec po re cf so (mT0 M) := by
  refine ⟨?_, h.t0⟩
  unfold ftoV mToV
  rw [h.1.2.2.2]
  by_cases hx : xIn x sec = true
  · rw [if_pos hx, if_pos hx]
    have hs := h.2.1
    have ht := h.1.2.2.1 (cl x) (xIn_cl (by omega) hx).1
    rw [ht.1, ht.2.1, ht.2.2]
  · rw [if_neg hx, if_neg hx]
theorem rel_same (h : Rel E S O sec po re cf so M) (x y : Int32) : fsaV E x y = mSaV (mT0 M) x y ∧ Rel E S O sec po re cf so (mT0 M) := by
  refine ⟨?_, h.t0⟩
  unfold fsaV mSaV
  cases hx : xIn x 12 with
  | false => rfl
  | true =>
    cases hy : xIn y 12 with
    | false => rfl
    | true => rw [same_like h.2.2.1.1 h.t0.1.1.2.1 (xIn_cl (by omega) hx).1 (xIn_cl (by omega) hy).1]
/-- counts -/
theorem acJ_I (cf : Nat → Int32) : ∀ n, acJ (nI 0) cf n = acI cf n
  | 0 => rfl
  | n + 1 => by rw [acJ, acI, acJ_I cf n]
theorem acI_cong {f g : Nat → Int32} : ∀ {n : Nat}, (∀ j, j < n → f j = g j) → acI f n = acI g n
  | 0, _ => rfl
  | n + 1, h => by rw [acI, acI, acI_cong (n := n) (fun j hj => h j (by omega)), h n (by omega)]
theorem mc_cnt {M : mT} {x : Int32} {f : Nat → Bool} (h5 : ¬ x = nI 5) : ∀ {n : Nat}, (∀ p, p < n → mcB M x p = f p) → mcC M x n = cnt f n
  | 0, _ => rfl
  | n + 1, h => by
    have ih := mc_cnt (M := M) (x := x) (f := f) h5 (n := n) (fun p hp => h p (by omega))
    unfold mcC cnt
    rw [h n (by omega), ih]
    cases f n with
    | true => rfl
    | false => rw [if_neg (by decide), if_neg h5]; rfl
theorem mc_5 {M : mT} {E : cE} (hE : eOK E) (hR : RE M E) : ∀ {n : Nat}, n ≤ 12 → mcC M (nI 5) n = aeE E n
  | 0, _ => rfl
  | n + 1, h => by
    unfold mcC aeE
    have hb : mcB M (nI 5) n = false := by
      unfold mcB
      rw [decide_eq_false (show ¬ nI 5 = nI 3 by decide), decide_eq_false (show ¬ nI 5 = nI 4 by decide)]
      rfl
    rw [hb, if_neg (by decide), if_pos rfl, mc_5 hE hR (n := n) (by omega), ent_eq hE hR (by omega)]
theorem x15 {x : Int32} (h : (decide (nI 1 ≤ x) && decide (x ≤ nI 5)) = true) : x = nI 1 ∨ x = nI 2 ∨ x = nI 3 ∨ x = nI 4 ∨ x = nI 5 := by
  rw [Bool.and_eq_true, decide_eq_true_eq, decide_eq_true_eq, Int32.le_iff_toInt_le, Int32.le_iff_toInt_le, nI_toInt (by omega), nI_toInt (by omega)] at h
  have e : x = nI (x.toInt.toNat) := by
    refine Int32.toInt_inj.mp ?_
    rw [nI_toInt (by omega)]
    omega
  have hn : x.toInt.toNat = 1 ∨ x.toInt.toNat = 2 ∨ x.toInt.toNat = 3 ∨ x.toInt.toNat = 4 ∨ x.toInt.toNat = 5 := by omega
  rw [e]
  rcases hn with z | z | z | z | z <;> rw [z] <;> simp
theorem rel_count (h : Rel E S O sec po re cf so M) (x : Int32) : fcoV E S O sec cf x = mCoV (mT0 M) x ∧ Rel E S O sec po re cf so (mT0 M) := by
  refine ⟨?_, h.t0⟩
  have ht := h.t0
  have hE := h.2.2.1.1
  generalize mT0 M = M1 at ht
  clear h
  have hs : M1.2.2.1 14 = sec := ht.1.2.2.2
  have hl : M1.2.2.1 11 = O.2.1 0 := ht.1.1.1.2
  unfold fcoV mCoV
  by_cases h0 : x = nI 0
  · rw [if_pos h0, if_pos h0, hs]
  · rw [if_neg h0, if_neg h0]
    by_cases h2 : x = nI 2
    · rw [if_pos h2, if_neg (by rw [h2]; decide), if_pos h2, hl]
    · rw [if_neg h2]
      by_cases hb : (decide (nI 1 ≤ x) && decide (x ≤ nI 5)) = true
      · rw [if_neg h2, if_pos hb]
        rcases x15 hb with z | z | z | z | z
        · subst z
          rw [if_pos rfl]
          have e1 : mcC M1 (nI 1) 12 = 0 := by
            rw [mc_cnt (f := fun _ => false) (by decide) (fun p _ => by
              unfold mcB
              rw [decide_eq_false (show ¬ nI 1 = nI 3 by decide), decide_eq_false (show ¬ nI 1 = nI 4 by decide)]
              rfl)]
            exact cnt_0 (fun _ _ => rfl)
          rw [e1, show mcS M1 (nI 1) = sec from (if_pos rfl).trans hs, acJ_I]
          exact acI_cong (fun j hj => (ht.1.2.2.1 j hj).2.2.symm)
        · exact absurd z h2
        · subst z
          rw [if_neg (by decide), if_pos rfl]
          have hw : ∀ p, 12 ≤ p → bt (pwE E 12) p = false := fun p hp => by
            rcases Nat.lt_or_ge p 32 with g | g
            · rw [pwE_bt g 12 (by omega), decide_eq_false (by omega)]; rfl
            · exact bt_big g
          rw [bcI_c hw, mc_cnt (f := bt (pwE E 12)) (by decide) (fun p hp => by
            unfold mcB
            rw [decide_eq_true (show nI 3 = nI 3 from rfl), decide_eq_false (show ¬ nI 3 = nI 4 by decide), Bool.true_and, Bool.false_and, Bool.or_false, pwE_bt (by omega) 12 (by omega), decide_eq_true hp, Bool.true_and, ent_eq hE ht.1.1.2.1 hp])]
          rfl
        · subst z
          rw [if_neg (by decide), if_neg (by decide), if_pos rfl]
          rw [bcI_c ht.1.1.2.2.1.2, mc_cnt (f := bt S.2.1) (by decide) (fun p hp => by
            unfold mcB
            rw [decide_eq_false (show ¬ nI 4 = nI 3 by decide), decide_eq_true (show nI 4 = nI 4 from rfl), Bool.false_and, Bool.true_and, Bool.false_or]
            exact ht.1.1.2.2.1.1 p hp)]
          rfl
        · subst z
          rw [if_neg (by decide), if_neg (by decide), if_neg (by decide), if_pos rfl, mc_5 hE ht.1.1.2.1 (Nat.le_refl _)]
          rfl
      · have n1 : ¬ x = nI 1 := fun z => hb (by rw [z]; decide)
        have n3 : ¬ x = nI 3 := fun z => hb (by rw [z]; decide)
        have n4 : ¬ x = nI 4 := fun z => hb (by rw [z]; decide)
        have n5 : ¬ x = nI 5 := fun z => hb (by rw [z]; decide)
        rw [if_neg n1, if_neg h2, if_neg n3, if_neg n4, if_neg n5, if_neg hb]
end REL
