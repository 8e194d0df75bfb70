/-! one section, the two ways -/
def kP (O : cO) (E : cE) (so : Nat → Nat) (seen : Int32) (ra : Nat → Nat) (p : Nat) : Prop := bt seen (so p) = true ∧ ∀ E0, alk E (13 + so p) (nrF O 25 E0 (ra p, nI 0)).1 25
theorem rrF_in (O : cO) (po : Nat → Option Nat) (s p : Nat) (E E' : cE) (so : Nat → Nat) (Rd : cR) : (rrF O po s p E' so Rd).2 = (rrF O po s p E so Rd).2 := by
  unfold rrF
  by_cases h1 : nxV O Rd = 0
  · rw [if_pos h1, if_pos h1]
    dsimp only
    rw [nrF_rd O (13 + p) (13 + p) E' E (nxR O Rd)]
  · rw [if_neg h1, if_neg h1]
    by_cases h2 : nxV O Rd = nI 1
    · rw [if_pos h2, if_pos h2]
      by_cases h3 : nxN O (nxR O Rd) < s ∧ hoB (va_up so p p) (po (nxN O (nxR O Rd))) = true
      · rw [if_pos h3, if_pos h3]
      · rw [if_neg h3, if_neg h3]
    · rw [if_neg h2, if_neg h2]
theorem rrF_E (O : cO) (po : Nat → Option Nat) (s p : Nat) (E : cE) (so : Nat → Nat) (Rd : cR) : (rrF O po s p E so Rd).1 = if nxV O Rd = 0 then (nrF O (13 + p) E (nxR O Rd)).1 else E := by
  unfold rrF
  by_cases h1 : nxV O Rd = 0
  · rw [if_pos h1, if_pos h1]
  · rw [if_neg h1, if_neg h1]
    by_cases h2 : nxV O Rd = nI 1
    · rw [if_pos h2]
      by_cases h3 : nxN O (nxR O Rd) < s ∧ hoB (va_up so p p) (po (nxN O (nxR O Rd))) = true
      · rw [if_pos h3]
      · rw [if_neg h3]
    · rw [if_neg h2]
theorem rrF_soo (O : cO) (po : Nat → Option Nat) (s p : Nat) (E : cE) (so : Nat → Nat) (Rd : cR) {j : Nat} (hj : ¬ j = p) : (rrF O po s p E so Rd).2.1 j = so j := by
  have e1 : va_up so p p j = so j := va_up_ne _ _ hj
  unfold rrF
  by_cases h1 : nxV O Rd = 0
  · rw [if_pos h1]; exact e1
  · rw [if_neg h1]
    by_cases h2 : nxV O Rd = nI 1
    · rw [if_pos h2]
      by_cases h3 : nxN O (nxR O Rd) < s ∧ hoB (va_up so p p) (po (nxN O (nxR O Rd))) = true
      · rw [if_pos h3]; exact (va_up_ne _ _ hj).trans e1
      · rw [if_neg h3]; exact e1
    · rw [if_neg h2]; exact e1
theorem rrA_o (O : cO) (po : Nat → Option Nat) (s p : Nat) (so ra : Nat → Nat) (Rd : cR) {j : Nat} (hj : ¬ j = p) : rrA O po s p so ra Rd j = ra j := by
  have e1 : va_up ra p (nxR O Rd).1 j = ra j := va_up_ne _ _ hj
  unfold rrA
  by_cases h1 : nxV O Rd = 0
  · rw [if_pos h1]; exact e1
  · rw [if_neg h1]
    by_cases h2 : nxV O Rd = nI 1
    · rw [if_pos h2]
      by_cases h3 : nxN O (nxR O Rd) < s ∧ hoB (va_up so p p) (po (nxN O (nxR O Rd))) = true
      · rw [if_pos h3]; exact (va_up_ne _ _ hj).trans e1
      · rw [if_neg h3]; exact e1
    · rw [if_neg h2]; exact e1
theorem npR_ns {O : cO} {Rd : cR} {seen : Int32} (h : (npR O Rd seen).2 = 0) : bt seen (nxN O Rd) = false := by
  unfold npR at h
  by_cases hb : npOk O Rd seen = true
  · unfold npOk at hb
    rw [Bool.and_eq_true] at hb
    simpa using hb.2
  · rw [if_neg hb] at h
    exact absurd h rfR_5
theorem bt_or_l {x y : Int32} {i : Nat} (h : bt x i = true) : bt (x ||| y) i = true := by rw [b_or, h]; rfl
theorem bt_self {p : Nat} (h : p < 12) (x : Int32) : bt (x ||| bitI p) p = true := by rw [b_or, bt_bit (by omega) (by omega), decide_eq_true rfl, Bool.or_true]
theorem bt_or_f {x : Int32} {p i : Nat} (hp : p < 12) (hi : i < 12) (h : bt (x ||| bitI p) i = false) : bt x i = false ∧ ¬ i = p := by
  rw [b_or, bt_bit (by omega) (by omega), Bool.or_eq_false_iff] at h
  exact ⟨h.1, by simpa using h.2⟩
theorem bt_or_t {x : Int32} {p i : Nat} (hp : p < 12) (hi : i < 12) (h : bt (x ||| bitI p) i = true) (hn : ¬ i = p) : bt x i = true := by
  rw [b_or, bt_bit (by omega) (by omega), decide_eq_false hn, Bool.or_false] at h
  exact h
theorem rsT_in (O : cO) (s : Nat) (E E' : cE) (Y : (Nat → Option Nat) × (Nat → Nat) × Int32 × cR) : (rsT O s (E', Y)).2 = (rsT O s (E, Y)).2 := rrF_in _ _ _ _ _ _ _ _
theorem rsX_in (O : cO) (s : Nat) (E E' : cE) (Y : (Nat → Option Nat) × (Nat → Nat) × Int32 × cR) : (rsX O s (E', Y)).2 = (rsX O s (E, Y)).2 := by
  have hT := rsT_in O s E E' Y
  unfold rsX
  by_cases h : (rsR1 O (E, Y)).2 = 0
  · rw [if_pos h, if_pos (show (rsR1 O (E', Y)).2 = 0 from h)]
    dsimp only
    unfold rsR3
    rw [hT]
    rfl
  · rw [if_neg h, if_neg (show ¬ (rsR1 O (E', Y)).2 = 0 from h)]
    rfl
theorem rsV_in (nd : Nat → Int32) (rf : Int32) (O : cO) (s : Nat) (E E' : cE) (Y : (Nat → Option Nat) × (Nat → Nat) × Int32 × cR) : rsV nd rf O s (E', Y) = rsV nd rf O s (E, Y) := by
  have hT := rsT_in O s E E' Y
  unfold rsV rsR3 rsSum
  rw [hT]
  rfl
theorem rsV_z {nd : Nat → Int32} {rf : Int32} {O : cO} {s : Nat} {X : cX} (h : rsV nd rf O s X = 0) : (rsR1 O X).2 = 0 ∧ (rsR3 O s X).2 = 0 ∧ bt rf ((rsT O s X).2.1 (rsP O s X)) = false := by
  have h1 := rsV_0 h
  unfold rsV at h
  rw [if_pos h1] at h
  by_cases h3 : (rsR3 O s X).2 = 0
  · rw [if_pos h3] at h
    by_cases h4 : rsSum O s X = n4V O (rsT O s X).2.2
    · rw [if_pos h4] at h
      cases hb : bt rf ((rsT O s X).2.1 (rsP O s X)) with
      | true => rw [hb, if_pos rfl] at h; exact absurd h (by decide)
      | false => exact ⟨h1, h3, rfl⟩
    · rw [if_neg h4] at h; exact absurd h (by decide)
  · rw [if_neg h3] at h; exact absurd h h3
/-- the rows of a section that is loaded -/
theorem sec_k {nd : Nat → Int32} {rf : Int32} {O : cO} {s : Nat} {E : cE} {po : Nat → Option Nat} {so : Nat → Nat} {seen : Int32} {Rd : cR} {ra : Nat → Nat} (hpo : ∀ j q, po j = some q → q < 12) (hs : ∀ j q, j < s → po j = some q → bt seen q = true) (hK : ∀ p, p < 12 → bt seen p = true → bt rf p = false → kP O E so seen ra p) (hv : rsV nd rf O s (E, po, so, seen, Rd) = 0) :
    kP O (rsT O s (E, po, so, seen, Rd)).1 (rsT O s (E, po, so, seen, Rd)).2.1 (seen ||| bitI (rsP O s (E, po, so, seen, Rd))) (rrA O (rsPo O s (E, po, so, seen, Rd)) s (rsP O s (E, po, so, seen, Rd)) so ra (rsR1 O (E, po, so, seen, Rd))) (rsP O s (E, po, so, seen, Rd)) := by
  obtain ⟨h1, h3, hb⟩ := rsV_z hv
  have hp : rsP O s (E, po, so, seen, Rd) < 12 := npR_0 h1
  have hns : bt seen (rsP O s (E, po, so, seen, Rd)) = false := npR_ns h1
  have hf : (rsT O s (E, po, so, seen, Rd)).2.2.2 = 0 := by
    by_cases z : (rsT O s (E, po, so, seen, Rd)).2.2.2 = 0
    · exact z
    · unfold rsR3 at h3
      rw [n4R_ft z] at h3
      exact absurd h3 z
  have hE := rrF_E O (rsPo O s (E, po, so, seen, Rd)) s (rsP O s (E, po, so, seen, Rd)) E so (rsR1 O (E, po, so, seen, Rd))
  unfold rsT at hb hf ⊢
  try dsimp only at hb hf hE ⊢
  rw [hE]
  clear hE hv h3
  unfold rsPo
  unfold rsPo at hb hf
  try dsimp only at hb hf ⊢
  generalize hR : rsR1 O (E, po, so, seen, Rd) = R1 at *
  generalize hP : rsP O s (E, po, so, seen, Rd) = p at *
  unfold rrF at hb hf ⊢
  unfold kP rrA
  by_cases k0 : nxV O R1 = 0
  · rw [if_pos k0] at hb hf
    simp only [if_pos k0]
    try dsimp only at hb hf
    rw [va_up_self, va_up_self]
    have hz : (nxR O R1).2 = 0 := by
      by_cases z : (nxR O R1).2 = 0
      · exact z
      · rw [nrF_ft z] at hf; exact absurd hf z
    have hr : ((nxR O R1).1, nI 0) = nxR O R1 := Prod.ext rfl hz.symm
    refine ⟨bt_self hp seen, fun E0 => ?_⟩
    rw [hr]
    exact nrF_alk O (13 + p) 25 E E0 (nxR O R1)
  · rw [if_neg k0] at hb hf
    simp only [if_neg k0]
    by_cases k1 : nxV O R1 = nI 1
    · rw [if_pos k1] at hb hf
      simp only [if_pos k1]
      by_cases k2 : nxN O (nxR O R1) < s ∧ hoB (va_up so p p) (va_up po s (some p) (nxN O (nxR O R1))) = true
      · rw [if_pos k2] at hb
        simp only [if_pos k2]
        rw [va_up_ne _ _ (show nxN O (nxR O R1) ≠ s by omega)] at hb k2 ⊢
        try dsimp only at hb
        cases hq : po (nxN O (nxR O R1)) with
        | none => rw [hq] at k2; exact absurd k2.2 (by simp [hoB])
        | some q =>
          rw [hq] at hb k2
          have hsq := hs _ q k2.1 hq
          have hqp : ¬ q = p := fun e => by rw [e, hns] at hsq; cases hsq
          have hqq : so q = q := by
            have hd : decide (va_up so p p q = q) = true := k2.2
            rw [va_up_ne _ _ hqp] at hd
            simpa using hd
          show bt (seen ||| bitI p) (va_up (va_up so p p) p q p) = true ∧ ∀ E0, alk E (13 + va_up (va_up so p p) p q p) (nrF O 25 E0 (va_up (va_up ra p (nxR O R1).1) p (va_up ra p (nxR O R1).1 q) p, nI 0)).1 25
          rw [va_up_self, va_up_self, va_up_ne _ _ hqp]
          have hb' : bt rf q = false := by
            have h9 : va_up (va_up so p p) p q p = q := va_up_self _ _ _
            rw [show (some q).getD 0 = q from rfl, h9] at hb
            exact hb
          have hk := hK q (hpo _ q hq) hsq hb'
          unfold kP at hk
          rw [hqq] at hk
          exact ⟨bt_or_l hk.1, hk.2⟩
      · rw [if_neg k2] at hf
        exact absurd hf rfR_5
    · rw [if_neg k1] at hf
      exact absurd hf rfR_5
theorem kP_o {O : cO} {E F : cE} {so so' : Nat → Nat} {seen seen' : Int32} {ra ra' : Nat → Nat} {p : Nat} (h : kP O E so seen ra p) (h1 : so' p = so p) (h2 : ra' p = ra p) (h3 : bt seen (so p) = true → bt seen' (so p) = true) (h4 : F.1 (13 + so p) = E.1 (13 + so p) ∧ F.2.1 (13 + so p) = E.2.1 (13 + so p) ∧ F.2.2 (13 + so p) = E.2.2 (13 + so p)) : kP O F so' seen' ra' p := by
  unfold kP at *
  rw [h1, h2]
  exact ⟨h3 h.1, fun E0 => alk_to (h.2 E0) h4 ⟨rfl, rfl, rfl⟩⟩
theorem sec_s {nd : Nat → Int32} {rf : Int32} {O : cO} {s : Nat} {E E' : cE} {po : Nat → Option Nat} {so : Nat → Nat} {seen : Int32} {Rd : cR} {ra : Nat → Nat} (hpo : ∀ j q, po j = some q → q < 12) (h0 : eqE E E') (hs : ∀ j q, j < s → po j = some q → bt seen q = true) (hn : po s = none) (hK : ∀ p, p < 12 → bt seen p = true → bt rf p = false → kP O E so seen ra p) :
    eqE (rsX O s (E, po, so, seen, Rd)).1 (rsE O s (E', po, so, seen, Rd)) ∧
    (∀ j q, j < s + 1 → (rsX O s (E, po, so, seen, Rd)).2.1 j = some q → bt (rsX O s (E, po, so, seen, Rd)).2.2.2.1 q = true) ∧
    (rsV nd rf O s (E, po, so, seen, Rd) = 0 → ∀ p, (rsX O s (E, po, so, seen, Rd)).2.1 s = some p → kP O (rsX O s (E, po, so, seen, Rd)).1 (rsX O s (E, po, so, seen, Rd)).2.2.1 (rsX O s (E, po, so, seen, Rd)).2.2.2.1 (rsA O s (E', po, so, seen, Rd) ra) p) ∧
    (∀ p, p < 12 → bt (rsX O s (E, po, so, seen, Rd)).2.2.2.1 p = true → bt rf p = false → ¬ (rsX O s (E, po, so, seen, Rd)).2.1 s = some p → kP O (rsX O s (E, po, so, seen, Rd)).1 (rsX O s (E, po, so, seen, Rd)).2.2.1 (rsX O s (E, po, so, seen, Rd)).2.2.2.1 (rsA O s (E', po, so, seen, Rd) ra) p) := by
  by_cases h1 : (rsR1 O (E, po, so, seen, Rd)).2 = 0
  · have h1' : (rsR1 O (E', po, so, seen, Rd)).2 = 0 := h1
    have hp : rsP O s (E, po, so, seen, Rd) < 12 := npR_0 h1
    have hns : bt seen (rsP O s (E, po, so, seen, Rd)) = false := npR_ns h1
    have hk := fun hv => sec_k (nd := nd) (Rd := Rd) (ra := ra) hpo hs hK hv
    have eX : rsX O s (E, po, so, seen, Rd) = ((rsT O s (E, po, so, seen, Rd)).1, va_up po s (some (rsP O s (E, po, so, seen, Rd))), (rsT O s (E, po, so, seen, Rd)).2.1, seen ||| bitI (rsP O s (E, po, so, seen, Rd)), rsR3 O s (E, po, so, seen, Rd)) := by
      unfold rsX
      rw [if_pos h1]
      rfl
    have eE : rsE O s (E', po, so, seen, Rd) = rrE O E' (rsR1 O (E, po, so, seen, Rd)) := by
      unfold rsE
      rw [if_pos h1']
      rfl
    have eA : rsA O s (E', po, so, seen, Rd) ra = rrA O (rsPo O s (E, po, so, seen, Rd)) s (rsP O s (E, po, so, seen, Rd)) so ra (rsR1 O (E, po, so, seen, Rd)) := by
      unfold rsA
      rw [if_pos h1']
      rfl
    have eT : (rsT O s (E, po, so, seen, Rd)).1 = if nxV O (rsR1 O (E, po, so, seen, Rd)) = 0 then (nrF O (13 + rsP O s (E, po, so, seen, Rd)) E (nxR O (rsR1 O (E, po, so, seen, Rd)))).1 else E := rrF_E _ _ _ _ _ _ _
    have eTo : ∀ a, ¬ a = 13 + rsP O s (E, po, so, seen, Rd) → (rsT O s (E, po, so, seen, Rd)).1.1 a = E.1 a ∧ (rsT O s (E, po, so, seen, Rd)).1.2.1 a = E.2.1 a ∧ (rsT O s (E, po, so, seen, Rd)).1.2.2 a = E.2.2 a := by
      intro a ha
      rw [eT]
      split
      · exact nrF_ot ha _ _
      · exact ⟨rfl, rfl, rfl⟩
    rw [eX, eE, eA]
    dsimp only
    refine ⟨fun q hq => ?_, fun j q hj hjq => ?_, fun hv p2 hp2 => ?_, fun p2 h2 hse hrf hz => ?_⟩
    · have o1 := eTo q (by omega)
      have o2 : (rrE O E' (rsR1 O (E, po, so, seen, Rd))).1 q = E'.1 q ∧ (rrE O E' (rsR1 O (E, po, so, seen, Rd))).2.1 q = E'.2.1 q ∧ (rrE O E' (rsR1 O (E, po, so, seen, Rd))).2.2 q = E'.2.2 q := by
        unfold rrE
        split
        · exact nrF_ot (by omega) _ _
        · exact ⟨rfl, rfl, rfl⟩
      have hh := h0 q hq
      exact ⟨o2.1.trans (hh.1.trans o1.1.symm), o2.2.1.trans (hh.2.1.trans o1.2.1.symm), o2.2.2.trans (hh.2.2.trans o1.2.2.symm)⟩
    · by_cases e : j = s
      · rw [e, va_up_self] at hjq
        cases hjq
        exact bt_self hp seen
      · rw [va_up_ne _ _ e] at hjq
        exact bt_or_l (hs j q (by omega) hjq)
    · rw [va_up_self] at hp2
      cases hp2
      exact hk hv
    · have e : ¬ p2 = rsP O s (E, po, so, seen, Rd) := fun z => hz (by rw [va_up_self, z])
      have hse' := bt_or_t hp h2 hse e
      have hkk := hK p2 h2 hse' hrf
      have hne : ¬ so p2 = rsP O s (E, po, so, seen, Rd) := fun z => by
        have := hkk.1
        rw [z, hns] at this
        cases this
      exact kP_o hkk (rrF_soo _ _ _ _ _ _ _ e) (rrA_o _ _ _ _ _ _ _ e) bt_or_l (eTo _ (by omega))
  · have h1' : ¬ (rsR1 O (E', po, so, seen, Rd)).2 = 0 := h1
    have eX : rsX O s (E, po, so, seen, Rd) = (E, po, so, seen, rsR1 O (E, po, so, seen, Rd)) := by
      unfold rsX
      rw [if_neg h1]
    have eE : rsE O s (E', po, so, seen, Rd) = E' := by
      unfold rsE
      rw [if_neg h1']
    have eA : rsA O s (E', po, so, seen, Rd) ra = ra := by
      unfold rsA
      rw [if_neg h1']
    rw [eX, eE, eA]
    dsimp only
    refine ⟨h0, fun j q hj hjq => ?_, fun _ p2 hp2 => ?_, fun p2 h2 hse hrf _ => hK p2 h2 hse hrf⟩
    rotate_left
    · rw [hn] at hp2; cases hp2
    by_cases e : j = s
    · rw [e, hn] at hjq; cases hjq
    · exact hs j q (by omega) hjq
