/-! who leads to whom: the two searches find the same -/
def clo (ed : Nat → Nat → Bool) (R : Nat → Bool) : Prop := ∀ p q, p < 12 → q < 12 → R p = true → ed p q = true → R q = true
theorem cnt_strict {f g : Nat → Bool} {q : Nat} : ∀ {n : Nat}, (∀ i, i < n → f i = true → g i = true) → q < n → f q = false → g q = true → cnt f n + 1 ≤ cnt g n
  | n + 1, h, hq, h1, h2 => by
    by_cases e : q = n
    · subst e
      have := cnt_mono (f := f) (g := g) (n := q) (fun i hi => h i (by omega))
      unfold cnt
      rw [h1, h2, if_neg (by decide), if_pos rfl]
      omega
    · have := cnt_strict (f := f) (g := g) (n := n) (fun i hi => h i (by omega)) (by omega) h1 h2
      unfold cnt
      by_cases hf : f n = true
      · rw [if_pos hf, if_pos (h n (by omega) hf)]; omega
      · rw [if_neg hf]; omega
theorem cnt_all {f : Nat → Bool} {n : Nat} (h : n ≤ cnt f n) : ∀ i, i < n → f i = true := fun i hi => by
  cases hf : f i with
  | true => rfl
  | false =>
    have h1 := cnt_strict (f := f) (g := fun _ => true) (q := i) (n := n) (fun _ _ _ => rfl) hi hf rfl
    have h2 := cnt_le (fun _ => true) n
    omega
/-- a search that goes on by rounds is closed behind eleven of them -/
theorem clo_n {ed : Nat → Nat → Bool} {R : Nat → Nat → Bool} {y : Nat} (hy : y < 12) (h0 : R 0 y = true) (h1 : ∀ k i, i < 12 → R k i = true → R (k + 1) i = true) (h2 : ∀ k p q, p < 12 → q < 12 → R k p = true → ed p q = true → R (k + 1) q = true) (h3 : ∀ k (C : Nat → Bool), clo ed C → (∀ i, i < 12 → R k i = true → C i = true) → ∀ i, i < 12 → R (k + 1) i = true → C i = true) : ∀ k, clo ed (R k) ∨ k + 1 ≤ cnt (R k) 12
  | 0 => Or.inr (cnt_pos h0 hy)
  | k + 1 => by
    by_cases hc : clo ed (R k)
    · left
      have hs : ∀ i, i < 12 → R (k + 1) i = true → R k i = true := h3 k (R k) hc (fun i _ h => h)
      intro p q hp hq hr he
      exact h1 k q hq (hc p q hp hq (hs p hp hr) he)
    · right
      have hn : ∃ p q, p < 12 ∧ q < 12 ∧ R k p = true ∧ ed p q = true ∧ R k q = false := by
        apply Classical.byContradiction
        intro z
        apply hc
        intro p q hp hq hr he
        cases hf : R k q with
        | true => rfl
        | false => exact absurd ⟨p, q, hp, hq, hr, he, hf⟩ z
      obtain ⟨p, q, hp, hq, hr, he, hf⟩ := hn
      have hc2 : k + 1 ≤ cnt (R k) 12 := (clo_n hy h0 h1 h2 h3 k).resolve_left hc
      have := cnt_strict (f := R k) (g := R (k + 1)) (n := 12) (h1 k) hq hf (h2 k p q hp hq hr he)
      omega
theorem clo_end {ed : Nat → Nat → Bool} {R : Nat → Nat → Bool} {y n : Nat} (hy : y < 12) (h0 : R 0 y = true) (h1 : ∀ k i, i < 12 → R k i = true → R (k + 1) i = true) (h2 : ∀ k p q, p < 12 → q < 12 → R k p = true → ed p q = true → R (k + 1) q = true) (h3 : ∀ k (C : Nat → Bool), clo ed C → (∀ i, i < 12 → R k i = true → C i = true) → ∀ i, i < 12 → R (k + 1) i = true → C i = true) (hn : 11 ≤ n) : clo ed (R n) := by
  rcases clo_n hy h0 h1 h2 h3 n with h | h
  · exact h
  · have hall := cnt_all (f := R n) (n := 12) (by omega)
    exact fun p q _ hq _ _ => hall q hq
theorem R_y {R : Nat → Nat → Bool} {y : Nat} (hy : y < 12) (h0 : R 0 y = true) (h1 : ∀ k i, i < 12 → R k i = true → R (k + 1) i = true) : ∀ n, R n y = true
  | 0 => h0
  | n + 1 => h1 n y hy (R_y hy h0 h1 n)
theorem R_sub {ed : Nat → Nat → Bool} {R : Nat → Nat → Bool} {y : Nat} (h0 : ∀ i, i < 12 → R 0 i = true → i = y) (h3 : ∀ k (C : Nat → Bool), clo ed C → (∀ i, i < 12 → R k i = true → C i = true) → ∀ i, i < 12 → R (k + 1) i = true → C i = true) {C : Nat → Bool} (hC : clo ed C) (hCy : C y = true) : ∀ n i, i < 12 → R n i = true → C i = true
  | 0, i, hi, h => by rw [h0 i hi h]; exact hCy
  | n + 1, i, hi, h => h3 n C hC (fun i hi h => R_sub h0 h3 hC hCy n i hi h) i hi h
/-! the component's rounds -/
theorem ldS_sup {nd : Nat → Int32} {r : Int32} {q i : Nat} (h : bt r i = true) : bt (ldS nd r q) i = true := by
  unfold ldS
  split
  · rw [b_or, h]; rfl
  · exact h
theorem ldP_sup {nd : Nat → Int32} {r : Int32} {i : Nat} (h : bt r i = true) : ∀ n, bt (ldP nd r n) i = true
  | 0 => h
  | n + 1 => ldS_sup (ldP_sup h n)
theorem ldP_ed {nd : Nat → Int32} {r : Int32} {p q : Nat} (h : bt r p = true) (he : bt (nd p) q = true) : ∀ n, p < n → bt (ldP nd r n) q = true
  | n + 1, hn => by
    by_cases e : p = n
    · subst e
      show bt (ldS nd (ldP nd r p) p) q = true
      unfold ldS
      rw [if_pos (ldP_sup h p), b_or, he, Bool.or_true]
    · exact ldS_sup (ldP_ed h he n (by omega))
theorem ldP_in {nd : Nat → Int32} {r : Int32} {C : Nat → Bool} (hC : clo (fun p q => bt (nd p) q) C) (h : ∀ i, i < 12 → bt r i = true → C i = true) : ∀ n, n ≤ 12 → ∀ i, i < 12 → bt (ldP nd r n) i = true → C i = true
  | 0, _, i, hi, hb => h i hi hb
  | n + 1, hn, i, hi, hb => by
    have ih := ldP_in hC h n (by omega)
    have hb' : bt (ldS nd (ldP nd r n) n) i = true := hb
    unfold ldS at hb'
    split at hb'
    · rename_i hp
      rw [b_or, Bool.or_eq_true] at hb'
      rcases hb' with g | g
      · exact ih i hi g
      · exact hC n i (by omega) hi (ih n (by omega) hp) g
    · exact ih i hi hb'
/-! the reference's rounds -/
theorem mqR_sup {nd R : Nat → Bool} {p n i : Nat} (h : R i = true) : mqR nd R p n i = true := by
  unfold mqR
  split
  · rw [h]; rfl
  · exact h
theorem mpR_sup {nd R : Nat → Bool} {i : Nat} (h : R i = true) : ∀ n, mpR nd R n i = true
  | 0 => h
  | n + 1 => mqR_sup (mpR_sup h n)
theorem mpR_ed {nd R : Nat → Bool} {p q : Nat} (hq : q < 12) (h : R p = true) (he : nd (12 * p + q) = true) : ∀ n, p < n → mpR nd R n q = true
  | n + 1, hn => by
    by_cases e : p = n
    · subst e
      show mqR nd (mpR nd R p) p 12 q = true
      unfold mqR
      rw [if_pos hq, mpR_sup h p, he, Bool.true_and, Bool.or_true]
    · exact mqR_sup (mpR_ed hq h he n (by omega))
theorem mpR_in {nd R : Nat → Bool} {C : Nat → Bool} (hC : clo (fun p q => nd (12 * p + q)) C) (h : ∀ i, i < 12 → R i = true → C i = true) : ∀ n, n ≤ 12 → ∀ i, i < 12 → mpR nd R n i = true → C i = true
  | 0, _, i, hi, hb => h i hi hb
  | n + 1, hn, i, hi, hb => by
    have ih := mpR_in hC h n (by omega)
    have hb' : mqR nd (mpR nd R n) n 12 i = true := hb
    unfold mqR at hb'
    rw [if_pos hi, Bool.or_eq_true, Bool.and_eq_true] at hb'
    rcases hb' with g | g
    · exact ih i hi g
    · exact hC n i (by omega) hi (ih n (by omega) g.1) g.2
/-- what is reached from y -/
def rcB (nd : Nat → Int32) (y : Nat) : Nat → Bool := bt (ldR nd (bitI y) 11)
theorem rc_clo {nd : Nat → Int32} {y : Nat} (hy : y < 12) : clo (fun p q => bt (nd p) q) (rcB nd y) ∧ rcB nd y y = true ∧ ∀ C, clo (fun p q => bt (nd p) q) C → C y = true → ∀ i, i < 12 → rcB nd y i = true → C i = true := by
  have h0 : bt (ldR nd (bitI y) 0) y = true := by
    show bt (bitI y) y = true
    rw [bt_bit (by omega) (by omega), decide_eq_true rfl]
  have h00 : ∀ i, i < 12 → bt (ldR nd (bitI y) 0) i = true → i = y := fun i hi h => by
    have : bt (bitI y) i = true := h
    rw [bt_bit (by omega) (by omega), decide_eq_true_eq] at this
    exact this
  have h1 : ∀ k i, i < 12 → bt (ldR nd (bitI y) k) i = true → bt (ldR nd (bitI y) (k + 1)) i = true := fun k i _ h => ldP_sup h 12
  have h2 : ∀ k p q, p < 12 → q < 12 → bt (ldR nd (bitI y) k) p = true → bt (nd p) q = true → bt (ldR nd (bitI y) (k + 1)) q = true := fun k p q hp hq h he => ldP_ed h he 12 hp
  have h3 : ∀ k (C : Nat → Bool), clo (fun p q => bt (nd p) q) C → (∀ i, i < 12 → bt (ldR nd (bitI y) k) i = true → C i = true) → ∀ i, i < 12 → bt (ldR nd (bitI y) (k + 1)) i = true → C i = true := fun k C hC h i hi hb => ldP_in hC h 12 (Nat.le_refl _) i hi hb
  exact ⟨clo_end (R := fun k => bt (ldR nd (bitI y) k)) hy h0 h1 h2 h3 (Nat.le_refl 11), R_y (R := fun k => bt (ldR nd (bitI y) k)) hy h0 h1 11, fun C hC hCy i hi h => R_sub (R := fun k => bt (ldR nd (bitI y) k)) h00 h3 hC hCy 11 i hi h⟩
theorem mr_clo {nd R0 : Nat → Bool} {y : Nat} (hy : y < 12) : clo (fun p q => nd (12 * p + q)) (mrR nd (m0R R0 y 12) 12) ∧ mrR nd (m0R R0 y 12) 12 y = true ∧ ∀ C, clo (fun p q => nd (12 * p + q)) C → C y = true → ∀ i, i < 12 → mrR nd (m0R R0 y 12) 12 i = true → C i = true := by
  have h0 : mrR nd (m0R R0 y 12) 0 y = true := by
    show m0R R0 y 12 y = true
    unfold m0R
    rw [if_pos hy, decide_eq_true rfl]
  have h00 : ∀ i, i < 12 → mrR nd (m0R R0 y 12) 0 i = true → i = y := fun i hi h => by
    have : m0R R0 y 12 i = true := h
    unfold m0R at this
    rw [if_pos hi, decide_eq_true_eq] at this
    exact this
  have h1 : ∀ k i, i < 12 → mrR nd (m0R R0 y 12) k i = true → mrR nd (m0R R0 y 12) (k + 1) i = true := fun k i _ h => mpR_sup h 12
  have h2 : ∀ k p q, p < 12 → q < 12 → mrR nd (m0R R0 y 12) k p = true → nd (12 * p + q) = true → mrR nd (m0R R0 y 12) (k + 1) q = true := fun k p q hp hq h he => mpR_ed hq h he 12 hp
  have h3 : ∀ k (C : Nat → Bool), clo (fun p q => nd (12 * p + q)) C → (∀ i, i < 12 → mrR nd (m0R R0 y 12) k i = true → C i = true) → ∀ i, i < 12 → mrR nd (m0R R0 y 12) (k + 1) i = true → C i = true := fun k C hC h i hi hb => mpR_in hC h 12 (Nat.le_refl _) i hi hb
  exact ⟨clo_end (R := fun k => mrR nd (m0R R0 y 12) k) hy h0 h1 h2 h3 (by omega), R_y (R := fun k => mrR nd (m0R R0 y 12) k) hy h0 h1 12, fun C hC hCy i hi h => R_sub (R := fun k => mrR nd (m0R R0 y 12) k) h00 h3 hC hCy 12 i hi h⟩
theorem rc_mr {nd : Nat → Int32} {M : mT} (hN : lrN nd M) {x y : Nat} (hx : x < 12) (hy : y < 12) : mReach M y x = rcB nd y x := by
  obtain ⟨a1, a2, a3⟩ := rc_clo (nd := nd) hy
  obtain ⟨b1, b2, b3⟩ := mr_clo (nd := fun i => mz M 3 i) (R0 := fun i => mz M 25 i) hy
  have c1 : clo (fun p q => mz M 3 (12 * p + q)) (rcB nd y) := fun p q hp hq h he => a1 p q hp hq h ((hN p q hp hq).symm.trans he)
  have c2 : clo (fun p q => bt (nd p) q) (mReach M y) := fun p q hp hq h he => b1 p q hp hq h ((hN p q hp hq).trans he)
  rw [Bool.eq_iff_iff]
  exact ⟨fun h => b3 _ c1 a2 x hx h, fun h => a3 _ c2 b2 x hx h⟩
/-- no way back along what is needed -/
theorem ac_back {nd : Nat → Int32} (hA : AC nd) {x y : Nat} (hx : x < 12) (hy : y < 12) (he : bt (nd x) y = true) : rcB nd y x = false := by
  obtain ⟨rk, hrk⟩ := hA
  cases h : rcB nd y x with
  | false => rfl
  | true =>
    have hC : clo (fun p q => bt (nd p) q) (fun i => decide (rk i ≤ rk y)) := fun p q hp hq h1 h2 => by
      have h1' : rk p ≤ rk y := of_decide_eq_true h1
      have := hrk p q hp hq h2
      exact decide_eq_true (by omega)
    have := of_decide_eq_true ((rc_clo hy).2.2 _ hC (decide_eq_true (Nat.le_refl _)) x hx h)
    have h2 := hrk x y hx hy he
    omega
theorem ac_add {nd : Nat → Int32} (hA : AC nd) {x y : Nat} (hx : x < 12) (hy : y < 12) (hr : rcB nd y x = false) {v : Int32} (hv : ∀ q, q < 12 → bt v q = true → bt (nd x) q = true ∨ q = y) : AC (va_up nd x v) := by
  obtain ⟨rk, hrk⟩ := hA
  obtain ⟨a1, a2, a3⟩ := rc_clo (nd := nd) hy
  refine ⟨fun p => if rcB nd y p = true then rk p else rk p + (rk y + 1), fun p q hp hq he => ?_⟩
  dsimp only
  by_cases e : p = x
  · subst e
    rw [va_up_self] at he
    rw [if_neg (show ¬ rcB nd y p = true by rw [hr]; decide)]
    rcases hv q hq he with g | g
    · have := hrk p q hp hq g
      split <;> omega
    · subst g
      rw [if_pos a2]
      omega
  · rw [va_up_ne _ _ e] at he
    have := hrk p q hp hq he
    by_cases hR : rcB nd y p = true
    · rw [if_pos hR, if_pos (a1 p q hp hq hR he)]
      exact this
    · rw [if_neg hR]
      split <;> omega
theorem ac_sub {nd : Nat → Int32} (hA : AC nd) {x : Nat} {v : Int32} (hv : ∀ q, q < 12 → bt v q = true → bt (nd x) q = true) : AC (va_up nd x v) := by
  obtain ⟨rk, hrk⟩ := hA
  refine ⟨rk, fun p q hp hq he => ?_⟩
  by_cases e : p = x
  · subst e
    rw [va_up_self] at he
    exact hrk p q hp hq (hv q hq he)
  · rw [va_up_ne _ _ e] at he
    exact hrk p q hp hq he
