/-! saving, the two ways: written beside and copied; written in place -/
def Qw (B : Nat → Int32) (c : Nat) (Oo On : cO) : Prop := On.2.1 0 = c ∧ (c ≤ 8000 → Oo.2.1 1 = c) ∧ (8000 < c → Oo.2.1 1 = 8000) ∧ Oo.2.2 1 = decide (8000 < c) ∧ (c ≤ 8000 → ∀ i, i < c → On.1 0 i = Oo.1 1 i) ∧ (∀ i, c ≤ i → On.1 0 i = B i) ∧ Oo.1 0 = B
theorem Qw_1 {B : Nat → Int32} {c : Nat} {Oo On : cO} {x y : Int32} (h : Qw B c Oo On) (hx : c ≤ 8000 → x = y) : Qw B (c + 1) (oApp Oo 1 x) (oApR On 0 y) := by
  obtain ⟨h1, h2, h3, h4, h5, h6, h7⟩ := h
  have l1 : (oApR On 0 y).2.1 0 = c + 1 := by rw [oApR_len, h1]
  by_cases hc : c < 8000
  · have e1 : oApp Oo 1 x = (va_up Oo.1 1 (va_up (Oo.1 1) c (xb x)), va_up Oo.2.1 1 (c + 1), Oo.2.2) := by
      unfold oApp
      rw [h2 (by omega), if_pos hc]
    have e2 : (oApR On 0 y).1 = va_up On.1 0 (va_up (On.1 0) c (xb y)) := by
      unfold oApR
      dsimp only
      rw [h1, if_pos (show c < rm 0 from hc)]
    refine ⟨l1, fun _ => ?_, fun z => by omega, ?_, fun _ i hi => ?_, fun i hi => ?_, ?_⟩
    · rw [e1]
      show va_up Oo.2.1 1 (c + 1) 1 = c + 1
      exact va_up_self _ _ _
    · rw [e1]
      show Oo.2.2 1 = _
      rw [h4, decide_eq_false (by omega), decide_eq_false (by omega)]
    · rw [e1, e2]
      dsimp only
      rw [va_up_self, va_up_self]
      by_cases e : i = c
      · rw [e, va_up_self, va_up_self, hx (by omega)]
      · rw [va_up_ne _ _ e, va_up_ne _ _ e]
        exact h5 (by omega) i (by omega)
    · rw [e2, va_up_self, va_up_ne _ _ (show i ≠ c by omega)]
      exact h6 i (by omega)
    · rw [e1]
      show va_up Oo.1 1 (va_up (Oo.1 1) c (xb x)) 0 = B
      rw [va_up_ne _ _ (show (0 : Nat) ≠ 1 by decide)]
      exact h7
  · have hl : Oo.2.1 1 = 8000 := by
      by_cases z : 8000 < c
      · exact h3 z
      · rw [h2 (by omega)]; omega
    have e1 : oApp Oo 1 x = (Oo.1, Oo.2.1, va_up Oo.2.2 1 true) := by
      unfold oApp
      rw [hl, if_neg (by omega)]
    have e2 : (oApR On 0 y).1 = On.1 := by
      unfold oApR
      dsimp only
      rw [h1, if_neg (show ¬ c < rm 0 from hc)]
    refine ⟨l1, fun z => by omega, fun _ => ?_, ?_, fun z => by omega, fun i hi => ?_, ?_⟩
    · rw [e1]; exact hl
    · rw [e1, decide_eq_true (show 8000 < c + 1 by omega)]
      show va_up Oo.2.2 1 true 1 = true
      exact va_up_self _ _ _
    · rw [e2]; exact h6 i (by omega)
    · rw [e1]; exact h7
theorem Qw_s {B : Nat → Int32} : ∀ (xs ys : List Int32) (c : Nat) (Oo On : cO), Qw B c Oo On → xs.length = ys.length → (c ≤ 8000 → xs = ys) → Qw B (c + xs.length) (oApps Oo 1 xs) (oApsR On 0 ys)
  | [], [], _, _, _, h, _, _ => h
  | [], _ :: _, _, _, _, _, hl, _ => by simp at hl
  | _ :: _, [], _, _, _, _, hl, _ => by simp at hl
  | x :: xs, y :: ys, c, Oo, On, h, hl, he => by
    rw [oApps_c, oApsR_c, List.length_cons, show c + (xs.length + 1) = c + 1 + xs.length by omega]
    refine Qw_s xs ys (c + 1) _ _ (Qw_1 h (fun z => ?_)) (by simpa using hl) (fun z => ?_)
    · have := he z
      injection this
    · have := he (by omega)
      injection this
theorem smF_cg {f g : Nat → Int32} {a : Nat} : ∀ {n : Nat}, (∀ k, k < n → f (a + k) = g (a + k)) → smF f a n = smF g a n
  | 0, _ => rfl
  | n + 1, h => by
    unfold smF
    rw [smF_cg (n := n) (fun k hk => h k (by omega)), h n (by omega)]
theorem Qw_sec {B : Nat → Int32} {E : cE} {on : Nat → Nat} {c s : Nat} {Oo On : cO} (h : Qw B c Oo On) : Qw B (c + (secB E on s).length + 4) (wsO E on Oo s) (wsN E on On 0 s) := by
  have h1 : Qw B (c + (secB E on s).length) (wsO1 E on Oo s) (wsN1 E on On 0 s) := Qw_s _ _ _ _ _ h rfl (fun _ => rfl)
  unfold wsO wsN
  have hz := Qw_s (b4 (smF (oAt (wsO1 E on Oo s) 1) (Oo.2.1 1) ((wsO1 E on Oo s).2.1 1 - Oo.2.1 1)) 4) (b4 (smF (oAtR (wsN1 E on On 0 s) 0) (On.2.1 0) ((wsN1 E on On 0 s).2.1 0 - On.2.1 0)) 4) _ _ _ h1 (by rw [b4_len, b4_len]) (fun hc => by
    rw [h.2.1 (by omega), h1.2.1 hc, h.1, h1.1]
    rw [smF_cg (f := oAt (wsO1 E on Oo s) 1) (g := oAtR (wsN1 E on On 0 s) 0) (fun k hk => by
      unfold oAt oAtR
      rw [h1.2.1 hc, h1.1, if_pos (show c + k < c + (secB E on s).length by omega), if_pos (show c + k < c + (secB E on s).length ∧ c + k < rm 0 by rw [rm_0]; omega), h1.2.2.2.2.1 hc (c + k) (by omega)])])
  rw [b4_len] at hz
  exact hz
theorem Qw_wf {B : Nat → Int32} {E : cE} {nd : Nat → Int32} : ∀ (n s : Nat) (Oo On : cO) (on : Nat → Nat) (w : Int32) (c : Nat), Qw B c Oo On → ∃ c', Qw B c' (wfL E nd n s Oo on w).1 (wfLN E nd 0 n s On on w).1
  | 0, _, _, _, _, _, c, h => ⟨c, h⟩
  | n + 1, s, Oo, On, on, w, c, h => by
    unfold wfL wfLN
    by_cases hw : w = 0
    · rw [if_pos hw, if_pos hw]; exact ⟨c, h⟩
    · rw [if_neg hw, if_neg hw]
      cases hf : fstB (fwOk nd w) 12 with
      | none => exact ⟨c, h⟩
      | some p => exact Qw_wf n (s + 1) _ _ _ _ _ (Qw_sec h)
/-! what the measuring leaves -/
theorem oApR_m (O : cO) (b : Nat) (x : Int32) {j : Nat} (hj : ¬ j = b) : (oApR O b x).1 j = O.1 j ∧ (oApR O b x).2.1 j = O.2.1 j := by
  unfold oApR
  dsimp only
  refine ⟨?_, va_up_ne _ _ hj⟩
  split
  · exact va_up_ne _ _ hj
  · rfl
theorem oApsR_m (b : Nat) {j : Nat} (hj : ¬ j = b) : ∀ (xs : List Int32) (O : cO), (oApsR O b xs).1 j = O.1 j ∧ (oApsR O b xs).2.1 j = O.2.1 j
  | [], _ => ⟨rfl, rfl⟩
  | x :: xs, O => by
    have h1 := oApR_m O b x hj
    have h2 := oApsR_m b hj xs (oApR O b x)
    exact ⟨h2.1.trans h1.1, h2.2.trans h1.2⟩
theorem wfLN_m {E : cE} {nd : Nat → Int32} (b : Nat) {j : Nat} (hj : ¬ j = b) : ∀ (n s : Nat) (O : cO) (on : Nat → Nat) (w : Int32), (wfLN E nd b n s O on w).1.1 j = O.1 j ∧ (wfLN E nd b n s O on w).1.2.1 j = O.2.1 j
  | 0, _, _, _, _ => ⟨rfl, rfl⟩
  | n + 1, s, O, on, w => by
    unfold wfLN
    split
    · exact ⟨rfl, rfl⟩
    · split
      · exact ⟨rfl, rfl⟩
      · rename_i p _
        have h1 := oApsR_m b hj (secB E (va_up on s p) s) O
        have h2 := oApsR_m b hj (b4 (smF (oAtR (wsN1 E (va_up on s p) O b s) b) (O.2.1 b) ((wsN1 E (va_up on s p) O b s).2.1 b - O.2.1 b)) 4) (wsN1 E (va_up on s p) O b s)
        have h3 := wfLN_m (E := E) (nd := nd) b hj n (s + 1) (wsN E (va_up on s p) O b s) (va_up on s p) (w &&& (bitI p ^^^ (-1)))
        exact ⟨h3.1.trans (h2.1.trans h1.1), h3.2.trans (h2.2.trans h1.2)⟩
theorem wfN_m (E : cE) (S : cS) (O : cO) (on : Nat → Nat) (b : Nat) (d : Bool) {j : Nat} (hj : ¬ j = b) : (wfN E S O on b d).1.1 j = O.1 j ∧ (wfN E S O on b d).1.2.1 j = O.2.1 j := by
  have h1 := wfLN_m (E := E) (nd := S.1) b hj 12 0 (wfN0 S O b d (wfW E S d)) on (wfW E S d)
  have h2 := oApR_m (oApsR (O.1, va_up O.2.1 b 0, O.2.2) b (headB S d)) b (bcI (wfW E S d)) hj
  have h3 := oApsR_m b hj (headB S d) (O.1, va_up O.2.1 b 0, O.2.2)
  have h4 : va_up O.2.1 b 0 j = O.2.1 j := va_up_ne _ _ hj
  exact ⟨h1.1.trans (h2.1.trans h3.1), h1.2.trans (h2.2.trans (h3.2.trans h4))⟩
theorem oFit_apR {O : cO} (h : oFit O) (b : Nat) (x : Int32) : oFit (oApR O b x) := by
  intro a j
  unfold oApR
  dsimp only
  split
  · by_cases e : a = b
    · subst e
      rw [va_up_self]
      by_cases e2 : j = O.2.1 a
      · rw [e2, va_up_self]; exact pk_fb x
      · rw [va_up_ne _ _ e2]; exact h a j
    · rw [va_up_ne _ _ e]; exact h a j
  · exact h a j
theorem oFit_apsR : ∀ (xs : List Int32) {O : cO} (b : Nat), oFit O → oFit (oApsR O b xs)
  | [], _, _, h => h
  | x :: xs, _, b, h => oFit_apsR xs b (oFit_apR h b x)
theorem oFit_wfLN {E : cE} {nd : Nat → Int32} {b : Nat} : ∀ (n s : Nat) (O : cO) (on : Nat → Nat) (w : Int32), oFit O → oFit (wfLN E nd b n s O on w).1
  | 0, _, _, _, _, h => h
  | n + 1, s, O, on, w, h => by
    unfold wfLN
    split
    · exact h
    · split
      · exact h
      · exact oFit_wfLN n _ _ _ _ (oFit_apsR _ _ (oFit_apsR _ _ h))
theorem oFit_wfN {E : cE} {S : cS} {O : cO} {on : Nat → Nat} {b : Nat} {d : Bool} (h : oFit O) : oFit (wfN E S O on b d).1 := by
  have h0 : oFit (O.1, va_up O.2.1 b 0, O.2.2) := fun b j => h b j
  exact oFit_wfLN 12 0 _ on (wfW E S d) (oFit_apR (oFit_apsR (headB S d) b h0) b (bcI (wfW E S d)))
/-- the two files -/
theorem ns_s (E : cE) (S : cS) (O : cO) (on : Nat → Nat) (d : Bool) : fsOv E S O (nsN1 E S O on d) d = decide (8000 < nsL E S O on d) ∧ (nsL E S O on d ≤ 8000 → (nsO2 E S O on d).1 0 = (fsO2 (fsO E S O (nsN1 E S O on d) d)).1 0 ∧ (nsO2 E S O on d).2.1 0 = (fsO2 (fsO E S O (nsN1 E S O on d) d)).2.1 0) := by
  have m1 : (nsO1 E S O on d).1 0 = O.1 0 := (wfN_m E S O on 2 d (j := 0) (by decide)).1
  have q0 : Qw (O.1 0) 0 (O.1, va_up O.2.1 1 0, va_up O.2.2 1 false) ((nsO1 E S O on d).1, va_up (nsO1 E S O on d).2.1 0 0, (nsO1 E S O on d).2.2) := by
    refine ⟨(va_up_self (nsO1 E S O on d).2.1 0 0 : va_up (nsO1 E S O on d).2.1 0 0 0 = 0), fun _ => (va_up_self O.2.1 1 0 : va_up O.2.1 1 0 1 = 0), fun z => by omega, (va_up_self O.2.2 1 false : va_up O.2.2 1 false 1 = false), fun _ i hi => absurd hi (Nat.not_lt_zero i), fun i _ => ?_, rfl⟩
    show (nsO1 E S O on d).1 0 i = _
    rw [m1]
  have q1 := Qw_1 (x := bcI (wfW E S d)) (y := bcI (wfW E S d)) (Qw_s (headB S d) (headB S d) _ _ _ q0 rfl (fun _ => rfl)) (fun _ => rfl)
  obtain ⟨c, q2⟩ := Qw_wf (E := E) (nd := S.1) 12 0 _ _ (nsN1 E S O on d) (wfW E S d) _ q1
  have q3 : Qw (O.1 0) c (fsO E S O (nsN1 E S O on d) d) (nsO2 E S O on d) := q2
  clear q2 q1 q0
  have hl := nsO2_len E S O on d
  obtain ⟨h1, h2, h3, h4, h5, h6, h7⟩ := q3
  have hc : c = nsL E S O on d := h1.symm.trans hl
  subst hc
  refine ⟨h4, fun hz => ⟨?_, ?_⟩⟩
  · funext i
    show _ = va_up (fsO E S O (nsN1 E S O on d) d).1 0 (va_cpy ((fsO E S O (nsN1 E S O on d) d).1 1) ((fsO E S O (nsN1 E S O on d) d).1 0) 0 0 ((fsO E S O (nsN1 E S O on d) d).2.1 1)) 0 i
    rw [va_up_self]
    unfold va_cpy
    rw [h2 hz, h7]
    by_cases hi : i < nsL E S O on d
    · rw [if_pos (by omega), h5 hz i hi, show 0 + (i - 0) = i by omega]
    · rw [if_neg (by omega), h6 i (by omega)]
  · show _ = va_up (fsO E S O (nsN1 E S O on d) d).2.1 0 ((fsO E S O (nsN1 E S O on d) d).2.1 1) 0
    rw [va_up_self, h2 hz, h1]
theorem ns_s0 (E : cE) (S : cS) (O : cO) (on : Nat → Nat) (d : Bool) : (fsO E S O on d).1 0 = O.1 0 := by
  have q0 : Qw (O.1 0) 0 (O.1, va_up O.2.1 1 0, va_up O.2.2 1 false) (O.1, va_up O.2.1 0 0, O.2.2) := by
    refine ⟨(va_up_self O.2.1 0 0 : va_up O.2.1 0 0 0 = 0), fun _ => (va_up_self O.2.1 1 0 : va_up O.2.1 1 0 1 = 0), fun z => by omega, (va_up_self O.2.2 1 false : va_up O.2.2 1 false 1 = false), fun _ i hi => absurd hi (Nat.not_lt_zero i), fun i _ => rfl, rfl⟩
  have q1 := Qw_1 (x := bcI (wfW E S d)) (y := bcI (wfW E S d)) (Qw_s (headB S d) (headB S d) _ _ _ q0 rfl (fun _ => rfl)) (fun _ => rfl)
  obtain ⟨c, q2⟩ := Qw_wf (E := E) (nd := S.1) 12 0 _ _ on (wfW E S d) _ q1
  exact q2.2.2.2.2.2.2
