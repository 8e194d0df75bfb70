/-! saving: the reference beside the writer -/
def AC (nd : Nat → Int32) : Prop := ∃ rk : Nat → Nat, ∀ p q, p < 12 → q < 12 → bt (nd p) q = true → rk q < rk p
theorem mFr_iff {wt nd : Nat → Bool} {p : Nat} : ∀ n, mFr wt nd p n = true ↔ wt p = true ∧ ∀ q, q < n → q ≠ p → wt q = true → nd (12 * p + q) = false
  | 0 => ⟨fun h => ⟨h, fun q hq => absurd hq (Nat.not_lt_zero q)⟩, fun h => h.1⟩
  | n + 1 => by
    rw [mFr, Bool.and_eq_true, mFr_iff n]
    constructor
    · rintro ⟨⟨h1, h2⟩, h3⟩
      refine ⟨h1, fun q hq hp hw => ?_⟩
      by_cases e : q = n
      · subst e
        rw [decide_eq_true hp, hw] at h3
        cases hn : nd (12 * p + q) with
        | false => rfl
        | true => rw [hn] at h3; cases h3
      · exact h2 q (by omega) hp hw
    · rintro ⟨h1, h2⟩
      refine ⟨⟨h1, fun q hq => h2 q (by omega)⟩, ?_⟩
      by_cases e : n = p
      · rw [decide_eq_false (fun z => z e)]; rfl
      · cases hw : wt n with
        | false => rw [Bool.false_and, Bool.and_false]; rfl
        | true => rw [h2 n (by omega) e hw]; rw [Bool.and_false, Bool.and_false]; rfl
theorem mNp_is {wt nd : Nat → Bool} {p : Nat} (hp : p < 12) (h : mFr wt nd p 12 = true) (hb : ∀ j, j < p → mFr wt nd j 12 = false) : ∀ k, 12 - p ≤ k → k ≤ 12 → mNp wt nd k = nI p
  | 0, h1, _ => by omega
  | k + 1, h1, h2 => by
    unfold mNp
    by_cases e : 11 - k = p
    · rw [e, if_pos h]
    · rw [if_neg (by rw [hb (11 - k) (by omega)]; decide)]
      exact mNp_is hp h hb k (by omega) (by omega)
theorem fstB_min {ok : Nat → Bool} : ∀ {n p : Nat}, fstB ok n = some p → ∀ j, j < p → ok j = false
  | n + 1, p, h, j, hj => by
    unfold fstB at h
    cases hf : fstB ok n with
    | some p' =>
      rw [hf] at h
      cases h
      exact fstB_min hf j hj
    | none =>
      rw [hf] at h
      dsimp only at h
      split at h
      · cases h
        cases hk : ok j with
        | false => rfl
        | true =>
          exfalso
          have key : ∀ m, j < m → fstB ok m ≠ none := by
            intro m
            induction m with
            | zero => intro z; omega
            | succ m ih =>
              intro hm hn
              unfold fstB at hn
              cases hg : fstB ok m with
              | some q => rw [hg] at hn; cases hn
              | none =>
                by_cases e : j = m
                · rw [hg] at hn
                  dsimp only at hn
                  rw [← e, if_pos hk] at hn
                  cases hn
                · exact ih (by omega) hg
          exact key _ hj hf
      · cases h
theorem fstB_none {ok : Nat → Bool} : ∀ {n : Nat}, fstB ok n = none → ∀ j, j < n → ok j = false
  | 0, _, j, hj => absurd hj (Nat.not_lt_zero j)
  | n + 1, h, j, hj => by
    unfold fstB at h
    cases hf : fstB ok n with
    | some p' => rw [hf] at h; cases h
    | none =>
      rw [hf] at h
      dsimp only at h
      split at h
      · cases h
      · rename_i hn
        by_cases e : j = n
        · rw [e]; exact Bool.not_eq_true _ ▸ hn
        · exact fstB_none hf j (by omega)
theorem fw_free {nd : Nat → Int32} {w : Int32} {wt ndB : Nat → Bool} {p : Nat} (hp : p < 12) (hA : AC nd) (hw : ∀ q, q < 12 → wt q = bt w q) (hw2 : ∀ q, 12 ≤ q → bt w q = false) (hn : ∀ p q, p < 12 → q < 12 → ndB (12 * p + q) = bt (nd p) q) : mFr wt ndB p 12 = fwOk nd w p := by
  obtain ⟨rk, hrk⟩ := hA
  rw [Bool.eq_iff_iff, mFr_iff, fwOk, Bool.and_eq_true, decide_eq_true_eq, and_zero, hw p hp]
  constructor
  · rintro ⟨h1, h2⟩
    refine ⟨h1, fun i _ hi => ?_⟩
    rcases Nat.lt_or_ge i 12 with g | g
    · by_cases e : i = p
      · have := hrk p i hp g hi.1
        rw [e] at this
        omega
      · have := h2 i g e (by rw [hw i g]; exact hi.2)
        rw [hn p i hp g, hi.1] at this
        cases this
    · rw [hw2 i g] at hi
      cases hi.2
  · rintro ⟨h1, h2⟩
    refine ⟨h1, fun q hq _ hwq => ?_⟩
    rw [hn p q hp hq]
    cases hb : bt (nd p) q with
    | false => rfl
    | true => exact absurd ⟨hb, by rw [← hw q hq]; exact hwq⟩ (h2 q (by omega))
theorem fw_some {nd : Nat → Int32} {w : Int32} (hA : AC nd) (hw2 : ∀ q, 12 ≤ q → bt w q = false) {p : Nat} (hp : p < 12) (hb : bt w p = true) : ∃ q, q < 12 ∧ fwOk nd w q = true := by
  obtain ⟨rk, hrk⟩ := hA
  have key : ∀ m p, p < 12 → bt w p = true → rk p ≤ m → ∃ q, q < 12 ∧ fwOk nd w q = true := by
    intro m
    induction m with
    | zero =>
      intro p hp hb hm
      refine ⟨p, hp, ?_⟩
      rw [fwOk, hb, Bool.true_and, decide_eq_true_eq, and_zero]
      intro i _ hi
      rcases Nat.lt_or_ge i 12 with g | g
      · have := hrk p i hp g hi.1; omega
      · rw [hw2 i g] at hi; cases hi.2
    | succ m ih =>
      intro p hp hb hm
      by_cases h : nd p &&& w = 0
      · exact ⟨p, hp, by rw [fwOk, hb, decide_eq_true h]; rfl⟩
      · rw [and_zero] at h
        have : ∃ i, bt (nd p) i = true ∧ bt w i = true := Classical.byContradiction (fun z => h (fun i _ hi => z ⟨i, hi⟩))
        obtain ⟨i, h1, h2⟩ := this
        rcases Nat.lt_or_ge i 12 with g | g
        · exact ih i g h2 (by have := hrk p i hp g h1; omega)
        · rw [hw2 i g] at h2; cases h2
  exact key (rk p) p hp hb (Nat.le_refl _)
theorem cnt_z {f : Nat → Bool} {n : Nat} (h : cnt f n = 0) : ∀ i, i < n → f i = false := fun i hi => by
  cases hf : f i with
  | false => rfl
  | true => have := cnt_pos hf hi; omega
theorem cnt_ex {f : Nat → Bool} : ∀ {n : Nat}, 0 < cnt f n → ∃ i, i < n ∧ f i = true
  | 0, h => absurd h (Nat.lt_irrefl 0)
  | n + 1, h => by
    cases hf : f n with
    | true => exact ⟨n, by omega, hf⟩
    | false =>
      unfold cnt at h
      rw [hf, if_neg (by decide)] at h
      obtain ⟨i, h1, h2⟩ := cnt_ex (n := n) (by omega)
      exact ⟨i, by omega, h2⟩
theorem w_clr {w : Int32} {p : Nat} (hp : p < 32) (i : Nat) (hi : i < 32) : bt (w &&& (bitI p ^^^ (-1))) i = va_up (bt w) p false i := by
  rw [b_and, b_xor, bt_bit hp hi, show bt (-1) i = true from (by revert i; decide +kernel : ∀ i, i < 32 → bt (-1) i = true) i hi]
  by_cases e : i = p
  · rw [e, va_up_self, decide_eq_true rfl]
    cases bt w p <;> rfl
  · rw [va_up_ne _ _ e, decide_eq_false e]
    cases bt w i <;> rfl
/-- the least alike, from above -/
def mFi (ok : Nat → Bool) (k : Nat) : Nat → Nat
  | 0 => k
  | t + 1 => if ok (k - (t + 1)) = true then k - (t + 1) else mFi ok k t
theorem mFi_is {ok : Nat → Bool} {k : Nat} : ∀ t, t ≤ k → (mFi ok k t = k ∧ ∀ e, k - t ≤ e → e < k → ok e = false) ∨ (k - t ≤ mFi ok k t ∧ mFi ok k t < k ∧ ok (mFi ok k t) = true ∧ ∀ e, k - t ≤ e → e < mFi ok k t → ok e = false)
  | 0, _ => Or.inl ⟨rfl, fun e h1 h2 => by omega⟩
  | t + 1, h => by
    unfold mFi
    by_cases hk : ok (k - (t + 1)) = true
    · rw [if_pos hk]
      exact Or.inr ⟨Nat.le_refl _, by omega, hk, fun e h1 h2 => by omega⟩
    · rw [if_neg hk]
      rcases mFi_is (ok := ok) (k := k) t (by omega) with ⟨h1, h2⟩ | ⟨h1, h2, h3, h4⟩
      · refine Or.inl ⟨h1, fun e g1 g2 => ?_⟩
        by_cases z : e = k - (t + 1)
        · rw [z]; exact Bool.not_eq_true _ ▸ hk
        · exact h2 e (by omega) g2
      · refine Or.inr ⟨by omega, h2, h3, fun e g1 g2 => ?_⟩
        by_cases z : e = k - (t + 1)
        · rw [z]; exact Bool.not_eq_true _ ▸ hk
        · exact h4 e (by omega) g2
theorem mFi_k {ok : Nat → Bool} {k : Nat} : mFi ok k k = faO (fstB ok k) k := by
  rcases mFi_is (ok := ok) (k := k) k (Nat.le_refl _) with ⟨h1, h2⟩ | ⟨h1, h2, h3, h4⟩
  · rw [h1, fstB_no (fun i hi => h2 i (by omega) hi)]; rfl
  · rw [fstB_yes h3 (fun j hj => h4 j (by omega) hj) h2]; rfl
theorem same_like {M : mT} {E : cE} (hE : eOK E) (hR : RE M E) {a b : Nat} (ha : a < 12) (hb : b < 12) : allB (mSame M a b) 100 = eLike E a b := by
  rw [Bool.eq_iff_iff, eLike_iff hE (by omega) (by omega), allB_iff]
  constructor
  · intro h i hi
    have h1 := h i hi
    unfold mSame at h1
    rw [Bool.and_eq_true, decide_eq_true_eq, (hR a i ha hi).1, (hR b i hb hi).1, (hR a i ha hi).2, (hR b i hb hi).2] at h1
    refine ⟨h1.1, fun z => ?_⟩
    have h2 := h1.2
    rw [z, Bool.not_true, Bool.false_or, decide_eq_true_eq] at h2
    exact h2
  · intro h i hi
    obtain ⟨h1, h2⟩ := h i hi
    unfold mSame
    rw [Bool.and_eq_true, decide_eq_true_eq, (hR a i ha hi).1, (hR b i hb hi).1, (hR a i ha hi).2, (hR b i hb hi).2]
    refine ⟨h1, ?_⟩
    cases z : E.1 a i with
    | false => rfl
    | true =>
      rw [Bool.not_true, Bool.false_or, decide_eq_true_eq]
      exact h2 z
theorem subm1 (k : Nat) : nI k - nI (k + 1) = -1 := by
  rw [← nI_add, show (-1 : Int32) = - nI 1 by decide]
  generalize nI k = a
  generalize nI 1 = b
  grind
theorem subs1 {k t : Nat} (h : t + 1 ≤ k) : nI (k - (t + 1)) + (-1) = nI k - nI (t + 1 + 1) := by
  rw [← pk_sub h, ← nI_add (t + 1) 1, show (-1 : Int32) = - nI 1 by decide]
  generalize nI k = a
  generalize nI (t + 1) = b
  generalize nI 1 = c
  grind
/-- the loop of the saving -/
def SI (M0 M : mT) (E : cE) (S : cS) (O0 O : cO) (on : Nat → Nat) (k : Nat) (w : Int32) (many : Nat) (F : cO × (Nat → Nat)) : Prop :=
  SF M0 M ∧ DR M O ∧ (∀ q, q < 12 → mz M 26 q = bt w q) ∧ (∀ q, 12 ≤ q → bt w q = false) ∧ cnt (bt w) 12 + k = many ∧ (∀ j, j < k → my M 27 j = nI (on j) ∧ on j < 12) ∧ M.2.2.1 13 ≤ 9 + 1210 * k ∧ wfL E S.1 (12 - k) k O on w = F ∧ O.1 0 = O0.1 0 ∧ O.2.1 0 = O0.2.1 0
theorem SI_pick {M0 M : mT} {E : cE} {S : cS} {O0 O : cO} {on : Nat → Nat} {k : Nat} {w : Int32} {many : Nat} {F : cO × (Nat → Nat)} (h : SI M0 M E S O0 O on k w many F) (hk : k < many) (hB : RB M0 E S O0) (hA : AC S.1) : ∃ p, p < 12 ∧ mNp (M.2.2.2.1 26) (M.2.2.2.1 3) 12 = nI p ∧ fstB (fwOk S.1 w) 12 = some p ∧ ¬ w = 0 ∧ bt w p = true := by
  obtain ⟨h1, h2, h3, h4, h5, h6, h7, h8, h9, h10⟩ := h
  obtain ⟨p0, g1, g2⟩ := cnt_ex (f := bt w) (n := 12) (by omega)
  obtain ⟨q0, g3, g4⟩ := fw_some hA h4 g1 g2
  have hBM := h1.RB hB
  have hfr : ∀ p, p < 12 → mFr (M.2.2.2.1 26) (M.2.2.2.1 3) p 12 = fwOk S.1 w p := fun p hp => fw_free hp hA h3 h4 (fun p q hp hq => hBM.2.2.2.1 p q hp hq)
  cases hf : fstB (fwOk S.1 w) 12 with
  | none => rw [fstB_none hf q0 g3] at g4; cases g4
  | some p =>
    obtain ⟨f1, f2⟩ := fstB_lt hf
    refine ⟨p, f1, mNp_is f1 (by rw [hfr p f1]; exact f2) (fun j hj => by rw [hfr j (by omega)]; exact fstB_min hf j hj) 12 (by omega) (by omega), rfl, fun z => ?_, ?_⟩
    · rw [z, b_0] at g2; cases g2
    · rw [fwOk, Bool.and_eq_true] at f2; exact f2.1
theorem secB_len {M : mT} {E : cE} (hE : eOK E) (hR : RE M E) {on : Nat → Nat} {s : Nat} (ho : on s < 12) : (secB E on s).length ≤ 1103 := by
  unfold secB
  rw [List.length_cons]
  split
  · rw [List.length_cons, List.length_cons, List.length_nil]; omega
  · rw [List.length_cons, ← mrL_eq hE hR ho 100 (by omega)]
    have := mrL_len M (on s) 100 (by omega)
    omega
theorem secB_255 {E : cE} {on : Nat → Nat} {s : Nat} (ho : on s < 12) (hs : s < 256) : B255 (secB E on s) := by
  unfold secB
  refine B255.c (small255 (by omega)) ?_
  split
  · rename_i h
    exact B255.c (small255 (by omega)) (B255.c (small255 (by omega)) B255.n)
  · exact B255.c (small255 (by omega)) (wrL_255 E _ 100)
/-- the state behind the choice of a part -/
def svP (M : mT) (k p : Nat) : mT := mYi (mZi M 26 p false) 27 k (nI p)
theorem svP_SF {M0 M : mT} (h : SF M0 M) (k p : Nat) : SF M0 (svP M k p) := (h.z26 _).y27 _
def svS (E : cE) (on : Nat → Nat) (k : Nat) (M1 : mT) : mT := mWs (mWs M1 (secB E on k)) (b4 (smF ((mWs M1 (secB E on k)).2.2.2.2.1 12) (M1.2.2.1 13) ((mWs M1 (secB E on k)).2.2.1 13 - M1.2.2.1 13)) 4)
theorem mWs_k26 (M : mT) (xs : List Int32) : (mWs M xs).2.2.2.1 26 = M.2.2.2.1 26 := by rw [mWs_z]
theorem mWs_k27 : ∀ (xs : List Int32) (M : mT), (mWs M xs).2.2.2.2.1 27 = M.2.2.2.2.1 27
  | [], _ => rfl
  | _ :: xs, M => by show (mWs (mWr M _) xs).2.2.2.2.1 27 = _; rw [mWs_k27 xs]; rfl
theorem SI_step {M0 M : mT} {E : cE} {S : cS} {O0 O : cO} {on : Nat → Nat} {k p : Nat} {w : Int32} {many : Nat} {F : cO × (Nat → Nat)} (h : SI M0 M E S O0 O on k w many F) (hk : k < many) (hm12 : many ≤ 12) (hB : RB M0 E S O0) (hE : eOK E) (hp : p < 12) (hf : fstB (fwOk S.1 w) 12 = some p) (hw : ¬ w = 0) (hb : bt w p = true) :
    SI M0 (svS E (va_up on k p) k (svP M k p)) E S O0 (wsO E (va_up on k p) O k) (va_up on k p) (k + 1) (w &&& (bitI p ^^^ (-1))) many F := by
  obtain ⟨h1, h2, h3, h4, h5, h6, h7, h8, h9, h10⟩ := h
  have hc := cnt_le (bt w) 12
  have hon : va_up on k p k < 12 := by rw [va_up_self]; exact hp
  have f1 := svP_SF h1 k p
  have d1 : DR (svP M k p) O := DR_eq h2 rfl rfl
  have d2 : DR (mWs (svP M k p) (secB E (va_up on k p) k)) (wsO1 E (va_up on k p) O k) := DR_ws d1 (secB_255 hon (by omega))
  have hl := secB_len hE (f1.RB hB).2.1 hon (E := E) (s := k)
  have hn1 := mWs_n (secB E (va_up on k p) k) (svP M k p)
  have h13 : (svP M k p).2.2.1 13 = M.2.2.1 13 := rfl
  refine ⟨f1.ws.ws, DR_sum d1 d2 (by omega) (oApps_mono 1 _ O), fun q hq => ?_, fun q hq => ?_, ?_, fun j hj => ?_, ?_, ?_, ?_, ?_⟩
  · show (svS E (va_up on k p) k (svP M k p)).2.2.2.1 26 q = _
    unfold svS
    rw [mWs_k26, mWs_k26, w_clr (by omega) q (by omega)]
    show va_up (M.2.2.2.1 26) p false q = _
    by_cases e : q = p
    · rw [e, va_up_self, va_up_self]
    · rw [va_up_ne _ _ e, va_up_ne _ _ e]; exact h3 q hq
  · rcases Nat.lt_or_ge q 32 with g | g
    · rw [w_clr (by omega) q g, va_up_ne _ _ (by omega)]; exact h4 q hq
    · exact bt_big g
  · have e : cnt (bt (w &&& (bitI p ^^^ (-1)))) 12 = cnt (va_up (bt w) p false) 12 := cnt_cong (fun i hi => w_clr (by omega) i (by omega))
    rw [e, cnt_f hp, if_pos hb]
    have := cnt_pos hb hp
    omega
  · show (svS E (va_up on k p) k (svP M k p)).2.2.2.2.1 27 j = _ ∧ _
    unfold svS
    rw [mWs_k27, mWs_k27]
    show va_up (M.2.2.2.2.1 27) k (nI p) j = _ ∧ _
    by_cases e : j = k
    · rw [e, va_up_self, va_up_self]; exact ⟨rfl, hp⟩
    · rw [va_up_ne _ _ e, va_up_ne _ _ e]; exact h6 j (by omega)
  · unfold svS
    rw [mWs_n, hn1]
    have : (b4 (smF ((mWs (svP M k p) (secB E (va_up on k p) k)).2.2.2.2.1 12) ((svP M k p).2.2.1 13) ((svP M k p).2.2.1 13 + (secB E (va_up on k p) k).length - (svP M k p).2.2.1 13)) 4).length = 4 := rfl
    rw [this]
    omega
  · rw [← h8, show 12 - k = (12 - (k + 1)) + 1 by omega, wfL_go hw hf]
  · exact ((oApps_o _ _).1.trans (oApps_o _ _).1).trans h9
  · exact ((oApps_o _ _).2.trans (oApps_o _ _).2).trans h10
theorem SI_end {M0 M : mT} {E : cE} {S : cS} {O0 O : cO} {on : Nat → Nat} {k : Nat} {w : Int32} {many : Nat} {F : cO × (Nat → Nat)} (h : SI M0 M E S O0 O on k w many F) (hk : many ≤ k) : F = (O, on) := by
  obtain ⟨h1, h2, h3, h4, h5, h6, h7, h8, h9, h10⟩ := h
  have hc : cnt (bt w) 12 = 0 := by omega
  have hw : w = 0 := b_ext (fun i hi => by
    rw [b_0]
    rcases Nat.lt_or_ge i 12 with g | g
    · exact cnt_z hc i g
    · exact h4 i g)
  rw [← h8]
  exact wfL_end (Or.inr (Or.inl hw))
/-- which parts are wanted -/
def wtB (M : mT) (d : Bool) (p : Nat) : Bool := if d = true then decide (0 < mEnt M p) else mz M 4 p
def wtZ (M : mT) (d : Bool) (n : Nat) : Nat → Bool := fun p => if p < n then wtB M d p else M.2.2.2.1 26 p
theorem wtZ_0 (M : mT) (d : Bool) : wtZ M d 0 = M.2.2.2.1 26 := by
  funext p
  unfold wtZ
  rw [if_neg (by omega)]
theorem wtZ_s (M : mT) (d : Bool) (n : Nat) : va_up (wtZ M d n) n (wtB M d n) = wtZ M d (n + 1) := by
  funext p
  unfold wtZ
  by_cases h : p = n
  · rw [h, va_up_self, if_pos (by omega)]
  · rw [va_up_ne _ _ h]
    by_cases h2 : p < n
    · rw [if_pos h2, if_pos (by omega)]
    · rw [if_neg h2, if_neg (by omega)]
theorem wt_bt {M : mT} {E : cE} {S : cS} {O : cO} {d : Bool} (hB : RB M E S O) (hE : eOK E) : (∀ p, p < 12 → wtB M d p = bt (wfW E S d) p) ∧ (∀ p, 12 ≤ p → bt (wfW E S d) p = false) := by
  unfold wtB wfW
  cases d with
  | true =>
    rw [if_pos rfl]
    refine ⟨fun p hp => ?_, fun p hp => ?_⟩
    · rw [if_pos rfl, pwE_bt (by omega) 12 (by omega), decide_eq_true hp, Bool.true_and, ent_eq hE hB.2.1 hp]
    · rcases Nat.lt_or_ge p 32 with g | g
      · rw [pwE_bt g 12 (by omega), decide_eq_false (by omega)]; rfl
      · exact bt_big g
  | false =>
    rw [if_neg (by decide)]
    refine ⟨fun p hp => ?_, hB.2.2.1.2⟩
    rw [if_neg (by decide)]
    exact hB.2.2.1.1 p hp
/-- the saving's head -/
def svH (M : mT) (S : cS) (d : Bool) (many : Nat) : mT := mWs (mN (mZ (mT0 M) 26 (wtZ (mT0 M) d 12)) 13 0) (headB S d ++ [nI many])
theorem headB_len (S : cS) (d : Bool) : (headB S d).length ≤ 8 := by
  unfold headB
  cases d
  · exact Nat.le_refl 8
  · exact (by decide : 4 ≤ 8)
theorem v255 {x : Int32} (h : fvB x = true) : x &&& nI 255 = x := by
  unfold fvB at h
  rw [Bool.and_eq_true, decide_eq_true_eq, decide_eq_true_eq, Int32.le_iff_toInt_le, Int32.le_iff_toInt_le, nI_toInt (by omega), nI_toInt (by omega)] at h
  have e : x = nI (x.toInt.toNat) := by
    refine Int32.toInt_inj.mp ?_
    rw [nI_toInt (by omega)]
    omega
  rw [e]
  exact small255 (by omega)
theorem headB_255 {S : cS} {d : Bool} (hv : fvB S.2.2.1 = true) : B255 (headB S d) := by
  unfold headB
  refine B255.app (B255.c (small255 (by omega)) (B255.c (small255 (by omega)) (B255.c ?_ (B255.c (v255 hv) B255.n)))) ?_
  · split <;> exact small255 (by omega)
  · split
    · exact B255.n
    · exact b4_255 _ _
theorem SI_0 {M : mT} {E : cE} {S : cS} {O : cO} {on : Nat → Nat} {d : Bool} {many : Nat} (hB : RB M E S O) (hE : eOK E) (hv : fvB S.2.2.1 = true) (hm : many = cnt (wtB (mT0 M) d) 12) : SI M (svH M S d many) E S O (wfO0 S O d (wfW E S d)) on 0 (wfW E S d) many (wfF E S O on d) := by
  have hB0 : RB (mT0 M) E S O := RB_fr hB rfl rfl rfl rfl rfl rfl rfl rfl rfl rfl rfl
  obtain ⟨w1, w2⟩ := wt_bt (d := d) hB0 hE
  have hm2 : cnt (bt (wfW E S d)) 12 = many := by rw [hm]; exact (cnt_cong w1).symm
  have hmc : many ≤ 12 := by rw [hm]; exact cnt_le _ _
  have hf : SF M (mN (mZ (mT0 M) 26 (wtZ (mT0 M) d 12)) 13 0) := (((SF.rf M).t0).z26 _).n13 _
  have hd0 : DR (mN (mZ (mT0 M) 26 (wtZ (mT0 M) d 12)) 13 0) (O.1, va_up O.2.1 1 0, va_up O.2.2 1 false) := Or.inl ⟨show va_up O.2.2 1 false 1 = false from va_up_self _ _ _, rfl, by show va_up O.2.1 1 0 1 ≤ 8000; rw [va_up_self]; omega, fun i hi => by
    have : i < va_up O.2.1 1 0 1 := hi
    rw [va_up_self] at this
    omega⟩
  have hd : DR (svH M S d many) (oApps (O.1, va_up O.2.1 1 0, va_up O.2.2 1 false) 1 (headB S d ++ [nI many])) := DR_ws hd0 ((headB_255 hv).app (B255.c (small255 (by omega)) B255.n))
  have hO : oApps (O.1, va_up O.2.1 1 0, va_up O.2.2 1 false) 1 (headB S d ++ [nI many]) = wfO0 S O d (wfW E S d) := by
    rw [oApps_s, wfO0, bcI_c w2, hm2]
  refine ⟨hf.ws, by rw [← hO]; exact hd, fun q hq => ?_, w2, by omega, fun j hj => absurd hj (Nat.not_lt_zero j), ?_, rfl, ?_, ?_⟩
  · unfold svH
    show (mWs _ _).2.2.2.1 26 q = _
    rw [mWs_k26]
    show wtZ (mT0 M) d 12 q = _
    unfold wtZ
    rw [if_pos hq]
    exact w1 q hq
  · unfold svH
    rw [mWs_n, List.length_append]
    have := headB_len S d
    show 0 + ((headB S d).length + 1) ≤ _
    omega
  · rw [← hO]; exact (oApps_o _ _).1
  · rw [← hO]; exact (oApps_o _ _).2
/-- the copy -/
def cpF (M : mT) (n : Nat) : Nat → Int32 := fun i => if i < n then M.2.2.2.2.1 12 i else M.2.2.2.2.1 10 i
theorem cpF_0 (M : mT) : cpF M 0 = M.2.2.2.2.1 10 := by
  funext p
  unfold cpF
  rw [if_neg (by omega)]
theorem cpF_s (M : mT) (n : Nat) : va_up (cpF M n) n (M.2.2.2.2.1 12 n) = cpF M (n + 1) := by
  funext p
  unfold cpF
  by_cases h : p = n
  · rw [h, va_up_self, if_pos (by omega)]
  · rw [va_up_ne _ _ h]
    by_cases h2 : p < n
    · rw [if_pos h2, if_pos (by omega)]
    · rw [if_neg h2, if_neg (by omega)]
theorem mY_i (M : mT) (k i : Nat) (f : Nat → Int32) (b : Int32) : mYi (mY M k f) k i b = mY M k (va_up f i b) := by
  unfold mYi mY
  dsimp only
  rw [va_up_self, bx_uu]
def fzZ (z : Nat → Bool) (n : Nat) : Nat → Bool := fun p => if p < n then false else z p
theorem fzZ_0 (z : Nat → Bool) : fzZ z 0 = z := by
  funext p
  unfold fzZ
  rw [if_neg (by omega)]
theorem fzZ_s (z : Nat → Bool) (n : Nat) : va_up (fzZ z n) n false = fzZ z (n + 1) := by
  funext p
  unfold fzZ
  by_cases h : p = n
  · rw [h, va_up_self, if_pos (by omega)]
  · rw [va_up_ne _ _ h]
    by_cases h2 : p < n
    · rw [if_pos h2, if_pos (by omega)]
    · rw [if_neg h2, if_neg (by omega)]
/-- what save leaves -/
def saveP (M0 : mT) (E : cE) (S : cS) (O : cO) (on : Nat → Nat) (d : Bool) (M' : mT) : Prop :=
  RB M' E (fsSf E S O on d) (fsOf E S O on d) ∧ M'.2.2.2.2.2.1 21 = M0.2.2.2.2.2.1 21 ∧ M'.2.2.1 14 = M0.2.2.1 14 ∧ M'.2.2.2.2.1 15 = M0.2.2.2.2.1 15 ∧ M'.2.2.2.2.1 16 = M0.2.2.2.2.1 16 ∧ M'.2.2.2.2.1 17 = M0.2.2.2.2.1 17
def cpM (M : mT) : mT := mN (mY M 10 (cpF M (M.2.2.1 13))) 11 (M.2.2.1 13)
def bsM (M : mT) : mT := mZ (mI (mB M 8 true) 9 (smF (M.2.2.2.2.1 10) 0 (M.2.2.1 11))) 4 (fzZ (M.2.2.2.1 4) 12)
theorem RB_O {M : mT} {E : cE} {S : cS} {O O' : cO} (h : RB M E S O) (h1 : O'.1 0 = O.1 0) (h2 : O'.2.1 0 = O.2.1 0) : RB M E S O' := by
  refine ⟨⟨fun i => ?_, ?_⟩, h.2⟩
  · rw [h1]; exact h.1.1 i
  · rw [h2]; exact h.1.2
section SAVEP
variable {M0 M : mT} {E : cE} {S : cS} {O : cO} {on : Nat → Nat} {d : Bool}
theorem save_no (hB : RB M0 E S O) (hg : fsG S d = false) : fsV E S O on d = -3 ∧ saveP M0 E S O on d (mT0 M0) := by
  have e1 : fsSf E S O on d = S := by unfold fsSf; rw [hg]; rfl
  have e2 : fsOf E S O on d = O := by unfold fsOf; rw [hg]; rfl
  refine ⟨by unfold fsV; rw [hg]; rfl, ?_⟩
  unfold saveP
  rw [e1, e2]
  exact ⟨RB_fr hB rfl rfl rfl rfl rfl rfl rfl rfl rfl rfl rfl, rfl, rfl, rfl, rfl, rfl⟩
theorem save_ov {O1 : cO} {on1 : Nat → Nat} (hB : RB M0 E S O) (hg : fsG S d = true) (hF : wfF E S O on d = (O1, on1)) (hS : SF M0 M) (hD : DR M O1) (h0 : O1.1 0 = O.1 0) (h0' : O1.2.1 0 = O.2.1 0) (hl : 8000 < M.2.2.1 13) : fsV E S O on d = -4 ∧ saveP M0 E S O on d M := by
  have ho : fsOv E S O on d = true := by
    unfold fsOv fsO
    rw [hF]
    rcases hD with z | z
    · omega
    · exact z.1
  have e1 : fsSf E S O on d = S := by
    unfold fsSf
    rw [hg, ho]
    rfl
  have e2 : fsOf E S O on d = O1 := by
    unfold fsOf
    rw [if_pos hg, if_pos ho]
    unfold fsO
    rw [hF]
  refine ⟨by unfold fsV; rw [if_pos hg, if_pos ho], ?_⟩
  unfold saveP
  rw [e1, e2]
  refine ⟨RB_O (hS.RB hB) h0 h0', ?_⟩
  obtain ⟨t, f12, n13, z26, f27, rfl⟩ := hS
  exact ⟨rfl, rfl, rfl, rfl, rfl⟩
theorem save_nov {O1 : cO} {on1 : Nat → Nat} (hF : wfF E S O on d = (O1, on1)) (hD : DR M O1) (hl : M.2.2.1 13 ≤ 8000) : fsOv E S O on d = false ∧ M.2.2.1 13 = O1.2.1 1 := by
  rcases hD with z | z
  · refine ⟨?_, z.2.1⟩
    unfold fsOv fsO
    rw [hF]
    exact z.1
  · omega
theorem cp_by {O1 : cO} (hB : mBy M O1) (hD : DR M O1) (hl : M.2.2.1 13 ≤ 8000) : mBy (cpM M) (fsO2 O1) := by
  rcases hD with ⟨a1, a2, a3, a4⟩ | z
  · refine ⟨fun i => ?_, ?_⟩
    · show cpF M (M.2.2.1 13) i = va_cpy (O1.1 1) (O1.1 0) 0 0 (O1.2.1 1) i &&& nI 255
      unfold cpF va_cpy
      rw [a2]
      by_cases h : i < O1.2.1 1
      · rw [if_pos h, if_pos (by omega)]
        have := a4 i h
        rw [show M.2.2.2.2.1 12 i = oAt O1 1 i from this]
        unfold oAt
        rw [if_pos h]
        simp
      · rw [if_neg h, if_neg (by omega)]
        exact hB.1 i
    · show M.2.2.1 13 = O1.2.1 1
      exact a2
  · omega
theorem save_f {O1 : cO} {on1 : Nat → Nat} (hB : RB M0 E S O) (hg : fsG S false = true) (hF : wfF E S O on false = (O1, on1)) (hS : SF M0 M) (hD : DR M O1) (h0 : O1.1 0 = O.1 0) (h0' : O1.2.1 0 = O.2.1 0) (hl : M.2.2.1 13 ≤ 8000) : fsV E S O on false = nI (M.2.2.1 13) ∧ saveP M0 E S O on false (cpM M) := by
  obtain ⟨ho, hn⟩ := save_nov hF hD hl
  have e1 : fsSf E S O on false = S := by
    unfold fsSf
    rw [Bool.and_false, if_neg (by decide)]
  have e2 : fsOf E S O on false = fsO2 O1 := by
    unfold fsOf
    rw [if_pos hg, if_neg (by rw [ho]; decide)]
    unfold fsO
    rw [hF]
  have hBM := RB_O (hS.RB hB) h0 h0'
  refine ⟨?_, ?_⟩
  · unfold fsV
    rw [if_pos hg, if_neg (by rw [ho]; decide)]
    unfold fsO
    rw [hF, hn]
    rfl
  · unfold saveP
    rw [e1, e2]
    refine ⟨⟨cp_by hBM.1 hD hl, hBM.2⟩, ?_⟩
    obtain ⟨t, f12, n13, z26, f27, rfl⟩ := hS
    exact ⟨rfl, rfl, rfl, rfl, rfl⟩
theorem save_t {O1 : cO} {on1 : Nat → Nat} (hB : RB M0 E S O) (hF : wfF E S O on true = (O1, on1)) (hS : SF M0 M) (hD : DR M O1) (h0 : O1.1 0 = O.1 0) (h0' : O1.2.1 0 = O.2.1 0) (hl : M.2.2.1 13 ≤ 8000) : fsV E S O on true = nI (M.2.2.1 13) ∧ saveP M0 E S O on true (bsM (cpM M)) := by
  obtain ⟨ho, hn⟩ := save_nov hF hD hl
  have hg : fsG S true = true := rfl
  have e2 : fsOf E S O on true = fsO2 O1 := by
    unfold fsOf
    rw [if_pos hg, if_neg (by rw [ho]; decide)]
    unfold fsO
    rw [hF]
  have e1 : fsSf E S O on true = fsS2 S (fsO2 O1) := by
    unfold fsSf
    rw [hg, ho, if_pos (show (true && !false && true) = true from rfl)]
    unfold fsO
    rw [hF]
  have hBM := RB_O (hS.RB hB) h0 h0'
  have hby := cp_by hBM.1 hD hl
  refine ⟨?_, ?_⟩
  · unfold fsV
    rw [if_pos hg, if_neg (by rw [ho]; decide)]
    unfold fsO
    rw [hF, hn]
    rfl
  · unfold saveP
    rw [e1, e2]
    refine ⟨⟨hby, hBM.2.1, ⟨fun p hp => ?_, fun p hp => ?_⟩, hBM.2.2.2.1, ?_⟩, ?_⟩
    · show fzZ (M.2.2.2.1 4) 12 p = bt (nI 0) p
      unfold fzZ
      rw [if_pos hp, show nI 0 = (0 : Int32) from rfl, b_0]
    · exact b_0 p
    · obtain ⟨g5, g6, g7, g8, g9⟩ := hBM.2.2.2.2
      refine ⟨g5, g6, g7, rfl, ?_⟩
      show smF ((cpM M).2.2.2.2.1 10) 0 ((cpM M).2.2.1 11) = smF (oAt (fsO2 O1) 0) 0 ((fsO2 O1).2.1 0)
      rw [hby.2]
      exact smF_cong (fun i _ hi => hby.at (by omega))
    · obtain ⟨t, f12, n13, z26, f27, rfl⟩ := hS
      exact ⟨rfl, rfl, rfl, rfl, rfl⟩
end SAVEP
theorem mWr_n (M : mT) (x : Int32) : (mWr M x).2.2.1 13 = M.2.2.1 13 + 1 := by
  show va_up M.2.2.1 13 (M.2.2.1 13 + 1) 13 = _
  exact va_up_self _ _ _
theorem wtZ_at (M : mT) (d : Bool) (i : Nat) : wtZ M d (i + 1) i = wtB M d i := by
  unfold wtZ
  rw [if_pos (by omega)]
theorem sec_1 {M1 : mT} {E : cE} {on2 : Nat → Nat} {k p fi : Nat} (hk : on2 k = p) (hf : faN E on2 k = fi) (h : fi < k) : mWr (mWr (mWr M1 (nI p)) (nI 1)) (nI fi) = mWs M1 (secB E on2 k) := by
  unfold secB
  rw [hk, hf, if_pos h]
  rfl
theorem sec_2 {M1 : mT} {E : cE} {on2 : Nat → Nat} {k p fi : Nat} (hE : eOK E) (hR : RE M1 E) (hp : p < 12) (hk : on2 k = p) (hf : faN E on2 k = fi) (h : ¬ fi < k) : mWs (mWr (mWr M1 (nI p)) (nI 0)) (mrL (mWr (mWr M1 (nI p)) (nI 0)) p 100).2 = mWs M1 (secB E on2 k) := by
  unfold secB
  rw [hk, hf, if_neg h, mrL_eq (M := mWr (mWr M1 (nI p)) (nI 0)) hE hR hp 100 (by omega)]
  rfl
theorem mFi_y {ok : Nat → Bool} {k t : Nat} (h : ok (k - (t + 1)) = true) : k - (t + 1) = mFi ok k (t + 1) := by
  unfold mFi
  rw [if_pos h]
theorem mFi_n {ok : Nat → Bool} {k t : Nat} (h : ok (k - (t + 1)) = false) : mFi ok k t = mFi ok k (t + 1) := by
  show _ = if _ then _ else _
  rw [if_neg (by rw [h]; decide)]
theorem headB_f (S : cS) : headB S false = [nI 70, nI 77, nI 1, S.2.2.1] ++ b4 S.2.2.2.2.2.2 4 := by
  unfold headB
  rw [if_neg (by decide), if_neg (by decide)]
