/-! THE OLD PICTURE OF LOADING AND THE NEW ONE: parts alike; a part's rows read again are the rows that were kept -/
def eqE (E E' : cE) : Prop := ∀ q, q ≤ 12 → E'.1 q = E.1 q ∧ E'.2.1 q = E.2.1 q ∧ E'.2.2 q = E.2.2 q
def alk (E : cE) (a : Nat) (E' : cE) (b : Nat) : Prop := (∀ i, i < 100 → E'.1 b i = E.1 a i ∧ (E.1 a i = true → E'.2.1 b i = E.2.1 a i)) ∧ E'.2.2 b = E.2.2 a
theorem eSet_ot {E : cE} {q a i : Nat} {v : Int64} (h : ¬ a = q) : (eSet E q i v).1 a = E.1 a ∧ (eSet E q i v).2.1 a = E.2.1 a ∧ (eSet E q i v).2.2 a = E.2.2 a := ⟨va_up_ne _ _ h, va_up_ne _ _ h, va_up_ne _ _ h⟩
theorem eDrop_ot {E : cE} {q a i : Nat} (h : ¬ a = q) : (eDrop E q i).1 a = E.1 a ∧ (eDrop E q i).2.1 a = E.2.1 a ∧ (eDrop E q i).2.2 a = E.2.2 a := ⟨va_up_ne _ _ h, rfl, va_up_ne _ _ h⟩
theorem seE_ot {E : cE} {q a i : Nat} {v : Int64} (h : ¬ a = q) : (seE E q i v).1 a = E.1 a ∧ (seE E q i v).2.1 a = E.2.1 a ∧ (seE E q i v).2.2 a = E.2.2 a := by
  unfold seE
  split
  · exact ⟨rfl, rfl, rfl⟩
  · exact eSet_ot h
theorem drE_ot {E : cE} {q a i : Nat} (h : ¬ a = q) : (drE E q i).1 a = E.1 a ∧ (drE E q i).2.1 a = E.2.1 a ∧ (drE E q i).2.2 a = E.2.2 a := by
  unfold drE
  split
  · exact eDrop_ot h
  · exact ⟨rfl, rfl, rfl⟩
theorem alk_set {E E' : cE} {a b i : Nat} (v : Int64) (h : alk E a E' b) (hi : i < 100) : alk (eSet E a i v) a (eSet E' b i v) b := by
  obtain ⟨h1, h2⟩ := h
  refine ⟨fun j hj => ?_, ?_⟩
  · show va_up E'.1 b (va_up (E'.1 b) i true) b j = va_up E.1 a (va_up (E.1 a) i true) a j ∧ (va_up E.1 a (va_up (E.1 a) i true) a j = true → va_up E'.2.1 b (va_up (E'.2.1 b) i v) b j = va_up E.2.1 a (va_up (E.2.1 a) i v) a j)
    rw [va_up_self, va_up_self, va_up_self, va_up_self]
    by_cases e : j = i
    · rw [e, va_up_self, va_up_self, va_up_self, va_up_self]
      exact ⟨rfl, fun _ => rfl⟩
    · rw [va_up_ne _ _ e, va_up_ne _ _ e, va_up_ne _ _ e, va_up_ne _ _ e]
      exact h1 j hj
  · show va_up E'.2.2 b (if E'.1 b i = true then E'.2.2 b else E'.2.2 b + 1) b = va_up E.2.2 a (if E.1 a i = true then E.2.2 a else E.2.2 a + 1) a
    rw [va_up_self, va_up_self, (h1 i hi).1, h2]
theorem alk_clr (E E' : cE) (a b : Nat) : alk (eClr E a) a (eClr E' b) b := by
  refine ⟨fun j hj => ?_, ?_⟩
  · show va_up E'.1 b (fun j => if j < 100 then false else E'.1 b j) b j = va_up E.1 a (fun j => if j < 100 then false else E.1 a j) a j ∧ (va_up E.1 a (fun j => if j < 100 then false else E.1 a j) a j = true → _)
    rw [va_up_self, va_up_self]
    simp only [if_pos hj]
    exact ⟨trivial, fun z => by cases z⟩
  · show va_up E'.2.2 b 0 b = va_up E.2.2 a 0 a
    rw [va_up_self, va_up_self]
theorem nrL_alk {O : cO} {q q' : Nat} : ∀ (n : Nat) (E E' : cE) (Rd : cR) (least : Nat), alk E q E' q' → (Rd.2 = 0 → least ≤ 100) → alk (nrL O q n E Rd least).1 q (nrL O q' n E' Rd least).1 q'
  | 0, _, _, _, _, h, _ => h
  | n + 1, E, E', Rd, least, h, hl => by
    unfold nrL
    by_cases h0 : Rd.2 = 0
    · rw [if_pos h0, if_pos h0]
      refine nrL_alk n _ _ _ _ ?_ (fun z => by have := (nrP_le (O := O) (Rd := Rd) (hl h0)).2 z; omega)
      unfold nrE
      by_cases h1 : (nrR O Rd least).2 = 0
      · rw [if_pos h1, if_pos h1]
        exact alk_set _ h ((nrP_le (O := O) (Rd := Rd) (hl h0)).2 h1)
      · rw [if_neg h1, if_neg h1]
        exact h
    · rw [if_neg h0, if_neg h0]
      exact h
theorem nrF_alk (O : cO) (q q' : Nat) (E E' : cE) (Rd : cR) : alk (nrF O q E Rd).1 q (nrF O q' E' Rd).1 q' := by
  unfold nrF
  exact nrL_alk _ _ _ _ _ (alk_clr E E' q q') (fun _ => by omega)
theorem eHolds_s {E E' : cE} (h : eqE E E') {q : Nat} (hq : q ≤ 12) (i : Nat) (v : Int64) : eHolds E' q i v = eHolds E q i v := by
  unfold eHolds
  rw [(h q hq).1, (h q hq).2.1]
theorem sE_set {E E' : cE} (h : eqE E E') {p : Nat} (hp : p ≤ 12) (i : Nat) (v : Int64) : eqE (eSet E p i v) (eSet E' p i v) := by
  intro q hq
  obtain ⟨a1, a2, a3⟩ := h p hp
  by_cases e : q = p
  · subst e
    unfold eSet
    dsimp only
    rw [va_up_self, va_up_self, va_up_self, va_up_self, va_up_self, va_up_self, a1, a2, a3]
    exact ⟨rfl, rfl, rfl⟩
  · have o1 := eSet_ot (E := E) (i := i) (v := v) e
    have o2 := eSet_ot (E := E') (i := i) (v := v) e
    have hh := h q hq
    exact ⟨o2.1.trans (hh.1.trans o1.1.symm), o2.2.1.trans (hh.2.1.trans o1.2.1.symm), o2.2.2.trans (hh.2.2.trans o1.2.2.symm)⟩
theorem sE_drop {E E' : cE} (h : eqE E E') {p : Nat} (hp : p ≤ 12) (i : Nat) : eqE (eDrop E p i) (eDrop E' p i) := by
  intro q hq
  obtain ⟨a1, a2, a3⟩ := h p hp
  have hh := h q hq
  by_cases e : q = p
  · subst e
    unfold eDrop
    dsimp only
    rw [va_up_self, va_up_self, va_up_self, va_up_self, a1, a2, a3]
    exact ⟨rfl, rfl, rfl⟩
  · have o1 := eDrop_ot (E := E) (i := i) e
    have o2 := eDrop_ot (E := E') (i := i) e
    exact ⟨o2.1.trans (hh.1.trans o1.1.symm), o2.2.1.trans (hh.2.1.trans o1.2.1.symm), o2.2.2.trans (hh.2.2.trans o1.2.2.symm)⟩
theorem sE_se {E E' : cE} (h : eqE E E') {p : Nat} (hp : p ≤ 12) (S : cS) (i : Nat) (v : Int64) : eqE (seE E p i v) (seE E' p i v) ∧ seS E' S p i v = seS E S p i v := by
  unfold seE seS
  rw [eHolds_s h hp]
  by_cases e : eHolds E p i v = true
  · rw [if_pos e, if_pos e, if_pos e]
    exact ⟨h, rfl⟩
  · rw [if_neg e, if_neg e, if_neg e]
    exact ⟨sE_set h hp i v, rfl⟩
theorem sE_dr {E E' : cE} (h : eqE E E') {p : Nat} (hp : p ≤ 12) (S : cS) (i : Nat) : eqE (drE E p i) (drE E' p i) ∧ drS E' S p i = drS E S p i := by
  unfold drE drS
  rw [(h p hp).1]
  by_cases e : E.1 p i = true
  · rw [if_pos e, if_pos e, if_pos e]
    exact ⟨sE_drop h hp i, rfl⟩
  · rw [if_neg e, if_neg e, if_neg e]
    exact ⟨h, rfl⟩
theorem alk_to {E E' F F' : cE} {a b : Nat} (h : alk E a E' b) (h1 : F.1 a = E.1 a ∧ F.2.1 a = E.2.1 a ∧ F.2.2 a = E.2.2 a) (h2 : F'.1 b = E'.1 b ∧ F'.2.1 b = E'.2.1 b ∧ F'.2.2 b = E'.2.2 b) : alk F a F' b := by
  unfold alk
  rw [h1.1, h1.2.1, h1.2.2, h2.1, h2.2.1, h2.2.2]
  exact h
theorem mg_s {E E' : cE} {S : cS} {p a b : Nat} (hp : p < 12) (ha : ¬ a = p) (hb : ¬ b = p) (h : eqE E E') (hk : alk E a E' b) : ∀ i, i ≤ 100 → eqE (mgE E S p a i).1 (mgE E' S p b i).1 ∧ (mgE E' S p b i).2.1 = (mgE E S p a i).2.1 ∧ (mgE E' S p b i).2.2 = (mgE E S p a i).2.2 ∧ alk (mgE E S p a i).1 a (mgE E' S p b i).1 b
  | 0, _ => ⟨h, rfl, rfl, hk⟩
  | i + 1, hi => by
    obtain ⟨g1, g2, g3, g4⟩ := mg_s (S := S) hp ha hb h hk i (by omega)
    unfold mgE
    dsimp only
    generalize mgE E S p a i = T at g1 g2 g3 g4
    generalize mgE E' S p b i = T' at g1 g2 g3 g4
    obtain ⟨e1, e2⟩ := g4.1 i (by omega)
    rw [g2, g3]
    by_cases ht : T.1.1 a i = true
    · have hv := e2 ht
      have hc : cfl T'.1 p b i = cfl T.1 p a i := by unfold cfl; rw [(g1 p (by omega)).1, (g1 p (by omega)).2.1, hv]
      have hD : mgD T'.1 T.2.1 p b i = mgD T.1 T.2.1 p a i := by unfold mgD; rw [hc, e1]
      have hC : mgC T'.1 p b i = mgC T.1 p a i := by unfold mgC; rw [hc, e1]
      rw [hD, hC, hv]
      have hs := sE_se g1 (p := p) (by omega) T.2.1 i (T.1.2.1 a i)
      by_cases hd : mgD T.1 T.2.1 p a i = true
      · simp only [if_pos hd]
        exact ⟨hs.1, hs.2, trivial, alk_to g4 (seE_ot ha) (seE_ot hb)⟩
      · simp only [if_neg hd]
        exact ⟨g1, trivial, trivial, g4⟩
    · have hf : T.1.1 a i = false := by simpa using ht
      have hf' : T'.1.1 b i = false := e1.trans hf
      have hD : mgD T'.1 T.2.1 p b i = false := by unfold mgD; rw [hf']; rfl
      have hD2 : mgD T.1 T.2.1 p a i = false := by unfold mgD; rw [hf]; rfl
      have hC : mgC T'.1 p b i = false := by unfold mgC; rw [hf']; rfl
      have hC2 : mgC T.1 p a i = false := by unfold mgC; rw [hf]; rfl
      rw [hD, hD2, hC, hC2]
      exact ⟨g1, rfl, rfl, g4⟩
theorem rp_s {E E' : cE} {S : cS} {p a b : Nat} (hp : p < 12) (ha : ¬ a = p) (hb : ¬ b = p) (h : eqE E E') (hk : alk E a E' b) : ∀ i, i ≤ 100 → eqE (rpE E S p a i).1 (rpE E' S p b i).1 ∧ (rpE E' S p b i).2 = (rpE E S p a i).2 ∧ alk (rpE E S p a i).1 a (rpE E' S p b i).1 b
  | 0, _ => ⟨h, rfl, hk⟩
  | i + 1, hi => by
    obtain ⟨g1, g2, g4⟩ := rp_s (S := S) hp ha hb h hk i (by omega)
    unfold rpE
    dsimp only
    generalize rpE E S p a i = T at g1 g2 g4
    generalize rpE E' S p b i = T' at g1 g2 g4
    obtain ⟨e1, e2⟩ := g4.1 i (by omega)
    rw [g2]
    by_cases ht : T.1.1 a i = true
    · rw [if_pos (e1.trans ht), if_pos ht, e2 ht]
      have hs := sE_se g1 (p := p) (by omega) T.2 i (T.1.2.1 a i)
      exact ⟨hs.1, hs.2, alk_to g4 (seE_ot ha) (seE_ot hb)⟩
    · have ht' : ¬ T'.1.1 b i = true := fun z => ht (e1.symm.trans z)
      rw [if_neg ht', if_neg ht]
      have hs := sE_dr g1 (p := p) (by omega) T.2 i
      exact ⟨hs.1, hs.2, alk_to g4 (drE_ot ha) (drE_ot hb)⟩
theorem lsM_s {E E' : cE} {S : cS} {w : Bool} {p a b : Nat} (hp : p < 12) (ha : ¬ a = p) (hb : ¬ b = p) (h : eqE E E') (hk : alk E a E' b) : eqE (lsM E S w p a).1 (lsM E' S w p b).1 ∧ (lsM E' S w p b).2 = (lsM E S w p a).2 := by
  unfold lsM
  cases w with
  | true =>
    obtain ⟨g1, g2, g3, -⟩ := mg_s (S := S) hp ha hb h hk 100 (by omega)
    rw [if_pos rfl, if_pos rfl]
    exact ⟨g1, Prod.ext g2 g3⟩
  | false =>
    obtain ⟨g1, g2, -⟩ := rp_s (S := S) hp ha hb h hk 100 (by omega)
    rw [if_neg (by decide), if_neg (by decide)]
    dsimp only
    rw [g2]
    exact ⟨g1, rfl⟩
theorem mgE_ot {E : cE} {S : cS} {p q a : Nat} (ha : ¬ a = p) : ∀ i, (mgE E S p q i).1.1 a = E.1 a ∧ (mgE E S p q i).1.2.1 a = E.2.1 a ∧ (mgE E S p q i).1.2.2 a = E.2.2 a
  | 0 => ⟨rfl, rfl, rfl⟩
  | i + 1 => by
    have ih := mgE_ot (E := E) (S := S) (q := q) ha i
    unfold mgE
    dsimp only
    generalize mgE E S p q i = T at ih
    by_cases hd : mgD T.1 T.2.1 p q i = true
    · rw [if_pos hd]
      have o := seE_ot (E := T.1) (i := i) (v := T.1.2.1 q i) ha
      exact ⟨o.1.trans ih.1, o.2.1.trans ih.2.1, o.2.2.trans ih.2.2⟩
    · rw [if_neg hd]; exact ih
theorem rpE_ot {E : cE} {S : cS} {p q a : Nat} (ha : ¬ a = p) : ∀ i, (rpE E S p q i).1.1 a = E.1 a ∧ (rpE E S p q i).1.2.1 a = E.2.1 a ∧ (rpE E S p q i).1.2.2 a = E.2.2 a
  | 0 => ⟨rfl, rfl, rfl⟩
  | i + 1 => by
    have ih := rpE_ot (E := E) (S := S) (q := q) ha i
    unfold rpE
    dsimp only
    generalize rpE E S p q i = T at ih
    by_cases hd : T.1.1 q i = true
    · rw [if_pos hd]
      have o := seE_ot (E := T.1) (i := i) (v := T.1.2.1 q i) ha
      exact ⟨o.1.trans ih.1, o.2.1.trans ih.2.1, o.2.2.trans ih.2.2⟩
    · rw [if_neg hd]
      have o := drE_ot (E := T.1) (i := i) ha
      exact ⟨o.1.trans ih.1, o.2.1.trans ih.2.1, o.2.2.trans ih.2.2⟩
theorem lsM_ot {E : cE} {S : cS} {w : Bool} {p q a : Nat} (ha : ¬ a = p) : (lsM E S w p q).1.1 a = E.1 a ∧ (lsM E S w p q).1.2.1 a = E.2.1 a ∧ (lsM E S w p q).1.2.2 a = E.2.2 a := by
  unfold lsM
  split
  · exact mgE_ot ha 100
  · have h := rpE_ot (E := E) (S := S) (q := q) ha 100
    generalize rpE E S p q 100 = Z at h
    exact h
theorem allB_cong {f g : Nat → Bool} : ∀ {n : Nat}, (∀ i, i < n → f i = g i) → allB f n = allB g n
  | 0, _ => rfl
  | n + 1, h => by
    unfold allB
    rw [allB_cong (n := n) (fun i hi => h i (by omega)), h n (by omega)]
theorem eLike_s {E E' : cE} {n a b : Nat} (h : E'.1 n = E.1 n ∧ E'.2.1 n = E.2.1 n ∧ E'.2.2 n = E.2.2 n) (hk : alk E a E' b) : eLike E' n b = eLike E n a := by
  unfold eLike eIn
  rw [h.2.2, hk.2, allB_cong (f := fun i => !(E'.1 n i) || eHolds E' b i (E'.2.1 n i)) (g := fun i => !(E.1 n i) || eHolds E a i (E.2.1 n i)) (fun i hi => by
    obtain ⟨e1, e2⟩ := hk.1 i hi
    unfold eHolds
    rw [h.1, h.2.1, e1]
    cases ha : E.1 a i with
    | false => rfl
    | true => rw [e2 ha])]
/-! a fault stays -/
theorem rfR_f1 {Rd : cR} {x : Int32} (h : ¬ Rd.2 = 0) : rfR Rd x = Rd := by unfold rfR; rw [if_neg h]
theorem wiR_f1 {Rd : cR} {c : Int64} {x : Int32} (h : ¬ Rd.2 = 0) : wiR Rd c x = Rd := by
  unfold wiR
  split
  · exact rfR_f1 h
  · rfl
theorem nxR_ft {O : cO} {Rd : cR} (h : ¬ Rd.2 = 0) : nxR O Rd = Rd := by unfold nxR; rw [if_neg h]
theorem n4R_ft {O : cO} {Rd : cR} (h : ¬ Rd.2 = 0) : ∀ n, n4R O Rd n = Rd
  | 0 => rfl
  | n + 1 => by
    unfold n4R
    rw [n4R_ft h n]
    exact nxR_ft h
theorem nrF_ft {O : cO} {q : Nat} {E : cE} {Rd : cR} (h : ¬ Rd.2 = 0) : (nrF O q E Rd).2 = Rd := by
  unfold nrF
  have e : wiR (ncR O Rd) (ncC O Rd) (nI 100) = Rd := by rw [ncR_ft h]; exact wiR_f1 h
  rw [e, nrL_end (Or.inr h)]
theorem lgE_ot {O : cO} {E : cE} {ra : Nat → Nat} {p a : Nat} (ha : ¬ a = 25) : (lgE O E ra p).1 a = E.1 a ∧ (lgE O E ra p).2.1 a = E.2.1 a ∧ (lgE O E ra p).2.2 a = E.2.2 a := by
  unfold lgE
  exact nrF_ot ha _ _
