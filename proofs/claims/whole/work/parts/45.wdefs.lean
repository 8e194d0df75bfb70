/-! writing: the reference's draft beside the writer's file -/
theorem b255 : ∀ i, i < 32 → bt (nI 255) i = decide (i < 8) := by decide +kernel
theorem xb255 (x : Int32) : xb x &&& nI 255 = x &&& nI 255 := by
  refine b_ext (fun i hi => ?_)
  rw [b_and, b_and, b255 i hi]
  by_cases h : i < 8
  · have e : bt (xb x) i = bt x i := by
      unfold bt xb
      rw [Int8.toBitVec_toInt32, Int32.toBitVec_toInt8, BitVec.getLsbD_signExtend, decide_eq_true hi, Bool.true_and, if_pos h, BitVec.getLsbD_signExtend, decide_eq_true h, Bool.true_and, if_pos hi]
    rw [e]
  · rw [decide_eq_false h, Bool.and_false, Bool.and_false]
theorem idem255 (x : Int32) : (x &&& nI 255) &&& nI 255 = x &&& nI 255 := by
  refine b_ext (fun i hi => ?_)
  rw [b_and, b_and]
  cases bt x i <;> cases bt (nI 255) i <;> rfl
theorem small255 {n : Nat} (h : n < 256) : nI n &&& nI 255 = nI n := by
  rw [and255]
  congr 1
  show (BitVec.ofNat 32 n).toNat % 256 = n
  rw [BitVec.toNat_ofNat]
  omega
def B255 (xs : List Int32) : Prop := ∀ x, x ∈ xs → x &&& nI 255 = x
theorem B255.app {xs ys : List Int32} (h1 : B255 xs) (h2 : B255 ys) : B255 (xs ++ ys) := fun x hx => (List.mem_append.mp hx).elim (h1 x) (h2 x)
theorem B255.c {x : Int32} {xs : List Int32} (h1 : x &&& nI 255 = x) (h2 : B255 xs) : B255 (x :: xs) := fun y hy => by
  rcases List.mem_cons.mp hy with rfl | h
  · exact h1
  · exact h2 y h
theorem B255.n : B255 [] := fun x hx => (by cases hx)
theorem b4_255 (v : Int32) (k : Nat) : B255 (b4 v k) := fun x hx => by
  obtain ⟨i, -, rfl⟩ := List.mem_map.mp hx
  exact idem255 _
theorem l2i_s {v : Int64} (h : v.toBitVec.toNat < 256) : v.toInt32 = nI v.toBitVec.toNat := by
  refine Int32.toBitVec_inj.mp (BitVec.eq_of_toNat_eq ?_)
  rw [Int64.toBitVec_toInt32, BitVec.signExtend_eq_setWidth_of_le _ (by decide), BitVec.toNat_setWidth]
  show _ = (BitVec.ofNat 32 v.toBitVec.toNat).toNat
  rw [BitVec.toNat_ofNat]
theorem and127 (v : Int64) : (v &&& 127).toInt32 = nI (v.toBitVec.toNat % 128) := by
  have h : (v &&& 127).toBitVec.toNat = v.toBitVec.toNat % 128 := by
    rw [Int64.toBitVec_and, BitVec.toNat_and]
    exact Nat.and_two_pow_sub_one_eq_mod _ 7
  rw [l2i_s (by rw [h]; omega), h]
theorem or128 : ∀ a, a < 128 → nI a ||| nI 128 = nI a + nI 128 ∧ (nI a + nI 128) &&& nI 255 = nI a + nI 128 := by decide +kernel
theorem cM_cB : ∀ (n : Nat) (v : Int64), cM n v = cB n v
  | 0, _ => rfl
  | n + 1, v => by
    unfold cM cB
    split
    · rfl
    · rw [cM_cB n, and127, (or128 _ (Nat.mod_lt _ (by omega))).1]
theorem ush7_0 {v : Int64} (h : ush7 v = 0) : v.toBitVec.toNat < 128 := by
  have h1 := ush7_n v
  rw [h] at h1
  have h2 : (0 : Int64).toBitVec.toNat = 0 := rfl
  rw [h2] at h1
  omega
theorem cB_255 : ∀ (n : Nat) (v : Int64), v.toBitVec.toNat < 2 ^ (7 * n + 8) → B255 (cB n v)
  | 0, v, h => B255.c (by rw [l2i_s h]; exact small255 h) B255.n
  | n + 1, v, h => by
    unfold cB
    split
    · rename_i h0
      have := ush7_0 h0
      exact B255.c (by rw [l2i_s (by omega)]; exact small255 (by omega)) B255.n
    · refine B255.c ?_ (cB_255 n _ ?_)
      · rw [and127]; exact (or128 _ (Nat.mod_lt _ (by omega))).2
      · rw [ush7_n]
        have e : 2 ^ (7 * (n + 1) + 8) = 2 ^ (7 * n + 8) * 128 := by rw [show 7 * (n + 1) + 8 = (7 * n + 8) + 7 by omega, Nat.pow_add]
        rw [e] at h
        exact Nat.div_lt_of_lt_mul (by rw [Nat.mul_comm]; exact h)
theorem cB9_255 (v : Int64) : B255 (cB 9 v) := cB_255 9 v (Nat.lt_of_lt_of_le v.toBitVec.isLt (by decide))
theorem wrL_255 (E : cE) (q : Nat) : ∀ i, B255 (wrL E q i).2
  | 0 => cB9_255 _
  | i + 1 => by
    have h := wrL_255 E q i
    unfold wrL
    split
    · exact (h.app (cB9_255 _)).app (cB9_255 _)
    · exact h
theorem ent_eq {M : mT} {E : cE} {p : Nat} (hE : eOK E) (hR : RE M E) (hp : p < 12) : mEnt M p = E.2.2 p := by
  rw [hE p (by omega)]
  exact cnt_cong (fun i hi => (hR p i hp hi).1)
theorem mrL_eq {M : mT} {E : cE} {p : Nat} (hE : eOK E) (hR : RE M E) (hp : p < 12) : ∀ i, i ≤ 100 → mrL M p i = wrL E p i
  | 0, _ => by
    unfold mrL wrL
    rw [ent_eq hE hR hp, cM_cB]
  | i + 1, hi => by
    unfold mrL wrL
    rw [mrL_eq hE hR hp i (by omega), (hR p i hp (by omega)).1, (hR p i hp (by omega)).2, cM_cB, cM_cB]
/-- the draft beside the file -/
def DR (M : mT) (O : cO) : Prop := (O.2.2 1 = false ∧ M.2.2.1 13 = O.2.1 1 ∧ O.2.1 1 ≤ 8000 ∧ ∀ i, i < O.2.1 1 → my M 12 i = oAt O 1 i) ∨ (O.2.2 1 = true ∧ O.2.1 1 = 8000 ∧ 8000 < M.2.2.1 13)
theorem DR_w {M : mT} {O : cO} {x : Int32} (h : DR M O) (hx : x &&& nI 255 = x) : DR (mWr M x) (oApp O 1 x) := by
  rcases h with ⟨h1, h2, h3, h4⟩ | ⟨h1, h2, h3⟩
  · by_cases hl : O.2.1 1 < 8000
    · left
      unfold oApp
      rw [if_pos hl]
      refine ⟨h1, ?_, ?_, fun i hi => ?_⟩
      · show va_up M.2.2.1 13 (M.2.2.1 13 + 1) 13 = va_up O.2.1 1 (O.2.1 1 + 1) 1
        rw [va_up_self, va_up_self, h2]
      · show va_up O.2.1 1 (O.2.1 1 + 1) 1 ≤ 8000
        rw [va_up_self]; omega
      · have hi' : i < O.2.1 1 + 1 := by
          have : i < va_up O.2.1 1 (O.2.1 1 + 1) 1 := hi
          rw [va_up_self] at this
          exact this
        show va_up (M.2.2.2.2.1 12) (M.2.2.1 13) x i = _
        unfold oAt
        rw [if_pos hi]
        dsimp only
        rw [va_up_self, h2]
        by_cases e : i = O.2.1 1
        · rw [e, va_up_self, va_up_self, xb255, hx]
        · rw [va_up_ne _ _ e, va_up_ne _ _ e]
          have := h4 i (by omega)
          rw [show M.2.2.2.2.1 12 i = oAt O 1 i from this]
          unfold oAt
          rw [if_pos (by omega)]
    · right
      unfold oApp
      rw [if_neg hl]
      refine ⟨show va_up O.2.2 1 true 1 = true from va_up_self _ _ _, ?_, ?_⟩
      · show O.2.1 1 = 8000
        omega
      · show 8000 < va_up M.2.2.1 13 (M.2.2.1 13 + 1) 13
        rw [va_up_self]; omega
  · right
    unfold oApp
    rw [if_neg (by omega)]
    refine ⟨show va_up O.2.2 1 true 1 = true from va_up_self _ _ _, h2, ?_⟩
    show 8000 < va_up M.2.2.1 13 (M.2.2.1 13 + 1) 13
    rw [va_up_self]; omega
theorem DR_ws : ∀ {xs : List Int32} {M : mT} {O : cO}, DR M O → B255 xs → DR (mWs M xs) (oApps O 1 xs)
  | [], _, _, h, _ => h
  | x :: xs, M, O, h, hb => DR_ws (xs := xs) (M := mWr M x) (O := oApp O 1 x) (DR_w h (hb x (List.mem_cons_self ..))) (fun y hy => hb y (List.mem_cons_of_mem _ hy))
theorem oApps_f : ∀ {xs : List Int32} {O : cO}, O.2.2 1 = true ∧ O.2.1 1 = 8000 → (oApps O 1 xs).2.2 1 = true ∧ (oApps O 1 xs).2.1 1 = 8000
  | [], _, h => h
  | x :: xs, O, h => oApps_f (xs := xs) (O := oApp O 1 x) (by
      unfold oApp
      rw [if_neg (by omega)]
      exact ⟨show va_up O.2.2 1 true 1 = true from va_up_self _ _ _, h.2⟩)
/-- a section's sum: where the file has room it is the same -/
theorem DR_sum {M M1 : mT} {O O1 : cO} (h : DR M O) (h1 : DR M1 O1) (hm : M.2.2.1 13 ≤ M1.2.2.1 13) (hO : O.2.1 1 ≤ O1.2.1 1) : DR (mWs M1 (b4 (smF (M1.2.2.2.2.1 12) (M.2.2.1 13) (M1.2.2.1 13 - M.2.2.1 13)) 4)) (oApps O1 1 (b4 (smF (oAt O1 1) (O.2.1 1) (O1.2.1 1 - O.2.1 1)) 4)) := by
  rcases h1 with ⟨a1, a2, a3, a4⟩ | ⟨a1, a2, a3⟩
  · have hM : M.2.2.1 13 = O.2.1 1 := by
      rcases h with ⟨_, b2, _⟩ | ⟨_, _, b3⟩
      · exact b2
      · omega
    have e : smF (M1.2.2.2.2.1 12) (M.2.2.1 13) (M1.2.2.1 13 - M.2.2.1 13) = smF (oAt O1 1) (O.2.1 1) (O1.2.1 1 - O.2.1 1) := by
      rw [hM, a2]
      exact smF_cong (fun i _ hi => a4 i (by omega))
    rw [e]
    exact DR_ws (Or.inl ⟨a1, a2, a3, a4⟩) (b4_255 _ _)
  · right
    have := oApps_f (xs := b4 (smF (oAt O1 1) (O.2.1 1) (O1.2.1 1 - O.2.1 1)) 4) ⟨a1, a2⟩
    refine ⟨this.1, this.2, ?_⟩
    rw [mWs_n]
    omega
theorem DR_eq {M M' : mT} {O : cO} (h : DR M O) (h12 : M'.2.2.2.2.1 12 = M.2.2.2.2.1 12) (h13 : M'.2.2.1 13 = M.2.2.1 13) : DR M' O := by
  rcases h with ⟨h1, h2, h3, h4⟩ | ⟨h1, h2, h3⟩
  · exact Or.inl ⟨h1, by rw [h13]; exact h2, h3, fun i hi => by show M'.2.2.2.2.1 12 i = _; rw [h12]; exact h4 i hi⟩
  · exact Or.inr ⟨h1, h2, by rw [h13]; exact h3⟩
/-- the cells that saving changes on its way -/
def mSv (M : mT) (t : Int32) (f12 : Nat → Int32) (n13 : Nat) (z26 : Nat → Bool) (f27 : Nat → Int32) : mT := mY (mZ (mN (mY (mI M 0 t) 12 f12) 13 n13) 26 z26) 27 f27
def SF (M0 M : mT) : Prop := ∃ t f12 n13 z26 f27, M = mSv M0 t f12 n13 z26 f27
theorem sv_id (M : mT) : mSv M (M.1 0) (M.2.2.2.2.1 12) (M.2.2.1 13) (M.2.2.2.1 26) (M.2.2.2.2.1 27) = M := by
  unfold mSv mY mZ mN mI
  dsimp only
  rw [va_up_id rfl, va_up_id rfl, va_up_id rfl, va_up_id rfl, va_up_id rfl]
theorem SF.rf (M : mT) : SF M M := ⟨_, _, _, _, _, (sv_id M).symm⟩
theorem SF.wr {M0 M : mT} (h : SF M0 M) (x : Int32) : SF M0 (mWr M x) := by
  obtain ⟨t, f12, n13, z26, f27, rfl⟩ := h
  refine ⟨t, va_up f12 n13 x, n13 + 1, z26, f27, ?_⟩
  unfold mWr mSv mYi mY mZ mN mI
  refine Prod.ext rfl (Prod.ext rfl (Prod.ext ?_ (Prod.ext rfl (Prod.ext ?_ rfl))))
  · funext a
    by_cases h1 : a = 13
    · subst h1; simp [va_up]
    · simp [va_up, h1]
  · funext a
    by_cases h1 : a = 12
    · subst h1; simp [va_up]
    · by_cases h2 : a = 27
      · subst h2; simp [va_up]
      · simp [va_up, h1, h2]
theorem SF.ws {M0 : mT} : ∀ {xs : List Int32} {M : mT}, SF M0 M → SF M0 (mWs M xs)
  | [], _, h => h
  | x :: xs, M, h => SF.ws (xs := xs) (M := mWr M x) (h.wr x)
theorem SF.z26 {M0 M : mT} (h : SF M0 M) (z : Nat → Bool) : SF M0 (mZ M 26 z) := by
  obtain ⟨t, f12, n13, z26, f27, rfl⟩ := h
  refine ⟨t, f12, n13, z, f27, ?_⟩
  unfold mSv mY mZ mN mI
  dsimp only
  rw [va_up_up]
theorem SF.y27 {M0 M : mT} (h : SF M0 M) (z : Nat → Int32) : SF M0 (mY M 27 z) := by
  obtain ⟨t, f12, n13, z26, f27, rfl⟩ := h
  refine ⟨t, f12, n13, z26, z, ?_⟩
  unfold mSv mY mZ mN mI
  dsimp only
  rw [va_up_up]
theorem SF.n13 {M0 M : mT} (h : SF M0 M) (n : Nat) : SF M0 (mN M 13 n) := by
  obtain ⟨t, f12, n13, z26, f27, rfl⟩ := h
  refine ⟨t, f12, n, z26, f27, ?_⟩
  unfold mSv mY mZ mN mI
  dsimp only
  rw [va_up_up]
theorem SF.t0 {M0 M : mT} (h : SF M0 M) : SF M0 (mT0 M) := by
  obtain ⟨t, f12, n13, z26, f27, rfl⟩ := h
  refine ⟨nI 0, f12, n13, z26, f27, ?_⟩
  unfold mT0 mSv mY mZ mN mI
  dsimp only
  rw [va_up_up]
theorem SF.RB {M0 M : mT} {E : cE} {S : cS} {O : cO} (h : SF M0 M) (hB : RB M0 E S O) : RB M E S O := by
  obtain ⟨t, f12, n13, z26, f27, rfl⟩ := h
  exact RB_fr hB rfl rfl rfl rfl rfl rfl rfl rfl rfl rfl rfl
/-- other octets stay -/
theorem oApp_o (O : cO) (x : Int32) : (oApp O 1 x).1 0 = O.1 0 ∧ (oApp O 1 x).2.1 0 = O.2.1 0 := by
  unfold oApp
  split
  · exact ⟨rfl, rfl⟩
  · exact ⟨rfl, rfl⟩
theorem oApps_o : ∀ (xs : List Int32) (O : cO), (oApps O 1 xs).1 0 = O.1 0 ∧ (oApps O 1 xs).2.1 0 = O.2.1 0
  | [], _ => ⟨rfl, rfl⟩
  | x :: xs, O => ⟨(oApps_o xs (oApp O 1 x)).1.trans (oApp_o O x).1, (oApps_o xs (oApp O 1 x)).2.trans (oApp_o O x).2⟩
/-- bits that are set -/
theorem bcI_ab : ∀ a, a < 64 → ∀ b, b < 64 → bcI (nI (64 * a + b)) = nI (cnt (bt (nI (64 * a + b))) 12) := by decide +kernel
theorem bcI_n (n : Nat) (h : n < 4096) : bcI (nI n) = nI (cnt (bt (nI n)) 12) := by
  have := bcI_ab (n / 64) (by omega) (n % 64) (by omega)
  rw [show 64 * (n / 64) + n % 64 = n by omega] at this
  exact this
theorem bcI_c {w : Int32} (h : ∀ i, 12 ≤ i → bt w i = false) : bcI w = nI (cnt (bt w) 12) := by
  have e : w = nI (w.toBitVec.toNat % 4096) := by
    rw [← pk_and w (m := nI 4095) 12 (by decide)]
    refine b_ext (fun i hi => ?_)
    rw [b_and]
    by_cases g : i < 12
    · rw [show bt (nI 4095) i = true from (by revert i; decide +kernel : ∀ i, i < 12 → bt (nI 4095) i = true) i g, Bool.and_true]
    · rw [h i (by omega), Bool.false_and]
  rw [e]
  exact bcI_n _ (Nat.mod_lt _ (by omega))
theorem pwE_bt {E : cE} {p : Nat} (hp : p < 32) : ∀ n, n ≤ 32 → bt (pwE E n) p = (decide (p < n) && decide (0 < E.2.2 p))
  | 0, _ => by
    show bt (nI 0) p = _
    rw [show nI 0 = (0 : Int32) from rfl, b_0, decide_eq_false (by omega)]
    rfl
  | n + 1, hn => by
    have ih := pwE_bt (E := E) hp n (by omega)
    unfold pwE
    by_cases hl : 0 < E.2.2 n
    · rw [if_pos hl, b_or, ih, bt_bit (by omega) hp]
      by_cases e : p = n
      · subst e
        simp [hl]
      · rw [show decide (p < n + 1) = decide (p < n) by rw [decide_eq_decide]; omega, decide_eq_false e, Bool.or_false]
    · rw [if_neg hl, ih]
      by_cases e : p = n
      · subst e
        simp [hl]
      · rw [show decide (p < n + 1) = decide (p < n) by rw [decide_eq_decide]; omega]
