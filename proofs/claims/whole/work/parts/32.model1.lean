set_option maxHeartbeats 1000000 in
set_option maxRecDepth 100000 in
theorem em_thrown (l : Launch) (G : xD) (g sz : Nat) (M : mT) (w0 : xw) : xM l G yX7_thrown cX7_thrown 1 (some .int) 0 0 0 [.ref g] sz (wM G g (M) w0) (some (.int (M.1 0))) (sz) (wM G g (M) w0) := by
  refine xM_of (by decide) (Nat.le_of_ble_eq_true rfl) ?_
  intro A p e s m args below meth c hC hr hname
  have hC : xC p s m args meth c cX7_thrown 1 RX7 G A := hC
  have hr : meth.sig.returnType = (some .int) := hr
  show xV p l e _ s m args below meth c G A 1 _ sz _ 0 0 0 [(0, .ref g)] []
  refine xv_aload_n hC dX7_thrown_0 rfl rfl ?_
  refine tg_X7_0 hC fl_X7_64 dX7_thrown_1 ?_
  exact xv_ireturn hC hr dX7_thrown_4 rfl rfl rfl
set_option maxHeartbeats 1000000 in
set_option maxRecDepth 100000 in
theorem em_in (l : Launch) (G : xD) (sz : Nat) (w : xw) (v a b : Int64) : xM l G yX7_in cX7_in 6 (some .boolean) 0 0 0 [.long v, .long a, .long b] sz (w) (some (.int (cI (inL v a b)))) (sz) (w) := by
  refine xM_of (by decide) (Nat.le_of_ble_eq_true rfl) ?_
  intro A p e s m args below meth c hC hr hname
  have hC : xC p s m args meth c cX7_in 6 RX7 G A := hC
  have hr : meth.sig.returnType = (some .boolean) := hr
  show xV p l e _ s m args below meth c G A 6 _ sz _ 0 0 0 [(0, .long v), (2, .long a), (4, .long b)] []
  refine xv_lload_n hC dX7_in_0 rfl rfl ?_
  refine xv_lload_n hC dX7_in_1 rfl rfl ?_
  refine xv_lcmp hC dX7_in_2 ?_
  refine xv_if_lt (tgt := 17) hC dX7_in_3 (by decide) (fun h3 => ?_) (fun h3 => ?_)
  · rw [lg_cmp_lt] at h3
    have h3 := Int64.not_le.mpr h3
    refine xv_iconst (v := nI 0) hC dX7_in_17 (by decide) ?_
    exact xv_zreturn hC hr (by rfl) dX7_in_18 (by first | (apply rN1; simp [inL, h3, h10]; done) | (apply rN0; simp [inL, h3, h10]; done) | (apply rN0; simp [inL, h3]; done)) rfl rfl
  · rw [lg_cmp_lt] at h3
    have h3 := Int64.not_lt.mp h3
    refine xv_lload_n hC dX7_in_6 rfl rfl ?_
    refine xv_lload hC dX7_in_7 rfl ?_
    refine xv_lcmp hC dX7_in_9 ?_
    refine xv_if_gt (tgt := 17) hC dX7_in_10 (by decide) (fun h10 => ?_) (fun h10 => ?_)
    · rw [lg_cmp_gt] at h10
      have h10 := Int64.not_le.mpr h10
      refine xv_iconst (v := nI 0) hC dX7_in_17 (by decide) ?_
      exact xv_zreturn hC hr (by rfl) dX7_in_18 (by first | (apply rN1; simp [inL, h3, h10]; done) | (apply rN0; simp [inL, h3, h10]; done) | (apply rN0; simp [inL, h3]; done)) rfl rfl
    · rw [lg_cmp_gt] at h10
      have h10 := Int64.not_lt.mp h10
      refine xv_iconst (v := nI 1) hC dX7_in_13 (by decide) ?_
      refine xv_goto (tgt := 18) hC dX7_in_14 (by decide) ?_
      exact xv_zreturn hC hr (by rfl) dX7_in_18 (by first | (apply rN1; simp [inL, h3, h10]; done) | (apply rN0; simp [inL, h3, h10]; done) | (apply rN0; simp [inL, h3]; done)) rfl rfl
set_option maxHeartbeats 1000000 in
set_option maxRecDepth 100000 in
theorem em_isPart (l : Launch) (G : xD) (sz : Nat) (w : xw) (x : Int32) : xM l G yX7_isPart cX7_isPart 1 (some .boolean) 0 0 0 [.int x] sz (w) (some (.int (cI (xIn x 12)))) (sz) (w) := by
  refine xM_of (by decide) (Nat.le_of_ble_eq_true rfl) ?_
  intro A p e s m args below meth c hC hr hname
  have hC : xC p s m args meth c cX7_isPart 1 RX7 G A := hC
  have hr : meth.sig.returnType = (some .boolean) := hr
  show xV p l e _ s m args below meth c G A 1 _ sz _ 0 0 0 [(0, .int x)] []
  refine xv_iload_n hC dX7_isPart_0 rfl rfl ?_
  refine xv_if_lt (tgt := 14) hC dX7_isPart_1 (by decide) (fun h1 => ?_) (fun h1 => ?_)
  · refine xv_iconst (v := nI 0) hC dX7_isPart_14 (by decide) ?_
    exact xv_zreturn hC hr (by rfl) dX7_isPart_15 (by first | exact rN0 (by simp [xIn, *]) | exact rN1 (by simp [xIn, *])) rfl rfl
  · refine xv_iload_n hC dX7_isPart_4 rfl rfl ?_
    refine xv_bipush (v := nI 12) hC dX7_isPart_5 (by decide) ?_
    refine xv_icmp_ge (tgt := 14) hC dX7_isPart_7 (by decide) (fun h7 => ?_) (fun h7 => ?_)
    · refine xv_iconst (v := nI 0) hC dX7_isPart_14 (by decide) ?_
      exact xv_zreturn hC hr (by rfl) dX7_isPart_15 (by first | exact rN0 (by simp [xIn, *]) | exact rN1 (by simp [xIn, *])) rfl rfl
    · refine xv_iconst (v := nI 1) hC dX7_isPart_10 (by decide) ?_
      refine xv_goto (tgt := 15) hC dX7_isPart_11 (by decide) ?_
      exact xv_zreturn hC hr (by rfl) dX7_isPart_15 (by first | exact rN0 (by simp [xIn, *]) | exact rN1 (by simp [xIn, *])) rfl rfl
set_option maxHeartbeats 1000000 in
set_option maxRecDepth 100000 in
theorem em_entries (l : Launch) (G : xD) (g sz : Nat) (M : mT) (w0 : xw) {p1 : Nat} (hp : p1 < 12) : xM l G yX7_entries cX7_entries 4 (some .int) 0 0 0 [.ref g, .int (nI p1)] sz (wM G g (M) w0) (some (.int (nI (mEnt M p1)))) (sz) (wM G g (M) w0) := by
  refine xM_of (by decide) (Nat.le_of_ble_eq_true rfl) ?_
  intro A p e s m args below meth c hC hr hname
  have hC : xC p s m args meth c cX7_entries 4 RX7 G A := hC
  have hr : meth.sig.returnType = (some .int) := hr
  show xV p l e _ s m args below meth c G A 4 _ sz _ 0 0 0 [(0, .ref g), (1, .int (nI p1))] []
  refine xv_iconst (v := nI 0) hC dX7_entries_0 (by decide) ?_
  refine xv_istore_n hC dX7_entries_1 rfl (by decide) ?_
  refine xv_iconst (v := nI 0) hC dX7_entries_2 (by decide) ?_
  refine xv_istore_n hC dX7_entries_3 rfl (by decide) ?_
  have Lp4 : ∀ (n i : Nat), (i ≤ 100) → (100 < i + n) → xV p l e (xr 0 0 0) s m args below meth c G A 4 (MQ below (xQ G A (some (.int (nI (mEnt M p1)))) (sz) (wM G g (M) w0)) args s 0 0 A) sz (wM G g (M) w0) 0 0 4 [(3, .int (nI i)), (2, .int (nI (cnt (mHas M p1) i))), (0, .ref g), (1, .int (nI p1))] [] := by
    intro n
    induction n with
    | zero =>
      intro i hi hn
      omega
    | succ n ih4 =>
      intro i hi hn
      refine xv_iload_n hC dX7_entries_4 rfl rfl ?_
      refine xv_bipush (v := nI 100) hC dX7_entries_5 (by decide) ?_
      refine xv_icmp_ge (tgt := 38) hC dX7_entries_7 (by decide) (fun h7 => ?_) (fun h7 => ?_)
      · try simp (disch := omega) only [nI_leI, nI_ltI, nI_eq, xz_eq, xz_le, xz_gt, cI_0, cI_n0, cI_inj, lg_cmp_ge, lg_cmp_le, lg_cmp_gt, lg_cmp_lt, lg_cmp_eq, Bool.not_eq_true, Bool.not_eq_false, Nat.not_le, Nat.not_lt] at h7
        refine xv_iload_n hC dX7_entries_38 rfl rfl ?_
        exact xv_ireturn hC hr dX7_entries_39 (by rw [show i = 100 by omega]; rfl) rfl rfl
      · try simp (disch := omega) only [nI_leI, nI_ltI, nI_eq, xz_eq, xz_le, xz_gt, cI_0, cI_n0, cI_inj, lg_cmp_ge, lg_cmp_le, lg_cmp_gt, lg_cmp_lt, lg_cmp_eq, Bool.not_eq_true, Bool.not_eq_false, Nat.not_le, Nat.not_lt] at h7
        refine xv_aload_n hC dX7_entries_10 rfl rfl ?_
        refine tg_X7_1 hC fl_X7_7 dX7_entries_11 ?_
        refine xv_bipush (v := nI 100) hC dX7_entries_14 (by decide) ?_
        refine xv_iload_n hC dX7_entries_16 rfl rfl ?_
        refine xv_imul hC dX7_entries_17 ?_
        refine xv_iload_n hC dX7_entries_18 rfl rfl ?_
        refine xv_iadd hC dX7_entries_19 ?_
        refine xv_cast (congrArg Value.int (ixm _ _ _)) ?_
        refine al_m_has hC dX7_entries_20 rfl (by first | assumption | omega) ?_
        refine xv_if_eq (tgt := 30) hC dX7_entries_21 (by decide) (fun h21 => ?_) (fun h21 => ?_)
        · try simp (disch := omega) only [nI_leI, nI_ltI, nI_eq, xz_eq, xz_le, xz_gt, cI_0, cI_n0, cI_inj, lg_cmp_ge, lg_cmp_le, lg_cmp_gt, lg_cmp_lt, lg_cmp_eq, Bool.not_eq_true, Bool.not_eq_false, Nat.not_le, Nat.not_lt] at h21
          refine xv_iload_n hC dX7_entries_30 rfl rfl ?_
          refine xv_istore_n hC dX7_entries_31 rfl (by decide) ?_
          refine xv_iinc hC dX7_entries_32 rfl (xinc _) (by decide) ?_
          refine xv_goto (tgt := 4) hC dX7_entries_35 (by decide) ?_
          refine xV.to [(3, .int (nI (i + 1))), (2, .int (nI (cnt (mHas M p1) (i + 1)))), (0, .ref g), (1, .int (nI p1))] ⟨rfl, congrArg (fun z => some (Value.int (nI z))) (show _ = cnt (mHas M p1) (i + 1) by simp [cnt, mHas, h21]), rfl, rfl, trivial⟩ ?_
          exact ih4 (i + 1) (by omega) (by omega)
        · try simp (disch := omega) only [nI_leI, nI_ltI, nI_eq, xz_eq, xz_le, xz_gt, cI_0, cI_n0, cI_inj, lg_cmp_ge, lg_cmp_le, lg_cmp_gt, lg_cmp_lt, lg_cmp_eq, Bool.not_eq_true, Bool.not_eq_false, Nat.not_le, Nat.not_lt] at h21
          refine xv_iload_n hC dX7_entries_24 rfl rfl ?_
          refine xv_iconst (v := nI 1) hC dX7_entries_25 (by decide) ?_
          refine xv_iadd hC dX7_entries_26 ?_
          refine xv_cast (congrArg Value.int (nI_add _ _)) ?_
          refine xv_goto (tgt := 31) hC dX7_entries_27 (by decide) ?_
          refine xv_istore_n hC dX7_entries_31 rfl (by decide) ?_
          refine xv_iinc hC dX7_entries_32 rfl (xinc _) (by decide) ?_
          refine xv_goto (tgt := 4) hC dX7_entries_35 (by decide) ?_
          refine xV.to [(3, .int (nI (i + 1))), (2, .int (nI (cnt (mHas M p1) (i + 1)))), (0, .ref g), (1, .int (nI p1))] ⟨rfl, congrArg (fun z => some (Value.int (nI z))) (show _ = cnt (mHas M p1) (i + 1) by simp [cnt, mHas, h21]), rfl, rfl, trivial⟩ ?_
          exact ih4 (i + 1) (by omega) (by omega)
  exact Lp4 101 0 (by omega) (by omega)
set_option maxHeartbeats 1000000 in
set_option maxRecDepth 100000 in
theorem em_set (l : Launch) (G : xD) (g sz : Nat) (M : mT) (w0 : xw) {p1 i1 : Nat} (hp : p1 < 12) (hi : i1 < 100) (v : Int64) : xM l G yX7_set cX7_set 6 none 0 0 0 [.ref g, .int (nI p1), .int (nI i1), .long v] sz (wM G g (M) w0) (none) (sz) (wM G g (mSet M p1 i1 v) w0) := by
  refine xM_of (by decide) (Nat.le_of_ble_eq_true rfl) ?_
  intro A p e s m args below meth c hC hr hname
  have hC : xC p s m args meth c cX7_set 6 RX7 G A := hC
  have hr : meth.sig.returnType = none := hr
  show xV p l e _ s m args below meth c G A 6 _ sz _ 0 0 0 [(0, .ref g), (1, .int (nI p1)), (2, .int (nI i1)), (3, .long v)] []
  refine xv_bipush (v := nI 100) hC dX7_set_0 (by decide) ?_
  refine xv_iload_n hC dX7_set_2 rfl rfl ?_
  refine xv_imul hC dX7_set_3 ?_
  refine xv_iload_n hC dX7_set_4 rfl rfl ?_
  refine xv_iadd hC dX7_set_5 ?_
  refine xv_cast (congrArg Value.int (ixm _ _ _)) ?_
  refine xv_istore hC dX7_set_6 (by decide) ?_
  have J50 : xV p l e (xr 0 0 0) s m args below meth c G A 6 (MQ below (xQ G A (none) (sz) (wM G g (mSet M p1 i1 v) w0)) args s 0 0 A) sz (wM G g (mZi M 4 p1 (mz M 4 p1 || (!mz M 1 (100 * p1 + i1) || !decide (mj M 2 (100 * p1 + i1) = v)))) w0) 0 0 50 [(5, .int (nI (100 * p1 + i1))), (0, .ref g), (1, .int (nI p1)), (2, .int (nI i1)), (3, .long v)] [] := by
    refine xv_aload_n hC dX7_set_50 rfl rfl ?_
    refine tg_X7_1 hC fl_X7_7 dX7_set_51 ?_
    refine xv_iload hC dX7_set_54 rfl ?_
    refine xv_iconst (v := nI 1) hC dX7_set_56 (by decide) ?_
    refine as_m_has hC dX7_set_57 rfl (by first | assumption | omega) (by first | exact cI_c1 | exact cI_c0 | rfl) ?_
    refine xv_aload_n hC dX7_set_58 rfl rfl ?_
    refine tg_X7_2 hC fl_X7_13 dX7_set_59 ?_
    refine xv_iload hC dX7_set_62 rfl ?_
    refine xv_lload_n hC dX7_set_64 rfl rfl ?_
    refine as_m_values hC dX7_set_65 rfl (by first | assumption | omega) ?_
    exact xv_return hC hr dX7_set_66 rfl rfl rfl
  refine xv_aload_n hC dX7_set_8 rfl rfl ?_
  refine tg_X7_4 hC fl_X7_20 dX7_set_9 ?_
  refine xv_iload_n hC dX7_set_12 rfl rfl ?_
  refine xv_aload_n hC dX7_set_13 rfl rfl ?_
  refine tg_X7_4 hC fl_X7_20 dX7_set_14 ?_
  refine xv_iload_n hC dX7_set_17 rfl rfl ?_
  refine al_m_changed hC dX7_set_18 rfl (by first | assumption | omega) ?_
  refine xv_if_ne (tgt := 44) hC dX7_set_19 (by decide) (fun h19 => ?_) (fun h19 => ?_)
  · try simp (disch := omega) only [nI_leI, nI_ltI, nI_eq, xz_eq, xz_le, xz_gt, cI_0, cI_n0, cI_inj, lg_cmp_ge, lg_cmp_le, lg_cmp_gt, lg_cmp_lt, lg_cmp_eq, Bool.not_eq_true, Bool.not_eq_false, Nat.not_le, Nat.not_lt] at h19
    refine xv_iconst (v := nI 1) hC dX7_set_44 (by decide) ?_
    refine xv_goto (tgt := 49) hC dX7_set_45 (by decide) ?_
    refine as_m_changed hC dX7_set_49 rfl (by first | assumption | omega) (by first | exact cI_c1 | exact cI_c0 | rfl) ?_
    refine xv_world (show _ = wM G g (mZi M 4 p1 (mz M 4 p1 || (!mz M 1 (100 * p1 + i1) || !decide (mj M 2 (100 * p1 + i1) = v)))) w0 by simp [mz, mj, *]) ?_
    exact J50
  · try simp (disch := omega) only [nI_leI, nI_ltI, nI_eq, xz_eq, xz_le, xz_gt, cI_0, cI_n0, cI_inj, lg_cmp_ge, lg_cmp_le, lg_cmp_gt, lg_cmp_lt, lg_cmp_eq, Bool.not_eq_true, Bool.not_eq_false, Nat.not_le, Nat.not_lt] at h19
    refine xv_aload_n hC dX7_set_22 rfl rfl ?_
    refine tg_X7_1 hC fl_X7_7 dX7_set_23 ?_
    refine xv_iload hC dX7_set_26 rfl ?_
    refine al_m_has hC dX7_set_28 rfl (by first | assumption | omega) ?_
    refine xv_if_eq (tgt := 44) hC dX7_set_29 (by decide) (fun h29 => ?_) (fun h29 => ?_)
    · try simp (disch := omega) only [nI_leI, nI_ltI, nI_eq, xz_eq, xz_le, xz_gt, cI_0, cI_n0, cI_inj, lg_cmp_ge, lg_cmp_le, lg_cmp_gt, lg_cmp_lt, lg_cmp_eq, Bool.not_eq_true, Bool.not_eq_false, Nat.not_le, Nat.not_lt] at h29
      refine xv_iconst (v := nI 1) hC dX7_set_44 (by decide) ?_
      refine xv_goto (tgt := 49) hC dX7_set_45 (by decide) ?_
      refine as_m_changed hC dX7_set_49 rfl (by first | assumption | omega) (by first | exact cI_c1 | exact cI_c0 | rfl) ?_
      refine xv_world (show _ = wM G g (mZi M 4 p1 (mz M 4 p1 || (!mz M 1 (100 * p1 + i1) || !decide (mj M 2 (100 * p1 + i1) = v)))) w0 by simp [mz, mj, *]) ?_
      exact J50
    · try simp (disch := omega) only [nI_leI, nI_ltI, nI_eq, xz_eq, xz_le, xz_gt, cI_0, cI_n0, cI_inj, lg_cmp_ge, lg_cmp_le, lg_cmp_gt, lg_cmp_lt, lg_cmp_eq, Bool.not_eq_true, Bool.not_eq_false, Nat.not_le, Nat.not_lt] at h29
      refine xv_aload_n hC dX7_set_32 rfl rfl ?_
      refine tg_X7_2 hC fl_X7_13 dX7_set_33 ?_
      refine xv_iload hC dX7_set_36 rfl ?_
      refine al_m_values hC dX7_set_38 rfl (by first | assumption | omega) ?_
      refine xv_lload_n hC dX7_set_39 rfl rfl ?_
      refine xv_lcmp hC dX7_set_40 ?_
      refine xv_if_eq (tgt := 48) hC dX7_set_41 (by decide) (fun h41 => ?_) (fun h41 => ?_)
      · rw [lg_cmp_eq] at h41
        refine xv_iconst (v := nI 0) hC dX7_set_48 (by decide) ?_
        refine as_m_changed hC dX7_set_49 rfl (by first | assumption | omega) (by first | exact cI_c1 | exact cI_c0 | rfl) ?_
        refine xv_world (show _ = wM G g (mZi M 4 p1 (mz M 4 p1 || (!mz M 1 (100 * p1 + i1) || !decide (mj M 2 (100 * p1 + i1) = v)))) w0 by simp [mz, mj, *]) ?_
        exact J50
      · rw [lg_cmp_eq] at h41
        refine xv_iconst (v := nI 1) hC dX7_set_44 (by decide) ?_
        refine xv_goto (tgt := 49) hC dX7_set_45 (by decide) ?_
        refine as_m_changed hC dX7_set_49 rfl (by first | assumption | omega) (by first | exact cI_c1 | exact cI_c0 | rfl) ?_
        refine xv_world (show _ = wM G g (mZi M 4 p1 (mz M 4 p1 || (!mz M 1 (100 * p1 + i1) || !decide (mj M 2 (100 * p1 + i1) = v)))) w0 by simp [mz, mj, *]) ?_
        exact J50
set_option maxHeartbeats 1000000 in
set_option maxRecDepth 100000 in
theorem em_remove (l : Launch) (G : xD) (g sz : Nat) (M : mT) (w0 : xw) {p1 i1 : Nat} (hp : p1 < 12) (hi : i1 < 100) : xM l G yX7_remove cX7_remove 4 (some .boolean) 0 0 0 [.ref g, .int (nI p1), .int (nI i1)] sz (wM G g (M) w0) (some (.int (cI (mz M 1 (100 * p1 + i1))))) (sz) (wM G g (mRem M p1 i1) w0) := by
  refine xM_of (by decide) (Nat.le_of_ble_eq_true rfl) ?_
  intro A p e s m args below meth c hC hr hname
  have hC : xC p s m args meth c cX7_remove 4 RX7 G A := hC
  have hr : meth.sig.returnType = (some .boolean) := hr
  show xV p l e _ s m args below meth c G A 4 _ sz _ 0 0 0 [(0, .ref g), (1, .int (nI p1)), (2, .int (nI i1))] []
  refine xv_aload_n hC dX7_remove_0 rfl rfl ?_
  refine tg_X7_1 hC fl_X7_7 dX7_remove_1 ?_
  refine xv_bipush (v := nI 100) hC dX7_remove_4 (by decide) ?_
  refine xv_iload_n hC dX7_remove_6 rfl rfl ?_
  refine xv_imul hC dX7_remove_7 ?_
  refine xv_iload_n hC dX7_remove_8 rfl rfl ?_
  refine xv_iadd hC dX7_remove_9 ?_
  refine xv_cast (congrArg Value.int (ixm _ _ _)) ?_
  refine al_m_has hC dX7_remove_10 rfl (by first | assumption | omega) ?_
  refine xv_istore_n hC dX7_remove_11 rfl (by decide) ?_
  refine xv_aload_n hC dX7_remove_12 rfl rfl ?_
  refine tg_X7_1 hC fl_X7_7 dX7_remove_13 ?_
  refine xv_bipush (v := nI 100) hC dX7_remove_16 (by decide) ?_
  refine xv_iload_n hC dX7_remove_18 rfl rfl ?_
  refine xv_imul hC dX7_remove_19 ?_
  refine xv_iload_n hC dX7_remove_20 rfl rfl ?_
  refine xv_iadd hC dX7_remove_21 ?_
  refine xv_cast (congrArg Value.int (ixm _ _ _)) ?_
  refine xv_iconst (v := nI 0) hC dX7_remove_22 (by decide) ?_
  refine as_m_has hC dX7_remove_23 rfl (by first | assumption | omega) (by first | exact cI_c1 | exact cI_c0 | rfl) ?_
  refine xv_aload_n hC dX7_remove_24 rfl rfl ?_
  refine tg_X7_4 hC fl_X7_20 dX7_remove_25 ?_
  refine xv_iload_n hC dX7_remove_28 rfl rfl ?_
  refine xv_aload_n hC dX7_remove_29 rfl rfl ?_
  refine tg_X7_4 hC fl_X7_20 dX7_remove_30 ?_
  refine xv_iload_n hC dX7_remove_33 rfl rfl ?_
  refine al_m_changed hC dX7_remove_34 rfl (by first | assumption | omega) ?_
  refine xv_if_ne (tgt := 42) hC dX7_remove_35 (by decide) (fun h35 => ?_) (fun h35 => ?_)
  · have h35 : mz M 4 p1 = true := cI_n0.mp h35
    refine xv_iconst (v := nI 1) hC dX7_remove_42 (by decide) ?_
    refine xv_goto (tgt := 47) hC dX7_remove_43 (by decide) ?_
    refine as_m_changed hC dX7_remove_47 rfl (by first | assumption | omega) (by first | exact cI_c1 | exact cI_c0 | rfl) ?_
    refine xv_iload_n hC dX7_remove_48 rfl rfl ?_
    exact xv_zreturn hC hr (by first | rfl | exact cI_nar _) dX7_remove_49 rfl rfl (by first | rw [mRem, h35, h39]; rfl | rw [mRem, h35]; rfl)
  · have h35 : mz M 4 p1 = false := cI_0.mp h35
    refine xv_iload_n hC dX7_remove_38 rfl rfl ?_
    refine xv_if_eq (tgt := 46) hC dX7_remove_39 (by decide) (fun h39 => ?_) (fun h39 => ?_)
    · have h39 : mz M 1 (100 * p1 + i1) = false := cI_0.mp h39
      refine xv_iconst (v := nI 0) hC dX7_remove_46 (by decide) ?_
      refine as_m_changed hC dX7_remove_47 rfl (by first | assumption | omega) (by first | exact cI_c1 | exact cI_c0 | rfl) ?_
      refine xv_iload_n hC dX7_remove_48 rfl rfl ?_
      exact xv_zreturn hC hr (by first | rfl | exact cI_nar _) dX7_remove_49 rfl rfl (by first | rw [mRem, h35, h39]; rfl | rw [mRem, h35]; rfl)
    · have h39 : mz M 1 (100 * p1 + i1) = true := cI_n0.mp h39
      refine xv_iconst (v := nI 1) hC dX7_remove_42 (by decide) ?_
      refine xv_goto (tgt := 47) hC dX7_remove_43 (by decide) ?_
      refine as_m_changed hC dX7_remove_47 rfl (by first | assumption | omega) (by first | exact cI_c1 | exact cI_c0 | rfl) ?_
      refine xv_iload_n hC dX7_remove_48 rfl rfl ?_
      exact xv_zreturn hC hr (by first | rfl | exact cI_nar _) dX7_remove_49 rfl rfl (by first | rw [mRem, h35, h39]; rfl | rw [mRem, h35]; rfl)
