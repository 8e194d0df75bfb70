set_option maxHeartbeats 1000000 in
set_option maxRecDepth 100000 in
theorem em_needs_true (l : Launch) (G : xD) (g sz : Nat) (M : mT) (w0 : xw) (x y : Int32) : xM l G yX7_needs cX7_needs 4 (some .int) 1 0 0 [.ref g, .int x, .int y, .int (cI true)] sz (wM G g (M) w0) (some (.int (mNeV M x y true))) (sz) (wM G g (mNeM M x y true) w0) := by
  refine xM_of (by decide) (Nat.le_of_ble_eq_true rfl) ?_
  intro A p e s m args below meth c hC hr hname
  have hC : xC p s m args meth c cX7_needs 4 RX7 G A := hC
  have hr : meth.sig.returnType = (some .int) := hr
  show xV p l e _ s m args below meth c G A 4 _ sz _ 0 0 0 [(0, .ref g), (1, .int x), (2, .int y), (3, .int (cI true))] []
  refine xv_aload_n hC dX7_needs_0 rfl rfl ?_
  refine xv_iconst (v := nI 0) hC dX7_needs_1 (by decide) ?_
  refine tp_X7_0 hC fl_X7_64 dX7_needs_2 ?_
  refine xv_iload_n hC dX7_needs_5 rfl rfl ?_
  refine xv_callS hC Y_yX7_isPart sm_yX7_isPart ml_X7_67 dX7_needs_6 (em_isPart l G sz _ x) rfl rfl (Nat.le_of_ble_eq_true rfl) ⟨Nat.le_of_ble_eq_true rfl, Nat.le_of_ble_eq_true rfl⟩ ⟨Nat.le_of_ble_eq_true rfl, Nat.le_of_ble_eq_true rfl⟩ ?_
  refine xv_rs ?_
  refine xv_if_eq (tgt := 19) hC dX7_needs_9 (by decide) (fun h9 => ?_) (fun h9 => ?_)
  · try simp (disch := omega) only [nI_leI, nI_ltI, nI_eq, xz_eq, xz_le, xz_gt, cI_0, cI_n0, cI_inj, lg_cmp_ge, lg_cmp_le, lg_cmp_gt, lg_cmp_lt, lg_cmp_eq, Bool.not_eq_true, Bool.not_eq_false, Nat.not_le, Nat.not_lt] at h9
    refine xv_iconst (v := -1) hC dX7_needs_19 (by decide) ?_
    exact xv_ireturn hC hr dX7_needs_20 (rI (mNe_1 (by first | exact Or.inr h16 | exact Or.inl h9)).1) rfl (by rw [(mNe_1 (by first | exact Or.inr h16 | exact Or.inl h9)).2]; rfl)
  · rw [cI_n0] at h9
    have hx := xIn_cl (by omega) h9
    have hx1 := hx.1
    refine xv_iload_n hC dX7_needs_12 rfl rfl ?_
    refine xv_callS hC Y_yX7_isPart sm_yX7_isPart ml_X7_67 dX7_needs_13 (em_isPart l G sz _ y) rfl rfl (Nat.le_of_ble_eq_true rfl) ⟨Nat.le_of_ble_eq_true rfl, Nat.le_of_ble_eq_true rfl⟩ ⟨Nat.le_of_ble_eq_true rfl, Nat.le_of_ble_eq_true rfl⟩ ?_
    refine xv_rs ?_
    refine xv_if_ne (tgt := 21) hC dX7_needs_16 (by decide) (fun h16 => ?_) (fun h16 => ?_)
    · rw [cI_n0] at h16
      have hy := xIn_cl (by omega) h16
      have hy1 := hy.1
      refine xv_aload_n hC dX7_needs_21 rfl rfl ?_
      refine tg_X7_3 hC fl_X7_17 dX7_needs_22 ?_
      refine xv_bipush (v := nI 12) hC dX7_needs_25 (by decide) ?_
      refine xv_iload_n hC dX7_needs_27 rfl rfl ?_
      refine xv_cast (congrArg Value.int hx.2) ?_
      refine xv_imul hC dX7_needs_28 ?_
      refine xv_iload_n hC dX7_needs_29 rfl rfl ?_
      refine xv_cast (congrArg Value.int hy.2) ?_
      refine xv_iadd hC dX7_needs_30 ?_
      refine xv_cast (congrArg Value.int (ixm _ _ _)) ?_
      refine al_m_needed hC dX7_needs_31 rfl (by first | assumption | omega) ?_
      refine xv_iload_n hC dX7_needs_32 rfl rfl ?_
      refine xv_icmp_ne (tgt := 38) hC dX7_needs_33 (by decide) (fun h33 => ?_) (fun h33 => ?_)
      · have h33 : ¬ mz M 3 (12 * cl x + cl y) = true := fun z => h33 (congrArg cI z)
        refine xv_iload_n hC dX7_needs_38 rfl rfl ?_
        refine xv_if_eq (tgt := 54) hC dX7_needs_39 (by decide) (fun h39 => ?_) (fun h39 => ?_)
        · exact absurd h39 (by decide)
        · refine xv_aload_n hC dX7_needs_42 rfl rfl ?_
          refine xv_iload_n hC dX7_needs_43 rfl rfl ?_
          refine xv_cast (congrArg Value.int hy.2) ?_
          refine xv_iload_n hC dX7_needs_44 rfl rfl ?_
          refine xv_cast (congrArg Value.int hx.2) ?_
          refine xv_callV hC Y_yX7_reaches im_yX7_reaches se_yX7_reaches ml_X7_93 dX7_needs_45 (em_reaches l G g sz (mT0 M) w0 (f1 := cl y) (t1 := cl x) hy1 hx1) (ml_w_obj _ _ _ _) rfl rfl rfl (Nat.le_of_ble_eq_true rfl) ⟨Nat.le_of_ble_eq_true rfl, Nat.le_of_ble_eq_true rfl⟩ ⟨Nat.le_of_ble_eq_true rfl, Nat.le_of_ble_eq_true rfl⟩ ?_
          refine xv_rs ?_
          refine xv_if_eq (tgt := 54) hC dX7_needs_48 (by decide) (fun h48 => ?_) (fun h48 => ?_)
          · have h48 : mReach (mT0 M) (cl y) (cl x) = false := cI_0.mp h48
            refine xv_aload_n hC dX7_needs_54 rfl rfl ?_
            refine tg_X7_3 hC fl_X7_17 dX7_needs_55 ?_
            refine xv_bipush (v := nI 12) hC dX7_needs_58 (by decide) ?_
            refine xv_iload_n hC dX7_needs_60 rfl rfl ?_
            refine xv_cast (congrArg Value.int hx.2) ?_
            refine xv_imul hC dX7_needs_61 ?_
            refine xv_iload_n hC dX7_needs_62 rfl rfl ?_
            refine xv_cast (congrArg Value.int hy.2) ?_
            refine xv_iadd hC dX7_needs_63 ?_
            refine xv_cast (congrArg Value.int (ixm _ _ _)) ?_
            refine xv_iload_n hC dX7_needs_64 rfl rfl ?_
            refine xv_cast (show _ = Value.int (cI true) from rfl) ?_
            refine as_m_needed hC dX7_needs_65 rfl (by first | assumption | omega) (by first | exact cI_c1 | exact cI_c0 | rfl) ?_
            refine xv_iconst (v := nI 1) hC dX7_needs_66 (by decide) ?_
            exact xv_ireturn hC hr dX7_needs_67 (rI (mNe_4 h9 h16 h33 (by rw [h48]; rfl)).1) rfl (by rw [(mNe_4 h9 h16 h33 (by rw [h48]; rfl)).2]; rfl)
          · have h48 : mReach (mT0 M) (cl y) (cl x) = true := cI_n0.mp h48
            refine xv_bipush (v := -3) hC dX7_needs_51 (by decide) ?_
            exact xv_ireturn hC hr dX7_needs_53 (rI (mNe_3 h9 h16 h33 (by rw [h48]; rfl)).1) rfl (by rw [(mNe_3 h9 h16 h33 (by rw [h48]; rfl)).2]; rfl)
      · have h33 : mz M 3 (12 * cl x + cl y) = true := cI_inj.mp h33
        refine xv_iconst (v := nI 0) hC dX7_needs_36 (by decide) ?_
        exact xv_ireturn hC hr dX7_needs_37 (rI (mNe_2 h9 h16 h33).1) rfl (by rw [(mNe_2 h9 h16 h33).2]; rfl)
    · try simp (disch := omega) only [nI_leI, nI_ltI, nI_eq, xz_eq, xz_le, xz_gt, cI_0, cI_n0, cI_inj, lg_cmp_ge, lg_cmp_le, lg_cmp_gt, lg_cmp_lt, lg_cmp_eq, Bool.not_eq_true, Bool.not_eq_false, Nat.not_le, Nat.not_lt] at h16
      refine xv_iconst (v := -1) hC dX7_needs_19 (by decide) ?_
      exact xv_ireturn hC hr dX7_needs_20 (rI (mNe_1 (by first | exact Or.inr h16 | exact Or.inl h9)).1) rfl (by rw [(mNe_1 (by first | exact Or.inr h16 | exact Or.inl h9)).2]; rfl)
set_option maxHeartbeats 1000000 in
set_option maxRecDepth 100000 in
theorem em_needs_false (l : Launch) (G : xD) (g sz : Nat) (M : mT) (w0 : xw) (x y : Int32) : xM l G yX7_needs cX7_needs 4 (some .int) 1 0 0 [.ref g, .int x, .int y, .int (cI false)] sz (wM G g (M) w0) (some (.int (mNeV M x y false))) (sz) (wM G g (mNeM M x y false) w0) := by
  refine xM_of (by decide) (Nat.le_of_ble_eq_true rfl) ?_
  intro A p e s m args below meth c hC hr hname
  have hC : xC p s m args meth c cX7_needs 4 RX7 G A := hC
  have hr : meth.sig.returnType = (some .int) := hr
  show xV p l e _ s m args below meth c G A 4 _ sz _ 0 0 0 [(0, .ref g), (1, .int x), (2, .int y), (3, .int (cI false))] []
  refine xv_aload_n hC dX7_needs_0 rfl rfl ?_
  refine xv_iconst (v := nI 0) hC dX7_needs_1 (by decide) ?_
  refine tp_X7_0 hC fl_X7_64 dX7_needs_2 ?_
  refine xv_iload_n hC dX7_needs_5 rfl rfl ?_
  refine xv_callS hC Y_yX7_isPart sm_yX7_isPart ml_X7_67 dX7_needs_6 (em_isPart l G sz _ x) rfl rfl (Nat.le_of_ble_eq_true rfl) ⟨Nat.le_of_ble_eq_true rfl, Nat.le_of_ble_eq_true rfl⟩ ⟨Nat.le_of_ble_eq_true rfl, Nat.le_of_ble_eq_true rfl⟩ ?_
  refine xv_rs ?_
  refine xv_if_eq (tgt := 19) hC dX7_needs_9 (by decide) (fun h9 => ?_) (fun h9 => ?_)
  · try simp (disch := omega) only [nI_leI, nI_ltI, nI_eq, xz_eq, xz_le, xz_gt, cI_0, cI_n0, cI_inj, lg_cmp_ge, lg_cmp_le, lg_cmp_gt, lg_cmp_lt, lg_cmp_eq, Bool.not_eq_true, Bool.not_eq_false, Nat.not_le, Nat.not_lt] at h9
    refine xv_iconst (v := -1) hC dX7_needs_19 (by decide) ?_
    exact xv_ireturn hC hr dX7_needs_20 (rI (mNe_1 (by first | exact Or.inr h16 | exact Or.inl h9)).1) rfl (by rw [(mNe_1 (by first | exact Or.inr h16 | exact Or.inl h9)).2]; rfl)
  · rw [cI_n0] at h9
    have hx := xIn_cl (by omega) h9
    have hx1 := hx.1
    refine xv_iload_n hC dX7_needs_12 rfl rfl ?_
    refine xv_callS hC Y_yX7_isPart sm_yX7_isPart ml_X7_67 dX7_needs_13 (em_isPart l G sz _ y) rfl rfl (Nat.le_of_ble_eq_true rfl) ⟨Nat.le_of_ble_eq_true rfl, Nat.le_of_ble_eq_true rfl⟩ ⟨Nat.le_of_ble_eq_true rfl, Nat.le_of_ble_eq_true rfl⟩ ?_
    refine xv_rs ?_
    refine xv_if_ne (tgt := 21) hC dX7_needs_16 (by decide) (fun h16 => ?_) (fun h16 => ?_)
    · rw [cI_n0] at h16
      have hy := xIn_cl (by omega) h16
      have hy1 := hy.1
      refine xv_aload_n hC dX7_needs_21 rfl rfl ?_
      refine tg_X7_3 hC fl_X7_17 dX7_needs_22 ?_
      refine xv_bipush (v := nI 12) hC dX7_needs_25 (by decide) ?_
      refine xv_iload_n hC dX7_needs_27 rfl rfl ?_
      refine xv_cast (congrArg Value.int hx.2) ?_
      refine xv_imul hC dX7_needs_28 ?_
      refine xv_iload_n hC dX7_needs_29 rfl rfl ?_
      refine xv_cast (congrArg Value.int hy.2) ?_
      refine xv_iadd hC dX7_needs_30 ?_
      refine xv_cast (congrArg Value.int (ixm _ _ _)) ?_
      refine al_m_needed hC dX7_needs_31 rfl (by first | assumption | omega) ?_
      refine xv_iload_n hC dX7_needs_32 rfl rfl ?_
      refine xv_icmp_ne (tgt := 38) hC dX7_needs_33 (by decide) (fun h33 => ?_) (fun h33 => ?_)
      · have h33 : ¬ mz M 3 (12 * cl x + cl y) = false := fun z => h33 (congrArg cI z)
        refine xv_iload_n hC dX7_needs_38 rfl rfl ?_
        refine xv_if_eq (tgt := 54) hC dX7_needs_39 (by decide) (fun h39 => ?_) (fun h39 => ?_)
        · refine xv_aload_n hC dX7_needs_54 rfl rfl ?_
          refine tg_X7_3 hC fl_X7_17 dX7_needs_55 ?_
          refine xv_bipush (v := nI 12) hC dX7_needs_58 (by decide) ?_
          refine xv_iload_n hC dX7_needs_60 rfl rfl ?_
          refine xv_cast (congrArg Value.int hx.2) ?_
          refine xv_imul hC dX7_needs_61 ?_
          refine xv_iload_n hC dX7_needs_62 rfl rfl ?_
          refine xv_cast (congrArg Value.int hy.2) ?_
          refine xv_iadd hC dX7_needs_63 ?_
          refine xv_cast (congrArg Value.int (ixm _ _ _)) ?_
          refine xv_iload_n hC dX7_needs_64 rfl rfl ?_
          refine xv_cast (show _ = Value.int (cI false) from rfl) ?_
          refine as_m_needed hC dX7_needs_65 rfl (by first | assumption | omega) (by first | exact cI_c1 | exact cI_c0 | rfl) ?_
          refine xv_iconst (v := nI 1) hC dX7_needs_66 (by decide) ?_
          exact xv_ireturn hC hr dX7_needs_67 (rI (mNe_4 h9 h16 h33 rfl).1) rfl (by rw [(mNe_4 h9 h16 h33 rfl).2]; rfl)
        · exact absurd h39 (by decide)
      · have h33 : mz M 3 (12 * cl x + cl y) = false := cI_inj.mp h33
        refine xv_iconst (v := nI 0) hC dX7_needs_36 (by decide) ?_
        exact xv_ireturn hC hr dX7_needs_37 (rI (mNe_2 h9 h16 h33).1) rfl (by rw [(mNe_2 h9 h16 h33).2]; rfl)
    · try simp (disch := omega) only [nI_leI, nI_ltI, nI_eq, xz_eq, xz_le, xz_gt, cI_0, cI_n0, cI_inj, lg_cmp_ge, lg_cmp_le, lg_cmp_gt, lg_cmp_lt, lg_cmp_eq, Bool.not_eq_true, Bool.not_eq_false, Nat.not_le, Nat.not_lt] at h16
      refine xv_iconst (v := -1) hC dX7_needs_19 (by decide) ?_
      exact xv_ireturn hC hr dX7_needs_20 (rI (mNe_1 (by first | exact Or.inr h16 | exact Or.inl h9)).1) rfl (by rw [(mNe_1 (by first | exact Or.inr h16 | exact Or.inl h9)).2]; rfl)
theorem em_needs (l : Launch) (G : xD) (g sz : Nat) (M : mT) (w0 : xw) (x y : Int32) (d : Bool) : xM l G yX7_needs cX7_needs 4 (some .int) 1 0 0 [.ref g, .int x, .int y, .int (cI d)] sz (wM G g (M) w0) (some (.int (mNeV M x y d))) sz (wM G g (mNeM M x y d) w0) := by
  cases d
  · exact em_needs_false l G g sz M w0 x y
  · exact em_needs_true l G g sz M w0 x y
set_option maxHeartbeats 1000000 in
set_option maxRecDepth 100000 in
theorem em_version (l : Launch) (G : xD) (g sz : Nat) (M : mT) (w0 : xw) (x : Int32) : xM l G yX7_version cX7_version 3 (some .int) 1 0 0 [.ref g, .int x] sz (wM G g (M) w0) (some (.int (if fvB x = true then M.1 5 else -2))) (sz) (wM G g (if fvB x = true then mI (mT0 M) 5 x else mT0 M) w0) := by
  refine xM_of (by decide) (Nat.le_of_ble_eq_true rfl) ?_
  intro A p e s m args below meth c hC hr hname
  have hC : xC p s m args meth c cX7_version 3 RX7 G A := hC
  have hr : meth.sig.returnType = (some .int) := hr
  show xV p l e _ s m args below meth c G A 3 _ sz _ 0 0 0 [(0, .ref g), (1, .int x)] []
  refine xv_aload_n hC dX7_version_0 rfl rfl ?_
  refine xv_iconst (v := nI 0) hC dX7_version_1 (by decide) ?_
  refine tp_X7_0 hC fl_X7_64 dX7_version_2 ?_
  refine xv_iload_n hC dX7_version_5 rfl rfl ?_
  refine xv_i2l hC dX7_version_6 ?_
  refine xv_lconst (v := 1) hC dX7_version_7 (by decide) ?_
  refine xv_ldc2 hC dX7_version_8 kn_X7_96 ?_
  refine xv_callS hC Y_yX7_in sm_yX7_in ml_X7_73 dX7_version_11 (em_in l G sz _ x.toInt64 1 200) rfl rfl (Nat.le_of_ble_eq_true rfl) ⟨Nat.le_of_ble_eq_true rfl, Nat.le_of_ble_eq_true rfl⟩ ⟨Nat.le_of_ble_eq_true rfl, Nat.le_of_ble_eq_true rfl⟩ ?_
  refine xv_rs ?_
  refine xv_if_ne (tgt := 20) hC dX7_version_14 (by decide) (fun h14 => ?_) (fun h14 => ?_)
  · rw [cI_n0] at h14
    rw [inX2 (m := 1) (n := 200) (by omega) (by omega) (by decide) (by decide)] at h14
    have h14 : fvB x = true := h14
    refine xv_aload_n hC dX7_version_20 rfl rfl ?_
    refine tg_X7_5 hC fl_X7_23 dX7_version_21 ?_
    refine xv_istore_n hC dX7_version_24 rfl (by decide) ?_
    refine xv_aload_n hC dX7_version_25 rfl rfl ?_
    refine xv_iload_n hC dX7_version_26 rfl rfl ?_
    refine tp_X7_5 hC fl_X7_23 dX7_version_27 ?_
    refine xv_iload_n hC dX7_version_30 rfl rfl ?_
    exact xv_ireturn hC hr dX7_version_31 (rI (by rw [h14]; rfl)) rfl (by rw [h14]; rfl)
  · rw [cI_0] at h14
    rw [inX2 (m := 1) (n := 200) (by omega) (by omega) (by decide) (by decide)] at h14
    have h14 : fvB x = false := h14
    refine xv_bipush (v := -2) hC dX7_version_17 (by decide) ?_
    exact xv_ireturn hC hr dX7_version_19 (rI (by rw [h14]; rfl)) rfl (by rw [h14]; rfl)
set_option maxHeartbeats 1000000 in
set_option maxRecDepth 100000 in
theorem em_mode (l : Launch) (G : xD) (g sz : Nat) (M : mT) (w0 : xw) (x : Int32) : xM l G yX7_mode cX7_mode 3 (some .int) 1 0 0 [.ref g, .int x] sz (wM G g (M) w0) (some (.int (if fmB x = true then M.1 6 else -2))) (sz) (wM G g (if fmB x = true then mI (mT0 M) 6 x else mT0 M) w0) := by
  refine xM_of (by decide) (Nat.le_of_ble_eq_true rfl) ?_
  intro A p e s m args below meth c hC hr hname
  have hC : xC p s m args meth c cX7_mode 3 RX7 G A := hC
  have hr : meth.sig.returnType = (some .int) := hr
  show xV p l e _ s m args below meth c G A 3 _ sz _ 0 0 0 [(0, .ref g), (1, .int x)] []
  refine xv_aload_n hC dX7_mode_0 rfl rfl ?_
  refine xv_iconst (v := nI 0) hC dX7_mode_1 (by decide) ?_
  refine tp_X7_0 hC fl_X7_64 dX7_mode_2 ?_
  refine xv_iload_n hC dX7_mode_5 rfl rfl ?_
  refine xv_i2l hC dX7_mode_6 ?_
  refine xv_lconst (v := 0) hC dX7_mode_7 (by decide) ?_
  refine xv_lconst (v := 1) hC dX7_mode_8 (by decide) ?_
  refine xv_callS hC Y_yX7_in sm_yX7_in ml_X7_73 dX7_mode_9 (em_in l G sz _ x.toInt64 0 1) rfl rfl (Nat.le_of_ble_eq_true rfl) ⟨Nat.le_of_ble_eq_true rfl, Nat.le_of_ble_eq_true rfl⟩ ⟨Nat.le_of_ble_eq_true rfl, Nat.le_of_ble_eq_true rfl⟩ ?_
  refine xv_rs ?_
  refine xv_if_ne (tgt := 18) hC dX7_mode_12 (by decide) (fun h12 => ?_) (fun h12 => ?_)
  · rw [cI_n0] at h12
    rw [inX2 (m := 0) (n := 1) (by omega) (by omega) (by decide) (by decide)] at h12
    have h12 : fmB x = true := h12
    refine xv_aload_n hC dX7_mode_18 rfl rfl ?_
    refine tg_X7_6 hC fl_X7_98 dX7_mode_19 ?_
    refine xv_istore_n hC dX7_mode_22 rfl (by decide) ?_
    refine xv_aload_n hC dX7_mode_23 rfl rfl ?_
    refine xv_iload_n hC dX7_mode_24 rfl rfl ?_
    refine tp_X7_6 hC fl_X7_98 dX7_mode_25 ?_
    refine xv_iload_n hC dX7_mode_28 rfl rfl ?_
    exact xv_ireturn hC hr dX7_mode_29 (rI (by rw [h12]; rfl)) rfl (by rw [h12]; rfl)
  · rw [cI_0] at h12
    rw [inX2 (m := 0) (n := 1) (by omega) (by omega) (by decide) (by decide)] at h12
    have h12 : fmB x = false := h12
    refine xv_bipush (v := -2) hC dX7_mode_15 (by decide) ?_
    exact xv_ireturn hC hr dX7_mode_17 (rI (by rw [h12]; rfl)) rfl (by rw [h12]; rfl)
set_option maxHeartbeats 1000000 in
set_option maxRecDepth 100000 in
theorem em_busy (l : Launch) (G : xD) (g sz : Nat) (M : mT) (w0 : xw) (d : Bool) : xM l G yX7_busy cX7_busy 3 (some .int) 0 0 0 [.ref g, .int (cI d)] sz (wM G g (M) w0) (some (.int (cI (!decide (M.2.1 7 = d))))) (sz) (wM G g (mB (mT0 M) 7 d) w0) := by
  refine xM_of (by decide) (Nat.le_of_ble_eq_true rfl) ?_
  intro A p e s m args below meth c hC hr hname
  have hC : xC p s m args meth c cX7_busy 3 RX7 G A := hC
  have hr : meth.sig.returnType = (some .int) := hr
  show xV p l e _ s m args below meth c G A 3 _ sz _ 0 0 0 [(0, .ref g), (1, .int (cI d))] []
  refine xv_aload_n hC dX7_busy_0 rfl rfl ?_
  refine xv_iconst (v := nI 0) hC dX7_busy_1 (by decide) ?_
  refine tp_X7_0 hC fl_X7_64 dX7_busy_2 ?_
  refine xv_aload_n hC dX7_busy_5 rfl rfl ?_
  refine tg_X7_7 hC fl_X7_77 dX7_busy_6 ?_
  refine xv_istore_n hC dX7_busy_9 rfl (by decide) ?_
  refine xv_aload_n hC dX7_busy_10 rfl rfl ?_
  refine xv_iload_n hC dX7_busy_11 rfl rfl ?_
  refine tp_X7_7 hC fl_X7_77 dX7_busy_12 (by first | exact cI_c1 | exact cI_c0 | rfl) ?_
  refine xv_iload_n hC dX7_busy_15 rfl rfl ?_
  refine xv_iload_n hC dX7_busy_16 rfl rfl ?_
  refine xv_icmp_ne (tgt := 24) hC dX7_busy_17 (by decide) (fun h17 => ?_) (fun h17 => ?_)
  · have h17 : ¬ M.2.1 7 = d := fun z => h17 (congrArg cI z)
    refine xv_iconst (v := nI 1) hC dX7_busy_24 (by decide) ?_
    exact xv_ireturn hC hr dX7_busy_25 (by first | (apply rN0; simp [h17]; done) | (apply rN1; simp [h17]; done)) rfl rfl
  · have h17 : M.2.1 7 = d := cI_inj.mp h17
    refine xv_iconst (v := nI 0) hC dX7_busy_20 (by decide) ?_
    refine xv_goto (tgt := 25) hC dX7_busy_21 (by decide) ?_
    exact xv_ireturn hC hr dX7_busy_25 (by first | (apply rN0; simp [h17]; done) | (apply rN1; simp [h17]; done)) rfl rfl
set_option maxHeartbeats 1000000 in
set_option maxRecDepth 100000 in
theorem em_write (l : Launch) (G : xD) (g sz : Nat) (M : mT) (w0 : xw) (hd : M.2.2.1 13 < 17000) (x : Int32) : xM l G yX7_write cX7_write 2 none 0 0 0 [.ref g, .int x] sz (wM G g (M) w0) (none) (sz) (wM G g (mWr M x) w0) := by
  refine xM_of (by decide) (Nat.le_of_ble_eq_true rfl) ?_
  intro A p e s m args below meth c hC hr hname
  have hC : xC p s m args meth c cX7_write 2 RX7 G A := hC
  have hr : meth.sig.returnType = none := hr
  show xV p l e _ s m args below meth c G A 2 _ sz _ 0 0 0 [(0, .ref g), (1, .int x)] []
  refine xv_aload_n hC dX7_write_0 rfl rfl ?_
  refine tg_X7_12 hC fl_X7_31 dX7_write_1 ?_
  refine xv_aload_n hC dX7_write_4 rfl rfl ?_
  refine tg_X7_13 hC fl_X7_101 dX7_write_5 ?_
  refine xv_iload_n hC dX7_write_8 rfl rfl ?_
  refine as_m_draft hC dX7_write_9 rfl (by first | assumption | omega) ?_
  refine xv_aload_n hC dX7_write_10 rfl rfl ?_
  refine xv_dup hC dX7_write_11 rfl ?_
  refine tg_X7_13 hC fl_X7_101 dX7_write_12 ?_
  refine xv_iconst (v := nI 1) hC dX7_write_15 (by decide) ?_
  refine xv_iadd hC dX7_write_16 ?_
  refine xv_cast (congrArg Value.int (nI_add _ _)) ?_
  refine tp_X7_13 hC fl_X7_101 dX7_write_17 rfl ?_
  exact xv_return hC hr dX7_write_20 rfl rfl rfl
set_option maxHeartbeats 1000000 in
set_option maxRecDepth 100000 in
theorem em_writeFour (l : Launch) (G : xD) (g sz : Nat) (M : mT) (w0 : xw) (hd : M.2.2.1 13 + 4 ≤ 17000) (v : Int32) : xM l G yX7_writeFour cX7_writeFour 3 none 1 0 0 [.ref g, .int v] sz (wM G g (M) w0) (none) (sz) (wM G g (mWs M (b4 v 4)) w0) := by
  refine xM_of (by decide) (Nat.le_of_ble_eq_true rfl) ?_
  intro A p e s m args below meth c hC hr hname
  have hC : xC p s m args meth c cX7_writeFour 3 RX7 G A := hC
  have hr : meth.sig.returnType = none := hr
  show xV p l e _ s m args below meth c G A 3 _ sz _ 0 0 0 [(0, .ref g), (1, .int v)] []
  refine xv_iconst (v := nI 0) hC dX7_writeFour_0 (by decide) ?_
  refine xv_istore_n hC dX7_writeFour_1 rfl (by decide) ?_
  have Lp2 : ∀ (n k : Nat), (k ≤ 4) → (4 < k + n) → xV p l e (xr 1 0 0) s m args below meth c G A 3 (MQ below (xQ G A (none) (sz) (wM G g (mWs M (b4 v 4)) w0)) args s 0 0 A) sz (wM G g (mWs M (b4 v k)) w0) 0 0 2 [(2, .int (nI (8 * k))), (0, .ref g), (1, .int v)] [] := by
    intro n
    induction n with
    | zero =>
      intro k hk hn
      omega
    | succ n ih2 =>
      intro k hk hn
      refine xv_iload_n hC dX7_writeFour_2 rfl rfl ?_
      refine xv_bipush (v := nI 32) hC dX7_writeFour_3 (by decide) ?_
      refine xv_icmp_ge (tgt := 27) hC dX7_writeFour_5 (by decide) (fun h5 => ?_) (fun h5 => ?_)
      · try simp (disch := omega) only [nI_leI, nI_ltI, nI_eq, xz_eq, xz_le, xz_gt, cI_0, cI_n0, cI_inj, lg_cmp_ge, lg_cmp_le, lg_cmp_gt, lg_cmp_lt, lg_cmp_eq, Bool.not_eq_true, Bool.not_eq_false, Nat.not_le, Nat.not_lt] at h5
        exact xv_return hC hr dX7_writeFour_27 rfl rfl (by rw [show k = 4 by omega])
      · try simp (disch := omega) only [nI_leI, nI_ltI, nI_eq, xz_eq, xz_le, xz_gt, cI_0, cI_n0, cI_inj, lg_cmp_ge, lg_cmp_le, lg_cmp_gt, lg_cmp_lt, lg_cmp_eq, Bool.not_eq_true, Bool.not_eq_false, Nat.not_le, Nat.not_lt] at h5
        refine xv_aload_n hC dX7_writeFour_8 rfl rfl ?_
        refine xv_iload_n hC dX7_writeFour_9 rfl rfl ?_
        refine xv_iload_n hC dX7_writeFour_10 rfl rfl ?_
        refine xv_iushr hC dX7_writeFour_11 ?_
        refine xv_sipush (v := nI 255) hC dX7_writeFour_12 (by decide) ?_
        refine xv_iand hC dX7_writeFour_15 ?_
        refine xv_callV hC Y_yX7_write im_yX7_write se_yX7_write ml_X7_104 dX7_writeFour_16 (em_write l G g sz (mWs M (b4 v k)) w0 (by rw [mWs_n]; simp [b4]; omega) (by4 v k)) (ml_w_obj _ _ _ _) rfl rfl rfl (Nat.le_of_ble_eq_true rfl) ⟨Nat.le_of_ble_eq_true rfl, Nat.le_of_ble_eq_true rfl⟩ ⟨Nat.le_of_ble_eq_true rfl, Nat.le_of_ble_eq_true rfl⟩ ?_
        refine xv_rn ?_
        refine xv_iload_n hC dX7_writeFour_19 rfl rfl ?_
        refine xv_bipush (v := nI 8) hC dX7_writeFour_20 (by decide) ?_
        refine xv_iadd hC dX7_writeFour_22 ?_
        refine xv_cast (congrArg Value.int (show _ = nI (8 * (k + 1)) from nI_add _ 8)) ?_
        refine xv_istore_n hC dX7_writeFour_23 rfl (by decide) ?_
        refine xv_goto (tgt := 2) hC dX7_writeFour_24 (by decide) ?_
        refine xv_world (show _ = wM G g (mWs M (b4 v (k + 1))) w0 by rw [b4_s, mWs_s]) ?_
        exact ih2 (k + 1) (by omega) (by omega)
  exact Lp2 5 0 (by omega) (by omega)
set_option maxHeartbeats 1000000 in
set_option maxRecDepth 100000 in
theorem em_writeCount (l : Launch) (G : xD) (g sz : Nat) (M : mT) (w0 : xw) (hd : M.2.2.1 13 + 10 ≤ 17000) (v : Int64) : xM l G yX7_writeCount cX7_writeCount 5 none 1 0 0 [.ref g, .long v] sz (wM G g (M) w0) (none) (sz) (wM G g (mWs M (cM 9 v)) w0) := by
  refine xM_of (by decide) (Nat.le_of_ble_eq_true rfl) ?_
  intro A p e s m args below meth c hC hr hname
  have hC : xC p s m args meth c cX7_writeCount 5 RX7 G A := hC
  have hr : meth.sig.returnType = none := hr
  show xV p l e _ s m args below meth c G A 5 _ sz _ 0 0 0 [(0, .ref g), (1, .long v)] []
  refine xv_lload_n hC dX7_writeCount_0 rfl rfl ?_
  refine xv_lstore_n hC dX7_writeCount_1 rfl (by decide) ?_
  have Lp2 : ∀ (n k0 : Nat) (u : Int64) (xs : List Int32), (1 ≤ n) → (u.toBitVec.toNat < 128 ^ n) → (xs.length + n ≤ 10) → (xs ++ cM (n - 1) u = cM 9 v) → xV p l e (xr 1 0 0) s m args below meth c G A 5 (MQ below (xQ G A (none) (sz) (wM G g (mWs M (cM 9 v)) w0)) args s 0 0 A) sz (wM G g (mWs M xs) w0) 0 0 2 [(3, .long u), (0, .ref g), (1, .long v)] [] := by
    intro n
    induction n with
    | zero =>
      intro k0 u xs hn1 hb hl hu
      omega
    | succ n ih2 =>
      intro k0 u xs hn1 hb hl hu
      refine xv_lload_n hC dX7_writeCount_2 rfl rfl ?_
      refine xv_bipush (v := nI 7) hC dX7_writeCount_3 (by decide) ?_
      refine xv_lushr hC dX7_writeCount_5 ?_
      refine xv_lconst (v := 0) hC dX7_writeCount_6 (by decide) ?_
      refine xv_lcmp hC dX7_writeCount_7 ?_
      refine xv_if_eq (tgt := 33) hC dX7_writeCount_8 (by decide) (fun h8 => ?_) (fun h8 => ?_)
      · rw [lg_cmp_eq] at h8
        refine xv_aload_n hC dX7_writeCount_33 rfl rfl ?_
        refine xv_lload_n hC dX7_writeCount_34 rfl rfl ?_
        refine xv_l2i hC dX7_writeCount_35 ?_
        refine xv_callV hC Y_yX7_write im_yX7_write se_yX7_write ml_X7_104 dX7_writeCount_36 (em_write l G g sz (mWs M xs) w0 (by rw [mWs_n]; omega) u.toInt32) (ml_w_obj _ _ _ _) rfl rfl rfl (Nat.le_of_ble_eq_true rfl) ⟨Nat.le_of_ble_eq_true rfl, Nat.le_of_ble_eq_true rfl⟩ ⟨Nat.le_of_ble_eq_true rfl, Nat.le_of_ble_eq_true rfl⟩ ?_
        refine xv_rn ?_
        exact xv_return hC hr dX7_writeCount_39 rfl rfl (by rw [← hu, cM_end (n := n + 1 - 1) (u := u) (Or.inr h8), mWs_s])
      · rw [lg_cmp_eq] at h8
        refine xv_aload_n hC dX7_writeCount_11 rfl rfl ?_
        refine xv_lload_n hC dX7_writeCount_12 rfl rfl ?_
        refine xv_ldc2 hC dX7_writeCount_13 kn_X7_108 ?_
        refine xv_land hC dX7_writeCount_16 ?_
        refine xv_l2i hC dX7_writeCount_17 ?_
        refine xv_sipush (v := nI 128) hC dX7_writeCount_18 (by decide) ?_
        refine xv_ior hC dX7_writeCount_21 ?_
        refine xv_callV hC Y_yX7_write im_yX7_write se_yX7_write ml_X7_104 dX7_writeCount_22 (em_write l G g sz (mWs M xs) w0 (by rw [mWs_n]; omega) ((u &&& 127).toInt32 ||| nI 128)) (ml_w_obj _ _ _ _) rfl rfl rfl (Nat.le_of_ble_eq_true rfl) ⟨Nat.le_of_ble_eq_true rfl, Nat.le_of_ble_eq_true rfl⟩ ⟨Nat.le_of_ble_eq_true rfl, Nat.le_of_ble_eq_true rfl⟩ ?_
        refine xv_rn ?_
        refine xv_lload_n hC dX7_writeCount_25 rfl rfl ?_
        refine xv_bipush (v := nI 7) hC dX7_writeCount_26 (by decide) ?_
        refine xv_lushr hC dX7_writeCount_28 ?_
        refine xv_lstore_n hC dX7_writeCount_29 rfl (by decide) ?_
        refine xv_goto (tgt := 2) hC dX7_writeCount_30 (by decide) ?_
        have hn2 : 1 ≤ n := by
          rcases Nat.eq_zero_or_pos n with z | z
          · subst z
            exact absurd (ush7_z (v := u) (by simpa using hb)) h8
          · exact z
        refine xv_world (show _ = wM G g (mWs M (xs ++ [(u &&& 127).toInt32 ||| nI 128])) w0 by rw [mWs_s]) ?_
        exact ih2 0 (ush7 u) _ hn2 (by rw [ush7_n]; exact Nat.div_lt_of_lt_mul (by rw [Nat.mul_comm, ← Nat.pow_succ]; exact hb)) (by rw [List.length_append]; show xs.length + 1 + n ≤ 10; omega) (by rw [← hu, cM_go (show 1 ≤ n + 1 - 1 by omega) h8, List.append_assoc]; rfl)
  exact Lp2 10 0 v [] (by omega) (Nat.lt_of_lt_of_le v.toBitVec.isLt (by decide)) (by decide) rfl
set_option maxHeartbeats 1000000 in
set_option maxRecDepth 100000 in
theorem em_turned (l : Launch) (G : xD) (sz : Nat) (w : xw) (x : Int32) : xM l G yX7_turned cX7_turned 1 (some .int) 0 0 0 [.int x] sz (w) (some (.int (rot13 x))) (sz) (w) := by
  refine xM_of (by decide) (Nat.le_of_ble_eq_true rfl) ?_
  intro A p e s m args below meth c hC hr hname
  have hC : xC p s m args meth c cX7_turned 1 RX7 G A := hC
  have hr : meth.sig.returnType = (some .int) := hr
  show xV p l e _ s m args below meth c G A 1 _ sz _ 0 0 0 [(0, .int x)] []
  refine xv_iload_n hC dX7_turned_0 rfl rfl ?_
  refine xv_bipush (v := nI 13) hC dX7_turned_1 (by decide) ?_
  refine xv_ishl hC dX7_turned_3 ?_
  refine xv_iload_n hC dX7_turned_4 rfl rfl ?_
  refine xv_bipush (v := nI 19) hC dX7_turned_5 (by decide) ?_
  refine xv_iushr hC dX7_turned_7 ?_
  refine xv_ior hC dX7_turned_8 ?_
  exact xv_ireturn hC hr dX7_turned_9 rfl rfl rfl
set_option maxHeartbeats 1000000 in
set_option maxRecDepth 100000 in
theorem em_sumB (l : Launch) (G : xD) (g sz : Nat) (M : mT) (w0 : xw) {a n0 : Nat} (hn0 : a + n0 ≤ 8000) : xM l G yX7_sumOf cX7_sumOf 5 (some .int) 1 0 0 [.ref (g + 5), .int (nI a), .int (nI (a + n0))] sz (wM G g (M) w0) (some (.int (smF (M.2.2.2.2.1 10) a n0))) (sz) (wM G g (M) w0) := by
  refine xM_of (by decide) (Nat.le_of_ble_eq_true rfl) ?_
  intro A p e s m args below meth c hC hr hname
  have hC : xC p s m args meth c cX7_sumOf 5 RX7 G A := hC
  have hr : meth.sig.returnType = (some .int) := hr
  show xV p l e _ s m args below meth c G A 5 _ sz _ 0 0 0 [(0, .ref (g + 5)), (1, .int (nI a)), (2, .int (nI (a + n0)))] []
  refine xv_iconst (v := nI 0) hC dX7_sumOf_0 (by decide) ?_
  refine xv_istore_n hC dX7_sumOf_1 rfl (by decide) ?_
  refine xv_iload_n hC dX7_sumOf_2 rfl rfl ?_
  refine xv_istore hC dX7_sumOf_3 (by decide) ?_
  have Lp5 : ∀ (n k : Nat), (k ≤ n0) → (n0 < k + n) → xV p l e (xr 1 0 0) s m args below meth c G A 5 (MQ below (xQ G A (some (.int (smF (M.2.2.2.2.1 10) a n0))) (sz) (wM G g (M) w0)) args s 0 0 A) sz (wM G g (M) w0) 0 0 5 [(4, .int (nI (a + k))), (3, .int (smF (M.2.2.2.2.1 10) a k)), (0, .ref (g + 5)), (1, .int (nI a)), (2, .int (nI (a + n0)))] [] := by
    intro n
    induction n with
    | zero =>
      intro k hk hn2
      omega
    | succ n ih5 =>
      intro k hk hn2
      refine xv_iload hC dX7_sumOf_5 rfl ?_
      refine xv_iload_n hC dX7_sumOf_7 rfl rfl ?_
      refine xv_icmp_ge (tgt := 30) hC dX7_sumOf_8 (by decide) (fun h8 => ?_) (fun h8 => ?_)
      · try simp (disch := omega) only [nI_leI, nI_ltI, nI_eq, xz_eq, xz_le, xz_gt, cI_0, cI_n0, cI_inj, lg_cmp_ge, lg_cmp_le, lg_cmp_gt, lg_cmp_lt, lg_cmp_eq, Bool.not_eq_true, Bool.not_eq_false, Nat.not_le, Nat.not_lt] at h8
        refine xv_iload_n hC dX7_sumOf_30 rfl rfl ?_
        exact xv_ireturn hC hr dX7_sumOf_31 (by rw [show k = n0 by omega]) rfl rfl
      · try simp (disch := omega) only [nI_leI, nI_ltI, nI_eq, xz_eq, xz_le, xz_gt, cI_0, cI_n0, cI_inj, lg_cmp_ge, lg_cmp_le, lg_cmp_gt, lg_cmp_lt, lg_cmp_eq, Bool.not_eq_true, Bool.not_eq_false, Nat.not_le, Nat.not_lt] at h8
        refine xv_iload_n hC dX7_sumOf_11 rfl rfl ?_
        refine xv_aload_n hC dX7_sumOf_12 rfl rfl ?_
        refine xv_iload hC dX7_sumOf_13 rfl ?_
        refine al_m_bytes hC dX7_sumOf_15 rfl (by first | assumption | omega) ?_
        refine xv_ixor hC dX7_sumOf_16 ?_
        refine xv_callS hC Y_yX7_turned sm_yX7_turned ml_X7_110 dX7_sumOf_17 (em_turned l G sz _ (smF (M.2.2.2.2.1 10) a k ^^^ M.2.2.2.2.1 10 (a + k))) rfl rfl (Nat.le_of_ble_eq_true rfl) ⟨Nat.le_of_ble_eq_true rfl, Nat.le_of_ble_eq_true rfl⟩ ⟨Nat.le_of_ble_eq_true rfl, Nat.le_of_ble_eq_true rfl⟩ ?_
        refine xv_rs ?_
        refine xv_ldc hC dX7_sumOf_20 kn_X7_113 ?_
        refine xv_imul hC dX7_sumOf_22 ?_
        refine xv_istore_n hC dX7_sumOf_23 rfl (by decide) ?_
        refine xv_iinc hC dX7_sumOf_24 rfl (xinc _) (by decide) ?_
        refine xv_goto (tgt := 5) hC dX7_sumOf_27 (by decide) ?_
        exact ih5 (k + 1) (by omega) (by omega)
  exact Lp5 (n0 + 1) 0 (by omega) (by omega)
set_option maxHeartbeats 1000000 in
set_option maxRecDepth 100000 in
theorem em_sumD (l : Launch) (G : xD) (g sz : Nat) (M : mT) (w0 : xw) {a n0 : Nat} (hn0 : a + n0 ≤ 17000) : xM l G yX7_sumOf cX7_sumOf 5 (some .int) 1 0 0 [.ref (g + 6), .int (nI a), .int (nI (a + n0))] sz (wM G g (M) w0) (some (.int (smF (M.2.2.2.2.1 12) a n0))) (sz) (wM G g (M) w0) := by
  refine xM_of (by decide) (Nat.le_of_ble_eq_true rfl) ?_
  intro A p e s m args below meth c hC hr hname
  have hC : xC p s m args meth c cX7_sumOf 5 RX7 G A := hC
  have hr : meth.sig.returnType = (some .int) := hr
  show xV p l e _ s m args below meth c G A 5 _ sz _ 0 0 0 [(0, .ref (g + 6)), (1, .int (nI a)), (2, .int (nI (a + n0)))] []
  refine xv_iconst (v := nI 0) hC dX7_sumOf_0 (by decide) ?_
  refine xv_istore_n hC dX7_sumOf_1 rfl (by decide) ?_
  refine xv_iload_n hC dX7_sumOf_2 rfl rfl ?_
  refine xv_istore hC dX7_sumOf_3 (by decide) ?_
  have Lp5 : ∀ (n k : Nat), (k ≤ n0) → (n0 < k + n) → xV p l e (xr 1 0 0) s m args below meth c G A 5 (MQ below (xQ G A (some (.int (smF (M.2.2.2.2.1 12) a n0))) (sz) (wM G g (M) w0)) args s 0 0 A) sz (wM G g (M) w0) 0 0 5 [(4, .int (nI (a + k))), (3, .int (smF (M.2.2.2.2.1 12) a k)), (0, .ref (g + 6)), (1, .int (nI a)), (2, .int (nI (a + n0)))] [] := by
    intro n
    induction n with
    | zero =>
      intro k hk hn2
      omega
    | succ n ih5 =>
      intro k hk hn2
      refine xv_iload hC dX7_sumOf_5 rfl ?_
      refine xv_iload_n hC dX7_sumOf_7 rfl rfl ?_
      refine xv_icmp_ge (tgt := 30) hC dX7_sumOf_8 (by decide) (fun h8 => ?_) (fun h8 => ?_)
      · try simp (disch := omega) only [nI_leI, nI_ltI, nI_eq, xz_eq, xz_le, xz_gt, cI_0, cI_n0, cI_inj, lg_cmp_ge, lg_cmp_le, lg_cmp_gt, lg_cmp_lt, lg_cmp_eq, Bool.not_eq_true, Bool.not_eq_false, Nat.not_le, Nat.not_lt] at h8
        refine xv_iload_n hC dX7_sumOf_30 rfl rfl ?_
        exact xv_ireturn hC hr dX7_sumOf_31 (by rw [show k = n0 by omega]) rfl rfl
      · try simp (disch := omega) only [nI_leI, nI_ltI, nI_eq, xz_eq, xz_le, xz_gt, cI_0, cI_n0, cI_inj, lg_cmp_ge, lg_cmp_le, lg_cmp_gt, lg_cmp_lt, lg_cmp_eq, Bool.not_eq_true, Bool.not_eq_false, Nat.not_le, Nat.not_lt] at h8
        refine xv_iload_n hC dX7_sumOf_11 rfl rfl ?_
        refine xv_aload_n hC dX7_sumOf_12 rfl rfl ?_
        refine xv_iload hC dX7_sumOf_13 rfl ?_
        refine al_m_draft hC dX7_sumOf_15 rfl (by first | assumption | omega) ?_
        refine xv_ixor hC dX7_sumOf_16 ?_
        refine xv_callS hC Y_yX7_turned sm_yX7_turned ml_X7_110 dX7_sumOf_17 (em_turned l G sz _ (smF (M.2.2.2.2.1 12) a k ^^^ M.2.2.2.2.1 12 (a + k))) rfl rfl (Nat.le_of_ble_eq_true rfl) ⟨Nat.le_of_ble_eq_true rfl, Nat.le_of_ble_eq_true rfl⟩ ⟨Nat.le_of_ble_eq_true rfl, Nat.le_of_ble_eq_true rfl⟩ ?_
        refine xv_rs ?_
        refine xv_ldc hC dX7_sumOf_20 kn_X7_113 ?_
        refine xv_imul hC dX7_sumOf_22 ?_
        refine xv_istore_n hC dX7_sumOf_23 rfl (by decide) ?_
        refine xv_iinc hC dX7_sumOf_24 rfl (xinc _) (by decide) ?_
        refine xv_goto (tgt := 5) hC dX7_sumOf_27 (by decide) ?_
        exact ih5 (k + 1) (by omega) (by omega)
  exact Lp5 (n0 + 1) 0 (by omega) (by omega)
set_option maxHeartbeats 1000000 in
set_option maxRecDepth 100000 in
theorem em_areSame (l : Launch) (G : xD) (g sz : Nat) (M : mT) (w0 : xw) {p1 q1 : Nat} (hp : p1 < 12) (hq : q1 < 12) : xM l G yX7_areSame cX7_areSame 6 (some .boolean) 0 0 0 [.ref g, .int (nI p1), .int (nI q1)] sz (wM G g (M) w0) (some (.int (cI (allB (mSame M p1 q1) 100)))) (sz) (wM G g (M) w0) := by
  refine xM_of (by decide) (Nat.le_of_ble_eq_true rfl) ?_
  intro A p e s m args below meth c hC hr hname
  have hC : xC p s m args meth c cX7_areSame 6 RX7 G A := hC
  have hr : meth.sig.returnType = (some .boolean) := hr
  show xV p l e _ s m args below meth c G A 6 _ sz _ 0 0 0 [(0, .ref g), (1, .int (nI p1)), (2, .int (nI q1))] []
  refine xv_iconst (v := nI 1) hC dX7_areSame_0 (by decide) ?_
  refine xv_istore_n hC dX7_areSame_1 rfl (by decide) ?_
  refine xv_iconst (v := nI 0) hC dX7_areSame_2 (by decide) ?_
  refine xv_istore hC dX7_areSame_3 (by decide) ?_
  have Lp5 : ∀ (n i : Nat), (i ≤ 100) → (100 < i + n) → xV p l e (xr 0 0 0) s m args below meth c G A 6 (MQ below (xQ G A (some (.int (cI (allB (mSame M p1 q1) 100)))) (sz) (wM G g (M) w0)) args s 0 0 A) sz (wM G g (M) w0) 0 0 5 [(4, .int (nI i)), (3, .int (cI (allB (mSame M p1 q1) i))), (0, .ref g), (1, .int (nI p1)), (2, .int (nI q1))] [] := by
    intro n
    induction n with
    | zero =>
      intro i hi hn
      omega
    | succ n ih5 =>
      intro i hi hn
      refine xv_iload hC dX7_areSame_5 rfl ?_
      refine xv_bipush (v := nI 100) hC dX7_areSame_7 (by decide) ?_
      refine xv_icmp_ge (tgt := 92) hC dX7_areSame_9 (by decide) (fun h9 => ?_) (fun h9 => ?_)
      · try simp (disch := omega) only [nI_leI, nI_ltI, nI_eq, xz_eq, xz_le, xz_gt, cI_0, cI_n0, cI_inj, lg_cmp_ge, lg_cmp_le, lg_cmp_gt, lg_cmp_lt, lg_cmp_eq, Bool.not_eq_true, Bool.not_eq_false, Nat.not_le, Nat.not_lt] at h9
        refine xv_iload_n hC dX7_areSame_92 rfl rfl ?_
        exact xv_zreturn hC hr (by first | rfl | exact cI_nar _) dX7_areSame_93 (by first | rw [show i = 100 by omega] | rw [h13, allB_f h13 (by omega)]) rfl rfl
      · try simp (disch := omega) only [nI_leI, nI_ltI, nI_eq, xz_eq, xz_le, xz_gt, cI_0, cI_n0, cI_inj, lg_cmp_ge, lg_cmp_le, lg_cmp_gt, lg_cmp_lt, lg_cmp_eq, Bool.not_eq_true, Bool.not_eq_false, Nat.not_le, Nat.not_lt] at h9
        refine xv_iload_n hC dX7_areSame_12 rfl rfl ?_
        refine xv_if_eq (tgt := 92) hC dX7_areSame_13 (by decide) (fun h13 => ?_) (fun h13 => ?_)
        · have h13 : allB (mSame M p1 q1) i = false := cI_0.mp h13
          refine xv_iload_n hC dX7_areSame_92 rfl rfl ?_
          exact xv_zreturn hC hr (by first | rfl | exact cI_nar _) dX7_areSame_93 (by first | rw [show i = 100 by omega] | rw [h13, allB_f h13 (by omega)]) rfl rfl
        · have h13 : allB (mSame M p1 q1) i = true := cI_n0.mp h13
          refine xv_aload_n hC dX7_areSame_16 rfl rfl ?_
          refine tg_X7_1 hC fl_X7_7 dX7_areSame_17 ?_
          refine xv_bipush (v := nI 100) hC dX7_areSame_20 (by decide) ?_
          refine xv_iload_n hC dX7_areSame_22 rfl rfl ?_
          refine xv_imul hC dX7_areSame_23 ?_
          refine xv_iload hC dX7_areSame_24 rfl ?_
          refine xv_iadd hC dX7_areSame_26 ?_
          refine xv_cast (congrArg Value.int (ixm _ _ _)) ?_
          refine al_m_has hC dX7_areSame_27 rfl (by first | assumption | omega) ?_
          refine xv_istore hC dX7_areSame_28 (by decide) ?_
          refine xv_iload hC dX7_areSame_30 rfl ?_
          refine xv_aload_n hC dX7_areSame_32 rfl rfl ?_
          refine tg_X7_1 hC fl_X7_7 dX7_areSame_33 ?_
          refine xv_bipush (v := nI 100) hC dX7_areSame_36 (by decide) ?_
          refine xv_iload_n hC dX7_areSame_38 rfl rfl ?_
          refine xv_imul hC dX7_areSame_39 ?_
          refine xv_iload hC dX7_areSame_40 rfl ?_
          refine xv_iadd hC dX7_areSame_42 ?_
          refine xv_cast (congrArg Value.int (ixm _ _ _)) ?_
          refine al_m_has hC dX7_areSame_43 rfl (by first | assumption | omega) ?_
          refine xv_icmp_ne (tgt := 84) hC dX7_areSame_44 (by decide) (fun h44 => ?_) (fun h44 => ?_)
          · have h44 : ¬ mz M 1 (100 * p1 + i) = mz M 1 (100 * q1 + i) := fun z => h44 (congrArg cI z)
            refine xv_iconst (v := nI 0) hC dX7_areSame_84 (by decide) ?_
            refine xv_istore_n hC dX7_areSame_85 rfl (by decide) ?_
            refine xv_iinc hC dX7_areSame_86 rfl (xinc _) (by decide) ?_
            refine xv_goto (tgt := 5) hC dX7_areSame_89 (by decide) ?_
            refine xV.to [(4, .int (nI (i + 1))), (3, .int (cI (allB (mSame M p1 q1) (i + 1)))), (0, .ref g), (1, .int (nI p1)), (2, .int (nI q1))] ⟨rfl, (by first | (apply Eq.symm; apply rN1; simp [allB, mSame, h13, ← h44, h49]; done) | (apply Eq.symm; apply rN1; simp [allB, mSame, h13, ← h44, h49, h77]; done) | (apply Eq.symm; apply rN0; simp [allB, mSame, h13, h44]; done) | (apply Eq.symm; apply rN0; simp [allB, mSame, h13, ← h44, h49, h77]; done)), rfl, rfl, rfl, trivial⟩ ?_
            exact ih5 (i + 1) (by omega) (by omega)
          · have h44 : mz M 1 (100 * p1 + i) = mz M 1 (100 * q1 + i) := cI_inj.mp h44
            refine xv_iload hC dX7_areSame_47 rfl ?_
            refine xv_if_eq (tgt := 80) hC dX7_areSame_49 (by decide) (fun h49 => ?_) (fun h49 => ?_)
            · have h49 : mz M 1 (100 * p1 + i) = false := cI_0.mp h49
              refine xv_iconst (v := nI 1) hC dX7_areSame_80 (by decide) ?_
              refine xv_goto (tgt := 85) hC dX7_areSame_81 (by decide) ?_
              refine xv_istore_n hC dX7_areSame_85 rfl (by decide) ?_
              refine xv_iinc hC dX7_areSame_86 rfl (xinc _) (by decide) ?_
              refine xv_goto (tgt := 5) hC dX7_areSame_89 (by decide) ?_
              refine xV.to [(4, .int (nI (i + 1))), (3, .int (cI (allB (mSame M p1 q1) (i + 1)))), (0, .ref g), (1, .int (nI p1)), (2, .int (nI q1))] ⟨rfl, (by first | (apply Eq.symm; apply rN1; simp [allB, mSame, h13, ← h44, h49]; done) | (apply Eq.symm; apply rN1; simp [allB, mSame, h13, ← h44, h49, h77]; done) | (apply Eq.symm; apply rN0; simp [allB, mSame, h13, h44]; done) | (apply Eq.symm; apply rN0; simp [allB, mSame, h13, ← h44, h49, h77]; done)), rfl, rfl, rfl, trivial⟩ ?_
              exact ih5 (i + 1) (by omega) (by omega)
            · have h49 : mz M 1 (100 * p1 + i) = true := cI_n0.mp h49
              refine xv_aload_n hC dX7_areSame_52 rfl rfl ?_
              refine tg_X7_2 hC fl_X7_13 dX7_areSame_53 ?_
              refine xv_bipush (v := nI 100) hC dX7_areSame_56 (by decide) ?_
              refine xv_iload_n hC dX7_areSame_58 rfl rfl ?_
              refine xv_imul hC dX7_areSame_59 ?_
              refine xv_iload hC dX7_areSame_60 rfl ?_
              refine xv_iadd hC dX7_areSame_62 ?_
              refine xv_cast (congrArg Value.int (ixm _ _ _)) ?_
              refine al_m_values hC dX7_areSame_63 rfl (by first | assumption | omega) ?_
              refine xv_aload_n hC dX7_areSame_64 rfl rfl ?_
              refine tg_X7_2 hC fl_X7_13 dX7_areSame_65 ?_
              refine xv_bipush (v := nI 100) hC dX7_areSame_68 (by decide) ?_
              refine xv_iload_n hC dX7_areSame_70 rfl rfl ?_
              refine xv_imul hC dX7_areSame_71 ?_
              refine xv_iload hC dX7_areSame_72 rfl ?_
              refine xv_iadd hC dX7_areSame_74 ?_
              refine xv_cast (congrArg Value.int (ixm _ _ _)) ?_
              refine al_m_values hC dX7_areSame_75 rfl (by first | assumption | omega) ?_
              refine xv_lcmp hC dX7_areSame_76 ?_
              refine xv_if_ne (tgt := 84) hC dX7_areSame_77 (by decide) (fun h77 => ?_) (fun h77 => ?_)
              · have h77 : ¬ mj M 2 (100 * p1 + i) = mj M 2 (100 * q1 + i) := lcmp_ne.mp h77
                refine xv_iconst (v := nI 0) hC dX7_areSame_84 (by decide) ?_
                refine xv_istore_n hC dX7_areSame_85 rfl (by decide) ?_
                refine xv_iinc hC dX7_areSame_86 rfl (xinc _) (by decide) ?_
                refine xv_goto (tgt := 5) hC dX7_areSame_89 (by decide) ?_
                refine xV.to [(4, .int (nI (i + 1))), (3, .int (cI (allB (mSame M p1 q1) (i + 1)))), (0, .ref g), (1, .int (nI p1)), (2, .int (nI q1))] ⟨rfl, (by first | (apply Eq.symm; apply rN1; simp [allB, mSame, h13, ← h44, h49]; done) | (apply Eq.symm; apply rN1; simp [allB, mSame, h13, ← h44, h49, h77]; done) | (apply Eq.symm; apply rN0; simp [allB, mSame, h13, h44]; done) | (apply Eq.symm; apply rN0; simp [allB, mSame, h13, ← h44, h49, h77]; done)), rfl, rfl, rfl, trivial⟩ ?_
                exact ih5 (i + 1) (by omega) (by omega)
              · have h77 : mj M 2 (100 * p1 + i) = mj M 2 (100 * q1 + i) := by rw [lg_cmp_eq] at h77; exact h77
                refine xv_iconst (v := nI 1) hC dX7_areSame_80 (by decide) ?_
                refine xv_goto (tgt := 85) hC dX7_areSame_81 (by decide) ?_
                refine xv_istore_n hC dX7_areSame_85 rfl (by decide) ?_
                refine xv_iinc hC dX7_areSame_86 rfl (xinc _) (by decide) ?_
                refine xv_goto (tgt := 5) hC dX7_areSame_89 (by decide) ?_
                refine xV.to [(4, .int (nI (i + 1))), (3, .int (cI (allB (mSame M p1 q1) (i + 1)))), (0, .ref g), (1, .int (nI p1)), (2, .int (nI q1))] ⟨rfl, (by first | (apply Eq.symm; apply rN1; simp [allB, mSame, h13, ← h44, h49]; done) | (apply Eq.symm; apply rN1; simp [allB, mSame, h13, ← h44, h49, h77]; done) | (apply Eq.symm; apply rN0; simp [allB, mSame, h13, h44]; done) | (apply Eq.symm; apply rN0; simp [allB, mSame, h13, ← h44, h49, h77]; done)), rfl, rfl, rfl, trivial⟩ ?_
                exact ih5 (i + 1) (by omega) (by omega)
  exact Lp5 101 0 (by omega) (by omega)
set_option maxHeartbeats 1000000 in
set_option maxRecDepth 100000 in
theorem em_writeRows (l : Launch) (G : xD) (g sz : Nat) (M : mT) (w0 : xw) (hd : M.2.2.1 13 + 1200 ≤ 17000) {p1 : Nat} (hp : p1 < 12) : xM l G yX7_writeRows cX7_writeRows 6 none 2 0 0 [.ref g, .int (nI p1)] sz (wM G g (M) w0) (none) (sz) (wM G g (mWs M (mrL M p1 100).2) w0) := by
  refine xM_of (by decide) (Nat.le_of_ble_eq_true rfl) ?_
  intro A p e s m args below meth c hC hr hname
  have hC : xC p s m args meth c cX7_writeRows 6 RX7 G A := hC
  have hr : meth.sig.returnType = none := hr
  show xV p l e _ s m args below meth c G A 6 _ sz _ 0 0 0 [(0, .ref g), (1, .int (nI p1))] []
  refine xv_aload_n hC dX7_writeRows_0 rfl rfl ?_
  refine xv_aload_n hC dX7_writeRows_1 rfl rfl ?_
  refine xv_iload_n hC dX7_writeRows_2 rfl rfl ?_
  refine xv_callV hC Y_yX7_entries im_yX7_entries se_yX7_entries ml_X7_85 dX7_writeRows_3 (em_entries l G g sz (M) w0 (p1 := p1) hp) (ml_w_obj _ _ _ _) rfl rfl rfl (Nat.le_of_ble_eq_true rfl) ⟨Nat.le_of_ble_eq_true rfl, Nat.le_of_ble_eq_true rfl⟩ ⟨Nat.le_of_ble_eq_true rfl, Nat.le_of_ble_eq_true rfl⟩ ?_
  refine xv_rs ?_
  refine xv_i2l hC dX7_writeRows_6 ?_
  refine xv_cast (congrArg Value.long (nI_l (by have := cnt_le (mHas M p1) 100; unfold mEnt; omega))) ?_
  refine xv_callV hC Y_yX7_writeCount im_yX7_writeCount se_yX7_writeCount ml_X7_114 dX7_writeRows_7 (em_writeCount l G g sz (M) w0 (by omega) (lN (mEnt M p1))) (ml_w_obj _ _ _ _) rfl rfl rfl (Nat.le_of_ble_eq_true rfl) ⟨Nat.le_of_ble_eq_true rfl, Nat.le_of_ble_eq_true rfl⟩ ⟨Nat.le_of_ble_eq_true rfl, Nat.le_of_ble_eq_true rfl⟩ ?_
  refine xv_rn ?_
  refine xv_iconst (v := nI 0) hC dX7_writeRows_10 (by decide) ?_
  refine xv_istore_n hC dX7_writeRows_11 rfl (by decide) ?_
  refine xv_iconst (v := nI 0) hC dX7_writeRows_12 (by decide) ?_
  refine xv_istore_n hC dX7_writeRows_13 rfl (by decide) ?_
  have Lp14 : ∀ (n i : Nat), (i ≤ 100) → (100 < i + n) → xV p l e (xr 2 0 0) s m args below meth c G A 6 (MQ below (xQ G A (none) (sz) (wM G g (mWs M (mrL M p1 100).2) w0)) args s 0 0 A) sz (wM G g (mWs M (mrL M p1 i).2) w0) 0 0 14 [(3, .int (nI i)), (2, .int (nI (mrL M p1 i).1)), (0, .ref g), (1, .int (nI p1))] [] := by
    intro n
    induction n with
    | zero =>
      intro i hi hn
      omega
    | succ n ih14 =>
      intro i hi hn
      refine xv_iload_n hC dX7_writeRows_14 rfl rfl ?_
      refine xv_bipush (v := nI 100) hC dX7_writeRows_15 (by decide) ?_
      refine xv_icmp_ge (tgt := 93) hC dX7_writeRows_17 (by decide) (fun h17 => ?_) (fun h17 => ?_)
      · try simp (disch := omega) only [nI_leI, nI_ltI, nI_eq, xz_eq, xz_le, xz_gt, cI_0, cI_n0, cI_inj, lg_cmp_ge, lg_cmp_le, lg_cmp_gt, lg_cmp_lt, lg_cmp_eq, Bool.not_eq_true, Bool.not_eq_false, Nat.not_le, Nat.not_lt] at h17
        exact xv_return hC hr dX7_writeRows_93 rfl rfl (by rw [show i = 100 by omega])
      · try simp (disch := omega) only [nI_leI, nI_ltI, nI_eq, xz_eq, xz_le, xz_gt, cI_0, cI_n0, cI_inj, lg_cmp_ge, lg_cmp_le, lg_cmp_gt, lg_cmp_lt, lg_cmp_eq, Bool.not_eq_true, Bool.not_eq_false, Nat.not_le, Nat.not_lt] at h17
        refine xv_aload_n hC dX7_writeRows_20 rfl rfl ?_
        refine tg_X7_1 hC fl_X7_7 dX7_writeRows_21 ?_
        refine xv_bipush (v := nI 100) hC dX7_writeRows_24 (by decide) ?_
        refine xv_iload_n hC dX7_writeRows_26 rfl rfl ?_
        refine xv_imul hC dX7_writeRows_27 ?_
        refine xv_iload_n hC dX7_writeRows_28 rfl rfl ?_
        refine xv_iadd hC dX7_writeRows_29 ?_
        refine xv_cast (congrArg Value.int (ixm _ _ _)) ?_
        refine al_m_has hC dX7_writeRows_30 rfl (by first | assumption | omega) ?_
        refine xv_if_eq (tgt := 87) hC dX7_writeRows_31 (by decide) (fun h31 => ?_) (fun h31 => ?_)
        · have h31 : mz M 1 (100 * p1 + i) = false := by rw [cI_0, mWs_z] at h31; exact h31
          refine xv_iinc hC dX7_writeRows_87 rfl (xinc _) (by decide) ?_
          refine xv_goto (tgt := 14) hC dX7_writeRows_90 (by decide) ?_
          refine xv_world (show _ = wM G g (mWs M (mrL M p1 (i + 1)).2) w0 by simp [mrL, h31, mWs_app]) ?_
          refine xV.to [(3, .int (nI (i + 1))), (2, .int (nI (mrL M p1 (i + 1)).1)), (0, .ref g), (1, .int (nI p1))] ⟨rfl, congrArg (fun z => some (Value.int (nI z))) (show _ = (mrL M p1 (i + 1)).1 by simp [mrL, h31]), rfl, rfl, trivial⟩ ?_
          exact ih14 (i + 1) (by omega) (by omega)
        · have h31 : mz M 1 (100 * p1 + i) = true := by rw [cI_n0, mWs_z] at h31; exact h31
          refine xv_aload_n hC dX7_writeRows_34 rfl rfl ?_
          refine tg_X7_2 hC fl_X7_13 dX7_writeRows_35 ?_
          refine xv_bipush (v := nI 100) hC dX7_writeRows_38 (by decide) ?_
          refine xv_iload_n hC dX7_writeRows_40 rfl rfl ?_
          refine xv_imul hC dX7_writeRows_41 ?_
          refine xv_iload_n hC dX7_writeRows_42 rfl rfl ?_
          refine xv_iadd hC dX7_writeRows_43 ?_
          refine xv_cast (congrArg Value.int (ixm _ _ _)) ?_
          refine al_m_values hC dX7_writeRows_44 rfl (by first | assumption | omega) ?_
          refine xv_cast (congrArg Value.long (show _ = mj M 2 (100 * p1 + i) by rw [mWs_j])) ?_
          refine xv_lstore hC dX7_writeRows_45 (by decide) ?_
          refine xv_aload_n hC dX7_writeRows_47 rfl rfl ?_
          refine xv_iload_n hC dX7_writeRows_48 rfl rfl ?_
          refine xv_iload_n hC dX7_writeRows_49 rfl rfl ?_
          refine xv_isub hC dX7_writeRows_50 ?_
          refine xv_cast (congrArg Value.int (pk_sub (mrL_le M p1 i))) ?_
          refine xv_i2l hC dX7_writeRows_51 ?_
          refine xv_cast (congrArg Value.long (nI_l (by omega))) ?_
          refine xv_callV hC Y_yX7_writeCount im_yX7_writeCount se_yX7_writeCount ml_X7_114 dX7_writeRows_52 (em_writeCount l G g sz (mWs M (mrL M p1 i).2) w0 (by rw [mWs_n]; have := mrL_len M p1 i (by omega); omega) (lN (i - (mrL M p1 i).1))) (ml_w_obj _ _ _ _) rfl rfl rfl (Nat.le_of_ble_eq_true rfl) ⟨Nat.le_of_ble_eq_true rfl, Nat.le_of_ble_eq_true rfl⟩ ⟨Nat.le_of_ble_eq_true rfl, Nat.le_of_ble_eq_true rfl⟩ ?_
          refine xv_rn ?_
          refine xv_aload_n hC dX7_writeRows_55 rfl rfl ?_
          refine xv_lload hC dX7_writeRows_56 rfl ?_
          refine xv_lconst (v := 0) hC dX7_writeRows_58 (by decide) ?_
          refine xv_lcmp hC dX7_writeRows_59 ?_
          refine xv_if_lt (tgt := 71) hC dX7_writeRows_60 (by decide) (fun h60 => ?_) (fun h60 => ?_)
          · rw [lg_cmp_lt] at h60
            refine xv_ldc2 hC dX7_writeRows_71 kn_X7_118 ?_
            refine xv_lload hC dX7_writeRows_74 rfl ?_
            refine xv_lsub hC dX7_writeRows_76 ?_
            refine xv_lload hC dX7_writeRows_77 rfl ?_
            refine xv_lsub hC dX7_writeRows_79 ?_
            refine xv_cast (congrArg Value.long (show _ = zzE (mj M 2 (100 * p1 + i)) by rw [zzE, if_pos h60])) ?_
            refine xv_callV hC Y_yX7_writeCount im_yX7_writeCount se_yX7_writeCount ml_X7_114 dX7_writeRows_80 (em_writeCount l G g sz (mWs (mWs M (mrL M p1 i).2) (cM 9 (lN (i - (mrL M p1 i).1)))) w0 (by rw [mWs_n, mWs_n, cM_small (by omega)]; have := mrL_len M p1 i (by omega); omega) (zzE (mj M 2 (100 * p1 + i)))) (ml_w_obj _ _ _ _) rfl rfl rfl (Nat.le_of_ble_eq_true rfl) ⟨Nat.le_of_ble_eq_true rfl, Nat.le_of_ble_eq_true rfl⟩ ⟨Nat.le_of_ble_eq_true rfl, Nat.le_of_ble_eq_true rfl⟩ ?_
            refine xv_rn ?_
            refine xv_iload_n hC dX7_writeRows_83 rfl rfl ?_
            refine xv_iconst (v := nI 1) hC dX7_writeRows_84 (by decide) ?_
            refine xv_iadd hC dX7_writeRows_85 ?_
            refine xv_cast (congrArg Value.int (nI_add _ _)) ?_
            refine xv_istore_n hC dX7_writeRows_86 rfl (by decide) ?_
            refine xv_iinc hC dX7_writeRows_87 rfl (xinc _) (by decide) ?_
            refine xv_goto (tgt := 14) hC dX7_writeRows_90 (by decide) ?_
            refine xv_world (show _ = wM G g (mWs M (mrL M p1 (i + 1)).2) w0 by simp [mrL, h31, mWs_app]) ?_
            refine xV.to [(3, .int (nI (i + 1))), (2, .int (nI (mrL M p1 (i + 1)).1)), (0, .ref g), (1, .int (nI p1))] ⟨rfl, congrArg (fun z => some (Value.int (nI z))) (show _ = (mrL M p1 (i + 1)).1 by simp [mrL, h31]), rfl, rfl, trivial⟩ ?_
            exact ih14 (i + 1) (by omega) (by omega)
          · rw [lg_cmp_lt] at h60
            refine xv_lload hC dX7_writeRows_63 rfl ?_
            refine xv_lload hC dX7_writeRows_65 rfl ?_
            refine xv_ladd hC dX7_writeRows_67 ?_
            refine xv_cast (congrArg Value.long (show _ = zzE (mj M 2 (100 * p1 + i)) by rw [zzE, if_neg h60])) ?_
            refine xv_goto (tgt := 80) hC dX7_writeRows_68 (by decide) ?_
            refine xv_callV hC Y_yX7_writeCount im_yX7_writeCount se_yX7_writeCount ml_X7_114 dX7_writeRows_80 (em_writeCount l G g sz (mWs (mWs M (mrL M p1 i).2) (cM 9 (lN (i - (mrL M p1 i).1)))) w0 (by rw [mWs_n, mWs_n, cM_small (by omega)]; have := mrL_len M p1 i (by omega); omega) (zzE (mj M 2 (100 * p1 + i)))) (ml_w_obj _ _ _ _) rfl rfl rfl (Nat.le_of_ble_eq_true rfl) ⟨Nat.le_of_ble_eq_true rfl, Nat.le_of_ble_eq_true rfl⟩ ⟨Nat.le_of_ble_eq_true rfl, Nat.le_of_ble_eq_true rfl⟩ ?_
            refine xv_rn ?_
            refine xv_iload_n hC dX7_writeRows_83 rfl rfl ?_
            refine xv_iconst (v := nI 1) hC dX7_writeRows_84 (by decide) ?_
            refine xv_iadd hC dX7_writeRows_85 ?_
            refine xv_cast (congrArg Value.int (nI_add _ _)) ?_
            refine xv_istore_n hC dX7_writeRows_86 rfl (by decide) ?_
            refine xv_iinc hC dX7_writeRows_87 rfl (xinc _) (by decide) ?_
            refine xv_goto (tgt := 14) hC dX7_writeRows_90 (by decide) ?_
            refine xv_world (show _ = wM G g (mWs M (mrL M p1 (i + 1)).2) w0 by simp [mrL, h31, mWs_app]) ?_
            refine xV.to [(3, .int (nI (i + 1))), (2, .int (nI (mrL M p1 (i + 1)).1)), (0, .ref g), (1, .int (nI p1))] ⟨rfl, congrArg (fun z => some (Value.int (nI z))) (show _ = (mrL M p1 (i + 1)).1 by simp [mrL, h31]), rfl, rfl, trivial⟩ ?_
            exact ih14 (i + 1) (by omega) (by omega)
  exact Lp14 101 0 (by omega) (by omega)
set_option maxHeartbeats 1000000 in
set_option maxRecDepth 100000 in
theorem em_nextPart (l : Launch) (G : xD) (g sz : Nat) (M : mT) (w0 : xw) : xM l G yX7_nextPart cX7_nextPart 5 (some .int) 0 0 0 [.ref g] sz (wM G g (M) w0) (some (.int (mNp (M.2.2.2.1 26) (M.2.2.2.1 3) 12))) (sz) (wM G g (M) w0) := by
  refine xM_of (by decide) (Nat.le_of_ble_eq_true rfl) ?_
  intro A p e s m args below meth c hC hr hname
  have hC : xC p s m args meth c cX7_nextPart 5 RX7 G A := hC
  have hr : meth.sig.returnType = (some .int) := hr
  show xV p l e _ s m args below meth c G A 5 _ sz _ 0 0 0 [(0, .ref g)] []
  refine xv_iconst (v := -1) hC dX7_nextPart_0 (by decide) ?_
  refine xv_istore_n hC dX7_nextPart_1 rfl (by decide) ?_
  refine xv_bipush (v := nI 11) hC dX7_nextPart_2 (by decide) ?_
  refine xv_istore_n hC dX7_nextPart_4 rfl (by decide) ?_
  have Lp5 : ∀ (n k : Nat), (k ≤ 12) → (12 < k + n) → xV p l e (xr 0 0 0) s m args below meth c G A 5 (MQ below (xQ G A (some (.int (mNp (M.2.2.2.1 26) (M.2.2.2.1 3) 12))) (sz) (wM G g (M) w0)) args s 0 0 A) sz (wM G g (M) w0) 0 0 5 [(2, .int (nI 11 - nI k)), (1, .int (mNp (M.2.2.2.1 26) (M.2.2.2.1 3) k)), (0, .ref g)] [] := by
    intro n
    induction n with
    | zero =>
      intro k hk hn
      omega
    | succ n ih5 =>
      intro k hk hn
      refine xv_iload_n hC dX7_nextPart_5 rfl rfl ?_
      refine xv_if_lt (tgt := 89) hC dX7_nextPart_6 (by decide) (fun h6 => ?_) (fun h6 => ?_)
      · have hk12 : k = 12 := by
          rcases Nat.lt_or_ge 11 k with z | z
          · omega
          · rw [pk_sub z] at h6
            exact absurd h6 (nI_pos (by omega))
        refine xv_iload_n hC dX7_nextPart_89 rfl rfl ?_
        exact xv_ireturn hC hr dX7_nextPart_90 (by rw [hk12]) rfl rfl
      · have hk11 : k ≤ 11 := by
          rcases Nat.lt_or_ge 11 k with z | z
          · rw [show k = 12 by omega] at h6
            exact absurd (by decide) h6
          · exact z
        refine xV.to [(2, .int (nI (11 - k))), (1, .int (mNp (M.2.2.2.1 26) (M.2.2.2.1 3) k)), (0, .ref g)] ⟨congrArg (fun z => some (Value.int z)) (pk_sub hk11), rfl, rfl, trivial⟩ ?_
        refine xv_aload_n hC dX7_nextPart_9 rfl rfl ?_
        refine tg_X7_26 hC fl_X7_58 dX7_nextPart_10 ?_
        refine xv_iload_n hC dX7_nextPart_13 rfl rfl ?_
        refine al_m_wanted hC dX7_nextPart_14 rfl (by first | assumption | omega) ?_
        refine xv_istore_n hC dX7_nextPart_15 rfl (by decide) ?_
        refine xv_iconst (v := nI 0) hC dX7_nextPart_16 (by decide) ?_
        refine xv_istore hC dX7_nextPart_17 (by decide) ?_
        have Lp19 : ∀ (n q1 : Nat), (q1 ≤ 12) → (12 < q1 + n) → xV p l e (xr 0 0 0) s m args below meth c G A 5 (MQ below (xQ G A (some (.int (mNp (M.2.2.2.1 26) (M.2.2.2.1 3) 12))) (sz) (wM G g (M) w0)) args s 0 0 A) sz (wM G g (M) w0) 0 0 19 [(4, .int (nI q1)), (3, .int (cI (mFr (M.2.2.2.1 26) (M.2.2.2.1 3) (11 - k) q1))), (2, .int (nI (11 - k))), (1, .int (mNp (M.2.2.2.1 26) (M.2.2.2.1 3) k)), (0, .ref g)] [] := by
          intro n
          induction n with
          | zero =>
            intro q1 hq1 hn2
            omega
          | succ n ih19 =>
            intro q1 hq1 hn2
            refine xv_iload hC dX7_nextPart_19 rfl ?_
            refine xv_bipush (v := nI 12) hC dX7_nextPart_21 (by decide) ?_
            refine xv_icmp_ge (tgt := 73) hC dX7_nextPart_23 (by decide) (fun h23 => ?_) (fun h23 => ?_)
            · try simp (disch := omega) only [nI_leI, nI_ltI, nI_eq, xz_eq, xz_le, xz_gt, cI_0, cI_n0, cI_inj, lg_cmp_ge, lg_cmp_le, lg_cmp_gt, lg_cmp_lt, lg_cmp_eq, Bool.not_eq_true, Bool.not_eq_false, Nat.not_le, Nat.not_lt] at h23
              refine xv_iload_n hC dX7_nextPart_73 rfl rfl ?_
              refine xv_if_eq (tgt := 81) hC dX7_nextPart_74 (by decide) (fun h74 => ?_) (fun h74 => ?_)
              · have hf74 : mFr (M.2.2.2.1 26) (M.2.2.2.1 3) (11 - k) q1 = false := cI_0.mp h74
                rw [show q1 = 12 by omega] at hf74
                refine xv_iload_n hC dX7_nextPart_81 rfl rfl ?_
                refine xv_istore_n hC dX7_nextPart_82 rfl (by decide) ?_
                refine xv_iinc hC dX7_nextPart_83 rfl rfl (by decide) ?_
                refine xv_goto (tgt := 5) hC dX7_nextPart_86 (by decide) ?_
                have hq12 : q1 = 12 := by omega
                subst hq12
                refine xV.to [(2, .int (nI 11 - nI (k + 1))), (1, .int (mNp (M.2.2.2.1 26) (M.2.2.2.1 3) (k + 1))), (0, .ref g)] ⟨congrArg (fun z => some (Value.int z)) (sub1 hk11), congrArg (fun z => some (Value.int z)) (by simp [mNp, hf74]), rfl, trivial⟩ ?_
                exact ih5 (k + 1) (by omega) (by omega)
              · have hf74 : mFr (M.2.2.2.1 26) (M.2.2.2.1 3) (11 - k) q1 = true := cI_n0.mp h74
                rw [show q1 = 12 by omega] at hf74
                refine xv_iload_n hC dX7_nextPart_77 rfl rfl ?_
                refine xv_goto (tgt := 82) hC dX7_nextPart_78 (by decide) ?_
                refine xv_istore_n hC dX7_nextPart_82 rfl (by decide) ?_
                refine xv_iinc hC dX7_nextPart_83 rfl rfl (by decide) ?_
                refine xv_goto (tgt := 5) hC dX7_nextPart_86 (by decide) ?_
                have hq12 : q1 = 12 := by omega
                subst hq12
                refine xV.to [(2, .int (nI 11 - nI (k + 1))), (1, .int (mNp (M.2.2.2.1 26) (M.2.2.2.1 3) (k + 1))), (0, .ref g)] ⟨congrArg (fun z => some (Value.int z)) (sub1 hk11), congrArg (fun z => some (Value.int z)) (by simp [mNp, hf74]), rfl, trivial⟩ ?_
                exact ih5 (k + 1) (by omega) (by omega)
            · try simp (disch := omega) only [nI_leI, nI_ltI, nI_eq, xz_eq, xz_le, xz_gt, cI_0, cI_n0, cI_inj, lg_cmp_ge, lg_cmp_le, lg_cmp_gt, lg_cmp_lt, lg_cmp_eq, Bool.not_eq_true, Bool.not_eq_false, Nat.not_le, Nat.not_lt] at h23
              refine xv_iload_n hC dX7_nextPart_26 rfl rfl ?_
              refine xv_if_eq (tgt := 65) hC dX7_nextPart_27 (by decide) (fun h27 => ?_) (fun h27 => ?_)
              · have h27 : mFr (M.2.2.2.1 26) (M.2.2.2.1 3) (11 - k) q1 = false := cI_0.mp h27
                refine xv_iconst (v := nI 0) hC dX7_nextPart_65 (by decide) ?_
                refine xv_istore_n hC dX7_nextPart_66 rfl (by decide) ?_
                refine xv_iinc hC dX7_nextPart_67 rfl (xinc _) (by decide) ?_
                refine xv_goto (tgt := 19) hC dX7_nextPart_70 (by decide) ?_
                refine xV.to [(4, .int (nI (q1 + 1))), (3, .int (cI (mFr (M.2.2.2.1 26) (M.2.2.2.1 3) (11 - k) (q1 + 1)))), (2, .int (nI (11 - k))), (1, .int (mNp (M.2.2.2.1 26) (M.2.2.2.1 3) k)), (0, .ref g)] ⟨rfl, (by first | (apply Eq.symm; apply rN0; simp only [mFr, h27, Bool.false_and]; done) | (apply Eq.symm; apply rN1; simp only [mFr, h27]; simp [h33]; done) | (apply Eq.symm; apply rN1; simp [mFr, h27, h33, h43]; done) | (apply Eq.symm; apply rN1; simp [mFr, h27, h33, h43, h58]; done) | (apply Eq.symm; apply rN0; simp [mFr, h27, h33, h43, h58]; done)), rfl, rfl, rfl, trivial⟩ ?_
                exact ih19 (q1 + 1) (by omega) (by omega)
              · have h27 : mFr (M.2.2.2.1 26) (M.2.2.2.1 3) (11 - k) q1 = true := cI_n0.mp h27
                refine xv_iload hC dX7_nextPart_30 rfl ?_
                refine xv_iload_n hC dX7_nextPart_32 rfl rfl ?_
                refine xv_icmp_eq (tgt := 61) hC dX7_nextPart_33 (by decide) (fun h33 => ?_) (fun h33 => ?_)
                · have h33 : q1 = 11 - k := (nI_eq (by omega) (by omega)).mp h33
                  refine xv_iconst (v := nI 1) hC dX7_nextPart_61 (by decide) ?_
                  refine xv_goto (tgt := 66) hC dX7_nextPart_62 (by decide) ?_
                  refine xv_istore_n hC dX7_nextPart_66 rfl (by decide) ?_
                  refine xv_iinc hC dX7_nextPart_67 rfl (xinc _) (by decide) ?_
                  refine xv_goto (tgt := 19) hC dX7_nextPart_70 (by decide) ?_
                  refine xV.to [(4, .int (nI (q1 + 1))), (3, .int (cI (mFr (M.2.2.2.1 26) (M.2.2.2.1 3) (11 - k) (q1 + 1)))), (2, .int (nI (11 - k))), (1, .int (mNp (M.2.2.2.1 26) (M.2.2.2.1 3) k)), (0, .ref g)] ⟨rfl, (by first | (apply Eq.symm; apply rN0; simp only [mFr, h27, Bool.false_and]; done) | (apply Eq.symm; apply rN1; simp only [mFr, h27]; simp [h33]; done) | (apply Eq.symm; apply rN1; simp [mFr, h27, h33, h43]; done) | (apply Eq.symm; apply rN1; simp [mFr, h27, h33, h43, h58]; done) | (apply Eq.symm; apply rN0; simp [mFr, h27, h33, h43, h58]; done)), rfl, rfl, rfl, trivial⟩ ?_
                  exact ih19 (q1 + 1) (by omega) (by omega)
                · have h33 : ¬ q1 = 11 - k := fun z => h33 (congrArg nI z)
                  refine xv_aload_n hC dX7_nextPart_36 rfl rfl ?_
                  refine tg_X7_26 hC fl_X7_58 dX7_nextPart_37 ?_
                  refine xv_iload hC dX7_nextPart_40 rfl ?_
                  refine al_m_wanted hC dX7_nextPart_42 rfl (by first | assumption | omega) ?_
                  refine xv_if_eq (tgt := 61) hC dX7_nextPart_43 (by decide) (fun h43 => ?_) (fun h43 => ?_)
                  · have h43 : M.2.2.2.1 26 q1 = false := cI_0.mp h43
                    refine xv_iconst (v := nI 1) hC dX7_nextPart_61 (by decide) ?_
                    refine xv_goto (tgt := 66) hC dX7_nextPart_62 (by decide) ?_
                    refine xv_istore_n hC dX7_nextPart_66 rfl (by decide) ?_
                    refine xv_iinc hC dX7_nextPart_67 rfl (xinc _) (by decide) ?_
                    refine xv_goto (tgt := 19) hC dX7_nextPart_70 (by decide) ?_
                    refine xV.to [(4, .int (nI (q1 + 1))), (3, .int (cI (mFr (M.2.2.2.1 26) (M.2.2.2.1 3) (11 - k) (q1 + 1)))), (2, .int (nI (11 - k))), (1, .int (mNp (M.2.2.2.1 26) (M.2.2.2.1 3) k)), (0, .ref g)] ⟨rfl, (by first | (apply Eq.symm; apply rN0; simp only [mFr, h27, Bool.false_and]; done) | (apply Eq.symm; apply rN1; simp only [mFr, h27]; simp [h33]; done) | (apply Eq.symm; apply rN1; simp [mFr, h27, h33, h43]; done) | (apply Eq.symm; apply rN1; simp [mFr, h27, h33, h43, h58]; done) | (apply Eq.symm; apply rN0; simp [mFr, h27, h33, h43, h58]; done)), rfl, rfl, rfl, trivial⟩ ?_
                    exact ih19 (q1 + 1) (by omega) (by omega)
                  · have h43 : M.2.2.2.1 26 q1 = true := cI_n0.mp h43
                    refine xv_aload_n hC dX7_nextPart_46 rfl rfl ?_
                    refine tg_X7_3 hC fl_X7_17 dX7_nextPart_47 ?_
                    refine xv_bipush (v := nI 12) hC dX7_nextPart_50 (by decide) ?_
                    refine xv_iload_n hC dX7_nextPart_52 rfl rfl ?_
                    refine xv_imul hC dX7_nextPart_53 ?_
                    refine xv_iload hC dX7_nextPart_54 rfl ?_
                    refine xv_iadd hC dX7_nextPart_56 ?_
                    refine xv_cast (congrArg Value.int (ixm _ _ _)) ?_
                    refine al_m_needed hC dX7_nextPart_57 rfl (by first | assumption | omega) ?_
                    refine xv_if_ne (tgt := 65) hC dX7_nextPart_58 (by decide) (fun h58 => ?_) (fun h58 => ?_)
                    · have h58 : M.2.2.2.1 3 (12 * (11 - k) + q1) = true := cI_n0.mp h58
                      refine xv_iconst (v := nI 0) hC dX7_nextPart_65 (by decide) ?_
                      refine xv_istore_n hC dX7_nextPart_66 rfl (by decide) ?_
                      refine xv_iinc hC dX7_nextPart_67 rfl (xinc _) (by decide) ?_
                      refine xv_goto (tgt := 19) hC dX7_nextPart_70 (by decide) ?_
                      refine xV.to [(4, .int (nI (q1 + 1))), (3, .int (cI (mFr (M.2.2.2.1 26) (M.2.2.2.1 3) (11 - k) (q1 + 1)))), (2, .int (nI (11 - k))), (1, .int (mNp (M.2.2.2.1 26) (M.2.2.2.1 3) k)), (0, .ref g)] ⟨rfl, (by first | (apply Eq.symm; apply rN0; simp only [mFr, h27, Bool.false_and]; done) | (apply Eq.symm; apply rN1; simp only [mFr, h27]; simp [h33]; done) | (apply Eq.symm; apply rN1; simp [mFr, h27, h33, h43]; done) | (apply Eq.symm; apply rN1; simp [mFr, h27, h33, h43, h58]; done) | (apply Eq.symm; apply rN0; simp [mFr, h27, h33, h43, h58]; done)), rfl, rfl, rfl, trivial⟩ ?_
                      exact ih19 (q1 + 1) (by omega) (by omega)
                    · have h58 : M.2.2.2.1 3 (12 * (11 - k) + q1) = false := cI_0.mp h58
                      refine xv_iconst (v := nI 1) hC dX7_nextPart_61 (by decide) ?_
                      refine xv_goto (tgt := 66) hC dX7_nextPart_62 (by decide) ?_
                      refine xv_istore_n hC dX7_nextPart_66 rfl (by decide) ?_
                      refine xv_iinc hC dX7_nextPart_67 rfl (xinc _) (by decide) ?_
                      refine xv_goto (tgt := 19) hC dX7_nextPart_70 (by decide) ?_
                      refine xV.to [(4, .int (nI (q1 + 1))), (3, .int (cI (mFr (M.2.2.2.1 26) (M.2.2.2.1 3) (11 - k) (q1 + 1)))), (2, .int (nI (11 - k))), (1, .int (mNp (M.2.2.2.1 26) (M.2.2.2.1 3) k)), (0, .ref g)] ⟨rfl, (by first | (apply Eq.symm; apply rN0; simp only [mFr, h27, Bool.false_and]; done) | (apply Eq.symm; apply rN1; simp only [mFr, h27]; simp [h33]; done) | (apply Eq.symm; apply rN1; simp [mFr, h27, h33, h43]; done) | (apply Eq.symm; apply rN1; simp [mFr, h27, h33, h43, h58]; done) | (apply Eq.symm; apply rN0; simp [mFr, h27, h33, h43, h58]; done)), rfl, rfl, rfl, trivial⟩ ?_
                      exact ih19 (q1 + 1) (by omega) (by omega)
        refine xV.to [(4, .int (nI 0)), (3, .int (cI (mFr (M.2.2.2.1 26) (M.2.2.2.1 3) (11 - k) 0))), (2, .int (nI (11 - k))), (1, .int (mNp (M.2.2.2.1 26) (M.2.2.2.1 3) k)), (0, .ref g)] ⟨rfl, rfl, rfl, rfl, rfl, trivial⟩ ?_
        exact Lp19 13 0 (by omega) (by omega)
  refine xV.to [(2, .int (nI 11 - nI 0)), (1, .int (-1)), (0, .ref g)] ⟨rfl, rfl, rfl, trivial⟩ ?_
  exact Lp5 13 0 (by omega) (by omega)
