set_option maxHeartbeats 1000000 in
set_option maxRecDepth 100000 in
theorem em_octet (l : Launch) (G : xD) (g sz : Nat) (M : mT) (w0 : xw) (hL : M.2.2.1 11 ≤ 8000) (x : Int32) : xM l G yX7_octet cX7_octet 2 (some .byte) 1 0 0 [.ref g, .int x] sz (wM G g (M) w0) (some (.int (mOcV M x))) (sz) (wM G g (mOcM M x) w0) := by
  refine xM_of (by decide) (Nat.le_of_ble_eq_true rfl) ?_
  intro A p e s m args below meth c hC hr hname
  have hC : xC p s m args meth c cX7_octet 2 RX7 G A := hC
  have hr : meth.sig.returnType = (some .byte) := hr
  show xV p l e _ s m args below meth c G A 2 _ sz _ 0 0 0 [(0, .ref g), (1, .int x)] []
  refine xv_aload_n hC dX7_octet_0 rfl rfl ?_
  refine xv_iload_n hC dX7_octet_1 rfl rfl ?_
  refine xv_i2l hC dX7_octet_2 ?_
  refine xv_lconst (v := 0) hC dX7_octet_3 (by decide) ?_
  refine xv_aload_n hC dX7_octet_4 rfl rfl ?_
  refine tg_X7_11 hC fl_X7_143 dX7_octet_5 ?_
  refine xv_iconst (v := nI 1) hC dX7_octet_8 (by decide) ?_
  refine xv_isub hC dX7_octet_9 ?_
  refine xv_i2l hC dX7_octet_10 ?_
  refine xv_callS hC Y_yX7_in sm_yX7_in ml_X7_73 dX7_octet_11 (em_in l G sz _ x.toInt64 0 (nI (M.2.2.1 11) - nI 1).toInt64) rfl rfl (Nat.le_of_ble_eq_true rfl) ⟨Nat.le_of_ble_eq_true rfl, Nat.le_of_ble_eq_true rfl⟩ ⟨Nat.le_of_ble_eq_true rfl, Nat.le_of_ble_eq_true rfl⟩ ?_
  refine xv_rs ?_
  refine xv_if_eq (tgt := 21) hC dX7_octet_14 (by decide) (fun h14 => ?_) (fun h14 => ?_)
  · rw [cI_0, inXL (by omega)] at h14
    refine xv_iconst (v := nI 1) hC dX7_octet_21 (by decide) ?_
    refine tp_X7_0 hC fl_X7_64 dX7_octet_22 ?_
    refine xv_world (show _ = wM G g (mOcM M x) w0 by rw [mOcM, h14]; rfl) ?_
    refine xv_aload_n hC dX7_octet_25 rfl rfl ?_
    refine tg_X7_0 hC fl_X7_64 dX7_octet_26 ?_
    refine xv_cast (show _ = Value.int (if xIn x (M.2.2.1 11) = true then nI 0 else nI 1) from rfl) ?_
    rw [h14]
    refine xv_if_le (tgt := 36) hC dX7_octet_29 (by decide) (fun h29 => ?_) (fun h29 => ?_)
    · exact absurd h29 (by decide)
    · refine xv_iconst (v := nI 0) hC dX7_octet_32 (by decide) ?_
      refine xv_goto (tgt := 43) hC dX7_octet_33 (by decide) ?_
      exact xv_zreturn hC hr (by first | rfl | exact congrArg Value.int (pk_vb _)) dX7_octet_43 (rI (by rw [mOcV, h14]; rfl)) rfl rfl
  · rw [cI_n0, inXL (by omega)] at h14
    have hx := xIn_cl (by omega) h14
    have hx1 := hx.1
    refine xv_iconst (v := nI 0) hC dX7_octet_17 (by decide) ?_
    refine xv_goto (tgt := 22) hC dX7_octet_18 (by decide) ?_
    refine tp_X7_0 hC fl_X7_64 dX7_octet_22 ?_
    refine xv_world (show _ = wM G g (mOcM M x) w0 by rw [mOcM, h14]; rfl) ?_
    refine xv_aload_n hC dX7_octet_25 rfl rfl ?_
    refine tg_X7_0 hC fl_X7_64 dX7_octet_26 ?_
    refine xv_cast (show _ = Value.int (if xIn x (M.2.2.1 11) = true then nI 0 else nI 1) from rfl) ?_
    rw [h14]
    refine xv_if_le (tgt := 36) hC dX7_octet_29 (by decide) (fun h29 => ?_) (fun h29 => ?_)
    · refine xv_aload_n hC dX7_octet_36 rfl rfl ?_
      refine tg_X7_10 hC fl_X7_27 dX7_octet_37 ?_
      refine xv_iload_n hC dX7_octet_40 rfl rfl ?_
      refine xv_cast (congrArg Value.int hx.2) ?_
      refine al_m_bytes hC dX7_octet_41 rfl (by first | assumption | omega) ?_
      refine xv_i2b hC dX7_octet_42 ?_
      exact xv_zreturn hC hr (by first | rfl | exact congrArg Value.int (pk_vb _)) dX7_octet_43 (rI (by rw [mOcV, h14]; rfl)) rfl rfl
    · exact absurd h29 (by decide)
set_option maxHeartbeats 1000000 in
set_option maxRecDepth 100000 in
theorem em_cut (l : Launch) (G : xD) (g sz : Nat) (M : mT) (w0 : xw) (hL : M.2.2.1 11 ≤ 8000) (x : Int32) : xM l G yX7_cut cX7_cut 2 (some .int) 1 0 0 [.ref g, .int x] sz (wM G g (M) w0) (some (.int (if mCuB M x = true then x else -2))) (sz) (wM G g (if mCuB M x = true then mN (mT0 M) 11 (cl x) else mT0 M) w0) := by
  refine xM_of (by decide) (Nat.le_of_ble_eq_true rfl) ?_
  intro A p e s m args below meth c hC hr hname
  have hC : xC p s m args meth c cX7_cut 2 RX7 G A := hC
  have hr : meth.sig.returnType = (some .int) := hr
  show xV p l e _ s m args below meth c G A 2 _ sz _ 0 0 0 [(0, .ref g), (1, .int x)] []
  refine xv_aload_n hC dX7_cut_0 rfl rfl ?_
  refine xv_iconst (v := nI 0) hC dX7_cut_1 (by decide) ?_
  refine tp_X7_0 hC fl_X7_64 dX7_cut_2 ?_
  refine xv_iload_n hC dX7_cut_5 rfl rfl ?_
  refine xv_i2l hC dX7_cut_6 ?_
  refine xv_lconst (v := 0) hC dX7_cut_7 (by decide) ?_
  refine xv_aload_n hC dX7_cut_8 rfl rfl ?_
  refine tg_X7_11 hC fl_X7_143 dX7_cut_9 ?_
  refine xv_i2l hC dX7_cut_12 ?_
  refine xv_callS hC Y_yX7_in sm_yX7_in ml_X7_73 dX7_cut_13 (em_in l G sz _ x.toInt64 0 (nI (M.2.2.1 11)).toInt64) rfl rfl (Nat.le_of_ble_eq_true rfl) ⟨Nat.le_of_ble_eq_true rfl, Nat.le_of_ble_eq_true rfl⟩ ⟨Nat.le_of_ble_eq_true rfl, Nat.le_of_ble_eq_true rfl⟩ ?_
  refine xv_rs ?_
  refine xv_if_ne (tgt := 22) hC dX7_cut_16 (by decide) (fun h16 => ?_) (fun h16 => ?_)
  · rw [cI_n0, inX2 (m := 0) (n := M.2.2.1 11) (by omega) (by omega) (by decide) (by rw [Int32.toInt_toInt64, nI_toInt (by omega)])] at h16
    have h16 : mCuB M x = true := h16
    have hx : x = nI (cl x) := by
      have h16 := h16
      unfold mCuB at h16
      simp only [Bool.and_eq_true, decide_eq_true_eq] at h16
      rcases pk_ix x (show 8001 < 2 ^ 31 by omega) with z | z | ⟨j, hj, rfl⟩
      · exact absurd z (Int32.not_lt.mpr h16.1)
      · exact absurd (Int32.le_trans z h16.2) (nI_ge (by omega) (by omega))
      · rw [show cl (nI j) = j from nI_clamp (by omega)]
    refine xv_aload_n hC dX7_cut_22 rfl rfl ?_
    refine xv_iload_n hC dX7_cut_23 rfl rfl ?_
    refine tp_X7_11 hC fl_X7_143 dX7_cut_24 hx ?_
    refine xv_iload_n hC dX7_cut_27 rfl rfl ?_
    exact xv_ireturn hC hr dX7_cut_28 (rI (by rw [h16]; rfl)) rfl (by rw [h16]; rfl)
  · rw [cI_0, inX2 (m := 0) (n := M.2.2.1 11) (by omega) (by omega) (by decide) (by rw [Int32.toInt_toInt64, nI_toInt (by omega)])] at h16
    have h16 : mCuB M x = false := h16
    refine xv_bipush (v := -2) hC dX7_cut_19 (by decide) ?_
    exact xv_ireturn hC hr dX7_cut_21 (rI (by rw [h16]; rfl)) rfl (by rw [h16]; rfl)
set_option maxHeartbeats 1000000 in
set_option maxRecDepth 100000 in
theorem em_add (l : Launch) (G : xD) (g sz : Nat) (M : mT) (w0 : xw) (hL : M.2.2.1 11 ≤ 8000) (x : Int32) : xM l G yX7_add cX7_add 2 (some .int) 0 0 0 [.ref g, .int x] sz (wM G g (M) w0) (some (.int (if M.2.2.1 11 = 8000 then -4 else nI (M.2.2.1 11 + 1)))) (sz) (wM G g (mAdM M x) w0) := by
  refine xM_of (by decide) (Nat.le_of_ble_eq_true rfl) ?_
  intro A p e s m args below meth c hC hr hname
  have hC : xC p s m args meth c cX7_add 2 RX7 G A := hC
  have hr : meth.sig.returnType = (some .int) := hr
  show xV p l e _ s m args below meth c G A 2 _ sz _ 0 0 0 [(0, .ref g), (1, .int x)] []
  refine xv_aload_n hC dX7_add_0 rfl rfl ?_
  refine xv_iconst (v := nI 0) hC dX7_add_1 (by decide) ?_
  refine tp_X7_0 hC fl_X7_64 dX7_add_2 ?_
  refine xv_aload_n hC dX7_add_5 rfl rfl ?_
  refine tg_X7_11 hC fl_X7_143 dX7_add_6 ?_
  refine xv_sipush (v := nI 8000) hC dX7_add_9 (by decide) ?_
  refine xv_icmp_ne (tgt := 18) hC dX7_add_12 (by decide) (fun h12 => ?_) (fun h12 => ?_)
  · have h12 : ¬ M.2.2.1 11 = 8000 := fun z => h12 (congrArg nI z)
    refine xv_aload_n hC dX7_add_18 rfl rfl ?_
    refine tg_X7_10 hC fl_X7_27 dX7_add_19 ?_
    refine xv_aload_n hC dX7_add_22 rfl rfl ?_
    refine tg_X7_11 hC fl_X7_143 dX7_add_23 ?_
    refine xv_iload_n hC dX7_add_26 rfl rfl ?_
    refine xv_sipush (v := nI 255) hC dX7_add_27 (by decide) ?_
    refine xv_iand hC dX7_add_30 ?_
    refine as_m_bytes hC dX7_add_31 rfl (show M.2.2.1 11 < 8000 by omega) ?_
    refine xv_aload_n hC dX7_add_32 rfl rfl ?_
    refine xv_dup hC dX7_add_33 rfl ?_
    refine tg_X7_11 hC fl_X7_143 dX7_add_34 ?_
    refine xv_iconst (v := nI 1) hC dX7_add_37 (by decide) ?_
    refine xv_iadd hC dX7_add_38 ?_
    refine xv_cast (congrArg Value.int (show _ = nI (M.2.2.1 11 + 1) from nI_add _ 1)) ?_
    refine tp_X7_11 hC fl_X7_143 dX7_add_39 rfl ?_
    refine xv_aload_n hC dX7_add_42 rfl rfl ?_
    refine tg_X7_11 hC fl_X7_143 dX7_add_43 ?_
    exact xv_ireturn hC hr dX7_add_46 (rI (by rw [if_neg h12]; rfl)) rfl (by rw [mAdM, if_neg h12]; rfl)
  · have h12 : M.2.2.1 11 = 8000 := (nI_eq (by omega) (by omega)).mp h12
    refine xv_bipush (v := -4) hC dX7_add_15 (by decide) ?_
    exact xv_ireturn hC hr dX7_add_17 (rI (by rw [if_pos h12])) rfl (by rw [mAdM, if_pos h12]; rfl)
set_option maxHeartbeats 1000000 in
set_option maxRecDepth 100000 in
theorem em_poke (l : Launch) (G : xD) (g sz : Nat) (M : mT) (w0 : xw) (hL : M.2.2.1 11 ≤ 8000) (x y : Int32) : xM l G yX7_poke cX7_poke 3 (some .int) 1 0 0 [.ref g, .int x, .int y] sz (wM G g (M) w0) (some (.int (mPkV M x y))) (sz) (wM G g (mPkM M x y) w0) := by
  refine xM_of (by decide) (Nat.le_of_ble_eq_true rfl) ?_
  intro A p e s m args below meth c hC hr hname
  have hC : xC p s m args meth c cX7_poke 3 RX7 G A := hC
  have hr : meth.sig.returnType = (some .int) := hr
  show xV p l e _ s m args below meth c G A 3 _ sz _ 0 0 0 [(0, .ref g), (1, .int x), (2, .int y)] []
  refine xv_aload_n hC dX7_poke_0 rfl rfl ?_
  refine xv_iconst (v := nI 0) hC dX7_poke_1 (by decide) ?_
  refine tp_X7_0 hC fl_X7_64 dX7_poke_2 ?_
  refine xv_iload_n hC dX7_poke_5 rfl rfl ?_
  refine xv_i2l hC dX7_poke_6 ?_
  refine xv_lconst (v := 0) hC dX7_poke_7 (by decide) ?_
  refine xv_aload_n hC dX7_poke_8 rfl rfl ?_
  refine tg_X7_11 hC fl_X7_143 dX7_poke_9 ?_
  refine xv_iconst (v := nI 1) hC dX7_poke_12 (by decide) ?_
  refine xv_isub hC dX7_poke_13 ?_
  refine xv_i2l hC dX7_poke_14 ?_
  refine xv_callS hC Y_yX7_in sm_yX7_in ml_X7_73 dX7_poke_15 (em_in l G sz _ x.toInt64 0 (nI (M.2.2.1 11) - nI 1).toInt64) rfl rfl (Nat.le_of_ble_eq_true rfl) ⟨Nat.le_of_ble_eq_true rfl, Nat.le_of_ble_eq_true rfl⟩ ⟨Nat.le_of_ble_eq_true rfl, Nat.le_of_ble_eq_true rfl⟩ ?_
  refine xv_rs ?_
  refine xv_if_ne (tgt := 23) hC dX7_poke_18 (by decide) (fun h18 => ?_) (fun h18 => ?_)
  · rw [cI_n0, inXL (by omega)] at h18
    have hx := xIn_cl (by omega) h18
    have hx1 := hx.1
    refine xv_iload_n hC dX7_poke_23 rfl rfl ?_
    refine xv_i2l hC dX7_poke_24 ?_
    refine xv_lconst (v := 1) hC dX7_poke_25 (by decide) ?_
    refine xv_ldc2 hC dX7_poke_26 kn_X7_146 ?_
    refine xv_callS hC Y_yX7_in sm_yX7_in ml_X7_73 dX7_poke_29 (em_in l G sz _ y.toInt64 1 255) rfl rfl (Nat.le_of_ble_eq_true rfl) ⟨Nat.le_of_ble_eq_true rfl, Nat.le_of_ble_eq_true rfl⟩ ⟨Nat.le_of_ble_eq_true rfl, Nat.le_of_ble_eq_true rfl⟩ ?_
    refine xv_rs ?_
    refine xv_if_ne (tgt := 38) hC dX7_poke_32 (by decide) (fun h32 => ?_) (fun h32 => ?_)
    · rw [cI_n0, inX2 (m := 1) (n := 255) (by omega) (by omega) (by decide) (by decide)] at h32
      have h32 : fkB y = true := h32
      refine xv_aload_n hC dX7_poke_38 rfl rfl ?_
      refine tg_X7_10 hC fl_X7_27 dX7_poke_39 ?_
      refine xv_iload_n hC dX7_poke_42 rfl rfl ?_
      refine xv_cast (congrArg Value.int hx.2) ?_
      refine xv_aload_n hC dX7_poke_43 rfl rfl ?_
      refine tg_X7_10 hC fl_X7_27 dX7_poke_44 ?_
      refine xv_iload_n hC dX7_poke_47 rfl rfl ?_
      refine xv_cast (congrArg Value.int hx.2) ?_
      refine al_m_bytes hC dX7_poke_48 rfl (by first | assumption | omega) ?_
      refine xv_iload_n hC dX7_poke_49 rfl rfl ?_
      refine xv_ixor hC dX7_poke_50 ?_
      refine as_m_bytes hC dX7_poke_51 rfl (by first | assumption | omega) ?_
      refine xv_aload_n hC dX7_poke_52 rfl rfl ?_
      refine tg_X7_10 hC fl_X7_27 dX7_poke_53 ?_
      refine xv_iload_n hC dX7_poke_56 rfl rfl ?_
      refine xv_cast (congrArg Value.int hx.2) ?_
      refine al_m_bytes hC dX7_poke_57 rfl (by first | assumption | omega) ?_
      exact xv_ireturn hC hr dX7_poke_58 (rI (by rw [mPkV, h18, h32]; simp [mYi, mY, va_up_self, my, mT0, mI])) rfl (by rw [mPkM, mPkB, h18, h32]; rfl)
    · rw [cI_0, inX2 (m := 1) (n := 255) (by omega) (by omega) (by decide) (by decide)] at h32
      have h32 : fkB y = false := h32
      refine xv_bipush (v := -2) hC dX7_poke_35 (by decide) ?_
      exact xv_ireturn hC hr dX7_poke_37 (rI (by rw [mPkV, h18, h32]; rfl)) rfl (by rw [mPkM, mPkB, h18, h32]; rfl)
  · rw [cI_0, inXL (by omega)] at h18
    refine xv_iconst (v := -1) hC dX7_poke_21 (by decide) ?_
    exact xv_ireturn hC hr dX7_poke_22 (rI (by rw [mPkV, h18]; rfl)) rfl (by rw [mPkM, mPkB, h18]; rfl)
set_option maxHeartbeats 1000000 in
set_option maxRecDepth 100000 in
theorem em_fourAt (l : Launch) (G : xD) (g sz : Nat) (M : mT) (w0 : xw) {i : Nat} (hi : i + 3 < 8000) : xM l G yX7_fourAt cX7_fourAt 2 (some .int) 0 0 0 [.ref g, .int (nI i)] sz (wM G g (M) w0) (some (.int (four (M.2.2.2.2.1 10) i))) (sz) (wM G g (M) w0) := by
  refine xM_of (by decide) (Nat.le_of_ble_eq_true rfl) ?_
  intro A p e s m args below meth c hC hr hname
  have hC : xC p s m args meth c cX7_fourAt 2 RX7 G A := hC
  have hr : meth.sig.returnType = (some .int) := hr
  show xV p l e _ s m args below meth c G A 2 _ sz _ 0 0 0 [(0, .ref g), (1, .int (nI i))] []
  refine xv_aload_n hC dX7_fourAt_0 rfl rfl ?_
  refine tg_X7_10 hC fl_X7_27 dX7_fourAt_1 ?_
  refine xv_iload_n hC dX7_fourAt_4 rfl rfl ?_
  refine al_m_bytes hC dX7_fourAt_5 rfl (by first | assumption | omega) ?_
  refine xv_aload_n hC dX7_fourAt_6 rfl rfl ?_
  refine tg_X7_10 hC fl_X7_27 dX7_fourAt_7 ?_
  refine xv_iload_n hC dX7_fourAt_10 rfl rfl ?_
  refine xv_iconst (v := nI 1) hC dX7_fourAt_11 (by decide) ?_
  refine xv_iadd hC dX7_fourAt_12 ?_
  refine xv_cast (congrArg Value.int (nI_add _ _)) ?_
  refine al_m_bytes hC dX7_fourAt_13 rfl (by first | assumption | omega) ?_
  refine xv_bipush (v := nI 8) hC dX7_fourAt_14 (by decide) ?_
  refine xv_ishl hC dX7_fourAt_16 ?_
  refine xv_ior hC dX7_fourAt_17 ?_
  refine xv_aload_n hC dX7_fourAt_18 rfl rfl ?_
  refine tg_X7_10 hC fl_X7_27 dX7_fourAt_19 ?_
  refine xv_iload_n hC dX7_fourAt_22 rfl rfl ?_
  refine xv_iconst (v := nI 2) hC dX7_fourAt_23 (by decide) ?_
  refine xv_iadd hC dX7_fourAt_24 ?_
  refine xv_cast (congrArg Value.int (nI_add _ _)) ?_
  refine al_m_bytes hC dX7_fourAt_25 rfl (by first | assumption | omega) ?_
  refine xv_bipush (v := nI 16) hC dX7_fourAt_26 (by decide) ?_
  refine xv_ishl hC dX7_fourAt_28 ?_
  refine xv_ior hC dX7_fourAt_29 ?_
  refine xv_aload_n hC dX7_fourAt_30 rfl rfl ?_
  refine tg_X7_10 hC fl_X7_27 dX7_fourAt_31 ?_
  refine xv_iload_n hC dX7_fourAt_34 rfl rfl ?_
  refine xv_iconst (v := nI 3) hC dX7_fourAt_35 (by decide) ?_
  refine xv_iadd hC dX7_fourAt_36 ?_
  refine xv_cast (congrArg Value.int (nI_add _ _)) ?_
  refine al_m_bytes hC dX7_fourAt_37 rfl (by first | assumption | omega) ?_
  refine xv_bipush (v := nI 24) hC dX7_fourAt_38 (by decide) ?_
  refine xv_ishl hC dX7_fourAt_40 ?_
  refine xv_ior hC dX7_fourAt_41 ?_
  exact xv_ireturn hC hr dX7_fourAt_42 rfl rfl rfl
set_option maxHeartbeats 1000000 in
set_option maxRecDepth 100000 in
theorem em_next (l : Launch) (G : xD) (g sz : Nat) (M : mT) (w0 : xw) (O : cO) (hMO : mBy M O) (hO : O.2.1 0 ≤ 8000) (hat : (mRd M).1 ≤ O.2.1 0) (hre : mRe (mRd M)) : xM l G yX7_next cX7_next 1 (some .int) 0 0 0 [.ref g] sz (wM G g (M) w0) (some (.int (nxV O (mRd M)))) (sz) (wM G g (mS M (nxR O (mRd M))) w0) := by
  refine xM_of (by decide) (Nat.le_of_ble_eq_true rfl) ?_
  intro A p e s m args below meth c hC hr hname
  have hC : xC p s m args meth c cX7_next 1 RX7 G A := hC
  have hr : meth.sig.returnType = (some .int) := hr
  show xV p l e _ s m args below meth c G A 1 _ sz _ 0 0 0 [(0, .ref g)] []
  refine xv_aload_n hC dX7_next_0 rfl rfl ?_
  refine tg_X7_23 hC fl_X7_148 dX7_next_1 ?_
  refine xv_if_gt (tgt := 18) hC dX7_next_4 (by decide) (fun h4 => ?_) (fun h4 => ?_)
  · have h4 : 0 < (mRd M).2 := h4
    have h4n : ¬ (mRd M).2 = 0 := fun z => by rw [z] at h4; exact absurd h4 (by decide)
    have hno : ¬ ((mRd M).2 = 0 ∧ (mRd M).1 < O.2.1 0) := fun z => h4n z.1
    have hq : nxR O (mRd M) = mRd M := by rw [nxR, if_neg h4n]
    refine xv_aload_n hC dX7_next_18 rfl rfl ?_
    refine xv_aload_n hC dX7_next_19 rfl rfl ?_
    refine tg_X7_23 hC fl_X7_148 dX7_next_20 ?_
    refine xv_if_le (tgt := 33) hC dX7_next_23 (by decide) (fun h23 => ?_) (fun h23 => ?_)
    · have h23 : (mRd M).2 ≤ 0 := h23
      have hw : wM G g (mI M 23 (nI 4)) w0 = wM G g (mS M (nxR O (mRd M))) w0 := by first | exact absurd h4 (Int32.not_lt.mpr h23) | rw [hq, mS_I]
      refine xv_iconst (v := nI 4) hC dX7_next_33 (by decide) ?_
      refine tp_X7_23 hC fl_X7_148 dX7_next_34 ?_
      refine xv_iconst (v := nI 0) hC dX7_next_37 (by decide) ?_
      exact xv_ireturn hC hr dX7_next_38 (rI (by rw [nxV, if_neg hno])) rfl hw
    · have h23 : ¬ (mRd M).2 ≤ 0 := h23
      have hw : wM G g (mI M 23 (M.1 23)) w0 = wM G g (mS M (nxR O (mRd M))) w0 := by first | exact absurd (Int32.not_le.mp h23) h4 | (rw [hq, mS_I]; try rfl)
      refine xv_aload_n hC dX7_next_26 rfl rfl ?_
      refine tg_X7_23 hC fl_X7_148 dX7_next_27 ?_
      refine xv_goto (tgt := 34) hC dX7_next_30 (by decide) ?_
      refine tp_X7_23 hC fl_X7_148 dX7_next_34 ?_
      refine xv_iconst (v := nI 0) hC dX7_next_37 (by decide) ?_
      exact xv_ireturn hC hr dX7_next_38 (rI (by rw [nxV, if_neg hno])) rfl hw
  · have h4 : ¬ 0 < (mRd M).2 := h4
    refine xv_aload_n hC dX7_next_7 rfl rfl ?_
    refine tg_X7_22 hC fl_X7_151 dX7_next_8 ?_
    refine xv_aload_n hC dX7_next_11 rfl rfl ?_
    refine tg_X7_11 hC fl_X7_143 dX7_next_12 ?_
    refine xv_icmp_ne (tgt := 39) hC dX7_next_15 (by decide) (fun h15 => ?_) (fun h15 => ?_)
    · have h15 : ¬ (mRd M).1 = O.2.1 0 := fun z => h15 (congrArg nI (z.trans hMO.2.symm))
      have hlt : (mRd M).1 < O.2.1 0 := by omega
      have h40 : (mRd M).2 = 0 := hre.elim id (fun z => absurd z h4)
      refine xv_aload_n hC dX7_next_39 rfl rfl ?_
      refine xv_dup hC dX7_next_40 rfl ?_
      refine tg_X7_22 hC fl_X7_151 dX7_next_41 ?_
      refine xv_iconst (v := nI 1) hC dX7_next_44 (by decide) ?_
      refine xv_iadd hC dX7_next_45 ?_
      refine xv_cast (congrArg Value.int (show _ = nI ((mRd M).1 + 1) from nI_add _ 1)) ?_
      refine tp_X7_22 hC fl_X7_151 dX7_next_46 rfl ?_
      refine xv_aload_n hC dX7_next_49 rfl rfl ?_
      refine tg_X7_10 hC fl_X7_27 dX7_next_50 ?_
      refine xv_aload_n hC dX7_next_53 rfl rfl ?_
      refine tg_X7_22 hC fl_X7_151 dX7_next_54 ?_
      refine xv_iconst (v := nI 1) hC dX7_next_57 (by decide) ?_
      refine xv_isub hC dX7_next_58 ?_
      refine xv_cast (congrArg Value.int (show _ = nI (mRd M).1 from pk_sub (show 1 ≤ (mRd M).1 + 1 by omega))) ?_
      refine al_m_bytes hC dX7_next_59 rfl (show (mRd M).1 < 8000 by omega) ?_
      exact xv_ireturn hC hr dX7_next_60 (rI (by rw [nxV, if_pos ⟨h40, hlt⟩]; exact (hMO.1 _).symm)) rfl (by rw [nxR, if_pos h40, if_pos hlt, mS_N])
    · have h15 : (mRd M).1 = O.2.1 0 := ((nI_eq (show (mRd M).1 < 2 ^ 31 by omega) (by rw [hMO.2]; omega)).mp h15).trans hMO.2
      have h40 : (mRd M).2 = 0 := hre.elim id (fun z => absurd z h4)
      have hno : ¬ ((mRd M).2 = 0 ∧ (mRd M).1 < O.2.1 0) := fun z => absurd z.2 (by omega)
      have hq : nxR O (mRd M) = ((mRd M).1, nI 4) := by rw [nxR, if_pos h40, if_neg (by omega)]
      refine xv_aload_n hC dX7_next_18 rfl rfl ?_
      refine xv_aload_n hC dX7_next_19 rfl rfl ?_
      refine tg_X7_23 hC fl_X7_148 dX7_next_20 ?_
      refine xv_if_le (tgt := 33) hC dX7_next_23 (by decide) (fun h23 => ?_) (fun h23 => ?_)
      · have h23 : (mRd M).2 ≤ 0 := h23
        have hw : wM G g (mI M 23 (nI 4)) w0 = wM G g (mS M (nxR O (mRd M))) w0 := by first | exact absurd h4 (Int32.not_lt.mpr h23) | rw [hq, mS_I]
        refine xv_iconst (v := nI 4) hC dX7_next_33 (by decide) ?_
        refine tp_X7_23 hC fl_X7_148 dX7_next_34 ?_
        refine xv_iconst (v := nI 0) hC dX7_next_37 (by decide) ?_
        exact xv_ireturn hC hr dX7_next_38 (rI (by rw [nxV, if_neg hno])) rfl hw
      · have h23 : ¬ (mRd M).2 ≤ 0 := h23
        have hw : wM G g (mI M 23 (M.1 23)) w0 = wM G g (mS M (nxR O (mRd M))) w0 := by first | exact absurd (Int32.not_le.mp h23) h4 | (rw [hq, mS_I]; try rfl)
        refine xv_aload_n hC dX7_next_26 rfl rfl ?_
        refine tg_X7_23 hC fl_X7_148 dX7_next_27 ?_
        refine xv_goto (tgt := 34) hC dX7_next_30 (by decide) ?_
        refine tp_X7_23 hC fl_X7_148 dX7_next_34 ?_
        refine xv_iconst (v := nI 0) hC dX7_next_37 (by decide) ?_
        exact xv_ireturn hC hr dX7_next_38 (rI (by rw [nxV, if_neg hno])) rfl hw
set_option maxHeartbeats 1000000 in
set_option maxRecDepth 100000 in
theorem em_need (l : Launch) (G : xD) (g sz : Nat) (M : mT) (w0 : xw) (b : Bool) : xM l G yX7_need cX7_need 2 none 0 0 0 [.ref g, .int (cI b)] sz (wM G g (M) w0) (none) (sz) (wM G g (mS M (ndR (mRd M) b)) w0) := by
  refine xM_of (by decide) (Nat.le_of_ble_eq_true rfl) ?_
  intro A p e s m args below meth c hC hr hname
  have hC : xC p s m args meth c cX7_need 2 RX7 G A := hC
  have hr : meth.sig.returnType = none := hr
  show xV p l e _ s m args below meth c G A 2 _ sz _ 0 0 0 [(0, .ref g), (1, .int (cI b))] []
  refine xv_aload_n hC dX7_need_0 rfl rfl ?_
  refine xv_aload_n hC dX7_need_1 rfl rfl ?_
  refine tg_X7_23 hC fl_X7_148 dX7_need_2 ?_
  refine xv_if_ne (tgt := 16) hC dX7_need_5 (by decide) (fun h5 => ?_) (fun h5 => ?_)
  · have h5 : ¬ (mRd M).2 = 0 := h5
    refine xv_aload_n hC dX7_need_16 rfl rfl ?_
    refine tg_X7_23 hC fl_X7_148 dX7_need_17 ?_
    refine tp_X7_23 hC fl_X7_148 dX7_need_20 ?_
    exact xv_return hC hr dX7_need_23 rfl rfl (by first | (rw [nd_same (Or.inl h5), mS_I]; try rfl) | (rw [nd_same (Or.inr h9), mS_I]; try rfl) | (rw [h9, nd_5 h5, mS_I]; try rfl))
  · have h5 : (mRd M).2 = 0 := h5
    refine xv_iload_n hC dX7_need_8 rfl rfl ?_
    refine xv_if_ne (tgt := 16) hC dX7_need_9 (by decide) (fun h9 => ?_) (fun h9 => ?_)
    · have h9 : b = true := cI_n0.mp h9
      refine xv_aload_n hC dX7_need_16 rfl rfl ?_
      refine tg_X7_23 hC fl_X7_148 dX7_need_17 ?_
      refine tp_X7_23 hC fl_X7_148 dX7_need_20 ?_
      exact xv_return hC hr dX7_need_23 rfl rfl (by first | (rw [nd_same (Or.inl h5), mS_I]; try rfl) | (rw [nd_same (Or.inr h9), mS_I]; try rfl) | (rw [h9, nd_5 h5, mS_I]; try rfl))
    · have h9 : b = false := cI_0.mp h9
      refine xv_iconst (v := nI 5) hC dX7_need_12 (by decide) ?_
      refine xv_goto (tgt := 20) hC dX7_need_13 (by decide) ?_
      refine tp_X7_23 hC fl_X7_148 dX7_need_20 ?_
      exact xv_return hC hr dX7_need_23 rfl rfl (by first | (rw [nd_same (Or.inl h5), mS_I]; try rfl) | (rw [nd_same (Or.inr h9), mS_I]; try rfl) | (rw [h9, nd_5 h5, mS_I]; try rfl))
set_option maxHeartbeats 1000000 in
set_option maxRecDepth 100000 in
theorem em_isEarlier (l : Launch) (G : xD) (g sz : Nat) (M : mT) (w0 : xw) {k1 : Nat} (hk : k1 ≤ 255) (x : Int32) : xM l G yX7_isEarlier cX7_isEarlier 5 (some .boolean) 0 0 0 [.ref g, .int (nI k1), .int x] sz (wM G g (M) w0) (some (.int (cI (mEa (M.2.2.2.2.1 15) x k1)))) (sz) (wM G g (M) w0) := by
  refine xM_of (by decide) (Nat.le_of_ble_eq_true rfl) ?_
  intro A p e s m args below meth c hC hr hname
  have hC : xC p s m args meth c cX7_isEarlier 5 RX7 G A := hC
  have hr : meth.sig.returnType = (some .boolean) := hr
  show xV p l e _ s m args below meth c G A 5 _ sz _ 0 0 0 [(0, .ref g), (1, .int (nI k1)), (2, .int x)] []
  refine xv_iconst (v := nI 0) hC dX7_isEarlier_0 (by decide) ?_
  refine xv_istore_n hC dX7_isEarlier_1 rfl (by decide) ?_
  refine xv_iconst (v := nI 0) hC dX7_isEarlier_2 (by decide) ?_
  refine xv_istore hC dX7_isEarlier_3 (by decide) ?_
  have Lp5 : ∀ (n e1 : Nat), (e1 ≤ k1) → (k1 < e1 + n) → xV p l e (xr 0 0 0) s m args below meth c G A 5 (MQ below (xQ G A (some (.int (cI (mEa (M.2.2.2.2.1 15) x k1)))) (sz) (wM G g (M) w0)) args s 0 0 A) sz (wM G g (M) w0) 0 0 5 [(4, .int (nI e1)), (3, .int (cI (mEa (M.2.2.2.2.1 15) x e1))), (0, .ref g), (1, .int (nI k1)), (2, .int x)] [] := by
    intro n
    induction n with
    | zero =>
      intro e1 he hn
      omega
    | succ n ih5 =>
      intro e1 he hn
      refine xv_iload hC dX7_isEarlier_5 rfl ?_
      refine xv_iload_n hC dX7_isEarlier_7 rfl rfl ?_
      refine xv_icmp_ge (tgt := 38) hC dX7_isEarlier_8 (by decide) (fun h8 => ?_) (fun h8 => ?_)
      · try simp (disch := omega) only [nI_leI, nI_ltI, nI_eq, xz_eq, xz_le, xz_gt, cI_0, cI_n0, cI_inj, lg_cmp_ge, lg_cmp_le, lg_cmp_gt, lg_cmp_lt, lg_cmp_eq, Bool.not_eq_true, Bool.not_eq_false, Nat.not_le, Nat.not_lt] at h8
        refine xv_iload_n hC dX7_isEarlier_38 rfl rfl ?_
        exact xv_zreturn hC hr (by first | rfl | exact cI_nar _) dX7_isEarlier_39 (by rw [show e1 = k1 by omega]) rfl rfl
      · try simp (disch := omega) only [nI_leI, nI_ltI, nI_eq, xz_eq, xz_le, xz_gt, cI_0, cI_n0, cI_inj, lg_cmp_ge, lg_cmp_le, lg_cmp_gt, lg_cmp_lt, lg_cmp_eq, Bool.not_eq_true, Bool.not_eq_false, Nat.not_le, Nat.not_lt] at h8
        refine xv_iload_n hC dX7_isEarlier_11 rfl rfl ?_
        refine xv_if_ne (tgt := 26) hC dX7_isEarlier_12 (by decide) (fun h12 => ?_) (fun h12 => ?_)
        · have h12 : mEa (M.2.2.2.2.1 15) x e1 = true := cI_n0.mp h12
          refine xv_iconst (v := nI 1) hC dX7_isEarlier_26 (by decide) ?_
          refine xv_goto (tgt := 31) hC dX7_isEarlier_27 (by decide) ?_
          refine xv_istore_n hC dX7_isEarlier_31 rfl (by decide) ?_
          refine xv_iinc hC dX7_isEarlier_32 rfl (xinc _) (by decide) ?_
          refine xv_goto (tgt := 5) hC dX7_isEarlier_35 (by decide) ?_
          refine xV.to [(4, .int (nI (e1 + 1))), (3, .int (cI (mEa (M.2.2.2.2.1 15) x (e1 + 1)))), (0, .ref g), (1, .int (nI k1)), (2, .int x)] ⟨rfl, (by first | (apply Eq.symm; apply rN1; simp only [mEa, h12, Bool.true_or]; done) | (apply Eq.symm; apply rN1; simp [mEa, h12, h23]; done) | (apply Eq.symm; apply rN0; simp [mEa, h12, h23]; done)), rfl, rfl, rfl, trivial⟩ ?_
          exact ih5 (e1 + 1) (by omega) (by omega)
        · have h12 : mEa (M.2.2.2.2.1 15) x e1 = false := cI_0.mp h12
          refine xv_aload_n hC dX7_isEarlier_15 rfl rfl ?_
          refine tg_X7_15 hC fl_X7_34 dX7_isEarlier_16 ?_
          refine xv_iload hC dX7_isEarlier_19 rfl ?_
          refine al_m_parts hC dX7_isEarlier_21 rfl (by first | assumption | omega) ?_
          refine xv_iload_n hC dX7_isEarlier_22 rfl rfl ?_
          refine xv_icmp_ne (tgt := 30) hC dX7_isEarlier_23 (by decide) (fun h23 => ?_) (fun h23 => ?_)
          · refine xv_iconst (v := nI 0) hC dX7_isEarlier_30 (by decide) ?_
            refine xv_istore_n hC dX7_isEarlier_31 rfl (by decide) ?_
            refine xv_iinc hC dX7_isEarlier_32 rfl (xinc _) (by decide) ?_
            refine xv_goto (tgt := 5) hC dX7_isEarlier_35 (by decide) ?_
            refine xV.to [(4, .int (nI (e1 + 1))), (3, .int (cI (mEa (M.2.2.2.2.1 15) x (e1 + 1)))), (0, .ref g), (1, .int (nI k1)), (2, .int x)] ⟨rfl, (by first | (apply Eq.symm; apply rN1; simp only [mEa, h12, Bool.true_or]; done) | (apply Eq.symm; apply rN1; simp [mEa, h12, h23]; done) | (apply Eq.symm; apply rN0; simp [mEa, h12, h23]; done)), rfl, rfl, rfl, trivial⟩ ?_
            exact ih5 (e1 + 1) (by omega) (by omega)
          · refine xv_iconst (v := nI 1) hC dX7_isEarlier_26 (by decide) ?_
            refine xv_goto (tgt := 31) hC dX7_isEarlier_27 (by decide) ?_
            refine xv_istore_n hC dX7_isEarlier_31 rfl (by decide) ?_
            refine xv_iinc hC dX7_isEarlier_32 rfl (xinc _) (by decide) ?_
            refine xv_goto (tgt := 5) hC dX7_isEarlier_35 (by decide) ?_
            refine xV.to [(4, .int (nI (e1 + 1))), (3, .int (cI (mEa (M.2.2.2.2.1 15) x (e1 + 1)))), (0, .ref g), (1, .int (nI k1)), (2, .int x)] ⟨rfl, (by first | (apply Eq.symm; apply rN1; simp only [mEa, h12, Bool.true_or]; done) | (apply Eq.symm; apply rN1; simp [mEa, h12, h23]; done) | (apply Eq.symm; apply rN0; simp [mEa, h12, h23]; done)), rfl, rfl, rfl, trivial⟩ ?_
            exact ih5 (e1 + 1) (by omega) (by omega)
  exact Lp5 (k1 + 1) 0 (by omega) (by omega)
set_option maxHeartbeats 1000000 in
set_option maxRecDepth 100000 in
theorem em_lacks (l : Launch) (G : xD) (g sz : Nat) (M : mT) (w0 : xw) (po : Nat → Option Nat) (hpo : ∀ j q, po j = some q → q < 12) {k1 q1 : Nat} (hk : k1 ≤ 255) (hq : q1 < 12) (hP : ∀ j, j < k1 → M.2.2.2.2.1 15 j = lP po j) : xM l G yX7_lacks cX7_lacks 5 (some .boolean) 0 0 0 [.ref g, .int (nI k1), .int (nI q1)] sz (wM G g (M) w0) (some (.int (cI (mLk po (M.2.2.2.2.1 16) (M.2.2.2.1 3) q1 k1)))) (sz) (wM G g (M) w0) := by
  refine xM_of (by decide) (Nat.le_of_ble_eq_true rfl) ?_
  intro A p e s m args below meth c hC hr hname
  have hC : xC p s m args meth c cX7_lacks 5 RX7 G A := hC
  have hr : meth.sig.returnType = (some .boolean) := hr
  show xV p l e _ s m args below meth c G A 5 _ sz _ 0 0 0 [(0, .ref g), (1, .int (nI k1)), (2, .int (nI q1))] []
  refine xv_iconst (v := nI 0) hC dX7_lacks_0 (by decide) ?_
  refine xv_istore_n hC dX7_lacks_1 rfl (by decide) ?_
  refine xv_iconst (v := nI 0) hC dX7_lacks_2 (by decide) ?_
  refine xv_istore hC dX7_lacks_3 (by decide) ?_
  have Lp5 : ∀ (n e1 : Nat), (e1 ≤ k1) → (k1 < e1 + n) → xV p l e (xr 0 0 0) s m args below meth c G A 5 (MQ below (xQ G A (some (.int (cI (mLk po (M.2.2.2.2.1 16) (M.2.2.2.1 3) q1 k1)))) (sz) (wM G g (M) w0)) args s 0 0 A) sz (wM G g (M) w0) 0 0 5 [(4, .int (nI e1)), (3, .int (cI (mLk po (M.2.2.2.2.1 16) (M.2.2.2.1 3) q1 e1))), (0, .ref g), (1, .int (nI k1)), (2, .int (nI q1))] [] := by
    intro n
    induction n with
    | zero =>
      intro e1 he hn
      omega
    | succ n ih5 =>
      intro e1 he hn
      refine xv_iload hC dX7_lacks_5 rfl ?_
      refine xv_iload_n hC dX7_lacks_7 rfl rfl ?_
      refine xv_icmp_ge (tgt := 67) hC dX7_lacks_8 (by decide) (fun h8 => ?_) (fun h8 => ?_)
      · try simp (disch := omega) only [nI_leI, nI_ltI, nI_eq, xz_eq, xz_le, xz_gt, cI_0, cI_n0, cI_inj, lg_cmp_ge, lg_cmp_le, lg_cmp_gt, lg_cmp_lt, lg_cmp_eq, Bool.not_eq_true, Bool.not_eq_false, Nat.not_le, Nat.not_lt] at h8
        refine xv_iload_n hC dX7_lacks_67 rfl rfl ?_
        exact xv_zreturn hC hr (by first | rfl | exact cI_nar _) dX7_lacks_68 (by rw [show e1 = k1 by omega]) rfl rfl
      · try simp (disch := omega) only [nI_leI, nI_ltI, nI_eq, xz_eq, xz_le, xz_gt, cI_0, cI_n0, cI_inj, lg_cmp_ge, lg_cmp_le, lg_cmp_gt, lg_cmp_lt, lg_cmp_eq, Bool.not_eq_true, Bool.not_eq_false, Nat.not_le, Nat.not_lt] at h8
        refine xv_iload_n hC dX7_lacks_11 rfl rfl ?_
        refine xv_if_ne (tgt := 55) hC dX7_lacks_12 (by decide) (fun h12 => ?_) (fun h12 => ?_)
        · have h12 : mLk po (M.2.2.2.2.1 16) (M.2.2.2.1 3) q1 e1 = true := cI_n0.mp h12
          refine xv_iconst (v := nI 1) hC dX7_lacks_55 (by decide) ?_
          refine xv_goto (tgt := 60) hC dX7_lacks_56 (by decide) ?_
          refine xv_istore_n hC dX7_lacks_60 rfl (by decide) ?_
          refine xv_iinc hC dX7_lacks_61 rfl (xinc _) (by decide) ?_
          refine xv_goto (tgt := 5) hC dX7_lacks_64 (by decide) ?_
          refine xV.to [(4, .int (nI (e1 + 1))), (3, .int (cI (mLk po (M.2.2.2.2.1 16) (M.2.2.2.1 3) q1 (e1 + 1)))), (0, .ref g), (1, .int (nI k1)), (2, .int (nI q1))] ⟨rfl, (by first | (apply Eq.symm; apply rN1; simp only [mLk, h12, Bool.true_or]; done) | (apply Eq.symm; apply rN0; simp [mLk, h12, hpo1, lkO]; done) | (apply Eq.symm; apply rN0; simp [mLk, h12, hpo1, lkO, h32]; done) | (apply Eq.symm; apply rN0; simp [mLk, h12, hpo1, lkO, h32, h52]; done) | (apply Eq.symm; apply rN1; simp [mLk, h12, hpo1, lkO, h32, h52]; done)), rfl, rfl, rfl, trivial⟩ ?_
          exact ih5 (e1 + 1) (by omega) (by omega)
        · have h12 : mLk po (M.2.2.2.2.1 16) (M.2.2.2.1 3) q1 e1 = false := cI_0.mp h12
          refine xv_aload_n hC dX7_lacks_15 rfl rfl ?_
          refine tg_X7_15 hC fl_X7_34 dX7_lacks_16 ?_
          refine xv_iload hC dX7_lacks_19 rfl ?_
          refine al_m_parts hC dX7_lacks_21 rfl (by first | assumption | omega) ?_
          cases hpo1 : po e1 with
          | none =>
            refine xv_cast (show _ = Value.int (-1) by rw [hP e1 (by omega), lP, hpo1]; rfl) ?_
            refine xv_if_lt (tgt := 59) hC dX7_lacks_22 (by decide) (fun h22 => ?_) (fun h22 => ?_)
            · refine xv_iconst (v := nI 0) hC dX7_lacks_59 (by decide) ?_
              refine xv_istore_n hC dX7_lacks_60 rfl (by decide) ?_
              refine xv_iinc hC dX7_lacks_61 rfl (xinc _) (by decide) ?_
              refine xv_goto (tgt := 5) hC dX7_lacks_64 (by decide) ?_
              refine xV.to [(4, .int (nI (e1 + 1))), (3, .int (cI (mLk po (M.2.2.2.2.1 16) (M.2.2.2.1 3) q1 (e1 + 1)))), (0, .ref g), (1, .int (nI k1)), (2, .int (nI q1))] ⟨rfl, (by first | (apply Eq.symm; apply rN1; simp only [mLk, h12, Bool.true_or]; done) | (apply Eq.symm; apply rN0; simp [mLk, h12, hpo1, lkO]; done) | (apply Eq.symm; apply rN0; simp [mLk, h12, hpo1, lkO, h32]; done) | (apply Eq.symm; apply rN0; simp [mLk, h12, hpo1, lkO, h32, h52]; done) | (apply Eq.symm; apply rN1; simp [mLk, h12, hpo1, lkO, h32, h52]; done)), rfl, rfl, rfl, trivial⟩ ?_
              exact ih5 (e1 + 1) (by omega) (by omega)
            · exact absurd h22 (by decide)
          | some r1 =>
            have hr1 := hpo e1 r1 hpo1
            have hP1 : M.2.2.2.2.1 15 e1 = nI r1 := by rw [hP e1 (by omega), lP, hpo1]; rfl
            refine xv_cast (show _ = Value.int (nI r1) by rw [hP1]) ?_
            refine xv_if_lt (tgt := 59) hC dX7_lacks_22 (by decide) (fun h22 => ?_) (fun h22 => ?_)
            · exact absurd h22 (nI_pos (by omega))
            · refine xv_aload_n hC dX7_lacks_25 rfl rfl ?_
              refine tg_X7_16 hC fl_X7_37 dX7_lacks_26 ?_
              refine xv_iload hC dX7_lacks_29 rfl ?_
              refine al_m_reasons hC dX7_lacks_31 rfl (by first | assumption | omega) ?_
              refine xv_if_le (tgt := 59) hC dX7_lacks_32 (by decide) (fun h32 => ?_) (fun h32 => ?_)
              · have h32 : ¬ 0 < M.2.2.2.2.1 16 e1 := Int32.not_lt.mpr h32
                refine xv_iconst (v := nI 0) hC dX7_lacks_59 (by decide) ?_
                refine xv_istore_n hC dX7_lacks_60 rfl (by decide) ?_
                refine xv_iinc hC dX7_lacks_61 rfl (xinc _) (by decide) ?_
                refine xv_goto (tgt := 5) hC dX7_lacks_64 (by decide) ?_
                refine xV.to [(4, .int (nI (e1 + 1))), (3, .int (cI (mLk po (M.2.2.2.2.1 16) (M.2.2.2.1 3) q1 (e1 + 1)))), (0, .ref g), (1, .int (nI k1)), (2, .int (nI q1))] ⟨rfl, (by first | (apply Eq.symm; apply rN1; simp only [mLk, h12, Bool.true_or]; done) | (apply Eq.symm; apply rN0; simp [mLk, h12, hpo1, lkO]; done) | (apply Eq.symm; apply rN0; simp [mLk, h12, hpo1, lkO, h32]; done) | (apply Eq.symm; apply rN0; simp [mLk, h12, hpo1, lkO, h32, h52]; done) | (apply Eq.symm; apply rN1; simp [mLk, h12, hpo1, lkO, h32, h52]; done)), rfl, rfl, rfl, trivial⟩ ?_
                exact ih5 (e1 + 1) (by omega) (by omega)
              · have h32 : 0 < M.2.2.2.2.1 16 e1 := Int32.not_le.mp h32
                refine xv_aload_n hC dX7_lacks_35 rfl rfl ?_
                refine tg_X7_3 hC fl_X7_17 dX7_lacks_36 ?_
                refine xv_bipush (v := nI 12) hC dX7_lacks_39 (by decide) ?_
                refine xv_iload_n hC dX7_lacks_41 rfl rfl ?_
                refine xv_imul hC dX7_lacks_42 ?_
                refine xv_aload_n hC dX7_lacks_43 rfl rfl ?_
                refine tg_X7_15 hC fl_X7_34 dX7_lacks_44 ?_
                refine xv_iload hC dX7_lacks_47 rfl ?_
                refine al_m_parts hC dX7_lacks_49 rfl (by first | assumption | omega) ?_
                refine xv_cast (congrArg Value.int hP1) ?_
                refine xv_iadd hC dX7_lacks_50 ?_
                refine xv_cast (congrArg Value.int (ixm _ _ _)) ?_
                refine al_m_needed hC dX7_lacks_51 rfl (by first | assumption | omega) ?_
                refine xv_if_eq (tgt := 59) hC dX7_lacks_52 (by decide) (fun h52 => ?_) (fun h52 => ?_)
                · have h52 : M.2.2.2.1 3 (12 * q1 + r1) = false := cI_0.mp h52
                  refine xv_iconst (v := nI 0) hC dX7_lacks_59 (by decide) ?_
                  refine xv_istore_n hC dX7_lacks_60 rfl (by decide) ?_
                  refine xv_iinc hC dX7_lacks_61 rfl (xinc _) (by decide) ?_
                  refine xv_goto (tgt := 5) hC dX7_lacks_64 (by decide) ?_
                  refine xV.to [(4, .int (nI (e1 + 1))), (3, .int (cI (mLk po (M.2.2.2.2.1 16) (M.2.2.2.1 3) q1 (e1 + 1)))), (0, .ref g), (1, .int (nI k1)), (2, .int (nI q1))] ⟨rfl, (by first | (apply Eq.symm; apply rN1; simp only [mLk, h12, Bool.true_or]; done) | (apply Eq.symm; apply rN0; simp [mLk, h12, hpo1, lkO]; done) | (apply Eq.symm; apply rN0; simp [mLk, h12, hpo1, lkO, h32]; done) | (apply Eq.symm; apply rN0; simp [mLk, h12, hpo1, lkO, h32, h52]; done) | (apply Eq.symm; apply rN1; simp [mLk, h12, hpo1, lkO, h32, h52]; done)), rfl, rfl, rfl, trivial⟩ ?_
                  exact ih5 (e1 + 1) (by omega) (by omega)
                · have h52 : M.2.2.2.1 3 (12 * q1 + r1) = true := cI_n0.mp h52
                  refine xv_iconst (v := nI 1) hC dX7_lacks_55 (by decide) ?_
                  refine xv_goto (tgt := 60) hC dX7_lacks_56 (by decide) ?_
                  refine xv_istore_n hC dX7_lacks_60 rfl (by decide) ?_
                  refine xv_iinc hC dX7_lacks_61 rfl (xinc _) (by decide) ?_
                  refine xv_goto (tgt := 5) hC dX7_lacks_64 (by decide) ?_
                  refine xV.to [(4, .int (nI (e1 + 1))), (3, .int (cI (mLk po (M.2.2.2.2.1 16) (M.2.2.2.1 3) q1 (e1 + 1)))), (0, .ref g), (1, .int (nI k1)), (2, .int (nI q1))] ⟨rfl, (by first | (apply Eq.symm; apply rN1; simp only [mLk, h12, Bool.true_or]; done) | (apply Eq.symm; apply rN0; simp [mLk, h12, hpo1, lkO]; done) | (apply Eq.symm; apply rN0; simp [mLk, h12, hpo1, lkO, h32]; done) | (apply Eq.symm; apply rN0; simp [mLk, h12, hpo1, lkO, h32, h52]; done) | (apply Eq.symm; apply rN1; simp [mLk, h12, hpo1, lkO, h32, h52]; done)), rfl, rfl, rfl, trivial⟩ ?_
                  exact ih5 (e1 + 1) (by omega) (by omega)
  exact Lp5 (k1 + 1) 0 (by omega) (by omega)
set_option maxHeartbeats 1000000 in
set_option maxRecDepth 100000 in
theorem em_told (l : Launch) (G : xD) (g sz : Nat) (M : mT) (w0 : xw) (hsec : M.2.2.1 14 ≤ 255) (x y : Int32) : xM l G yX7_told cX7_told 3 (some .int) 1 0 0 [.ref g, .int x, .int y] sz (wM G g (M) w0) (some (.int (mToV M x y))) (sz) (wM G g (mT0 M) w0) := by
  refine xM_of (by decide) (Nat.le_of_ble_eq_true rfl) ?_
  intro A p e s m args below meth c hC hr hname
  have hC : xC p s m args meth c cX7_told 3 RX7 G A := hC
  have hr : meth.sig.returnType = (some .int) := hr
  show xV p l e _ s m args below meth c G A 3 _ sz _ 0 0 0 [(0, .ref g), (1, .int x), (2, .int y)] []
  refine xv_aload_n hC dX7_told_0 rfl rfl ?_
  refine xv_iconst (v := nI 0) hC dX7_told_1 (by decide) ?_
  refine tp_X7_0 hC fl_X7_64 dX7_told_2 ?_
  refine xv_iload_n hC dX7_told_5 rfl rfl ?_
  refine xv_i2l hC dX7_told_6 ?_
  refine xv_lconst (v := 0) hC dX7_told_7 (by decide) ?_
  refine xv_aload_n hC dX7_told_8 rfl rfl ?_
  refine tg_X7_14 hC fl_X7_182 dX7_told_9 ?_
  refine xv_iconst (v := nI 1) hC dX7_told_12 (by decide) ?_
  refine xv_isub hC dX7_told_13 ?_
  refine xv_i2l hC dX7_told_14 ?_
  refine xv_callS hC Y_yX7_in sm_yX7_in ml_X7_73 dX7_told_15 (em_in l G sz _ x.toInt64 0 (nI (M.2.2.1 14) - nI 1).toInt64) rfl rfl (Nat.le_of_ble_eq_true rfl) ⟨Nat.le_of_ble_eq_true rfl, Nat.le_of_ble_eq_true rfl⟩ ⟨Nat.le_of_ble_eq_true rfl, Nat.le_of_ble_eq_true rfl⟩ ?_
  refine xv_rs ?_
  refine xv_if_eq (tgt := 33) hC dX7_told_18 (by decide) (fun h18 => ?_) (fun h18 => ?_)
  · rw [cI_0, inXL (by omega)] at h18
    have hno : mToV M x y = -1 := by rw [mToV, h18]; rfl
    refine xv_iconst (v := -1) hC dX7_told_33 (by decide) ?_
    exact xv_ireturn hC hr dX7_told_34 (rI hno) rfl rfl
  · rw [cI_n0, inXL (by omega)] at h18
    have hx := xIn_cl (by omega) h18
    have hx1 := hx.1
    refine xv_iload_n hC dX7_told_21 rfl rfl ?_
    refine xv_i2l hC dX7_told_22 ?_
    refine xv_lconst (v := 0) hC dX7_told_23 (by decide) ?_
    refine xv_ldc2 hC dX7_told_24 kn_X7_195 ?_
    refine xv_callS hC Y_yX7_in sm_yX7_in ml_X7_73 dX7_told_27 (em_in l G sz _ y.toInt64 0 2) rfl rfl (Nat.le_of_ble_eq_true rfl) ⟨Nat.le_of_ble_eq_true rfl, Nat.le_of_ble_eq_true rfl⟩ ⟨Nat.le_of_ble_eq_true rfl, Nat.le_of_ble_eq_true rfl⟩ ?_
    refine xv_rs ?_
    refine xv_if_ne (tgt := 35) hC dX7_told_30 (by decide) (fun h30 => ?_) (fun h30 => ?_)
    · rw [cI_n0, inX (n := 2) (by omega) (by decide)] at h30
      refine xv_iload_n hC dX7_told_35 rfl rfl ?_
      refine xv_if_ne (tgt := 48) hC dX7_told_36 (by decide) (fun h36 => ?_) (fun h36 => ?_)
      · have h36 : ¬ y = nI 0 := h36
        refine xv_iload_n hC dX7_told_48 rfl rfl ?_
        refine xv_iconst (v := nI 1) hC dX7_told_49 (by decide) ?_
        refine xv_icmp_ne (tgt := 62) hC dX7_told_50 (by decide) (fun h50 => ?_) (fun h50 => ?_)
        · have h50 : ¬ y = nI 1 := h50
          have h51 : y = nI 2 := by
            obtain ⟨j, hj, rfl⟩ := xIn_of (by omega) h30
            rcases (show j = 0 ∨ j = 1 ∨ j = 2 by omega) with rfl | rfl | rfl
            · exact absurd rfl h36
            · exact absurd rfl h50
            · rfl
          refine xv_aload_n hC dX7_told_62 rfl rfl ?_
          refine tg_X7_17 hC fl_X7_40 dX7_told_63 ?_
          refine xv_iload_n hC dX7_told_66 rfl rfl ?_
          refine xv_cast (congrArg Value.int hx.2) ?_
          refine al_m_conflicts hC dX7_told_67 rfl (by first | assumption | omega) ?_
          exact xv_ireturn hC hr dX7_told_68 (rI (by first | (rw [mToV, if_pos h18, if_pos h36]; rfl) | (rw [mToV, if_pos h18, if_neg h36, if_pos h50]; rfl) | (rw [mToV, if_pos h18, if_neg h36, if_neg h50, if_pos h51]; rfl))) rfl rfl
        · have h50 : y = nI 1 := h50
          refine xv_aload_n hC dX7_told_53 rfl rfl ?_
          refine tg_X7_16 hC fl_X7_37 dX7_told_54 ?_
          refine xv_iload_n hC dX7_told_57 rfl rfl ?_
          refine xv_cast (congrArg Value.int hx.2) ?_
          refine al_m_reasons hC dX7_told_58 rfl (by first | assumption | omega) ?_
          refine xv_goto (tgt := 68) hC dX7_told_59 (by decide) ?_
          exact xv_ireturn hC hr dX7_told_68 (rI (by first | (rw [mToV, if_pos h18, if_pos h36]; rfl) | (rw [mToV, if_pos h18, if_neg h36, if_pos h50]; rfl) | (rw [mToV, if_pos h18, if_neg h36, if_neg h50, if_pos h51]; rfl))) rfl rfl
      · have h36 : y = nI 0 := h36
        refine xv_aload_n hC dX7_told_39 rfl rfl ?_
        refine tg_X7_15 hC fl_X7_34 dX7_told_40 ?_
        refine xv_iload_n hC dX7_told_43 rfl rfl ?_
        refine xv_cast (congrArg Value.int hx.2) ?_
        refine al_m_parts hC dX7_told_44 rfl (by first | assumption | omega) ?_
        refine xv_goto (tgt := 68) hC dX7_told_45 (by decide) ?_
        exact xv_ireturn hC hr dX7_told_68 (rI (by first | (rw [mToV, if_pos h18, if_pos h36]; rfl) | (rw [mToV, if_pos h18, if_neg h36, if_pos h50]; rfl) | (rw [mToV, if_pos h18, if_neg h36, if_neg h50, if_pos h51]; rfl))) rfl rfl
    · rw [cI_0, inX (n := 2) (by omega) (by decide)] at h30
      have hno : mToV M x y = -1 := by
        rw [mToV, h18, if_pos rfl, if_neg (fun z => by rw [z] at h30; exact absurd h30 (by decide)), if_neg (fun z => by rw [z] at h30; exact absurd h30 (by decide)), if_neg (fun z => by rw [z] at h30; exact absurd h30 (by decide))]
      refine xv_iconst (v := -1) hC dX7_told_33 (by decide) ?_
      exact xv_ireturn hC hr dX7_told_34 (rI hno) rfl rfl
set_option maxHeartbeats 1000000 in
set_option maxRecDepth 100000 in
theorem em_count (l : Launch) (G : xD) (g sz : Nat) (M : mT) (w0 : xw) (hL : M.2.2.1 11 ≤ 8000) (hsec : M.2.2.1 14 ≤ 255) (x : Int32) : xM l G yX7_count cX7_count 4 (some .int) 1 0 0 [.ref g, .int x] sz (wM G g (M) w0) (some (.int (mCoV (mT0 M) x))) (sz) (wM G g (mT0 M) w0) := by
  refine xM_of (by decide) (Nat.le_of_ble_eq_true rfl) ?_
  intro A p e s m args below meth c hC hr hname
  have hC : xC p s m args meth c cX7_count 4 RX7 G A := hC
  have hr : meth.sig.returnType = (some .int) := hr
  show xV p l e _ s m args below meth c G A 4 _ sz _ 0 0 0 [(0, .ref g), (1, .int x)] []
  refine xv_aload_n hC dX7_count_0 rfl rfl ?_
  refine xv_iconst (v := nI 0) hC dX7_count_1 (by decide) ?_
  refine tp_X7_0 hC fl_X7_64 dX7_count_2 ?_
  refine xv_iconst (v := nI 0) hC dX7_count_5 (by decide) ?_
  refine xv_istore_n hC dX7_count_6 rfl (by decide) ?_
  refine xv_iconst (v := nI 0) hC dX7_count_7 (by decide) ?_
  refine xv_istore_n hC dX7_count_8 rfl (by decide) ?_
  have Lp9 : ∀ (n i : Nat), (i ≤ 12) → (12 < i + n) → xV p l e (xr 1 0 0) s m args below meth c G A 4 (MQ below (xQ G A (some (.int (mCoV (mT0 M) x))) (sz) (wM G g (mT0 M) w0)) args s 0 0 A) sz (wM G g (mT0 M) w0) 0 0 9 [(3, .int (nI i)), (2, .int (nI (mcC (mT0 M) x i))), (0, .ref g), (1, .int x)] [] := by
    intro n
    induction n with
    | zero =>
      intro i hi hn
      omega
    | succ n ih9 =>
      intro i hi hn
      refine xv_iload_n hC dX7_count_9 rfl rfl ?_
      refine xv_bipush (v := nI 12) hC dX7_count_10 (by decide) ?_
      refine xv_icmp_ge (tgt := 71) hC dX7_count_12 (by decide) (fun h12 => ?_) (fun h12 => ?_)
      · try simp (disch := omega) only [nI_leI, nI_ltI, nI_eq, xz_eq, xz_le, xz_gt, cI_0, cI_n0, cI_inj, lg_cmp_ge, lg_cmp_le, lg_cmp_gt, lg_cmp_lt, lg_cmp_eq, Bool.not_eq_true, Bool.not_eq_false, Nat.not_le, Nat.not_lt] at h12
        refine xv_iconst (v := nI 0) hC dX7_count_71 (by decide) ?_
        refine xv_istore_n hC dX7_count_72 rfl (by decide) ?_
        have Lp73 : ∀ (n k : Nat), (k ≤ M.2.2.1 14) → (M.2.2.1 14 < k + n) → (x = nI 1 ∨ k = 0) → xV p l e (xr 1 0 0) s m args below meth c G A 4 (MQ below (xQ G A (some (.int (mCoV (mT0 M) x))) (sz) (wM G g (mT0 M) w0)) args s 0 0 A) sz (wM G g (mT0 M) w0) 0 0 73 [(3, .int (nI k)), (2, .int (acJ (nI (mcC (mT0 M) x 12)) (M.2.2.2.2.1 17) k)), (0, .ref g), (1, .int x)] [] := by
          intro n
          induction n with
          | zero =>
            intro k hk hn2 hk1
            omega
          | succ n ih73 =>
            intro k hk hn2 hk1
            refine xv_iload_n hC dX7_count_73 rfl rfl ?_
            refine xv_aload_n hC dX7_count_74 rfl rfl ?_
            refine tg_X7_14 hC fl_X7_182 dX7_count_75 ?_
            refine xv_icmp_ge (tgt := 101) hC dX7_count_78 (by decide) (fun h78 => ?_) (fun h78 => ?_)
            · have h78 : M.2.2.1 14 ≤ k := (nI_leI (show M.2.2.1 14 < 2 ^ 31 by omega) (show k < 2 ^ 31 by omega)).mp h78
              have hks : mcS (mT0 M) x = k := by first | (rw [mcS, if_pos h83]; show M.2.2.1 14 = k; omega) | (rw [mcS, if_neg h83]; rcases hk1 with z | z; exact absurd z h83; exact z.symm) | (unfold mcS; rcases hk1 with z | z; rw [if_pos z]; show M.2.2.1 14 = k; omega; subst z; split; show M.2.2.1 14 = 0; omega; rfl)
              refine xv_iload_n hC dX7_count_101 rfl rfl ?_
              refine xv_if_ne (tgt := 112) hC dX7_count_102 (by decide) (fun h102 => ?_) (fun h102 => ?_)
              · have h102 : ¬ x = nI 0 := h102
                refine xv_iload_n hC dX7_count_112 rfl rfl ?_
                refine xv_iconst (v := nI 2) hC dX7_count_113 (by decide) ?_
                refine xv_icmp_ne (tgt := 124) hC dX7_count_114 (by decide) (fun h114 => ?_) (fun h114 => ?_)
                · refine xv_iload_n hC dX7_count_124 rfl rfl ?_
                  refine xv_i2l hC dX7_count_125 ?_
                  refine xv_lconst (v := 1) hC dX7_count_126 (by decide) ?_
                  refine xv_ldc2 hC dX7_count_127 kn_X7_197 ?_
                  refine xv_callS hC Y_yX7_in sm_yX7_in ml_X7_73 dX7_count_130 (em_in l G sz _ x.toInt64 1 5) rfl rfl (Nat.le_of_ble_eq_true rfl) ⟨Nat.le_of_ble_eq_true rfl, Nat.le_of_ble_eq_true rfl⟩ ⟨Nat.le_of_ble_eq_true rfl, Nat.le_of_ble_eq_true rfl⟩ ?_
                  refine xv_rs ?_
                  refine xv_if_eq (tgt := 140) hC dX7_count_133 (by decide) (fun h133 => ?_) (fun h133 => ?_)
                  · rw [cI_0, inX2 (m := 1) (n := 5) (by omega) (by omega) (by decide) (by decide)] at h133
                    refine xv_bipush (v := -2) hC dX7_count_140 (by decide) ?_
                    exact xv_ireturn hC hr dX7_count_142 (rI (by first | rw [mCoV, if_pos h102] | rw [mCoV, if_neg h102, if_pos h114] | (rw [mCoV, if_neg h102, if_neg h114, h133, if_pos rfl, hks]; rfl) | (rw [mCoV, if_neg h102, if_neg h114, h133]; rfl))) rfl rfl
                  · rw [cI_n0, inX2 (m := 1) (n := 5) (by omega) (by omega) (by decide) (by decide)] at h133
                    refine xv_iload_n hC dX7_count_136 rfl rfl ?_
                    refine xv_goto (tgt := 142) hC dX7_count_137 (by decide) ?_
                    exact xv_ireturn hC hr dX7_count_142 (rI (by first | rw [mCoV, if_pos h102] | rw [mCoV, if_neg h102, if_pos h114] | (rw [mCoV, if_neg h102, if_neg h114, h133, if_pos rfl, hks]; rfl) | (rw [mCoV, if_neg h102, if_neg h114, h133]; rfl))) rfl rfl
                · refine xv_aload_n hC dX7_count_117 rfl rfl ?_
                  refine tg_X7_11 hC fl_X7_143 dX7_count_118 ?_
                  refine xv_goto (tgt := 142) hC dX7_count_121 (by decide) ?_
                  exact xv_ireturn hC hr dX7_count_142 (rI (by first | rw [mCoV, if_pos h102] | rw [mCoV, if_neg h102, if_pos h114] | (rw [mCoV, if_neg h102, if_neg h114, h133, if_pos rfl, hks]; rfl) | (rw [mCoV, if_neg h102, if_neg h114, h133]; rfl))) rfl rfl
              · have h102 : x = nI 0 := h102
                refine xv_aload_n hC dX7_count_105 rfl rfl ?_
                refine tg_X7_14 hC fl_X7_182 dX7_count_106 ?_
                refine xv_goto (tgt := 142) hC dX7_count_109 (by decide) ?_
                exact xv_ireturn hC hr dX7_count_142 (rI (by first | rw [mCoV, if_pos h102] | rw [mCoV, if_neg h102, if_pos h114] | (rw [mCoV, if_neg h102, if_neg h114, h133, if_pos rfl, hks]; rfl) | (rw [mCoV, if_neg h102, if_neg h114, h133]; rfl))) rfl rfl
            · have h78 : k < M.2.2.1 14 := Nat.lt_of_not_le (fun z => h78 ((nI_leI (show M.2.2.1 14 < 2 ^ 31 by omega) (show k < 2 ^ 31 by omega)).mpr z))
              refine xv_iload_n hC dX7_count_81 rfl rfl ?_
              refine xv_iconst (v := nI 1) hC dX7_count_82 (by decide) ?_
              refine xv_icmp_ne (tgt := 101) hC dX7_count_83 (by decide) (fun h83 => ?_) (fun h83 => ?_)
              · have hks : mcS (mT0 M) x = k := by first | (rw [mcS, if_pos h83]; show M.2.2.1 14 = k; omega) | (rw [mcS, if_neg h83]; rcases hk1 with z | z; exact absurd z h83; exact z.symm) | (unfold mcS; rcases hk1 with z | z; rw [if_pos z]; show M.2.2.1 14 = k; omega; subst z; split; show M.2.2.1 14 = 0; omega; rfl)
                refine xv_iload_n hC dX7_count_101 rfl rfl ?_
                refine xv_if_ne (tgt := 112) hC dX7_count_102 (by decide) (fun h102 => ?_) (fun h102 => ?_)
                · have h102 : ¬ x = nI 0 := h102
                  refine xv_iload_n hC dX7_count_112 rfl rfl ?_
                  refine xv_iconst (v := nI 2) hC dX7_count_113 (by decide) ?_
                  refine xv_icmp_ne (tgt := 124) hC dX7_count_114 (by decide) (fun h114 => ?_) (fun h114 => ?_)
                  · refine xv_iload_n hC dX7_count_124 rfl rfl ?_
                    refine xv_i2l hC dX7_count_125 ?_
                    refine xv_lconst (v := 1) hC dX7_count_126 (by decide) ?_
                    refine xv_ldc2 hC dX7_count_127 kn_X7_197 ?_
                    refine xv_callS hC Y_yX7_in sm_yX7_in ml_X7_73 dX7_count_130 (em_in l G sz _ x.toInt64 1 5) rfl rfl (Nat.le_of_ble_eq_true rfl) ⟨Nat.le_of_ble_eq_true rfl, Nat.le_of_ble_eq_true rfl⟩ ⟨Nat.le_of_ble_eq_true rfl, Nat.le_of_ble_eq_true rfl⟩ ?_
                    refine xv_rs ?_
                    refine xv_if_eq (tgt := 140) hC dX7_count_133 (by decide) (fun h133 => ?_) (fun h133 => ?_)
                    · rw [cI_0, inX2 (m := 1) (n := 5) (by omega) (by omega) (by decide) (by decide)] at h133
                      refine xv_bipush (v := -2) hC dX7_count_140 (by decide) ?_
                      exact xv_ireturn hC hr dX7_count_142 (rI (by first | rw [mCoV, if_pos h102] | rw [mCoV, if_neg h102, if_pos h114] | (rw [mCoV, if_neg h102, if_neg h114, h133, if_pos rfl, hks]; rfl) | (rw [mCoV, if_neg h102, if_neg h114, h133]; rfl))) rfl rfl
                    · rw [cI_n0, inX2 (m := 1) (n := 5) (by omega) (by omega) (by decide) (by decide)] at h133
                      refine xv_iload_n hC dX7_count_136 rfl rfl ?_
                      refine xv_goto (tgt := 142) hC dX7_count_137 (by decide) ?_
                      exact xv_ireturn hC hr dX7_count_142 (rI (by first | rw [mCoV, if_pos h102] | rw [mCoV, if_neg h102, if_pos h114] | (rw [mCoV, if_neg h102, if_neg h114, h133, if_pos rfl, hks]; rfl) | (rw [mCoV, if_neg h102, if_neg h114, h133]; rfl))) rfl rfl
                  · refine xv_aload_n hC dX7_count_117 rfl rfl ?_
                    refine tg_X7_11 hC fl_X7_143 dX7_count_118 ?_
                    refine xv_goto (tgt := 142) hC dX7_count_121 (by decide) ?_
                    exact xv_ireturn hC hr dX7_count_142 (rI (by first | rw [mCoV, if_pos h102] | rw [mCoV, if_neg h102, if_pos h114] | (rw [mCoV, if_neg h102, if_neg h114, h133, if_pos rfl, hks]; rfl) | (rw [mCoV, if_neg h102, if_neg h114, h133]; rfl))) rfl rfl
                · have h102 : x = nI 0 := h102
                  refine xv_aload_n hC dX7_count_105 rfl rfl ?_
                  refine tg_X7_14 hC fl_X7_182 dX7_count_106 ?_
                  refine xv_goto (tgt := 142) hC dX7_count_109 (by decide) ?_
                  exact xv_ireturn hC hr dX7_count_142 (rI (by first | rw [mCoV, if_pos h102] | rw [mCoV, if_neg h102, if_pos h114] | (rw [mCoV, if_neg h102, if_neg h114, h133, if_pos rfl, hks]; rfl) | (rw [mCoV, if_neg h102, if_neg h114, h133]; rfl))) rfl rfl
              · refine xv_iload_n hC dX7_count_86 rfl rfl ?_
                refine xv_aload_n hC dX7_count_87 rfl rfl ?_
                refine tg_X7_17 hC fl_X7_40 dX7_count_88 ?_
                refine xv_iload_n hC dX7_count_91 rfl rfl ?_
                refine al_m_conflicts hC dX7_count_92 rfl (by first | assumption | omega) ?_
                refine xv_iadd hC dX7_count_93 ?_
                refine xv_istore_n hC dX7_count_94 rfl (by decide) ?_
                refine xv_iinc hC dX7_count_95 rfl (xinc _) (by decide) ?_
                refine xv_goto (tgt := 73) hC dX7_count_98 (by decide) ?_
                exact ih73 (k + 1) (by have : k < M.2.2.1 14 := h78; omega) (by omega) (Or.inl h83)
        have hi12 : i = 12 := by omega
        subst hi12
        refine xV.to [(3, .int (nI 0)), (2, .int (acJ (nI (mcC (mT0 M) x 12)) (M.2.2.2.2.1 17) 0)), (0, .ref g), (1, .int x)] ⟨rfl, rfl, rfl, rfl, trivial⟩ ?_
        exact Lp73 (M.2.2.1 14 + 1) 0 (by omega) (by omega) (Or.inr rfl)
      · try simp (disch := omega) only [nI_leI, nI_ltI, nI_eq, xz_eq, xz_le, xz_gt, cI_0, cI_n0, cI_inj, lg_cmp_ge, lg_cmp_le, lg_cmp_gt, lg_cmp_lt, lg_cmp_eq, Bool.not_eq_true, Bool.not_eq_false, Nat.not_le, Nat.not_lt] at h12
        refine xv_iload_n hC dX7_count_15 rfl rfl ?_
        refine xv_iconst (v := nI 3) hC dX7_count_16 (by decide) ?_
        refine xv_icmp_ne (tgt := 28) hC dX7_count_17 (by decide) (fun h17 => ?_) (fun h17 => ?_)
        · refine xv_iload_n hC dX7_count_28 rfl rfl ?_
          refine xv_iconst (v := nI 4) hC dX7_count_29 (by decide) ?_
          refine xv_icmp_ne (tgt := 48) hC dX7_count_30 (by decide) (fun h30 => ?_) (fun h30 => ?_)
          · have hB : mcB (mT0 M) x i = false := by first | (rw [mcB, decide_eq_false h17, decide_eq_false h30]; rfl) | (rw [mcB, decide_eq_false h25, decide_eq_false h30, Bool.and_false]; rfl)
            refine xv_iload_n hC dX7_count_48 rfl rfl ?_
            refine xv_iconst (v := nI 5) hC dX7_count_49 (by decide) ?_
            refine xv_icmp_ne (tgt := 63) hC dX7_count_50 (by decide) (fun h50 => ?_) (fun h50 => ?_)
            · refine xv_iload_n hC dX7_count_63 rfl rfl ?_
              refine xv_istore_n hC dX7_count_64 rfl (by decide) ?_
              refine xv_iinc hC dX7_count_65 rfl (xinc _) (by decide) ?_
              refine xv_goto (tgt := 9) hC dX7_count_68 (by decide) ?_
              refine xV.to [(3, .int (nI (i + 1))), (2, .int (nI (mcC (mT0 M) x (i + 1)))), (0, .ref g), (1, .int x)] ⟨rfl, congrArg (fun z => some (Value.int (nI z))) (show _ = mcC (mT0 M) x (i + 1) by first | exact (mcC_1 hB).symm | exact (mcC_5 hB h50).symm | exact (mcC_0 hB h50).symm), rfl, rfl, trivial⟩ ?_
              exact ih9 (i + 1) (by omega) (by omega)
            · refine xv_iload_n hC dX7_count_53 rfl rfl ?_
              refine xv_aload_n hC dX7_count_54 rfl rfl ?_
              refine xv_iload_n hC dX7_count_55 rfl rfl ?_
              refine xv_callV hC Y_yX7_entries im_yX7_entries se_yX7_entries ml_X7_85 dX7_count_56 (em_entries l G g sz (mT0 M) w0 (p1 := i) (by omega)) (ml_w_obj _ _ _ _) rfl rfl rfl (Nat.le_of_ble_eq_true rfl) ⟨Nat.le_of_ble_eq_true rfl, Nat.le_of_ble_eq_true rfl⟩ ⟨Nat.le_of_ble_eq_true rfl, Nat.le_of_ble_eq_true rfl⟩ ?_
              refine xv_rs ?_
              refine xv_iadd hC dX7_count_59 ?_
              refine xv_cast (congrArg Value.int (nI_add _ _)) ?_
              refine xv_goto (tgt := 64) hC dX7_count_60 (by decide) ?_
              refine xv_istore_n hC dX7_count_64 rfl (by decide) ?_
              refine xv_iinc hC dX7_count_65 rfl (xinc _) (by decide) ?_
              refine xv_goto (tgt := 9) hC dX7_count_68 (by decide) ?_
              refine xV.to [(3, .int (nI (i + 1))), (2, .int (nI (mcC (mT0 M) x (i + 1)))), (0, .ref g), (1, .int x)] ⟨rfl, congrArg (fun z => some (Value.int (nI z))) (show _ = mcC (mT0 M) x (i + 1) by first | exact (mcC_1 hB).symm | exact (mcC_5 hB h50).symm | exact (mcC_0 hB h50).symm), rfl, rfl, trivial⟩ ?_
              exact ih9 (i + 1) (by omega) (by omega)
          · refine xv_aload_n hC dX7_count_33 rfl rfl ?_
            refine tg_X7_4 hC fl_X7_20 dX7_count_34 ?_
            refine xv_iload_n hC dX7_count_37 rfl rfl ?_
            refine al_m_changed hC dX7_count_38 rfl (by first | assumption | omega) ?_
            refine xv_if_eq (tgt := 48) hC dX7_count_39 (by decide) (fun h39 => ?_) (fun h39 => ?_)
            · have h39 : mz (mT0 M) 4 i = false := cI_0.mp h39
              have hB : mcB (mT0 M) x i = false := by first | (rw [mcB, decide_eq_false h17, h39, Bool.and_false]; rfl) | (rw [mcB, decide_eq_false h25, h39, Bool.and_false, Bool.and_false]; rfl)
              refine xv_iload_n hC dX7_count_48 rfl rfl ?_
              refine xv_iconst (v := nI 5) hC dX7_count_49 (by decide) ?_
              refine xv_icmp_ne (tgt := 63) hC dX7_count_50 (by decide) (fun h50 => ?_) (fun h50 => ?_)
              · refine xv_iload_n hC dX7_count_63 rfl rfl ?_
                refine xv_istore_n hC dX7_count_64 rfl (by decide) ?_
                refine xv_iinc hC dX7_count_65 rfl (xinc _) (by decide) ?_
                refine xv_goto (tgt := 9) hC dX7_count_68 (by decide) ?_
                refine xV.to [(3, .int (nI (i + 1))), (2, .int (nI (mcC (mT0 M) x (i + 1)))), (0, .ref g), (1, .int x)] ⟨rfl, congrArg (fun z => some (Value.int (nI z))) (show _ = mcC (mT0 M) x (i + 1) by first | exact (mcC_1 hB).symm | exact (mcC_5 hB h50).symm | exact (mcC_0 hB h50).symm), rfl, rfl, trivial⟩ ?_
                exact ih9 (i + 1) (by omega) (by omega)
              · refine xv_iload_n hC dX7_count_53 rfl rfl ?_
                refine xv_aload_n hC dX7_count_54 rfl rfl ?_
                refine xv_iload_n hC dX7_count_55 rfl rfl ?_
                refine xv_callV hC Y_yX7_entries im_yX7_entries se_yX7_entries ml_X7_85 dX7_count_56 (em_entries l G g sz (mT0 M) w0 (p1 := i) (by omega)) (ml_w_obj _ _ _ _) rfl rfl rfl (Nat.le_of_ble_eq_true rfl) ⟨Nat.le_of_ble_eq_true rfl, Nat.le_of_ble_eq_true rfl⟩ ⟨Nat.le_of_ble_eq_true rfl, Nat.le_of_ble_eq_true rfl⟩ ?_
                refine xv_rs ?_
                refine xv_iadd hC dX7_count_59 ?_
                refine xv_cast (congrArg Value.int (nI_add _ _)) ?_
                refine xv_goto (tgt := 64) hC dX7_count_60 (by decide) ?_
                refine xv_istore_n hC dX7_count_64 rfl (by decide) ?_
                refine xv_iinc hC dX7_count_65 rfl (xinc _) (by decide) ?_
                refine xv_goto (tgt := 9) hC dX7_count_68 (by decide) ?_
                refine xV.to [(3, .int (nI (i + 1))), (2, .int (nI (mcC (mT0 M) x (i + 1)))), (0, .ref g), (1, .int x)] ⟨rfl, congrArg (fun z => some (Value.int (nI z))) (show _ = mcC (mT0 M) x (i + 1) by first | exact (mcC_1 hB).symm | exact (mcC_5 hB h50).symm | exact (mcC_0 hB h50).symm), rfl, rfl, trivial⟩ ?_
                exact ih9 (i + 1) (by omega) (by omega)
            · have h39 : mz (mT0 M) 4 i = true := cI_n0.mp h39
              have hB : mcB (mT0 M) x i = true := by rw [mcB, decide_eq_true h30, h39]; exact Bool.or_true _
              refine xv_iload_n hC dX7_count_42 rfl rfl ?_
              refine xv_iconst (v := nI 1) hC dX7_count_43 (by decide) ?_
              refine xv_iadd hC dX7_count_44 ?_
              refine xv_cast (congrArg Value.int (nI_add _ _)) ?_
              refine xv_goto (tgt := 64) hC dX7_count_45 (by decide) ?_
              refine xv_istore_n hC dX7_count_64 rfl (by decide) ?_
              refine xv_iinc hC dX7_count_65 rfl (xinc _) (by decide) ?_
              refine xv_goto (tgt := 9) hC dX7_count_68 (by decide) ?_
              refine xV.to [(3, .int (nI (i + 1))), (2, .int (nI (mcC (mT0 M) x (i + 1)))), (0, .ref g), (1, .int x)] ⟨rfl, congrArg (fun z => some (Value.int (nI z))) (show _ = mcC (mT0 M) x (i + 1) by first | exact (mcC_1 hB).symm | exact (mcC_5 hB h50).symm | exact (mcC_0 hB h50).symm), rfl, rfl, trivial⟩ ?_
              exact ih9 (i + 1) (by omega) (by omega)
        · refine xv_aload_n hC dX7_count_20 rfl rfl ?_
          refine xv_iload_n hC dX7_count_21 rfl rfl ?_
          refine xv_callV hC Y_yX7_entries im_yX7_entries se_yX7_entries ml_X7_85 dX7_count_22 (em_entries l G g sz (mT0 M) w0 (p1 := i) (by omega)) (ml_w_obj _ _ _ _) rfl rfl rfl (Nat.le_of_ble_eq_true rfl) ⟨Nat.le_of_ble_eq_true rfl, Nat.le_of_ble_eq_true rfl⟩ ⟨Nat.le_of_ble_eq_true rfl, Nat.le_of_ble_eq_true rfl⟩ ?_
          refine xv_rs ?_
          refine xv_if_gt (tgt := 42) hC dX7_count_25 (by decide) (fun h25 => ?_) (fun h25 => ?_)
          · have h25 : 0 < mEnt (mT0 M) i := (xz_gt (by have := cnt_le (mHas (mT0 M) i) 100; unfold mEnt; omega)).mp h25
            have hB : mcB (mT0 M) x i = true := by rw [mcB, decide_eq_true h17, decide_eq_true h25]; rfl
            refine xv_iload_n hC dX7_count_42 rfl rfl ?_
            refine xv_iconst (v := nI 1) hC dX7_count_43 (by decide) ?_
            refine xv_iadd hC dX7_count_44 ?_
            refine xv_cast (congrArg Value.int (nI_add _ _)) ?_
            refine xv_goto (tgt := 64) hC dX7_count_45 (by decide) ?_
            refine xv_istore_n hC dX7_count_64 rfl (by decide) ?_
            refine xv_iinc hC dX7_count_65 rfl (xinc _) (by decide) ?_
            refine xv_goto (tgt := 9) hC dX7_count_68 (by decide) ?_
            refine xV.to [(3, .int (nI (i + 1))), (2, .int (nI (mcC (mT0 M) x (i + 1)))), (0, .ref g), (1, .int x)] ⟨rfl, congrArg (fun z => some (Value.int (nI z))) (show _ = mcC (mT0 M) x (i + 1) by first | exact (mcC_1 hB).symm | exact (mcC_5 hB h50).symm | exact (mcC_0 hB h50).symm), rfl, rfl, trivial⟩ ?_
            exact ih9 (i + 1) (by omega) (by omega)
          · have h25 : ¬ 0 < mEnt (mT0 M) i := fun z => h25 ((xz_gt (by have := cnt_le (mHas (mT0 M) i) 100; unfold mEnt; omega)).mpr z)
            refine xv_iload_n hC dX7_count_28 rfl rfl ?_
            refine xv_iconst (v := nI 4) hC dX7_count_29 (by decide) ?_
            refine xv_icmp_ne (tgt := 48) hC dX7_count_30 (by decide) (fun h30 => ?_) (fun h30 => ?_)
            · have hB : mcB (mT0 M) x i = false := by first | (rw [mcB, decide_eq_false h17, decide_eq_false h30]; rfl) | (rw [mcB, decide_eq_false h25, decide_eq_false h30, Bool.and_false]; rfl)
              refine xv_iload_n hC dX7_count_48 rfl rfl ?_
              refine xv_iconst (v := nI 5) hC dX7_count_49 (by decide) ?_
              refine xv_icmp_ne (tgt := 63) hC dX7_count_50 (by decide) (fun h50 => ?_) (fun h50 => ?_)
              · refine xv_iload_n hC dX7_count_63 rfl rfl ?_
                refine xv_istore_n hC dX7_count_64 rfl (by decide) ?_
                refine xv_iinc hC dX7_count_65 rfl (xinc _) (by decide) ?_
                refine xv_goto (tgt := 9) hC dX7_count_68 (by decide) ?_
                refine xV.to [(3, .int (nI (i + 1))), (2, .int (nI (mcC (mT0 M) x (i + 1)))), (0, .ref g), (1, .int x)] ⟨rfl, congrArg (fun z => some (Value.int (nI z))) (show _ = mcC (mT0 M) x (i + 1) by first | exact (mcC_1 hB).symm | exact (mcC_5 hB h50).symm | exact (mcC_0 hB h50).symm), rfl, rfl, trivial⟩ ?_
                exact ih9 (i + 1) (by omega) (by omega)
              · refine xv_iload_n hC dX7_count_53 rfl rfl ?_
                refine xv_aload_n hC dX7_count_54 rfl rfl ?_
                refine xv_iload_n hC dX7_count_55 rfl rfl ?_
                refine xv_callV hC Y_yX7_entries im_yX7_entries se_yX7_entries ml_X7_85 dX7_count_56 (em_entries l G g sz (mT0 M) w0 (p1 := i) (by omega)) (ml_w_obj _ _ _ _) rfl rfl rfl (Nat.le_of_ble_eq_true rfl) ⟨Nat.le_of_ble_eq_true rfl, Nat.le_of_ble_eq_true rfl⟩ ⟨Nat.le_of_ble_eq_true rfl, Nat.le_of_ble_eq_true rfl⟩ ?_
                refine xv_rs ?_
                refine xv_iadd hC dX7_count_59 ?_
                refine xv_cast (congrArg Value.int (nI_add _ _)) ?_
                refine xv_goto (tgt := 64) hC dX7_count_60 (by decide) ?_
                refine xv_istore_n hC dX7_count_64 rfl (by decide) ?_
                refine xv_iinc hC dX7_count_65 rfl (xinc _) (by decide) ?_
                refine xv_goto (tgt := 9) hC dX7_count_68 (by decide) ?_
                refine xV.to [(3, .int (nI (i + 1))), (2, .int (nI (mcC (mT0 M) x (i + 1)))), (0, .ref g), (1, .int x)] ⟨rfl, congrArg (fun z => some (Value.int (nI z))) (show _ = mcC (mT0 M) x (i + 1) by first | exact (mcC_1 hB).symm | exact (mcC_5 hB h50).symm | exact (mcC_0 hB h50).symm), rfl, rfl, trivial⟩ ?_
                exact ih9 (i + 1) (by omega) (by omega)
            · refine xv_aload_n hC dX7_count_33 rfl rfl ?_
              refine tg_X7_4 hC fl_X7_20 dX7_count_34 ?_
              refine xv_iload_n hC dX7_count_37 rfl rfl ?_
              refine al_m_changed hC dX7_count_38 rfl (by first | assumption | omega) ?_
              refine xv_if_eq (tgt := 48) hC dX7_count_39 (by decide) (fun h39 => ?_) (fun h39 => ?_)
              · have h39 : mz (mT0 M) 4 i = false := cI_0.mp h39
                have hB : mcB (mT0 M) x i = false := by first | (rw [mcB, decide_eq_false h17, h39, Bool.and_false]; rfl) | (rw [mcB, decide_eq_false h25, h39, Bool.and_false, Bool.and_false]; rfl)
                refine xv_iload_n hC dX7_count_48 rfl rfl ?_
                refine xv_iconst (v := nI 5) hC dX7_count_49 (by decide) ?_
                refine xv_icmp_ne (tgt := 63) hC dX7_count_50 (by decide) (fun h50 => ?_) (fun h50 => ?_)
                · refine xv_iload_n hC dX7_count_63 rfl rfl ?_
                  refine xv_istore_n hC dX7_count_64 rfl (by decide) ?_
                  refine xv_iinc hC dX7_count_65 rfl (xinc _) (by decide) ?_
                  refine xv_goto (tgt := 9) hC dX7_count_68 (by decide) ?_
                  refine xV.to [(3, .int (nI (i + 1))), (2, .int (nI (mcC (mT0 M) x (i + 1)))), (0, .ref g), (1, .int x)] ⟨rfl, congrArg (fun z => some (Value.int (nI z))) (show _ = mcC (mT0 M) x (i + 1) by first | exact (mcC_1 hB).symm | exact (mcC_5 hB h50).symm | exact (mcC_0 hB h50).symm), rfl, rfl, trivial⟩ ?_
                  exact ih9 (i + 1) (by omega) (by omega)
                · refine xv_iload_n hC dX7_count_53 rfl rfl ?_
                  refine xv_aload_n hC dX7_count_54 rfl rfl ?_
                  refine xv_iload_n hC dX7_count_55 rfl rfl ?_
                  refine xv_callV hC Y_yX7_entries im_yX7_entries se_yX7_entries ml_X7_85 dX7_count_56 (em_entries l G g sz (mT0 M) w0 (p1 := i) (by omega)) (ml_w_obj _ _ _ _) rfl rfl rfl (Nat.le_of_ble_eq_true rfl) ⟨Nat.le_of_ble_eq_true rfl, Nat.le_of_ble_eq_true rfl⟩ ⟨Nat.le_of_ble_eq_true rfl, Nat.le_of_ble_eq_true rfl⟩ ?_
                  refine xv_rs ?_
                  refine xv_iadd hC dX7_count_59 ?_
                  refine xv_cast (congrArg Value.int (nI_add _ _)) ?_
                  refine xv_goto (tgt := 64) hC dX7_count_60 (by decide) ?_
                  refine xv_istore_n hC dX7_count_64 rfl (by decide) ?_
                  refine xv_iinc hC dX7_count_65 rfl (xinc _) (by decide) ?_
                  refine xv_goto (tgt := 9) hC dX7_count_68 (by decide) ?_
                  refine xV.to [(3, .int (nI (i + 1))), (2, .int (nI (mcC (mT0 M) x (i + 1)))), (0, .ref g), (1, .int x)] ⟨rfl, congrArg (fun z => some (Value.int (nI z))) (show _ = mcC (mT0 M) x (i + 1) by first | exact (mcC_1 hB).symm | exact (mcC_5 hB h50).symm | exact (mcC_0 hB h50).symm), rfl, rfl, trivial⟩ ?_
                  exact ih9 (i + 1) (by omega) (by omega)
              · have h39 : mz (mT0 M) 4 i = true := cI_n0.mp h39
                have hB : mcB (mT0 M) x i = true := by rw [mcB, decide_eq_true h30, h39]; exact Bool.or_true _
                refine xv_iload_n hC dX7_count_42 rfl rfl ?_
                refine xv_iconst (v := nI 1) hC dX7_count_43 (by decide) ?_
                refine xv_iadd hC dX7_count_44 ?_
                refine xv_cast (congrArg Value.int (nI_add _ _)) ?_
                refine xv_goto (tgt := 64) hC dX7_count_45 (by decide) ?_
                refine xv_istore_n hC dX7_count_64 rfl (by decide) ?_
                refine xv_iinc hC dX7_count_65 rfl (xinc _) (by decide) ?_
                refine xv_goto (tgt := 9) hC dX7_count_68 (by decide) ?_
                refine xV.to [(3, .int (nI (i + 1))), (2, .int (nI (mcC (mT0 M) x (i + 1)))), (0, .ref g), (1, .int x)] ⟨rfl, congrArg (fun z => some (Value.int (nI z))) (show _ = mcC (mT0 M) x (i + 1) by first | exact (mcC_1 hB).symm | exact (mcC_5 hB h50).symm | exact (mcC_0 hB h50).symm), rfl, rfl, trivial⟩ ?_
                exact ih9 (i + 1) (by omega) (by omega)
  refine xV.to [(3, .int (nI 0)), (2, .int (nI (mcC (mT0 M) x 0))), (0, .ref g), (1, .int x)] ⟨rfl, rfl, rfl, rfl, trivial⟩ ?_
  exact Lp9 13 0 (by omega) (by omega)
set_option maxHeartbeats 1000000 in
set_option maxRecDepth 100000 in
theorem em_same (l : Launch) (G : xD) (g sz : Nat) (M : mT) (w0 : xw) (x y : Int32) : xM l G yX7_same cX7_same 3 (some .boolean) 1 0 0 [.ref g, .int x, .int y] sz (wM G g (M) w0) (some (.int (cI (mSaV (mT0 M) x y)))) (sz) (wM G g (mT0 M) w0) := by
  refine xM_of (by decide) (Nat.le_of_ble_eq_true rfl) ?_
  intro A p e s m args below meth c hC hr hname
  have hC : xC p s m args meth c cX7_same 3 RX7 G A := hC
  have hr : meth.sig.returnType = (some .boolean) := hr
  show xV p l e _ s m args below meth c G A 3 _ sz _ 0 0 0 [(0, .ref g), (1, .int x), (2, .int y)] []
  refine xv_aload_n hC dX7_same_0 rfl rfl ?_
  refine xv_iconst (v := nI 0) hC dX7_same_1 (by decide) ?_
  refine tp_X7_0 hC fl_X7_64 dX7_same_2 ?_
  refine xv_iload_n hC dX7_same_5 rfl rfl ?_
  refine xv_callS hC Y_yX7_isPart sm_yX7_isPart ml_X7_67 dX7_same_6 (em_isPart l G sz _ x) rfl rfl (Nat.le_of_ble_eq_true rfl) ⟨Nat.le_of_ble_eq_true rfl, Nat.le_of_ble_eq_true rfl⟩ ⟨Nat.le_of_ble_eq_true rfl, Nat.le_of_ble_eq_true rfl⟩ ?_
  refine xv_rs ?_
  refine xv_if_eq (tgt := 32) hC dX7_same_9 (by decide) (fun h9 => ?_) (fun h9 => ?_)
  · rw [cI_0] at h9
    refine xv_iconst (v := nI 0) hC dX7_same_32 (by decide) ?_
    exact xv_zreturn hC hr (by rfl) dX7_same_33 (by first | (apply rN0; simp only [mSaV, h9, Bool.false_and]; done) | (apply rN0; simp only [mSaV, h9, h16, Bool.false_and, Bool.true_and]; done) | (apply rN0; simp only [mSaV, h9, h16, h25, Bool.true_and]; done) | (apply rN1; simp only [mSaV, h9, h16, h25, Bool.true_and]; done)) rfl rfl
  · rw [cI_n0] at h9
    have hx := xIn_cl (by omega) h9
    have hx1 := hx.1
    refine xv_iload_n hC dX7_same_12 rfl rfl ?_
    refine xv_callS hC Y_yX7_isPart sm_yX7_isPart ml_X7_67 dX7_same_13 (em_isPart l G sz _ y) rfl rfl (Nat.le_of_ble_eq_true rfl) ⟨Nat.le_of_ble_eq_true rfl, Nat.le_of_ble_eq_true rfl⟩ ⟨Nat.le_of_ble_eq_true rfl, Nat.le_of_ble_eq_true rfl⟩ ?_
    refine xv_rs ?_
    refine xv_if_eq (tgt := 32) hC dX7_same_16 (by decide) (fun h16 => ?_) (fun h16 => ?_)
    · rw [cI_0] at h16
      refine xv_iconst (v := nI 0) hC dX7_same_32 (by decide) ?_
      exact xv_zreturn hC hr (by rfl) dX7_same_33 (by first | (apply rN0; simp only [mSaV, h9, Bool.false_and]; done) | (apply rN0; simp only [mSaV, h9, h16, Bool.false_and, Bool.true_and]; done) | (apply rN0; simp only [mSaV, h9, h16, h25, Bool.true_and]; done) | (apply rN1; simp only [mSaV, h9, h16, h25, Bool.true_and]; done)) rfl rfl
    · rw [cI_n0] at h16
      have hy := xIn_cl (by omega) h16
      have hy1 := hy.1
      refine xv_aload_n hC dX7_same_19 rfl rfl ?_
      refine xv_iload_n hC dX7_same_20 rfl rfl ?_
      refine xv_cast (congrArg Value.int hx.2) ?_
      refine xv_iload_n hC dX7_same_21 rfl rfl ?_
      refine xv_cast (congrArg Value.int hy.2) ?_
      refine xv_callV hC Y_yX7_areSame im_yX7_areSame se_yX7_areSame ml_X7_133 dX7_same_22 (em_areSame l G g sz (mT0 M) w0 (p1 := cl x) (q1 := cl y) hx1 hy1) (ml_w_obj _ _ _ _) rfl rfl rfl (Nat.le_of_ble_eq_true rfl) ⟨Nat.le_of_ble_eq_true rfl, Nat.le_of_ble_eq_true rfl⟩ ⟨Nat.le_of_ble_eq_true rfl, Nat.le_of_ble_eq_true rfl⟩ ?_
      refine xv_rs ?_
      refine xv_if_eq (tgt := 32) hC dX7_same_25 (by decide) (fun h25 => ?_) (fun h25 => ?_)
      · have h25 : allB (mSame (mT0 M) (cl x) (cl y)) 100 = false := cI_0.mp h25
        refine xv_iconst (v := nI 0) hC dX7_same_32 (by decide) ?_
        exact xv_zreturn hC hr (by rfl) dX7_same_33 (by first | (apply rN0; simp only [mSaV, h9, Bool.false_and]; done) | (apply rN0; simp only [mSaV, h9, h16, Bool.false_and, Bool.true_and]; done) | (apply rN0; simp only [mSaV, h9, h16, h25, Bool.true_and]; done) | (apply rN1; simp only [mSaV, h9, h16, h25, Bool.true_and]; done)) rfl rfl
      · have h25 : allB (mSame (mT0 M) (cl x) (cl y)) 100 = true := cI_n0.mp h25
        refine xv_iconst (v := nI 1) hC dX7_same_28 (by decide) ?_
        refine xv_goto (tgt := 33) hC dX7_same_29 (by decide) ?_
        exact xv_zreturn hC hr (by rfl) dX7_same_33 (by first | (apply rN0; simp only [mSaV, h9, Bool.false_and]; done) | (apply rN0; simp only [mSaV, h9, h16, Bool.false_and, Bool.true_and]; done) | (apply rN0; simp only [mSaV, h9, h16, h25, Bool.true_and]; done) | (apply rN1; simp only [mSaV, h9, h16, h25, Bool.true_and]; done)) rfl rfl
