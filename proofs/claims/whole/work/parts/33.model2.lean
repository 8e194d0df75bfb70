set_option maxHeartbeats 1000000 in
set_option maxRecDepth 100000 in
theorem em_put (l : Launch) (G : xD) (g sz : Nat) (M : mT) (w0 : xw) (x y : Int32) (v : Int64) : xM l G yX7_put cX7_put 5 (some .int) 1 0 0 [.ref g, .int x, .int y, .long v] sz (wM G g (M) w0) (some (.int (mPuV M x y v))) (sz) (wM G g (mPuM M x y v) w0) := by
  refine xM_of (by decide) (Nat.le_of_ble_eq_true rfl) ?_
  intro A p e s m args below meth c hC hr hname
  have hC : xC p s m args meth c cX7_put 5 RX7 G A := hC
  have hr : meth.sig.returnType = (some .int) := hr
  show xV p l e _ s m args below meth c G A 5 _ sz _ 0 0 0 [(0, .ref g), (1, .int x), (2, .int y), (3, .long v)] []
  refine xv_aload_n hC dX7_put_0 rfl rfl ?_
  refine xv_iconst (v := nI 0) hC dX7_put_1 (by decide) ?_
  refine tp_X7_0 hC fl_X7_64 dX7_put_2 ?_
  refine xv_iload_n hC dX7_put_5 rfl rfl ?_
  refine xv_callS hC Y_yX7_isPart sm_yX7_isPart ml_X7_67 dX7_put_6 (em_isPart l G sz _ x) rfl rfl (Nat.le_of_ble_eq_true rfl) ⟨Nat.le_of_ble_eq_true rfl, Nat.le_of_ble_eq_true rfl⟩ ⟨Nat.le_of_ble_eq_true rfl, Nat.le_of_ble_eq_true rfl⟩ ?_
  refine xv_rs ?_
  refine xv_if_ne (tgt := 14) hC dX7_put_9 (by decide) (fun h9 => ?_) (fun h9 => ?_)
  · rw [cI_n0] at h9
    have hx := xIn_cl (by omega) h9
    have hx1 := hx.1
    refine xv_iload_n hC dX7_put_14 rfl rfl ?_
    refine xv_i2l hC dX7_put_15 ?_
    refine xv_lconst (v := 0) hC dX7_put_16 (by decide) ?_
    refine xv_ldc2 hC dX7_put_17 kn_X7_71 ?_
    refine xv_callS hC Y_yX7_in sm_yX7_in ml_X7_73 dX7_put_20 (em_in l G sz _ y.toInt64 0 99) rfl rfl (Nat.le_of_ble_eq_true rfl) ⟨Nat.le_of_ble_eq_true rfl, Nat.le_of_ble_eq_true rfl⟩ ⟨Nat.le_of_ble_eq_true rfl, Nat.le_of_ble_eq_true rfl⟩ ?_
    refine xv_rs ?_
    refine xv_if_ne (tgt := 29) hC dX7_put_23 (by decide) (fun h23 => ?_) (fun h23 => ?_)
    · rw [cI_n0, inX (n := 99) (by omega) (by decide)] at h23
      have hy := xIn_cl (by omega) h23
      have hy1 := hy.1
      refine xv_aload_n hC dX7_put_29 rfl rfl ?_
      refine tg_X7_7 hC fl_X7_77 dX7_put_30 ?_
      refine xv_if_eq (tgt := 39) hC dX7_put_33 (by decide) (fun h33 => ?_) (fun h33 => ?_)
      · have h33 : M.2.1 7 = false := cI_0.mp h33
        refine xv_aload_n hC dX7_put_39 rfl rfl ?_
        refine xv_iload_n hC dX7_put_40 rfl rfl ?_
        refine xv_cast (congrArg Value.int hx.2) ?_
        refine xv_iload_n hC dX7_put_41 rfl rfl ?_
        refine xv_cast (congrArg Value.int hy.2) ?_
        refine xv_lload_n hC dX7_put_42 rfl rfl ?_
        refine xv_callV hC Y_yX7_set im_yX7_set se_yX7_set ml_X7_81 dX7_put_43 (em_set l G g sz (mT0 M) w0 (p1 := cl x) (i1 := cl y) hx1 hy1 v) (ml_w_obj _ _ _ _) rfl rfl rfl (Nat.le_of_ble_eq_true rfl) ⟨Nat.le_of_ble_eq_true rfl, Nat.le_of_ble_eq_true rfl⟩ ⟨Nat.le_of_ble_eq_true rfl, Nat.le_of_ble_eq_true rfl⟩ ?_
        refine xv_rn ?_
        refine xv_aload_n hC dX7_put_46 rfl rfl ?_
        refine xv_iload_n hC dX7_put_47 rfl rfl ?_
        refine xv_cast (congrArg Value.int hx.2) ?_
        refine xv_callV hC Y_yX7_entries im_yX7_entries se_yX7_entries ml_X7_85 dX7_put_48 (em_entries l G g sz (mSet (mT0 M) (cl x) (cl y) v) w0 (p1 := cl x) hx1) (ml_w_obj _ _ _ _) rfl rfl rfl (Nat.le_of_ble_eq_true rfl) ⟨Nat.le_of_ble_eq_true rfl, Nat.le_of_ble_eq_true rfl⟩ ⟨Nat.le_of_ble_eq_true rfl, Nat.le_of_ble_eq_true rfl⟩ ?_
        refine xv_rs ?_
        exact xv_ireturn hC hr dX7_put_51 (rI (mPu_y (mRoc_0 h9 h23 h33)).1) rfl (by rw [(mPu_y (mRoc_0 h9 h23 h33)).2])
      · have h33 : M.2.1 7 = true := cI_n0.mp h33
        refine xv_bipush (v := -3) hC dX7_put_36 (by decide) ?_
        exact xv_ireturn hC hr dX7_put_38 (rI (mPu_n (mRoc_3 h9 h23 h33) (by decide)).1) rfl (by rw [(mPu_n (mRoc_3 h9 h23 h33) (by decide)).2]; rfl)
    · rw [cI_0, inX (n := 99) (by omega) (by decide)] at h23
      refine xv_bipush (v := -2) hC dX7_put_26 (by decide) ?_
      exact xv_ireturn hC hr dX7_put_28 (rI (mPu_n (mRoc_2 h9 h23) (by decide)).1) rfl (by rw [(mPu_n (mRoc_2 h9 h23) (by decide)).2]; rfl)
  · try simp (disch := omega) only [nI_leI, nI_ltI, nI_eq, xz_eq, xz_le, xz_gt, cI_0, cI_n0, cI_inj, lg_cmp_ge, lg_cmp_le, lg_cmp_gt, lg_cmp_lt, lg_cmp_eq, Bool.not_eq_true, Bool.not_eq_false, Nat.not_le, Nat.not_lt] at h9
    refine xv_iconst (v := -1) hC dX7_put_12 (by decide) ?_
    exact xv_ireturn hC hr dX7_put_13 (rI (mPu_n (mRoc_1 h9) (by decide)).1) rfl (by rw [(mPu_n (mRoc_1 h9) (by decide)).2]; rfl)
set_option maxHeartbeats 1000000 in
set_option maxRecDepth 100000 in
theorem em_take (l : Launch) (G : xD) (g sz : Nat) (M : mT) (w0 : xw) (x y : Int32) : xM l G yX7_take cX7_take 3 (some .int) 1 0 0 [.ref g, .int x, .int y] sz (wM G g (M) w0) (some (.int (mTaV M x y))) (sz) (wM G g (mTaM M x y) w0) := by
  refine xM_of (by decide) (Nat.le_of_ble_eq_true rfl) ?_
  intro A p e s m args below meth c hC hr hname
  have hC : xC p s m args meth c cX7_take 3 RX7 G A := hC
  have hr : meth.sig.returnType = (some .int) := hr
  show xV p l e _ s m args below meth c G A 3 _ sz _ 0 0 0 [(0, .ref g), (1, .int x), (2, .int y)] []
  refine xv_aload_n hC dX7_take_0 rfl rfl ?_
  refine xv_iconst (v := nI 0) hC dX7_take_1 (by decide) ?_
  refine tp_X7_0 hC fl_X7_64 dX7_take_2 ?_
  refine xv_iload_n hC dX7_take_5 rfl rfl ?_
  refine xv_callS hC Y_yX7_isPart sm_yX7_isPart ml_X7_67 dX7_take_6 (em_isPart l G sz _ x) rfl rfl (Nat.le_of_ble_eq_true rfl) ⟨Nat.le_of_ble_eq_true rfl, Nat.le_of_ble_eq_true rfl⟩ ⟨Nat.le_of_ble_eq_true rfl, Nat.le_of_ble_eq_true rfl⟩ ?_
  refine xv_rs ?_
  refine xv_if_ne (tgt := 14) hC dX7_take_9 (by decide) (fun h9 => ?_) (fun h9 => ?_)
  · rw [cI_n0] at h9
    have hx := xIn_cl (by omega) h9
    have hx1 := hx.1
    refine xv_iload_n hC dX7_take_14 rfl rfl ?_
    refine xv_i2l hC dX7_take_15 ?_
    refine xv_lconst (v := 0) hC dX7_take_16 (by decide) ?_
    refine xv_ldc2 hC dX7_take_17 kn_X7_71 ?_
    refine xv_callS hC Y_yX7_in sm_yX7_in ml_X7_73 dX7_take_20 (em_in l G sz _ y.toInt64 0 99) rfl rfl (Nat.le_of_ble_eq_true rfl) ⟨Nat.le_of_ble_eq_true rfl, Nat.le_of_ble_eq_true rfl⟩ ⟨Nat.le_of_ble_eq_true rfl, Nat.le_of_ble_eq_true rfl⟩ ?_
    refine xv_rs ?_
    refine xv_if_ne (tgt := 29) hC dX7_take_23 (by decide) (fun h23 => ?_) (fun h23 => ?_)
    · rw [cI_n0, inX (n := 99) (by omega) (by decide)] at h23
      have hy := xIn_cl (by omega) h23
      have hy1 := hy.1
      refine xv_aload_n hC dX7_take_29 rfl rfl ?_
      refine tg_X7_7 hC fl_X7_77 dX7_take_30 ?_
      refine xv_if_eq (tgt := 39) hC dX7_take_33 (by decide) (fun h33 => ?_) (fun h33 => ?_)
      · have h33 : M.2.1 7 = false := cI_0.mp h33
        refine xv_aload_n hC dX7_take_39 rfl rfl ?_
        refine xv_iload_n hC dX7_take_40 rfl rfl ?_
        refine xv_cast (congrArg Value.int hx.2) ?_
        refine xv_iload_n hC dX7_take_41 rfl rfl ?_
        refine xv_cast (congrArg Value.int hy.2) ?_
        refine xv_callV hC Y_yX7_remove im_yX7_remove se_yX7_remove ml_X7_89 dX7_take_42 (em_remove l G g sz (mT0 M) w0 (p1 := cl x) (i1 := cl y) hx1 hy1) (ml_w_obj _ _ _ _) rfl rfl rfl (Nat.le_of_ble_eq_true rfl) ⟨Nat.le_of_ble_eq_true rfl, Nat.le_of_ble_eq_true rfl⟩ ⟨Nat.le_of_ble_eq_true rfl, Nat.le_of_ble_eq_true rfl⟩ ?_
        refine xv_rs ?_
        refine xv_if_eq (tgt := 52) hC dX7_take_45 (by decide) (fun h45 => ?_) (fun h45 => ?_)
        · have h45 : mz M 1 (100 * cl x + cl y) = false := cI_0.mp h45
          refine xv_iconst (v := nI 0) hC dX7_take_52 (by decide) ?_
          exact xv_ireturn hC hr dX7_take_53 (rI ((mTa_y (mRoc_0 h9 h23 h33)).1.trans (by rw [h45]; rfl))) rfl (by rw [(mTa_y (mRoc_0 h9 h23 h33)).2])
        · have h45 : mz M 1 (100 * cl x + cl y) = true := cI_n0.mp h45
          refine xv_iconst (v := nI 1) hC dX7_take_48 (by decide) ?_
          refine xv_goto (tgt := 53) hC dX7_take_49 (by decide) ?_
          exact xv_ireturn hC hr dX7_take_53 (rI ((mTa_y (mRoc_0 h9 h23 h33)).1.trans (by rw [h45]; rfl))) rfl (by rw [(mTa_y (mRoc_0 h9 h23 h33)).2])
      · have h33 : M.2.1 7 = true := cI_n0.mp h33
        refine xv_bipush (v := -3) hC dX7_take_36 (by decide) ?_
        exact xv_ireturn hC hr dX7_take_38 (rI (mTa_n (mRoc_3 h9 h23 h33) (by decide)).1) rfl (by rw [(mTa_n (mRoc_3 h9 h23 h33) (by decide)).2]; rfl)
    · rw [cI_0, inX (n := 99) (by omega) (by decide)] at h23
      refine xv_bipush (v := -2) hC dX7_take_26 (by decide) ?_
      exact xv_ireturn hC hr dX7_take_28 (rI (mTa_n (mRoc_2 h9 h23) (by decide)).1) rfl (by rw [(mTa_n (mRoc_2 h9 h23) (by decide)).2]; rfl)
  · try simp (disch := omega) only [nI_leI, nI_ltI, nI_eq, xz_eq, xz_le, xz_gt, cI_0, cI_n0, cI_inj, lg_cmp_ge, lg_cmp_le, lg_cmp_gt, lg_cmp_lt, lg_cmp_eq, Bool.not_eq_true, Bool.not_eq_false, Nat.not_le, Nat.not_lt] at h9
    refine xv_iconst (v := -1) hC dX7_take_12 (by decide) ?_
    exact xv_ireturn hC hr dX7_take_13 (rI (mTa_n (mRoc_1 h9) (by decide)).1) rfl (by rw [(mTa_n (mRoc_1 h9) (by decide)).2]; rfl)
set_option maxHeartbeats 1000000 in
set_option maxRecDepth 100000 in
theorem em_get (l : Launch) (G : xD) (g sz : Nat) (M : mT) (w0 : xw) (x y : Int32) : xM l G yX7_get cX7_get 4 (some .long) 1 0 0 [.ref g, .int x, .int y] sz (wM G g (M) w0) (some (.long (mGeV M x y))) (sz) (wM G g (mGeM M x y) w0) := by
  refine xM_of (by decide) (Nat.le_of_ble_eq_true rfl) ?_
  intro A p e s m args below meth c hC hr hname
  have hC : xC p s m args meth c cX7_get 4 RX7 G A := hC
  have hr : meth.sig.returnType = (some .long) := hr
  show xV p l e _ s m args below meth c G A 4 _ sz _ 0 0 0 [(0, .ref g), (1, .int x), (2, .int y)] []
  refine xv_iload_n hC dX7_get_0 rfl rfl ?_
  refine xv_callS hC Y_yX7_isPart sm_yX7_isPart ml_X7_67 dX7_get_1 (em_isPart l G sz _ x) rfl rfl (Nat.le_of_ble_eq_true rfl) ⟨Nat.le_of_ble_eq_true rfl, Nat.le_of_ble_eq_true rfl⟩ ⟨Nat.le_of_ble_eq_true rfl, Nat.le_of_ble_eq_true rfl⟩ ?_
  refine xv_rs ?_
  refine xv_if_eq (tgt := 37) hC dX7_get_4 (by decide) (fun h4 => ?_) (fun h4 => ?_)
  · rw [cI_0] at h4
    have hB : mGeB M x y = false := by rw [mGeB, h4]; rfl
    refine xv_iconst (v := nI 0) hC dX7_get_37 (by decide) ?_
    refine xv_istore_n hC dX7_get_38 rfl (by decide) ?_
    refine xv_aload_n hC dX7_get_39 rfl rfl ?_
    refine xv_iload_n hC dX7_get_40 rfl rfl ?_
    refine xv_if_eq (tgt := 48) hC dX7_get_41 (by decide) (fun h41 => ?_) (fun h41 => ?_)
    · refine xv_iconst (v := nI 1) hC dX7_get_48 (by decide) ?_
      refine tp_X7_0 hC fl_X7_64 dX7_get_49 ?_
      refine xv_iload_n hC dX7_get_52 rfl rfl ?_
      refine xv_if_eq (tgt := 70) hC dX7_get_53 (by decide) (fun h53 => ?_) (fun h53 => ?_)
      · refine xv_lconst (v := 0) hC dX7_get_70 (by decide) ?_
        exact xv_lreturn hC hr dX7_get_71 (by rw [mGeV, hB]; rfl) rfl (by rw [mGeM, hB]; rfl)
      · exact absurd h53 (by decide)
    · exact absurd h41 (by decide)
  · rw [cI_n0] at h4
    have hx := xIn_cl (by omega) h4
    have hx1 := hx.1
    refine xv_iload_n hC dX7_get_7 rfl rfl ?_
    refine xv_i2l hC dX7_get_8 ?_
    refine xv_lconst (v := 0) hC dX7_get_9 (by decide) ?_
    refine xv_ldc2 hC dX7_get_10 kn_X7_71 ?_
    refine xv_callS hC Y_yX7_in sm_yX7_in ml_X7_73 dX7_get_13 (em_in l G sz _ y.toInt64 0 99) rfl rfl (Nat.le_of_ble_eq_true rfl) ⟨Nat.le_of_ble_eq_true rfl, Nat.le_of_ble_eq_true rfl⟩ ⟨Nat.le_of_ble_eq_true rfl, Nat.le_of_ble_eq_true rfl⟩ ?_
    refine xv_rs ?_
    refine xv_if_eq (tgt := 37) hC dX7_get_16 (by decide) (fun h16 => ?_) (fun h16 => ?_)
    · rw [cI_0, inX (n := 99) (by omega) (by decide)] at h16
      have hB : mGeB M x y = false := by rw [mGeB, h4, h16]; rfl
      refine xv_iconst (v := nI 0) hC dX7_get_37 (by decide) ?_
      refine xv_istore_n hC dX7_get_38 rfl (by decide) ?_
      refine xv_aload_n hC dX7_get_39 rfl rfl ?_
      refine xv_iload_n hC dX7_get_40 rfl rfl ?_
      refine xv_if_eq (tgt := 48) hC dX7_get_41 (by decide) (fun h41 => ?_) (fun h41 => ?_)
      · refine xv_iconst (v := nI 1) hC dX7_get_48 (by decide) ?_
        refine tp_X7_0 hC fl_X7_64 dX7_get_49 ?_
        refine xv_iload_n hC dX7_get_52 rfl rfl ?_
        refine xv_if_eq (tgt := 70) hC dX7_get_53 (by decide) (fun h53 => ?_) (fun h53 => ?_)
        · refine xv_lconst (v := 0) hC dX7_get_70 (by decide) ?_
          exact xv_lreturn hC hr dX7_get_71 (by rw [mGeV, hB]; rfl) rfl (by rw [mGeM, hB]; rfl)
        · exact absurd h53 (by decide)
      · exact absurd h41 (by decide)
    · rw [cI_n0, inX (n := 99) (by omega) (by decide)] at h16
      have hy := xIn_cl (by omega) h16
      have hy1 := hy.1
      refine xv_aload_n hC dX7_get_19 rfl rfl ?_
      refine tg_X7_1 hC fl_X7_7 dX7_get_20 ?_
      refine xv_bipush (v := nI 100) hC dX7_get_23 (by decide) ?_
      refine xv_iload_n hC dX7_get_25 rfl rfl ?_
      refine xv_cast (congrArg Value.int hx.2) ?_
      refine xv_imul hC dX7_get_26 ?_
      refine xv_iload_n hC dX7_get_27 rfl rfl ?_
      refine xv_cast (congrArg Value.int hy.2) ?_
      refine xv_iadd hC dX7_get_28 ?_
      refine xv_cast (congrArg Value.int (ixm _ _ _)) ?_
      refine al_m_has hC dX7_get_29 rfl (by first | assumption | omega) ?_
      refine xv_if_eq (tgt := 37) hC dX7_get_30 (by decide) (fun h30 => ?_) (fun h30 => ?_)
      · have h30 : mz M 1 (100 * cl x + cl y) = false := cI_0.mp h30
        have hB : mGeB M x y = false := by rw [mGeB, h4, h16, h30]; rfl
        refine xv_iconst (v := nI 0) hC dX7_get_37 (by decide) ?_
        refine xv_istore_n hC dX7_get_38 rfl (by decide) ?_
        refine xv_aload_n hC dX7_get_39 rfl rfl ?_
        refine xv_iload_n hC dX7_get_40 rfl rfl ?_
        refine xv_if_eq (tgt := 48) hC dX7_get_41 (by decide) (fun h41 => ?_) (fun h41 => ?_)
        · refine xv_iconst (v := nI 1) hC dX7_get_48 (by decide) ?_
          refine tp_X7_0 hC fl_X7_64 dX7_get_49 ?_
          refine xv_iload_n hC dX7_get_52 rfl rfl ?_
          refine xv_if_eq (tgt := 70) hC dX7_get_53 (by decide) (fun h53 => ?_) (fun h53 => ?_)
          · refine xv_lconst (v := 0) hC dX7_get_70 (by decide) ?_
            exact xv_lreturn hC hr dX7_get_71 (by rw [mGeV, hB]; rfl) rfl (by rw [mGeM, hB]; rfl)
          · exact absurd h53 (by decide)
        · exact absurd h41 (by decide)
      · have h30 : mz M 1 (100 * cl x + cl y) = true := cI_n0.mp h30
        have hB : mGeB M x y = true := by rw [mGeB, h4, h16, h30]; rfl
        refine xv_iconst (v := nI 1) hC dX7_get_33 (by decide) ?_
        refine xv_goto (tgt := 38) hC dX7_get_34 (by decide) ?_
        refine xv_istore_n hC dX7_get_38 rfl (by decide) ?_
        refine xv_aload_n hC dX7_get_39 rfl rfl ?_
        refine xv_iload_n hC dX7_get_40 rfl rfl ?_
        refine xv_if_eq (tgt := 48) hC dX7_get_41 (by decide) (fun h41 => ?_) (fun h41 => ?_)
        · exact absurd h41 (by decide)
        · refine xv_iconst (v := nI 0) hC dX7_get_44 (by decide) ?_
          refine xv_goto (tgt := 49) hC dX7_get_45 (by decide) ?_
          refine tp_X7_0 hC fl_X7_64 dX7_get_49 ?_
          refine xv_iload_n hC dX7_get_52 rfl rfl ?_
          refine xv_if_eq (tgt := 70) hC dX7_get_53 (by decide) (fun h53 => ?_) (fun h53 => ?_)
          · exact absurd h53 (by decide)
          · refine xv_aload_n hC dX7_get_56 rfl rfl ?_
            refine tg_X7_2 hC fl_X7_13 dX7_get_57 ?_
            refine xv_bipush (v := nI 100) hC dX7_get_60 (by decide) ?_
            refine xv_iload_n hC dX7_get_62 rfl rfl ?_
            refine xv_cast (congrArg Value.int hx.2) ?_
            refine xv_imul hC dX7_get_63 ?_
            refine xv_iload_n hC dX7_get_64 rfl rfl ?_
            refine xv_cast (congrArg Value.int hy.2) ?_
            refine xv_iadd hC dX7_get_65 ?_
            refine xv_cast (congrArg Value.int (ixm _ _ _)) ?_
            refine al_m_values hC dX7_get_66 rfl (by first | assumption | omega) ?_
            refine xv_goto (tgt := 71) hC dX7_get_67 (by decide) ?_
            exact xv_lreturn hC hr dX7_get_71 (by rw [mGeV, hB]; rfl) rfl (by rw [mGeM, hB]; rfl)
set_option maxHeartbeats 1000000 in
set_option maxRecDepth 100000 in
theorem em_reaches (l : Launch) (G : xD) (g sz : Nat) (M : mT) (w0 : xw) {f1 t1 : Nat} (hf : f1 < 12) (ht : t1 < 12) : xM l G yX7_reaches cX7_reaches 6 (some .boolean) 0 0 0 [.ref g, .int (nI f1), .int (nI t1)] sz (wM G g (M) w0) (some (.int (cI (mReach M f1 t1)))) (sz) (wM G g (mZ M 25 (mReach M f1)) w0) := by
  refine xM_of (by decide) (Nat.le_of_ble_eq_true rfl) ?_
  intro A p e s m args below meth c hC hr hname
  have hC : xC p s m args meth c cX7_reaches 6 RX7 G A := hC
  have hr : meth.sig.returnType = (some .boolean) := hr
  show xV p l e _ s m args below meth c G A 6 _ sz _ 0 0 0 [(0, .ref g), (1, .int (nI f1)), (2, .int (nI t1))] []
  refine xv_iconst (v := nI 0) hC dX7_reaches_0 (by decide) ?_
  refine xv_istore_n hC dX7_reaches_1 rfl (by decide) ?_
  have Lp2 : ∀ (n i : Nat), (i ≤ 12) → (12 < i + n) → xV p l e (xr 0 0 0) s m args below meth c G A 6 (MQ below (xQ G A (some (.int (cI (mReach M f1 t1)))) (sz) (wM G g (mZ M 25 (mReach M f1)) w0)) args s 0 0 A) sz (wM G g (mZ M 25 (m0R (fun i => mz M 25 i) f1 i)) w0) 0 0 2 [(3, .int (nI i)), (0, .ref g), (1, .int (nI f1)), (2, .int (nI t1))] [] := by
    intro n
    induction n with
    | zero =>
      intro i hi hn
      omega
    | succ n ih2 =>
      intro i hi hn
      refine xv_iload_n hC dX7_reaches_2 rfl rfl ?_
      refine xv_bipush (v := nI 12) hC dX7_reaches_3 (by decide) ?_
      refine xv_icmp_ge (tgt := 30) hC dX7_reaches_5 (by decide) (fun h5 => ?_) (fun h5 => ?_)
      · try simp (disch := omega) only [nI_leI, nI_ltI, nI_eq, xz_eq, xz_le, xz_gt, cI_0, cI_n0, cI_inj, lg_cmp_ge, lg_cmp_le, lg_cmp_gt, lg_cmp_lt, lg_cmp_eq, Bool.not_eq_true, Bool.not_eq_false, Nat.not_le, Nat.not_lt] at h5
        refine xv_iconst (v := nI 0) hC dX7_reaches_30 (by decide) ?_
        refine xv_istore_n hC dX7_reaches_31 rfl (by decide) ?_
        have Lp32 : ∀ (n k : Nat), (k ≤ 12) → (12 < k + n) → xV p l e (xr 0 0 0) s m args below meth c G A 6 (MQ below (xQ G A (some (.int (cI (mReach M f1 t1)))) (sz) (wM G g (mZ M 25 (mReach M f1)) w0)) args s 0 0 A) sz (wM G g (mZ M 25 (mrR (fun i => mz M 3 i) (m0R (fun i => mz M 25 i) f1 12) k)) w0) 0 0 32 [(3, .int (nI k)), (0, .ref g), (1, .int (nI f1)), (2, .int (nI t1))] [] := by
          intro n
          induction n with
          | zero =>
            intro k hk hn2
            omega
          | succ n ih32 =>
            intro k hk hn2
            refine xv_iload_n hC dX7_reaches_32 rfl rfl ?_
            refine xv_bipush (v := nI 12) hC dX7_reaches_33 (by decide) ?_
            refine xv_icmp_ge (tgt := 124) hC dX7_reaches_35 (by decide) (fun h35 => ?_) (fun h35 => ?_)
            · try simp (disch := omega) only [nI_leI, nI_ltI, nI_eq, xz_eq, xz_le, xz_gt, cI_0, cI_n0, cI_inj, lg_cmp_ge, lg_cmp_le, lg_cmp_gt, lg_cmp_lt, lg_cmp_eq, Bool.not_eq_true, Bool.not_eq_false, Nat.not_le, Nat.not_lt] at h35
              have hk12 : k = 12 := by omega
              subst hk12
              refine xv_aload_n hC dX7_reaches_124 rfl rfl ?_
              refine tg_X7_25 hC fl_X7_55 dX7_reaches_125 ?_
              refine xv_iload_n hC dX7_reaches_128 rfl rfl ?_
              refine al_m_reached hC dX7_reaches_129 rfl (by first | assumption | omega) ?_
              exact xv_zreturn hC hr (by first | rfl | exact cI_nar _) dX7_reaches_130 rfl rfl rfl
            · try simp (disch := omega) only [nI_leI, nI_ltI, nI_eq, xz_eq, xz_le, xz_gt, cI_0, cI_n0, cI_inj, lg_cmp_ge, lg_cmp_le, lg_cmp_gt, lg_cmp_lt, lg_cmp_eq, Bool.not_eq_true, Bool.not_eq_false, Nat.not_le, Nat.not_lt] at h35
              refine xv_iconst (v := nI 0) hC dX7_reaches_38 (by decide) ?_
              refine xv_istore hC dX7_reaches_39 (by decide) ?_
              have Lp41 : ∀ (n p1 : Nat), (p1 ≤ 12) → (12 < p1 + n) → xV p l e (xr 0 0 0) s m args below meth c G A 6 (MQ below (xQ G A (some (.int (cI (mReach M f1 t1)))) (sz) (wM G g (mZ M 25 (mReach M f1)) w0)) args s 0 0 A) sz (wM G g (mZ M 25 (mpR (fun i => mz M 3 i) (mrR (fun i => mz M 3 i) (m0R (fun i => mz M 25 i) f1 12) k) p1)) w0) 0 0 41 [(4, .int (nI p1)), (3, .int (nI k)), (0, .ref g), (1, .int (nI f1)), (2, .int (nI t1))] [] := by
                intro n
                induction n with
                | zero =>
                  intro p1 hp1 hn3
                  omega
                | succ n ih41 =>
                  intro p1 hp1 hn3
                  refine xv_iload hC dX7_reaches_41 rfl ?_
                  refine xv_bipush (v := nI 12) hC dX7_reaches_43 (by decide) ?_
                  refine xv_icmp_ge (tgt := 118) hC dX7_reaches_45 (by decide) (fun h45 => ?_) (fun h45 => ?_)
                  · try simp (disch := omega) only [nI_leI, nI_ltI, nI_eq, xz_eq, xz_le, xz_gt, cI_0, cI_n0, cI_inj, lg_cmp_ge, lg_cmp_le, lg_cmp_gt, lg_cmp_lt, lg_cmp_eq, Bool.not_eq_true, Bool.not_eq_false, Nat.not_le, Nat.not_lt] at h45
                    refine xv_iinc hC dX7_reaches_118 rfl (xinc _) (by decide) ?_
                    refine xv_goto (tgt := 32) hC dX7_reaches_121 (by decide) ?_
                    have hp12 : p1 = 12 := by omega
                    subst hp12
                    refine xV.to [(3, .int (nI (k + 1))), (0, .ref g), (1, .int (nI f1)), (2, .int (nI t1))] ⟨rfl, rfl, rfl, rfl, trivial⟩ ?_
                    exact ih32 (k + 1) (by omega) (by omega)
                  · try simp (disch := omega) only [nI_leI, nI_ltI, nI_eq, xz_eq, xz_le, xz_gt, cI_0, cI_n0, cI_inj, lg_cmp_ge, lg_cmp_le, lg_cmp_gt, lg_cmp_lt, lg_cmp_eq, Bool.not_eq_true, Bool.not_eq_false, Nat.not_le, Nat.not_lt] at h45
                    refine xv_iconst (v := nI 0) hC dX7_reaches_48 (by decide) ?_
                    refine xv_istore hC dX7_reaches_49 (by decide) ?_
                    have Lp51 : ∀ (n q1 : Nat), (q1 ≤ 12) → (12 < q1 + n) → xV p l e (xr 0 0 0) s m args below meth c G A 6 (MQ below (xQ G A (some (.int (cI (mReach M f1 t1)))) (sz) (wM G g (mZ M 25 (mReach M f1)) w0)) args s 0 0 A) sz (wM G g (mZ M 25 (mqR (fun i => mz M 3 i) (mpR (fun i => mz M 3 i) (mrR (fun i => mz M 3 i) (m0R (fun i => mz M 25 i) f1 12) k) p1) p1 q1)) w0) 0 0 51 [(5, .int (nI q1)), (4, .int (nI p1)), (3, .int (nI k)), (0, .ref g), (1, .int (nI f1)), (2, .int (nI t1))] [] := by
                      intro n
                      induction n with
                      | zero =>
                        intro q1 hq1 hn4
                        omega
                      | succ n ih51 =>
                        intro q1 hq1 hn4
                        refine xv_iload hC dX7_reaches_51 rfl ?_
                        refine xv_bipush (v := nI 12) hC dX7_reaches_53 (by decide) ?_
                        refine xv_icmp_ge (tgt := 112) hC dX7_reaches_55 (by decide) (fun h55 => ?_) (fun h55 => ?_)
                        · try simp (disch := omega) only [nI_leI, nI_ltI, nI_eq, xz_eq, xz_le, xz_gt, cI_0, cI_n0, cI_inj, lg_cmp_ge, lg_cmp_le, lg_cmp_gt, lg_cmp_lt, lg_cmp_eq, Bool.not_eq_true, Bool.not_eq_false, Nat.not_le, Nat.not_lt] at h55
                          refine xv_iinc hC dX7_reaches_112 rfl (xinc _) (by decide) ?_
                          refine xv_goto (tgt := 41) hC dX7_reaches_115 (by decide) ?_
                          have hq12 : q1 = 12 := by omega
                          subst hq12
                          refine xV.to [(4, .int (nI (p1 + 1))), (3, .int (nI k)), (0, .ref g), (1, .int (nI f1)), (2, .int (nI t1))] ⟨rfl, rfl, rfl, rfl, rfl, trivial⟩ ?_
                          exact ih41 (p1 + 1) (by omega) (by omega)
                        · try simp (disch := omega) only [nI_leI, nI_ltI, nI_eq, xz_eq, xz_le, xz_gt, cI_0, cI_n0, cI_inj, lg_cmp_ge, lg_cmp_le, lg_cmp_gt, lg_cmp_lt, lg_cmp_eq, Bool.not_eq_true, Bool.not_eq_false, Nat.not_le, Nat.not_lt] at h55
                          refine xv_aload_n hC dX7_reaches_58 rfl rfl ?_
                          refine tg_X7_25 hC fl_X7_55 dX7_reaches_59 ?_
                          refine xv_iload hC dX7_reaches_62 rfl ?_
                          refine xv_aload_n hC dX7_reaches_64 rfl rfl ?_
                          refine tg_X7_25 hC fl_X7_55 dX7_reaches_65 ?_
                          refine xv_iload hC dX7_reaches_68 rfl ?_
                          refine al_m_reached hC dX7_reaches_70 rfl (by first | assumption | omega) ?_
                          refine xv_if_ne (tgt := 100) hC dX7_reaches_71 (by decide) (fun h71 => ?_) (fun h71 => ?_)
                          · have h71 : (mpR (fun i => mz M 3 i) (mrR (fun i => mz M 3 i) (m0R (fun i => mz M 25 i) f1 12) k) p1) q1 = true := (mqR_n _ _ p1 q1).symm.trans (cI_n0.mp h71)
                            refine xv_iconst (v := nI 1) hC dX7_reaches_100 (by decide) ?_
                            refine xv_goto (tgt := 105) hC dX7_reaches_101 (by decide) ?_
                            refine as_m_reached hC dX7_reaches_105 rfl (by first | assumption | omega) (by first | exact cI_c1 | exact cI_c0 | rfl) ?_
                            refine xv_iinc hC dX7_reaches_106 rfl (xinc _) (by decide) ?_
                            refine xv_goto (tgt := 51) hC dX7_reaches_109 (by decide) ?_
                            refine xv_world (show _ = wM G g (mZ M 25 (mqR (fun i => mz M 3 i) (mpR (fun i => mz M 3 i) (mrR (fun i => mz M 3 i) (m0R (fun i => mz M 25 i) f1 12) k) p1) p1 (q1 + 1))) w0 by rw [← mqR_s, mZ_i]; simp [*]) ?_
                            refine xV.to [(5, .int (nI (q1 + 1))), (4, .int (nI p1)), (3, .int (nI k)), (0, .ref g), (1, .int (nI f1)), (2, .int (nI t1))] ⟨rfl, rfl, rfl, rfl, rfl, rfl, trivial⟩ ?_
                            exact ih51 (q1 + 1) (by omega) (by omega)
                          · have h71 : (mpR (fun i => mz M 3 i) (mrR (fun i => mz M 3 i) (m0R (fun i => mz M 25 i) f1 12) k) p1) q1 = false := (mqR_n _ _ p1 q1).symm.trans (cI_0.mp h71)
                            refine xv_aload_n hC dX7_reaches_74 rfl rfl ?_
                            refine tg_X7_25 hC fl_X7_55 dX7_reaches_75 ?_
                            refine xv_iload hC dX7_reaches_78 rfl ?_
                            refine al_m_reached hC dX7_reaches_80 rfl (by first | assumption | omega) ?_
                            refine xv_if_eq (tgt := 104) hC dX7_reaches_81 (by decide) (fun h81 => ?_) (fun h81 => ?_)
                            · have h81 : (mpR (fun i => mz M 3 i) (mrR (fun i => mz M 3 i) (m0R (fun i => mz M 25 i) f1 12) k) p1) p1 = false := (mqR_p _ _ p1 q1).symm.trans (cI_0.mp h81)
                              refine xv_iconst (v := nI 0) hC dX7_reaches_104 (by decide) ?_
                              refine as_m_reached hC dX7_reaches_105 rfl (by first | assumption | omega) (by first | exact cI_c1 | exact cI_c0 | rfl) ?_
                              refine xv_iinc hC dX7_reaches_106 rfl (xinc _) (by decide) ?_
                              refine xv_goto (tgt := 51) hC dX7_reaches_109 (by decide) ?_
                              refine xv_world (show _ = wM G g (mZ M 25 (mqR (fun i => mz M 3 i) (mpR (fun i => mz M 3 i) (mrR (fun i => mz M 3 i) (m0R (fun i => mz M 25 i) f1 12) k) p1) p1 (q1 + 1))) w0 by rw [← mqR_s, mZ_i]; simp [*]) ?_
                              refine xV.to [(5, .int (nI (q1 + 1))), (4, .int (nI p1)), (3, .int (nI k)), (0, .ref g), (1, .int (nI f1)), (2, .int (nI t1))] ⟨rfl, rfl, rfl, rfl, rfl, rfl, trivial⟩ ?_
                              exact ih51 (q1 + 1) (by omega) (by omega)
                            · have h81 : (mpR (fun i => mz M 3 i) (mrR (fun i => mz M 3 i) (m0R (fun i => mz M 25 i) f1 12) k) p1) p1 = true := (mqR_p _ _ p1 q1).symm.trans (cI_n0.mp h81)
                              refine xv_aload_n hC dX7_reaches_84 rfl rfl ?_
                              refine tg_X7_3 hC fl_X7_17 dX7_reaches_85 ?_
                              refine xv_bipush (v := nI 12) hC dX7_reaches_88 (by decide) ?_
                              refine xv_iload hC dX7_reaches_90 rfl ?_
                              refine xv_imul hC dX7_reaches_92 ?_
                              refine xv_iload hC dX7_reaches_93 rfl ?_
                              refine xv_iadd hC dX7_reaches_95 ?_
                              refine xv_cast (congrArg Value.int (ixm _ _ _)) ?_
                              refine al_m_needed hC dX7_reaches_96 rfl (by first | assumption | omega) ?_
                              refine xv_if_eq (tgt := 104) hC dX7_reaches_97 (by decide) (fun h97 => ?_) (fun h97 => ?_)
                              · have h97 : mz M 3 (12 * p1 + q1) = false := cI_0.mp h97
                                refine xv_iconst (v := nI 0) hC dX7_reaches_104 (by decide) ?_
                                refine as_m_reached hC dX7_reaches_105 rfl (by first | assumption | omega) (by first | exact cI_c1 | exact cI_c0 | rfl) ?_
                                refine xv_iinc hC dX7_reaches_106 rfl (xinc _) (by decide) ?_
                                refine xv_goto (tgt := 51) hC dX7_reaches_109 (by decide) ?_
                                refine xv_world (show _ = wM G g (mZ M 25 (mqR (fun i => mz M 3 i) (mpR (fun i => mz M 3 i) (mrR (fun i => mz M 3 i) (m0R (fun i => mz M 25 i) f1 12) k) p1) p1 (q1 + 1))) w0 by rw [← mqR_s, mZ_i]; simp [*]) ?_
                                refine xV.to [(5, .int (nI (q1 + 1))), (4, .int (nI p1)), (3, .int (nI k)), (0, .ref g), (1, .int (nI f1)), (2, .int (nI t1))] ⟨rfl, rfl, rfl, rfl, rfl, rfl, trivial⟩ ?_
                                exact ih51 (q1 + 1) (by omega) (by omega)
                              · have h97 : mz M 3 (12 * p1 + q1) = true := cI_n0.mp h97
                                refine xv_iconst (v := nI 1) hC dX7_reaches_100 (by decide) ?_
                                refine xv_goto (tgt := 105) hC dX7_reaches_101 (by decide) ?_
                                refine as_m_reached hC dX7_reaches_105 rfl (by first | assumption | omega) (by first | exact cI_c1 | exact cI_c0 | rfl) ?_
                                refine xv_iinc hC dX7_reaches_106 rfl (xinc _) (by decide) ?_
                                refine xv_goto (tgt := 51) hC dX7_reaches_109 (by decide) ?_
                                refine xv_world (show _ = wM G g (mZ M 25 (mqR (fun i => mz M 3 i) (mpR (fun i => mz M 3 i) (mrR (fun i => mz M 3 i) (m0R (fun i => mz M 25 i) f1 12) k) p1) p1 (q1 + 1))) w0 by rw [← mqR_s, mZ_i]; simp [*]) ?_
                                refine xV.to [(5, .int (nI (q1 + 1))), (4, .int (nI p1)), (3, .int (nI k)), (0, .ref g), (1, .int (nI f1)), (2, .int (nI t1))] ⟨rfl, rfl, rfl, rfl, rfl, rfl, trivial⟩ ?_
                                exact ih51 (q1 + 1) (by omega) (by omega)
                    refine xv_world (show _ = wM G g (mZ M 25 (mqR (fun i => mz M 3 i) (mpR (fun i => mz M 3 i) (mrR (fun i => mz M 3 i) (m0R (fun i => mz M 25 i) f1 12) k) p1) p1 0)) w0 by rw [mqR_0]) ?_
                    refine xV.to [(5, .int (nI 0)), (4, .int (nI p1)), (3, .int (nI k)), (0, .ref g), (1, .int (nI f1)), (2, .int (nI t1))] ⟨rfl, rfl, rfl, rfl, rfl, rfl, trivial⟩ ?_
                    exact Lp51 13 0 (by omega) (by omega)
              refine xV.to [(4, .int (nI 0)), (3, .int (nI k)), (0, .ref g), (1, .int (nI f1)), (2, .int (nI t1))] ⟨rfl, rfl, rfl, rfl, rfl, trivial⟩ ?_
              exact Lp41 13 0 (by omega) (by omega)
        have hi12 : i = 12 := by omega
        subst hi12
        refine xV.to [(3, .int (nI 0)), (0, .ref g), (1, .int (nI f1)), (2, .int (nI t1))] ⟨rfl, rfl, rfl, rfl, trivial⟩ ?_
        exact Lp32 13 0 (by omega) (by omega)
      · try simp (disch := omega) only [nI_leI, nI_ltI, nI_eq, xz_eq, xz_le, xz_gt, cI_0, cI_n0, cI_inj, lg_cmp_ge, lg_cmp_le, lg_cmp_gt, lg_cmp_lt, lg_cmp_eq, Bool.not_eq_true, Bool.not_eq_false, Nat.not_le, Nat.not_lt] at h5
        refine xv_aload_n hC dX7_reaches_8 rfl rfl ?_
        refine tg_X7_25 hC fl_X7_55 dX7_reaches_9 ?_
        refine xv_iload_n hC dX7_reaches_12 rfl rfl ?_
        refine xv_iload_n hC dX7_reaches_13 rfl rfl ?_
        refine xv_iload_n hC dX7_reaches_14 rfl rfl ?_
        refine xv_icmp_ne (tgt := 22) hC dX7_reaches_15 (by decide) (fun h15 => ?_) (fun h15 => ?_)
        · try simp (disch := omega) only [nI_leI, nI_ltI, nI_eq, xz_eq, xz_le, xz_gt, cI_0, cI_n0, cI_inj, lg_cmp_ge, lg_cmp_le, lg_cmp_gt, lg_cmp_lt, lg_cmp_eq, Bool.not_eq_true, Bool.not_eq_false, Nat.not_le, Nat.not_lt] at h15
          refine xv_iconst (v := nI 0) hC dX7_reaches_22 (by decide) ?_
          refine as_m_reached hC dX7_reaches_23 rfl (by first | assumption | omega) (by first | exact cI_c1 | exact cI_c0 | rfl) ?_
          refine xv_iinc hC dX7_reaches_24 rfl (xinc _) (by decide) ?_
          refine xv_goto (tgt := 2) hC dX7_reaches_27 (by decide) ?_
          refine xv_world (show _ = wM G g (mZ M 25 (m0R (fun i => mz M 25 i) f1 (i + 1))) w0 by rw [← m0R_s, mZ_i]; simp [h15]) ?_
          exact ih2 (i + 1) (by omega) (by omega)
        · try simp (disch := omega) only [nI_leI, nI_ltI, nI_eq, xz_eq, xz_le, xz_gt, cI_0, cI_n0, cI_inj, lg_cmp_ge, lg_cmp_le, lg_cmp_gt, lg_cmp_lt, lg_cmp_eq, Bool.not_eq_true, Bool.not_eq_false, Nat.not_le, Nat.not_lt] at h15
          refine xv_iconst (v := nI 1) hC dX7_reaches_18 (by decide) ?_
          refine xv_goto (tgt := 23) hC dX7_reaches_19 (by decide) ?_
          refine as_m_reached hC dX7_reaches_23 rfl (by first | assumption | omega) (by first | exact cI_c1 | exact cI_c0 | rfl) ?_
          refine xv_iinc hC dX7_reaches_24 rfl (xinc _) (by decide) ?_
          refine xv_goto (tgt := 2) hC dX7_reaches_27 (by decide) ?_
          refine xv_world (show _ = wM G g (mZ M 25 (m0R (fun i => mz M 25 i) f1 (i + 1))) w0 by rw [← m0R_s, mZ_i]; simp [h15]) ?_
          exact ih2 (i + 1) (by omega) (by omega)
  refine xv_world (show _ = wM G g (mZ M 25 (m0R (fun i => mz M 25 i) f1 0)) w0 by rw [m0R_0, mZ_id']) ?_
  exact Lp2 13 0 (by omega) (by omega)
