set_option maxHeartbeats 1000000 in
set_option maxRecDepth 100000 in
theorem ev_refusalOfChange (l : Launch) (G : xD) (h sz : Nat) (E : cE) (S : cS) (O : cO) (on : Nat → Nat) (sec : Nat) (po : Nat → Option Nat) (re cf : Nat → Int32) (so : Nat → Nat) (seen rf : Int32) (Rd : cR) (w0 : xw) (x y : Int32) : xM l G yX6_refusalOfChange cX6_refusalOfChange 3 (some .int) 1 0 0 [.ref h, .int x, .int y] sz (wC G h (E) (S) (O) (oN (on)) (sec, lP po, re, cf, oN so, seen, rf) Rd w0) (some (.int (rocV S x y))) (sz) (wC G h (E) (S) (O) (oN (on)) (sec, lP po, re, cf, oN so, seen, rf) Rd w0) := by
  refine xM_of (by decide) (Nat.le_of_ble_eq_true rfl) ?_
  intro A p e s m args below meth c hC hr hname
  have hC : xC p s m args meth c cX6_refusalOfChange 3 RX6 G A := hC
  have hr : meth.sig.returnType = (some .int) := hr
  show xV p l e _ s m args below meth c G A 3 _ sz _ 0 0 0 [(0, .ref h), (1, .int x), (2, .int y)] []
  refine xv_iload_n hC dX6_refusalOfChange_0 rfl rfl ?_
  refine xv_callS hC Y_yX6_isPart sm_yX6_isPart ml_X6_65 dX6_refusalOfChange_1 (ev_isPart l G sz _ x) rfl rfl (Nat.le_of_ble_eq_true rfl) ⟨Nat.le_of_ble_eq_true rfl, Nat.le_of_ble_eq_true rfl⟩ ⟨Nat.le_of_ble_eq_true rfl, Nat.le_of_ble_eq_true rfl⟩ ?_
  refine xv_rs ?_
  refine xv_if_ne (tgt := 9) hC dX6_refusalOfChange_4 (by decide) (fun h4 => ?_) (fun h4 => ?_)
  · try simp (disch := omega) only [nI_leI, nI_ltI, nI_eq, xz_eq, xz_le, xz_gt, cI_0, cI_n0, cI_inj, lg_cmp_ge, lg_cmp_le, lg_cmp_gt, lg_cmp_lt, lg_cmp_eq, Bool.not_eq_true, Bool.not_eq_false, Nat.not_le, Nat.not_lt] at h4
    refine xv_iload_n hC dX6_refusalOfChange_9 rfl rfl ?_
    refine xv_callS hC Y_yX6_isPlace sm_yX6_isPlace ml_X6_69 dX6_refusalOfChange_10 (ev_isPlace l G sz _ y) rfl rfl (Nat.le_of_ble_eq_true rfl) ⟨Nat.le_of_ble_eq_true rfl, Nat.le_of_ble_eq_true rfl⟩ ⟨Nat.le_of_ble_eq_true rfl, Nat.le_of_ble_eq_true rfl⟩ ?_
    refine xv_rs ?_
    refine xv_if_ne (tgt := 19) hC dX6_refusalOfChange_13 (by decide) (fun h13 => ?_) (fun h13 => ?_)
    · try simp (disch := omega) only [nI_leI, nI_ltI, nI_eq, xz_eq, xz_le, xz_gt, cI_0, cI_n0, cI_inj, lg_cmp_ge, lg_cmp_le, lg_cmp_gt, lg_cmp_lt, lg_cmp_eq, Bool.not_eq_true, Bool.not_eq_false, Nat.not_le, Nat.not_lt] at h13
      refine xv_aload_n hC dX6_refusalOfChange_19 rfl rfl ?_
      refine tg_X6_0 hC fl_X6_10 dX6_refusalOfChange_20 ?_
      refine tg_X4_5 hC fl_X6_100 dX6_refusalOfChange_23 ?_
      refine xv_if_eq (tgt := 34) hC dX6_refusalOfChange_26 (by decide) (fun h26 => ?_) (fun h26 => ?_)
      · try simp (disch := omega) only [nI_leI, nI_ltI, nI_eq, xz_eq, xz_le, xz_gt, cI_0, cI_n0, cI_inj, lg_cmp_ge, lg_cmp_le, lg_cmp_gt, lg_cmp_lt, lg_cmp_eq, Bool.not_eq_true, Bool.not_eq_false, Nat.not_le, Nat.not_lt] at h26
        refine xv_iconst (v := nI 0) hC dX6_refusalOfChange_34 (by decide) ?_
        exact xv_ireturn hC hr dX6_refusalOfChange_35 (rI (by simp [rocV, *])) rfl rfl
      · try simp (disch := omega) only [nI_leI, nI_ltI, nI_eq, xz_eq, xz_le, xz_gt, cI_0, cI_n0, cI_inj, lg_cmp_ge, lg_cmp_le, lg_cmp_gt, lg_cmp_lt, lg_cmp_eq, Bool.not_eq_true, Bool.not_eq_false, Nat.not_le, Nat.not_lt] at h26
        refine xv_bipush (v := -3) hC dX6_refusalOfChange_29 (by decide) ?_
        refine xv_goto (tgt := 35) hC dX6_refusalOfChange_31 (by decide) ?_
        exact xv_ireturn hC hr dX6_refusalOfChange_35 (rI (by simp [rocV, *])) rfl rfl
    · try simp (disch := omega) only [nI_leI, nI_ltI, nI_eq, xz_eq, xz_le, xz_gt, cI_0, cI_n0, cI_inj, lg_cmp_ge, lg_cmp_le, lg_cmp_gt, lg_cmp_lt, lg_cmp_eq, Bool.not_eq_true, Bool.not_eq_false, Nat.not_le, Nat.not_lt] at h13
      refine xv_bipush (v := -2) hC dX6_refusalOfChange_16 (by decide) ?_
      exact xv_ireturn hC hr dX6_refusalOfChange_18 (rI (by simp [rocV, *])) rfl rfl
  · try simp (disch := omega) only [nI_leI, nI_ltI, nI_eq, xz_eq, xz_le, xz_gt, cI_0, cI_n0, cI_inj, lg_cmp_ge, lg_cmp_le, lg_cmp_gt, lg_cmp_lt, lg_cmp_eq, Bool.not_eq_true, Bool.not_eq_false, Nat.not_le, Nat.not_lt] at h4
    refine xv_iconst (v := -1) hC dX6_refusalOfChange_7 (by decide) ?_
    exact xv_ireturn hC hr dX6_refusalOfChange_8 (rI (by simp [rocV, *])) rfl rfl
set_option maxHeartbeats 1000000 in
set_option maxRecDepth 100000 in
theorem ev_put (l : Launch) (G : xD) (h sz : Nat) (E : cE) (S : cS) (O : cO) (on : Nat → Nat) (sec : Nat) (po : Nat → Option Nat) (re cf : Nat → Int32) (so : Nat → Nat) (seen rf : Int32) (Rd : cR) (w0 : xw) (x y : Int32) (v : Int64) : xM l G yX6_put cX6_put 6 (some .int) 2 0 0 [.ref h, .int x, .int y, .long v] sz (wC G h (E) (S) (O) (oN (on)) (sec, lP po, re, cf, oN so, seen, rf) Rd w0) (some (.int (fpV E S x y v))) (sz) (wC G h (fpE E S x y v) (fpS E S x y v) (O) (oN (on)) (sec, lP po, re, cf, oN so, seen, rf) Rd w0) := by
  refine xM_of (by decide) (Nat.le_of_ble_eq_true rfl) ?_
  intro A p e s m args below meth c hC hr hname
  have hC : xC p s m args meth c cX6_put 6 RX6 G A := hC
  have hr : meth.sig.returnType = (some .int) := hr
  show xV p l e _ s m args below meth c G A 6 _ sz _ 0 0 0 [(0, .ref h), (1, .int x), (2, .int y), (3, .long v)] []
  refine xv_aload_n hC dX6_put_0 rfl rfl ?_
  refine xv_iload_n hC dX6_put_1 rfl rfl ?_
  refine xv_iload_n hC dX6_put_2 rfl rfl ?_
  refine xv_callV hC Y_yX6_refusalOfChange im_yX6_refusalOfChange se_yX6_refusalOfChange ml_X6_43 dX6_put_3 (ev_refusalOfChange l G h sz E S O on sec po re cf so seen rf Rd w0 x y) (wl_FF _ _ _ _ _ _ _ _ _) rfl rfl rfl (Nat.le_of_ble_eq_true rfl) ⟨Nat.le_of_ble_eq_true rfl, Nat.le_of_ble_eq_true rfl⟩ ⟨Nat.le_of_ble_eq_true rfl, Nat.le_of_ble_eq_true rfl⟩ ?_
  refine xv_rs ?_
  refine xv_istore hC dX6_put_6 (by decide) ?_
  refine xv_iload hC dX6_put_8 rfl ?_
  refine xv_if_eq (tgt := 16) hC dX6_put_10 (by decide) (fun h10 => ?_) (fun h10 => ?_)
  · have hz := roc_0 h10
    have hx := xIn_cl (by omega) hz.1
    have hy := xIn_cl (by omega) hz.2.1
    have hx1 := hx.1
    have hy1 := hy.1
    refine xv_aload_n hC dX6_put_16 rfl rfl ?_
    refine tg_X6_0 hC fl_X6_10 dX6_put_17 ?_
    refine xv_iload_n hC dX6_put_20 rfl rfl ?_
    refine xv_cast (congrArg Value.int hx.2) ?_
    refine xv_iload_n hC dX6_put_21 rfl rfl ?_
    refine xv_cast (congrArg Value.int hy.2) ?_
    refine xv_lload_n hC dX6_put_22 rfl rfl ?_
    refine xv_callV hC Y_yX4_setEntry im_yX4_setEntry se_yX4_setEntry ml_X6_47 dX6_put_23 (ev_setEntry l G h sz (E) (S) (O) (oN on) (sec, lP po, re, cf, oN so, seen, rf) Rd w0 (q := cl x) (i := cl y) hx1 hy1 v) (wl_Setter _ _ _ _ _ _ _ _ _) rfl rfl rfl (Nat.le_of_ble_eq_true rfl) ⟨Nat.le_of_ble_eq_true rfl, Nat.le_of_ble_eq_true rfl⟩ ⟨Nat.le_of_ble_eq_true rfl, Nat.le_of_ble_eq_true rfl⟩ ?_
    refine xv_rn ?_
    refine xv_aload_n hC dX6_put_26 rfl rfl ?_
    refine tg_X6_0 hC fl_X6_10 dX6_put_27 ?_
    refine tg_X4_0 hC fl_X6_51 dX6_put_30 ?_
    refine xv_iload_n hC dX6_put_33 rfl rfl ?_
    refine xv_cast (congrArg Value.int hx.2) ?_
    refine al_parts hC dX6_put_34 rfl (by first | assumption | omega) ?_
    refine tg_X0_2 hC (by first | assumption | omega) fl_X6_55 dX6_put_35 ?_
    exact xv_ireturn hC hr dX6_put_38 (rI (by rw [fpV, if_pos h10])) rfl (by rw [fpE, fpS, if_pos h10, if_pos h10])
  · refine xv_iload hC dX6_put_13 rfl ?_
    exact xv_ireturn hC hr dX6_put_15 (rI (by rw [fpV, if_neg h10])) rfl (by rw [fpE, fpS, if_neg h10, if_neg h10])
set_option maxHeartbeats 1000000 in
set_option maxRecDepth 100000 in
theorem ev_take (l : Launch) (G : xD) (h sz : Nat) (E : cE) (S : cS) (O : cO) (on : Nat → Nat) (sec : Nat) (po : Nat → Option Nat) (re cf : Nat → Int32) (so : Nat → Nat) (seen rf : Int32) (Rd : cR) (w0 : xw) (hE : eOK E) (x y : Int32) : xM l G yX6_take cX6_take 4 (some .int) 2 0 0 [.ref h, .int x, .int y] sz (wC G h (E) (S) (O) (oN (on)) (sec, lP po, re, cf, oN so, seen, rf) Rd w0) (some (.int (ftV E S x y))) (sz) (wC G h (ftE E S x y) (ftS E S x y) (O) (oN (on)) (sec, lP po, re, cf, oN so, seen, rf) Rd w0) := by
  refine xM_of (by decide) (Nat.le_of_ble_eq_true rfl) ?_
  intro A p e s m args below meth c hC hr hname
  have hC : xC p s m args meth c cX6_take 4 RX6 G A := hC
  have hr : meth.sig.returnType = (some .int) := hr
  show xV p l e _ s m args below meth c G A 4 _ sz _ 0 0 0 [(0, .ref h), (1, .int x), (2, .int y)] []
  refine xv_aload_n hC dX6_take_0 rfl rfl ?_
  refine xv_iload_n hC dX6_take_1 rfl rfl ?_
  refine xv_iload_n hC dX6_take_2 rfl rfl ?_
  refine xv_callV hC Y_yX6_refusalOfChange im_yX6_refusalOfChange se_yX6_refusalOfChange ml_X6_43 dX6_take_3 (ev_refusalOfChange l G h sz E S O on sec po re cf so seen rf Rd w0 x y) (wl_FF _ _ _ _ _ _ _ _ _) rfl rfl rfl (Nat.le_of_ble_eq_true rfl) ⟨Nat.le_of_ble_eq_true rfl, Nat.le_of_ble_eq_true rfl⟩ ⟨Nat.le_of_ble_eq_true rfl, Nat.le_of_ble_eq_true rfl⟩ ?_
  refine xv_rs ?_
  refine xv_istore_n hC dX6_take_6 rfl (by decide) ?_
  refine xv_iload_n hC dX6_take_7 rfl rfl ?_
  refine xv_if_eq (tgt := 13) hC dX6_take_8 (by decide) (fun h8 => ?_) (fun h8 => ?_)
  · have hz := roc_0 h8
    have hx := xIn_cl (by omega) hz.1
    have hy := xIn_cl (by omega) hz.2.1
    have hx1 := hx.1
    have hy1 := hy.1
    refine xv_aload_n hC dX6_take_13 rfl rfl ?_
    refine tg_X6_0 hC fl_X6_10 dX6_take_14 ?_
    refine xv_iload_n hC dX6_take_17 rfl rfl ?_
    refine xv_cast (congrArg Value.int hx.2) ?_
    refine xv_iload_n hC dX6_take_18 rfl rfl ?_
    refine xv_cast (congrArg Value.int hy.2) ?_
    refine xv_callV hC Y_yX4_dropEntry im_yX4_dropEntry se_yX4_dropEntry ml_X6_61 dX6_take_19 (ev_dropEntry l G h sz (E) (S) (O) (oN on) (sec, lP po, re, cf, oN so, seen, rf) Rd w0 (q := cl x) (i := cl y) hx1 hy1 (fun ht => hE.pos (by omega) hy1 ht)) (wl_Setter _ _ _ _ _ _ _ _ _) rfl rfl rfl (Nat.le_of_ble_eq_true rfl) ⟨Nat.le_of_ble_eq_true rfl, Nat.le_of_ble_eq_true rfl⟩ ⟨Nat.le_of_ble_eq_true rfl, Nat.le_of_ble_eq_true rfl⟩ ?_
    refine xv_rs ?_
    refine xv_if_eq (tgt := 29) hC dX6_take_22 (by decide) (fun h22 => ?_) (fun h22 => ?_)
    · try simp (disch := omega) only [nI_leI, nI_ltI, nI_eq, xz_eq, xz_le, xz_gt, cI_0, cI_n0, cI_inj, lg_cmp_ge, lg_cmp_le, lg_cmp_gt, lg_cmp_lt, lg_cmp_eq, Bool.not_eq_true, Bool.not_eq_false, Nat.not_le, Nat.not_lt] at h22
      refine xv_iconst (v := nI 0) hC dX6_take_29 (by decide) ?_
      exact xv_ireturn hC hr dX6_take_30 (rI (by rw [ftV, if_pos h8, h22]; rfl)) rfl (by rw [ftE, ftS, if_pos h8, if_pos h8])
    · try simp (disch := omega) only [nI_leI, nI_ltI, nI_eq, xz_eq, xz_le, xz_gt, cI_0, cI_n0, cI_inj, lg_cmp_ge, lg_cmp_le, lg_cmp_gt, lg_cmp_lt, lg_cmp_eq, Bool.not_eq_true, Bool.not_eq_false, Nat.not_le, Nat.not_lt] at h22
      refine xv_iconst (v := nI 1) hC dX6_take_25 (by decide) ?_
      refine xv_goto (tgt := 30) hC dX6_take_26 (by decide) ?_
      exact xv_ireturn hC hr dX6_take_30 (rI (by rw [ftV, if_pos h8, h22]; rfl)) rfl (by rw [ftE, ftS, if_pos h8, if_pos h8])
  · refine xv_iload_n hC dX6_take_11 rfl rfl ?_
    exact xv_ireturn hC hr dX6_take_12 (rI (by rw [ftV, if_neg h8])) rfl (by rw [ftE, ftS, if_neg h8, if_neg h8])
set_option maxHeartbeats 1000000 in
set_option maxRecDepth 100000 in
theorem ev_needs_true (l : Launch) (G : xD) (h sz : Nat) (E : cE) (S : cS) (O : cO) (on : Nat → Nat) (sec : Nat) (po : Nat → Option Nat) (re cf : Nat → Int32) (so : Nat → Nat) (seen rf : Int32) (Rd : cR) (w0 : xw) (x y : Int32) : xM l G yX6_needs cX6_needs 4 (some .int) 2 0 0 [.ref h, .int x, .int y, .int (cI true)] sz (wC G h (E) (S) (O) (oN (on)) (sec, lP po, re, cf, oN so, seen, rf) Rd w0) (some (.int (fnV S x y true))) (sz) (wC G h (E) (fnS S x y true) (O) (oN (on)) (sec, lP po, re, cf, oN so, seen, rf) Rd w0) := by
  refine xM_of (by decide) (Nat.le_of_ble_eq_true rfl) ?_
  intro A p e s m args below meth c hC hr hname
  have hC : xC p s m args meth c cX6_needs 4 RX6 G A := hC
  have hr : meth.sig.returnType = (some .int) := hr
  show xV p l e _ s m args below meth c G A 4 _ sz _ 0 0 0 [(0, .ref h), (1, .int x), (2, .int y), (3, .int (cI true))] []
  refine xv_iload_n hC dX6_needs_0 rfl rfl ?_
  refine xv_callS hC Y_yX6_isPart sm_yX6_isPart ml_X6_65 dX6_needs_1 (ev_isPart l G sz _ x) rfl rfl (Nat.le_of_ble_eq_true rfl) ⟨Nat.le_of_ble_eq_true rfl, Nat.le_of_ble_eq_true rfl⟩ ⟨Nat.le_of_ble_eq_true rfl, Nat.le_of_ble_eq_true rfl⟩ ?_
  refine xv_rs ?_
  refine xv_if_eq (tgt := 14) hC dX6_needs_4 (by decide) (fun h4 => ?_) (fun h4 => ?_)
  · try simp (disch := omega) only [nI_leI, nI_ltI, nI_eq, xz_eq, xz_le, xz_gt, cI_0, cI_n0, cI_inj, lg_cmp_ge, lg_cmp_le, lg_cmp_gt, lg_cmp_lt, lg_cmp_eq, Bool.not_eq_true, Bool.not_eq_false, Nat.not_le, Nat.not_lt] at h4
    refine xv_iconst (v := -1) hC dX6_needs_14 (by decide) ?_
    exact xv_ireturn hC hr dX6_needs_15 (rI (fn_1 (by first | exact Or.inr h11 | exact Or.inl h4)).1) rfl (by rw [(fn_1 (by first | exact Or.inr h11 | exact Or.inl h4)).2])
  · rw [cI_n0] at h4
    have hx := xIn_cl (by omega) h4
    have hx1 := hx.1
    refine xv_iload_n hC dX6_needs_7 rfl rfl ?_
    refine xv_callS hC Y_yX6_isPart sm_yX6_isPart ml_X6_65 dX6_needs_8 (ev_isPart l G sz _ y) rfl rfl (Nat.le_of_ble_eq_true rfl) ⟨Nat.le_of_ble_eq_true rfl, Nat.le_of_ble_eq_true rfl⟩ ⟨Nat.le_of_ble_eq_true rfl, Nat.le_of_ble_eq_true rfl⟩ ?_
    refine xv_rs ?_
    refine xv_if_ne (tgt := 16) hC dX6_needs_11 (by decide) (fun h11 => ?_) (fun h11 => ?_)
    · rw [cI_n0] at h11
      have hy := xIn_cl (by omega) h11
      have hy1 := hy.1
      refine xv_iload_n hC dX6_needs_16 rfl rfl ?_
      refine xv_if_eq (tgt := 35) hC dX6_needs_17 (by decide) (fun h17 => ?_) (fun h17 => ?_)
      · exact absurd h17 (by decide)
      · refine xv_aload_n hC dX6_needs_20 rfl rfl ?_
        refine tg_X6_0 hC fl_X6_10 dX6_needs_21 ?_
        refine xv_iload_n hC dX6_needs_24 rfl rfl ?_
        refine xv_cast (congrArg Value.int hy.2) ?_
        refine xv_iload_n hC dX6_needs_25 rfl rfl ?_
        refine xv_cast (congrArg Value.int hx.2) ?_
        refine xv_callV hC Y_yX4_leadsTo im_yX4_leadsTo se_yX4_leadsTo ml_X6_87 dX6_needs_26 (ev_leadsTo l G h sz (E) (S) (O) (oN on) (sec, lP po, re, cf, oN so, seen, rf) Rd w0 (q := cl y) (r := cl x) hy1 hx1) (wl_Setter _ _ _ _ _ _ _ _ _) rfl rfl rfl (Nat.le_of_ble_eq_true rfl) ⟨Nat.le_of_ble_eq_true rfl, Nat.le_of_ble_eq_true rfl⟩ ⟨Nat.le_of_ble_eq_true rfl, Nat.le_of_ble_eq_true rfl⟩ ?_
        refine xv_rs ?_
        refine xv_if_eq (tgt := 35) hC dX6_needs_29 (by decide) (fun h29 => ?_) (fun h29 => ?_)
        · try simp (disch := omega) only [nI_leI, nI_ltI, nI_eq, xz_eq, xz_le, xz_gt, cI_0, cI_n0, cI_inj, lg_cmp_ge, lg_cmp_le, lg_cmp_gt, lg_cmp_lt, lg_cmp_eq, Bool.not_eq_true, Bool.not_eq_false, Nat.not_le, Nat.not_lt] at h29
          refine xv_aload_n hC dX6_needs_35 rfl rfl ?_
          refine tg_X6_0 hC fl_X6_10 dX6_needs_36 ?_
          refine xv_iload_n hC dX6_needs_39 rfl rfl ?_
          refine xv_cast (congrArg Value.int hx.2) ?_
          refine xv_iload_n hC dX6_needs_40 rfl rfl ?_
          refine xv_cast (congrArg Value.int hy.2) ?_
          refine xv_iload_n hC dX6_needs_41 rfl rfl ?_
          refine xv_callV hC Y_yX4_setNeed im_yX4_setNeed se_yX4_setNeed ml_X6_90 dX6_needs_42 (ev_setNeed l G h sz (E) (S) (O) (oN on) (sec, lP po, re, cf, oN so, seen, rf) Rd w0 (q := cl x) (r := cl y) hx1 hy1 true) (wl_Setter _ _ _ _ _ _ _ _ _) rfl rfl rfl (Nat.le_of_ble_eq_true rfl) ⟨Nat.le_of_ble_eq_true rfl, Nat.le_of_ble_eq_true rfl⟩ ⟨Nat.le_of_ble_eq_true rfl, Nat.le_of_ble_eq_true rfl⟩ ?_
          refine xv_rs ?_
          refine xv_if_eq (tgt := 52) hC dX6_needs_45 (by decide) (fun h45 => ?_) (fun h45 => ?_)
          · try simp (disch := omega) only [nI_leI, nI_ltI, nI_eq, xz_eq, xz_le, xz_gt, cI_0, cI_n0, cI_inj, lg_cmp_ge, lg_cmp_le, lg_cmp_gt, lg_cmp_lt, lg_cmp_eq, Bool.not_eq_true, Bool.not_eq_false, Nat.not_le, Nat.not_lt] at h45
            refine xv_iconst (v := nI 0) hC dX6_needs_52 (by decide) ?_
            exact xv_ireturn hC hr dX6_needs_53 (rI ((fn_3 h4 h11 (by simp [fnB, h29])).1.trans (by rw [h45]; rfl))) rfl (by rw [(fn_3 h4 h11 (by simp [fnB, h29])).2])
          · try simp (disch := omega) only [nI_leI, nI_ltI, nI_eq, xz_eq, xz_le, xz_gt, cI_0, cI_n0, cI_inj, lg_cmp_ge, lg_cmp_le, lg_cmp_gt, lg_cmp_lt, lg_cmp_eq, Bool.not_eq_true, Bool.not_eq_false, Nat.not_le, Nat.not_lt] at h45
            refine xv_iconst (v := nI 1) hC dX6_needs_48 (by decide) ?_
            refine xv_goto (tgt := 53) hC dX6_needs_49 (by decide) ?_
            exact xv_ireturn hC hr dX6_needs_53 (rI ((fn_3 h4 h11 (by simp [fnB, h29])).1.trans (by rw [h45]; rfl))) rfl (by rw [(fn_3 h4 h11 (by simp [fnB, h29])).2])
        · try simp (disch := omega) only [nI_leI, nI_ltI, nI_eq, xz_eq, xz_le, xz_gt, cI_0, cI_n0, cI_inj, lg_cmp_ge, lg_cmp_le, lg_cmp_gt, lg_cmp_lt, lg_cmp_eq, Bool.not_eq_true, Bool.not_eq_false, Nat.not_le, Nat.not_lt] at h29
          refine xv_bipush (v := -3) hC dX6_needs_32 (by decide) ?_
          exact xv_ireturn hC hr dX6_needs_34 (rI (fn_2 h4 h11 (by simp [fnB, h29])).1) rfl (by rw [(fn_2 h4 h11 (by simp [fnB, h29])).2])
    · try simp (disch := omega) only [nI_leI, nI_ltI, nI_eq, xz_eq, xz_le, xz_gt, cI_0, cI_n0, cI_inj, lg_cmp_ge, lg_cmp_le, lg_cmp_gt, lg_cmp_lt, lg_cmp_eq, Bool.not_eq_true, Bool.not_eq_false, Nat.not_le, Nat.not_lt] at h11
      refine xv_iconst (v := -1) hC dX6_needs_14 (by decide) ?_
      exact xv_ireturn hC hr dX6_needs_15 (rI (fn_1 (by first | exact Or.inr h11 | exact Or.inl h4)).1) rfl (by rw [(fn_1 (by first | exact Or.inr h11 | exact Or.inl h4)).2])
set_option maxHeartbeats 1000000 in
set_option maxRecDepth 100000 in
theorem ev_needs_false (l : Launch) (G : xD) (h sz : Nat) (E : cE) (S : cS) (O : cO) (on : Nat → Nat) (sec : Nat) (po : Nat → Option Nat) (re cf : Nat → Int32) (so : Nat → Nat) (seen rf : Int32) (Rd : cR) (w0 : xw) (x y : Int32) : xM l G yX6_needs cX6_needs 4 (some .int) 2 0 0 [.ref h, .int x, .int y, .int (cI false)] sz (wC G h (E) (S) (O) (oN (on)) (sec, lP po, re, cf, oN so, seen, rf) Rd w0) (some (.int (fnV S x y false))) (sz) (wC G h (E) (fnS S x y false) (O) (oN (on)) (sec, lP po, re, cf, oN so, seen, rf) Rd w0) := by
  refine xM_of (by decide) (Nat.le_of_ble_eq_true rfl) ?_
  intro A p e s m args below meth c hC hr hname
  have hC : xC p s m args meth c cX6_needs 4 RX6 G A := hC
  have hr : meth.sig.returnType = (some .int) := hr
  show xV p l e _ s m args below meth c G A 4 _ sz _ 0 0 0 [(0, .ref h), (1, .int x), (2, .int y), (3, .int (cI false))] []
  refine xv_iload_n hC dX6_needs_0 rfl rfl ?_
  refine xv_callS hC Y_yX6_isPart sm_yX6_isPart ml_X6_65 dX6_needs_1 (ev_isPart l G sz _ x) rfl rfl (Nat.le_of_ble_eq_true rfl) ⟨Nat.le_of_ble_eq_true rfl, Nat.le_of_ble_eq_true rfl⟩ ⟨Nat.le_of_ble_eq_true rfl, Nat.le_of_ble_eq_true rfl⟩ ?_
  refine xv_rs ?_
  refine xv_if_eq (tgt := 14) hC dX6_needs_4 (by decide) (fun h4 => ?_) (fun h4 => ?_)
  · try simp (disch := omega) only [nI_leI, nI_ltI, nI_eq, xz_eq, xz_le, xz_gt, cI_0, cI_n0, cI_inj, lg_cmp_ge, lg_cmp_le, lg_cmp_gt, lg_cmp_lt, lg_cmp_eq, Bool.not_eq_true, Bool.not_eq_false, Nat.not_le, Nat.not_lt] at h4
    refine xv_iconst (v := -1) hC dX6_needs_14 (by decide) ?_
    exact xv_ireturn hC hr dX6_needs_15 (rI (fn_1 (by first | exact Or.inr h11 | exact Or.inl h4)).1) rfl (by rw [(fn_1 (by first | exact Or.inr h11 | exact Or.inl h4)).2])
  · rw [cI_n0] at h4
    have hx := xIn_cl (by omega) h4
    have hx1 := hx.1
    refine xv_iload_n hC dX6_needs_7 rfl rfl ?_
    refine xv_callS hC Y_yX6_isPart sm_yX6_isPart ml_X6_65 dX6_needs_8 (ev_isPart l G sz _ y) rfl rfl (Nat.le_of_ble_eq_true rfl) ⟨Nat.le_of_ble_eq_true rfl, Nat.le_of_ble_eq_true rfl⟩ ⟨Nat.le_of_ble_eq_true rfl, Nat.le_of_ble_eq_true rfl⟩ ?_
    refine xv_rs ?_
    refine xv_if_ne (tgt := 16) hC dX6_needs_11 (by decide) (fun h11 => ?_) (fun h11 => ?_)
    · rw [cI_n0] at h11
      have hy := xIn_cl (by omega) h11
      have hy1 := hy.1
      refine xv_iload_n hC dX6_needs_16 rfl rfl ?_
      refine xv_if_eq (tgt := 35) hC dX6_needs_17 (by decide) (fun h17 => ?_) (fun h17 => ?_)
      · refine xv_aload_n hC dX6_needs_35 rfl rfl ?_
        refine tg_X6_0 hC fl_X6_10 dX6_needs_36 ?_
        refine xv_iload_n hC dX6_needs_39 rfl rfl ?_
        refine xv_cast (congrArg Value.int hx.2) ?_
        refine xv_iload_n hC dX6_needs_40 rfl rfl ?_
        refine xv_cast (congrArg Value.int hy.2) ?_
        refine xv_iload_n hC dX6_needs_41 rfl rfl ?_
        refine xv_callV hC Y_yX4_setNeed im_yX4_setNeed se_yX4_setNeed ml_X6_90 dX6_needs_42 (ev_setNeed l G h sz (E) (S) (O) (oN on) (sec, lP po, re, cf, oN so, seen, rf) Rd w0 (q := cl x) (r := cl y) hx1 hy1 false) (wl_Setter _ _ _ _ _ _ _ _ _) rfl rfl rfl (Nat.le_of_ble_eq_true rfl) ⟨Nat.le_of_ble_eq_true rfl, Nat.le_of_ble_eq_true rfl⟩ ⟨Nat.le_of_ble_eq_true rfl, Nat.le_of_ble_eq_true rfl⟩ ?_
        refine xv_rs ?_
        refine xv_if_eq (tgt := 52) hC dX6_needs_45 (by decide) (fun h45 => ?_) (fun h45 => ?_)
        · try simp (disch := omega) only [nI_leI, nI_ltI, nI_eq, xz_eq, xz_le, xz_gt, cI_0, cI_n0, cI_inj, lg_cmp_ge, lg_cmp_le, lg_cmp_gt, lg_cmp_lt, lg_cmp_eq, Bool.not_eq_true, Bool.not_eq_false, Nat.not_le, Nat.not_lt] at h45
          refine xv_iconst (v := nI 0) hC dX6_needs_52 (by decide) ?_
          exact xv_ireturn hC hr dX6_needs_53 (rI ((fn_3 h4 h11 rfl).1.trans (by rw [h45]; rfl))) rfl (by rw [(fn_3 h4 h11 rfl).2])
        · try simp (disch := omega) only [nI_leI, nI_ltI, nI_eq, xz_eq, xz_le, xz_gt, cI_0, cI_n0, cI_inj, lg_cmp_ge, lg_cmp_le, lg_cmp_gt, lg_cmp_lt, lg_cmp_eq, Bool.not_eq_true, Bool.not_eq_false, Nat.not_le, Nat.not_lt] at h45
          refine xv_iconst (v := nI 1) hC dX6_needs_48 (by decide) ?_
          refine xv_goto (tgt := 53) hC dX6_needs_49 (by decide) ?_
          exact xv_ireturn hC hr dX6_needs_53 (rI ((fn_3 h4 h11 rfl).1.trans (by rw [h45]; rfl))) rfl (by rw [(fn_3 h4 h11 rfl).2])
      · exact absurd h17 (by decide)
    · try simp (disch := omega) only [nI_leI, nI_ltI, nI_eq, xz_eq, xz_le, xz_gt, cI_0, cI_n0, cI_inj, lg_cmp_ge, lg_cmp_le, lg_cmp_gt, lg_cmp_lt, lg_cmp_eq, Bool.not_eq_true, Bool.not_eq_false, Nat.not_le, Nat.not_lt] at h11
      refine xv_iconst (v := -1) hC dX6_needs_14 (by decide) ?_
      exact xv_ireturn hC hr dX6_needs_15 (rI (fn_1 (by first | exact Or.inr h11 | exact Or.inl h4)).1) rfl (by rw [(fn_1 (by first | exact Or.inr h11 | exact Or.inl h4)).2])
theorem ev_needs (l : Launch) (G : xD) (h sz : Nat) (E : cE) (S : cS) (O : cO) (on : Nat → Nat) (sec : Nat) (po : Nat → Option Nat) (re cf : Nat → Int32) (so : Nat → Nat) (seen rf : Int32) (Rd : cR) (w0 : xw) (x y : Int32) (d : Bool) : xM l G yX6_needs cX6_needs 4 (some .int) 2 0 0 [.ref h, .int x, .int y, .int (cI d)] sz (wC G h (E) (S) (O) (oN (on)) (sec, lP po, re, cf, oN so, seen, rf) Rd w0) (some (.int (fnV S x y d))) sz (wC G h (E) (fnS S x y d) (O) (oN (on)) (sec, lP po, re, cf, oN so, seen, rf) Rd w0) := by
  cases d
  · exact ev_needs_false l G h sz E S O on sec po re cf so seen rf Rd w0 x y
  · exact ev_needs_true l G h sz E S O on sec po re cf so seen rf Rd w0 x y
set_option maxHeartbeats 1000000 in
set_option maxRecDepth 100000 in
theorem ev_version (l : Launch) (G : xD) (h sz : Nat) (E : cE) (S : cS) (O : cO) (on : Nat → Nat) (sec : Nat) (po : Nat → Option Nat) (re cf : Nat → Int32) (so : Nat → Nat) (seen rf : Int32) (Rd : cR) (w0 : xw) (x : Int32) : xM l G yX6_version cX6_version 3 (some .int) 0 0 0 [.ref h, .int x] sz (wC G h (E) (S) (O) (oN (on)) (sec, lP po, re, cf, oN so, seen, rf) Rd w0) (some (.int (if fvB x = true then S.2.2.1 else -2))) (sz) (wC G h (E) (if fvB x = true then (S.1, S.2.1, x, S.2.2.2) else S) (O) (oN (on)) (sec, lP po, re, cf, oN so, seen, rf) Rd w0) := by
  refine xM_of (by decide) (Nat.le_of_ble_eq_true rfl) ?_
  intro A p e s m args below meth c hC hr hname
  have hC : xC p s m args meth c cX6_version 3 RX6 G A := hC
  have hr : meth.sig.returnType = (some .int) := hr
  show xV p l e _ s m args below meth c G A 3 _ sz _ 0 0 0 [(0, .ref h), (1, .int x)] []
  refine xv_iload_n hC dX6_version_0 rfl rfl ?_
  refine xv_iconst (v := nI 1) hC dX6_version_1 (by decide) ?_
  refine xv_icmp_lt (tgt := 12) hC dX6_version_2 (by decide) (fun h2 => ?_) (fun h2 => ?_)
  · have h2 := Int32.not_le.mpr h2
    refine xv_bipush (v := -2) hC dX6_version_12 (by decide) ?_
    exact xv_ireturn hC hr dX6_version_14 (rI (by simp [fvB, *])) rfl (by simp [fvB, *])
  · have h2 := Int32.not_lt.mp h2
    refine xv_iload_n hC dX6_version_5 rfl rfl ?_
    refine xv_sipush (v := nI 200) hC dX6_version_6 (by decide) ?_
    refine xv_icmp_le (tgt := 15) hC dX6_version_9 (by decide) (fun h9 => ?_) (fun h9 => ?_)
    · refine xv_aload_n hC dX6_version_15 rfl rfl ?_
      refine tg_X6_0 hC fl_X6_10 dX6_version_16 ?_
      refine tg_X4_3 hC fl_X6_94 dX6_version_19 ?_
      refine xv_istore_n hC dX6_version_22 rfl (by decide) ?_
      refine xv_aload_n hC dX6_version_23 rfl rfl ?_
      refine tg_X6_0 hC fl_X6_10 dX6_version_24 ?_
      refine xv_iload_n hC dX6_version_27 rfl rfl ?_
      refine tp_X4_3 hC fl_X6_94 dX6_version_28 ?_
      refine xv_iload_n hC dX6_version_31 rfl rfl ?_
      exact xv_ireturn hC hr dX6_version_32 (rI (by simp [fvB, *])) rfl (by simp [fvB, *])
    · refine xv_bipush (v := -2) hC dX6_version_12 (by decide) ?_
      exact xv_ireturn hC hr dX6_version_14 (rI (by simp [fvB, *])) rfl (by simp [fvB, *])
set_option maxHeartbeats 1000000 in
set_option maxRecDepth 100000 in
theorem ev_mode (l : Launch) (G : xD) (h sz : Nat) (E : cE) (S : cS) (O : cO) (on : Nat → Nat) (sec : Nat) (po : Nat → Option Nat) (re cf : Nat → Int32) (so : Nat → Nat) (seen rf : Int32) (Rd : cR) (w0 : xw) (x : Int32) : xM l G yX6_mode cX6_mode 3 (some .int) 0 0 0 [.ref h, .int x] sz (wC G h (E) (S) (O) (oN (on)) (sec, lP po, re, cf, oN so, seen, rf) Rd w0) (some (.int (if fmB x = true then S.2.2.2.1 else -2))) (sz) (wC G h (E) (if fmB x = true then (S.1, S.2.1, S.2.2.1, x, S.2.2.2.2) else S) (O) (oN (on)) (sec, lP po, re, cf, oN so, seen, rf) Rd w0) := by
  refine xM_of (by decide) (Nat.le_of_ble_eq_true rfl) ?_
  intro A p e s m args below meth c hC hr hname
  have hC : xC p s m args meth c cX6_mode 3 RX6 G A := hC
  have hr : meth.sig.returnType = (some .int) := hr
  show xV p l e _ s m args below meth c G A 3 _ sz _ 0 0 0 [(0, .ref h), (1, .int x)] []
  refine xv_iload_n hC dX6_mode_0 rfl rfl ?_
  refine xv_if_lt (tgt := 9) hC dX6_mode_1 (by decide) (fun h1 => ?_) (fun h1 => ?_)
  · have h1 := Int32.not_le.mpr h1
    refine xv_bipush (v := -2) hC dX6_mode_9 (by decide) ?_
    exact xv_ireturn hC hr dX6_mode_11 (rI (by simp [fmB, *])) rfl (by simp [fmB, *])
  · have h1 := Int32.not_lt.mp h1
    refine xv_iload_n hC dX6_mode_4 rfl rfl ?_
    refine xv_iconst (v := nI 1) hC dX6_mode_5 (by decide) ?_
    refine xv_icmp_le (tgt := 12) hC dX6_mode_6 (by decide) (fun h6 => ?_) (fun h6 => ?_)
    · refine xv_aload_n hC dX6_mode_12 rfl rfl ?_
      refine tg_X6_0 hC fl_X6_10 dX6_mode_13 ?_
      refine tg_X4_4 hC fl_X6_97 dX6_mode_16 ?_
      refine xv_istore_n hC dX6_mode_19 rfl (by decide) ?_
      refine xv_aload_n hC dX6_mode_20 rfl rfl ?_
      refine tg_X6_0 hC fl_X6_10 dX6_mode_21 ?_
      refine xv_iload_n hC dX6_mode_24 rfl rfl ?_
      refine tp_X4_4 hC fl_X6_97 dX6_mode_25 ?_
      refine xv_iload_n hC dX6_mode_28 rfl rfl ?_
      exact xv_ireturn hC hr dX6_mode_29 (rI (by simp [fmB, *])) rfl (by simp [fmB, *])
    · refine xv_bipush (v := -2) hC dX6_mode_9 (by decide) ?_
      exact xv_ireturn hC hr dX6_mode_11 (rI (by simp [fmB, *])) rfl (by simp [fmB, *])
set_option maxHeartbeats 1000000 in
set_option maxRecDepth 100000 in
theorem ev_busy (l : Launch) (G : xD) (h sz : Nat) (E : cE) (S : cS) (O : cO) (on : Nat → Nat) (sec : Nat) (po : Nat → Option Nat) (re cf : Nat → Int32) (so : Nat → Nat) (seen rf : Int32) (Rd : cR) (w0 : xw) (d : Bool) : xM l G yX6_busy cX6_busy 2 (some .int) 0 0 0 [.ref h, .int (cI d)] sz (wC G h (E) (S) (O) (oN (on)) (sec, lP po, re, cf, oN so, seen, rf) Rd w0) (some (.int (cI (!decide (S.2.2.2.2.1 = d))))) (sz) (wC G h (E) ((S.1, S.2.1, S.2.2.1, S.2.2.2.1, d, S.2.2.2.2.2)) (O) (oN (on)) (sec, lP po, re, cf, oN so, seen, rf) Rd w0) := by
  refine xM_of (by decide) (Nat.le_of_ble_eq_true rfl) ?_
  intro A p e s m args below meth c hC hr hname
  have hC : xC p s m args meth c cX6_busy 2 RX6 G A := hC
  have hr : meth.sig.returnType = (some .int) := hr
  show xV p l e _ s m args below meth c G A 2 _ sz _ 0 0 0 [(0, .ref h), (1, .int (cI d))] []
  refine xv_aload_n hC dX6_busy_0 rfl rfl ?_
  refine tg_X6_0 hC fl_X6_10 dX6_busy_1 ?_
  refine tg_X4_5 hC fl_X6_100 dX6_busy_4 ?_
  refine xv_iload_n hC dX6_busy_7 rfl rfl ?_
  refine xv_icmp_ne (tgt := 13) hC dX6_busy_8 (by decide) (fun h8 => ?_) (fun h8 => ?_)
  · try simp (disch := omega) only [nI_leI, nI_ltI, nI_eq, xz_eq, xz_le, xz_gt, cI_0, cI_n0, cI_inj, lg_cmp_ge, lg_cmp_le, lg_cmp_gt, lg_cmp_lt, lg_cmp_eq, Bool.not_eq_true, Bool.not_eq_false, Nat.not_le, Nat.not_lt] at h8
    refine xv_aload_n hC dX6_busy_13 rfl rfl ?_
    refine tg_X6_0 hC fl_X6_10 dX6_busy_14 ?_
    refine xv_iload_n hC dX6_busy_17 rfl rfl ?_
    refine tp_X4_5 hC fl_X6_100 dX6_busy_18 (by first | exact cI_c1 | exact cI_c0 | rfl) ?_
    refine xv_iconst (v := nI 1) hC dX6_busy_21 (by decide) ?_
    exact xv_ireturn hC hr dX6_busy_22 (rN1 (by simp [h8])) rfl rfl
  · try simp (disch := omega) only [nI_leI, nI_ltI, nI_eq, xz_eq, xz_le, xz_gt, cI_0, cI_n0, cI_inj, lg_cmp_ge, lg_cmp_le, lg_cmp_gt, lg_cmp_lt, lg_cmp_eq, Bool.not_eq_true, Bool.not_eq_false, Nat.not_le, Nat.not_lt] at h8
    refine xv_iconst (v := nI 0) hC dX6_busy_11 (by decide) ?_
    exact xv_ireturn hC hr dX6_busy_12 (rN0 (by simp [h8])) rfl (by rw [← h8])
set_option maxHeartbeats 1000000 in
set_option maxRecDepth 100000 in
theorem ev_save_true (l : Launch) (G : xD) (h sz : Nat) (E : cE) (S : cS) (O : cO) (on : Nat → Nat) (sec : Nat) (po : Nat → Option Nat) (re cf : Nat → Int32) (so : Nat → Nat) (seen rf : Int32) (Rd : cR) (w0 : xw) (hE : eOK E) : xM l G yX6_save cX6_save 2 (some .int) 6 0 0 [.ref h, .int (cI true)] sz (wC G h (E) (S) (O) (oN (on)) (sec, lP po, re, cf, oN so, seen, rf) Rd w0) (some (.int (nsV E S O on true))) (sz) (wC G h (E) (nsSf E S O on true) (nsOf E S O on true) (oN (nsOn E S O on true)) (sec, lP po, re, cf, oN so, seen, rf) Rd w0) := by
  refine xM_of (by decide) (Nat.le_of_ble_eq_true rfl) ?_
  intro A p e s m args below meth c hC hr hname
  have hC : xC p s m args meth c cX6_save 2 RX6 G A := hC
  have hr : meth.sig.returnType = (some .int) := hr
  show xV p l e _ s m args below meth c G A 2 _ sz _ 0 0 0 [(0, .ref h), (1, .int (cI true))] []
  refine xv_iload_n hC dX6_save_0 rfl rfl ?_
  refine xv_if_ne (tgt := 17) hC dX6_save_1 (by decide) (fun h1 => ?_) (fun h1 => ?_)
  · have hG : fsG S true = true := rfl
    refine xv_aload_n hC dX6_save_17 rfl rfl ?_
    refine tg_X6_2 hC fl_X6_30 dX6_save_18 ?_
    refine xv_iload_n hC dX6_save_21 rfl rfl ?_
    refine xv_callV hC Y_yX5_lengthOf im_yX5_lengthOf se_yX5_lengthOf ml_X6_107 dX6_save_22 (ev_lengthOf l G h sz E S O on (sec, lP po, re, cf, oN so, seen, rf) Rd w0 hE true) (wl_Writer _ _ _ _ _ _ _ _ _) rfl rfl rfl (Nat.le_of_ble_eq_true rfl) ⟨Nat.le_of_ble_eq_true rfl, Nat.le_of_ble_eq_true rfl⟩ ⟨Nat.le_of_ble_eq_true rfl, Nat.le_of_ble_eq_true rfl⟩ ?_
    refine xv_rs ?_
    refine xv_world (show _ = wC G h (E) (S) (nsO1 E S O on true) (oN (nsN1 E S O on true)) (sec, lP po, re, cf, oN so, seen, rf) Rd w0 from rfl) ?_
    refine xv_sipush (v := nI 8000) hC dX6_save_25 (by decide) ?_
    refine xv_icmp_le (tgt := 34) hC dX6_save_28 (by decide) (fun h28 => ?_) (fun h28 => ?_)
    · rw [nI_leI (by have := nsL_le E S O on true; have : (wfN E S O on 2 true).1.2.1 2 ≤ 30000 := this; omega) (by omega)] at h28
      have h28 : nsL E S O on true ≤ 8000 := h28
      refine xv_aload_n hC dX6_save_34 rfl rfl ?_
      refine tg_X6_2 hC fl_X6_30 dX6_save_35 ?_
      refine xv_iload_n hC dX6_save_38 rfl rfl ?_
      refine xv_aload_n hC dX6_save_39 rfl rfl ?_
      refine tg_X6_1 hC fl_X6_21 dX6_save_40 ?_
      refine xv_callV hC Y_yX5_writeFile im_yX5_writeFile se_yX5_writeFile ml_X6_111 dX6_save_43 (ev_writeFile l G h sz E S (nsO1 E S O on true) (nsN1 E S O on true) (sec, lP po, re, cf, oN so, seen, rf) Rd w0 (b := 0) (by omega) hE true) (wl_Writer _ _ _ _ _ _ _ _ _) rfl rfl rfl (Nat.le_of_ble_eq_true rfl) ⟨Nat.le_of_ble_eq_true rfl, Nat.le_of_ble_eq_true rfl⟩ ⟨Nat.le_of_ble_eq_true rfl, Nat.le_of_ble_eq_true rfl⟩ ?_
      refine xv_rn ?_
      refine xv_world (show _ = wC G h (E) (S) (nsO2 E S O on true) (oN (nsN2 E S O on true)) (sec, lP po, re, cf, oN so, seen, rf) Rd w0 from rfl) ?_
      have hl2 : (nsO2 E S O on true).2.1 0 ≤ 8000 := by rw [nsO2_len]; exact h28
      refine xv_iload_n hC dX6_save_46 rfl rfl ?_
      refine xv_if_eq (tgt := 72) hC dX6_save_47 (by decide) (fun h47 => ?_) (fun h47 => ?_)
      · exact absurd h47 (by decide)
      · refine xv_aload_n hC dX6_save_50 rfl rfl ?_
        refine tg_X6_0 hC fl_X6_10 dX6_save_51 ?_
        refine xv_aload_n hC dX6_save_54 rfl rfl ?_
        refine tg_X6_1 hC fl_X6_21 dX6_save_55 ?_
        refine xv_iconst (v := nI 0) hC dX6_save_58 (by decide) ?_
        refine xv_aload_n hC dX6_save_59 rfl rfl ?_
        refine tg_X6_1 hC fl_X6_21 dX6_save_60 ?_
        refine tg_X2_1 hC (by first | assumption | omega) fl_X6_115 dX6_save_63 ?_
        refine xv_cast (congrArg Value.int (show _ = nI (0 + (nsO2 E S O on true).2.1 0) by rw [Nat.zero_add])) ?_
        refine xv_callV hC Y_yX2_sumOf im_yX2_sumOf se_yX2_sumOf ml_X6_118 dX6_save_66 (ev_sumOf l G h sz (E) (S) (nsO2 E S O on true) (oN (nsN2 E S O on true)) (sec, lP po, re, cf, oN so, seen, rf) Rd w0 (b := 0) (by omega) hl2 (a := 0) (n0 := (nsO2 E S O on true).2.1 0) (by omega)) (wl_oA _ _ _ _ _ _ _ _ _ (by first | assumption | omega)) rfl rfl rfl (Nat.le_of_ble_eq_true rfl) ⟨Nat.le_of_ble_eq_true rfl, Nat.le_of_ble_eq_true rfl⟩ ⟨Nat.le_of_ble_eq_true rfl, Nat.le_of_ble_eq_true rfl⟩ ?_
        refine xv_rs ?_
        refine xv_callV hC Y_yX4_startFrom im_yX4_startFrom se_yX4_startFrom ml_X6_121 dX6_save_69 (ev_startFrom l G h sz (E) (S) (nsO2 E S O on true) (oN (nsN2 E S O on true)) (sec, lP po, re, cf, oN so, seen, rf) Rd w0 (smF (oAt (nsO2 E S O on true) 0) 0 ((nsO2 E S O on true).2.1 0))) (wl_Setter _ _ _ _ _ _ _ _ _) rfl rfl rfl (Nat.le_of_ble_eq_true rfl) ⟨Nat.le_of_ble_eq_true rfl, Nat.le_of_ble_eq_true rfl⟩ ⟨Nat.le_of_ble_eq_true rfl, Nat.le_of_ble_eq_true rfl⟩ ?_
        refine xv_rn ?_
        refine xv_aload_n hC dX6_save_72 rfl rfl ?_
        refine tg_X6_1 hC fl_X6_21 dX6_save_73 ?_
        refine tg_X2_1 hC (by first | assumption | omega) fl_X6_115 dX6_save_76 ?_
        exact xv_ireturn hC hr dX6_save_79 (rI (ns_3 hG h28).1) rfl (by rw [(ns_3 hG h28).2.1, (ns_3 hG h28).2.2.1, (ns_3 hG h28).2.2.2]; try rfl)
    · rw [nI_leI (by have := nsL_le E S O on true; have : (wfN E S O on 2 true).1.2.1 2 ≤ 30000 := this; omega) (by omega)] at h28
      have h28 : ¬ nsL E S O on true ≤ 8000 := h28
      refine xv_bipush (v := -4) hC dX6_save_31 (by decide) ?_
      exact xv_ireturn hC hr dX6_save_33 (rI (ns_2 hG h28).1) rfl (by rw [(ns_2 hG h28).2.1, (ns_2 hG h28).2.2.1, (ns_2 hG h28).2.2.2]; try rfl)
  · exact absurd h1 (by decide)
set_option maxHeartbeats 1000000 in
set_option maxRecDepth 100000 in
theorem ev_save_false (l : Launch) (G : xD) (h sz : Nat) (E : cE) (S : cS) (O : cO) (on : Nat → Nat) (sec : Nat) (po : Nat → Option Nat) (re cf : Nat → Int32) (so : Nat → Nat) (seen rf : Int32) (Rd : cR) (w0 : xw) (hE : eOK E) : xM l G yX6_save cX6_save 2 (some .int) 6 0 0 [.ref h, .int (cI false)] sz (wC G h (E) (S) (O) (oN (on)) (sec, lP po, re, cf, oN so, seen, rf) Rd w0) (some (.int (nsV E S O on false))) (sz) (wC G h (E) (nsSf E S O on false) (nsOf E S O on false) (oN (nsOn E S O on false)) (sec, lP po, re, cf, oN so, seen, rf) Rd w0) := by
  refine xM_of (by decide) (Nat.le_of_ble_eq_true rfl) ?_
  intro A p e s m args below meth c hC hr hname
  have hC : xC p s m args meth c cX6_save 2 RX6 G A := hC
  have hr : meth.sig.returnType = (some .int) := hr
  show xV p l e _ s m args below meth c G A 2 _ sz _ 0 0 0 [(0, .ref h), (1, .int (cI false))] []
  refine xv_iload_n hC dX6_save_0 rfl rfl ?_
  refine xv_if_ne (tgt := 17) hC dX6_save_1 (by decide) (fun h1 => ?_) (fun h1 => ?_)
  · exact absurd h1 (by decide)
  · refine xv_aload_n hC dX6_save_4 rfl rfl ?_
    refine tg_X6_0 hC fl_X6_10 dX6_save_5 ?_
    refine tg_X4_6 hC fl_X6_104 dX6_save_8 ?_
    refine xv_if_ne (tgt := 17) hC dX6_save_11 (by decide) (fun h11 => ?_) (fun h11 => ?_)
    · rw [cI_n0] at h11
      have hG : fsG S false = true := by rw [fsG, h11]; rfl
      refine xv_aload_n hC dX6_save_17 rfl rfl ?_
      refine tg_X6_2 hC fl_X6_30 dX6_save_18 ?_
      refine xv_iload_n hC dX6_save_21 rfl rfl ?_
      refine xv_callV hC Y_yX5_lengthOf im_yX5_lengthOf se_yX5_lengthOf ml_X6_107 dX6_save_22 (ev_lengthOf l G h sz E S O on (sec, lP po, re, cf, oN so, seen, rf) Rd w0 hE false) (wl_Writer _ _ _ _ _ _ _ _ _) rfl rfl rfl (Nat.le_of_ble_eq_true rfl) ⟨Nat.le_of_ble_eq_true rfl, Nat.le_of_ble_eq_true rfl⟩ ⟨Nat.le_of_ble_eq_true rfl, Nat.le_of_ble_eq_true rfl⟩ ?_
      refine xv_rs ?_
      refine xv_world (show _ = wC G h (E) (S) (nsO1 E S O on false) (oN (nsN1 E S O on false)) (sec, lP po, re, cf, oN so, seen, rf) Rd w0 from rfl) ?_
      refine xv_sipush (v := nI 8000) hC dX6_save_25 (by decide) ?_
      refine xv_icmp_le (tgt := 34) hC dX6_save_28 (by decide) (fun h28 => ?_) (fun h28 => ?_)
      · rw [nI_leI (by have := nsL_le E S O on false; have : (wfN E S O on 2 false).1.2.1 2 ≤ 30000 := this; omega) (by omega)] at h28
        have h28 : nsL E S O on false ≤ 8000 := h28
        refine xv_aload_n hC dX6_save_34 rfl rfl ?_
        refine tg_X6_2 hC fl_X6_30 dX6_save_35 ?_
        refine xv_iload_n hC dX6_save_38 rfl rfl ?_
        refine xv_aload_n hC dX6_save_39 rfl rfl ?_
        refine tg_X6_1 hC fl_X6_21 dX6_save_40 ?_
        refine xv_callV hC Y_yX5_writeFile im_yX5_writeFile se_yX5_writeFile ml_X6_111 dX6_save_43 (ev_writeFile l G h sz E S (nsO1 E S O on false) (nsN1 E S O on false) (sec, lP po, re, cf, oN so, seen, rf) Rd w0 (b := 0) (by omega) hE false) (wl_Writer _ _ _ _ _ _ _ _ _) rfl rfl rfl (Nat.le_of_ble_eq_true rfl) ⟨Nat.le_of_ble_eq_true rfl, Nat.le_of_ble_eq_true rfl⟩ ⟨Nat.le_of_ble_eq_true rfl, Nat.le_of_ble_eq_true rfl⟩ ?_
        refine xv_rn ?_
        refine xv_world (show _ = wC G h (E) (S) (nsO2 E S O on false) (oN (nsN2 E S O on false)) (sec, lP po, re, cf, oN so, seen, rf) Rd w0 from rfl) ?_
        have hl2 : (nsO2 E S O on false).2.1 0 ≤ 8000 := by rw [nsO2_len]; exact h28
        refine xv_iload_n hC dX6_save_46 rfl rfl ?_
        refine xv_if_eq (tgt := 72) hC dX6_save_47 (by decide) (fun h47 => ?_) (fun h47 => ?_)
        · refine xv_aload_n hC dX6_save_72 rfl rfl ?_
          refine tg_X6_1 hC fl_X6_21 dX6_save_73 ?_
          refine tg_X2_1 hC (by first | assumption | omega) fl_X6_115 dX6_save_76 ?_
          exact xv_ireturn hC hr dX6_save_79 (rI (ns_3 hG h28).1) rfl (by rw [(ns_3 hG h28).2.1, (ns_3 hG h28).2.2.1, (ns_3 hG h28).2.2.2]; try rfl)
        · exact absurd h47 (by decide)
      · rw [nI_leI (by have := nsL_le E S O on false; have : (wfN E S O on 2 false).1.2.1 2 ≤ 30000 := this; omega) (by omega)] at h28
        have h28 : ¬ nsL E S O on false ≤ 8000 := h28
        refine xv_bipush (v := -4) hC dX6_save_31 (by decide) ?_
        exact xv_ireturn hC hr dX6_save_33 (rI (ns_2 hG h28).1) rfl (by rw [(ns_2 hG h28).2.1, (ns_2 hG h28).2.2.1, (ns_2 hG h28).2.2.2]; try rfl)
    · rw [cI_0] at h11
      have hG : fsG S false = false := by rw [fsG, h11]; rfl
      refine xv_bipush (v := -3) hC dX6_save_14 (by decide) ?_
      exact xv_ireturn hC hr dX6_save_16 (rI (ns_1 hG).1) rfl (by rw [(ns_1 hG).2.1, (ns_1 hG).2.2.1, (ns_1 hG).2.2.2])
theorem ev_save (l : Launch) (G : xD) (h sz : Nat) (E : cE) (S : cS) (O : cO) (on : Nat → Nat) (sec : Nat) (po : Nat → Option Nat) (re cf : Nat → Int32) (so : Nat → Nat) (seen rf : Int32) (Rd : cR) (w0 : xw) (hE : eOK E) (d : Bool) : xM l G yX6_save cX6_save 2 (some .int) 6 0 0 [.ref h, .int (cI d)] sz (wC G h (E) (S) (O) (oN (on)) (sec, lP po, re, cf, oN so, seen, rf) Rd w0) (some (.int (nsV E S O on d))) sz (wC G h (E) (nsSf E S O on d) (nsOf E S O on d) (oN (nsOn E S O on d)) (sec, lP po, re, cf, oN so, seen, rf) Rd w0) := by
  cases d
  · exact ev_save_false l G h sz E S O on sec po re cf so seen rf Rd w0 hE
  · exact ev_save_true l G h sz E S O on sec po re cf so seen rf Rd w0 hE
