set_option maxHeartbeats 1000000 in
set_option maxRecDepth 100000 in
theorem ev_cut (l : Launch) (G : xD) (h sz : Nat) (E : cE) (S : cS) (O : cO) (on : Nat → Nat) (sec : Nat) (po : Nat → Option Nat) (re cf : Nat → Int32) (so : Nat → Nat) (seen rf : Int32) (Rd : cR) (w0 : xw) (hO : O.2.1 0 ≤ 8000) (x : Int32) : xM l G yX6_cut cX6_cut 2 (some .int) 0 0 0 [.ref h, .int x] sz (wC G h (E) (S) (O) (oN (on)) (sec, lP po, re, cf, oN so, seen, rf) Rd w0) (some (.int (if fcB O x = true then x else -2))) (sz) (wC G h (E) (S) (if fcB O x = true then (O.1, va_up O.2.1 0 (cl x), O.2.2) else O) (oN (on)) (sec, lP po, re, cf, oN so, seen, rf) Rd w0) := by
  refine xM_of (by decide) (Nat.le_of_ble_eq_true rfl) ?_
  intro A p e s m args below meth c hC hr hname
  have hC : xC p s m args meth c cX6_cut 2 RX6 G A := hC
  have hr : meth.sig.returnType = (some .int) := hr
  show xV p l e _ s m args below meth c G A 2 _ sz _ 0 0 0 [(0, .ref h), (1, .int x)] []
  refine xv_iload_n hC dX6_cut_0 rfl rfl ?_
  refine xv_if_lt (tgt := 15) hC dX6_cut_1 (by decide) (fun h1 => ?_) (fun h1 => ?_)
  · have h1 := Int32.not_le.mpr h1
    refine xv_bipush (v := -2) hC dX6_cut_15 (by decide) ?_
    exact xv_ireturn hC hr dX6_cut_17 (rI (by first | simp [fcB, h12] | simp [fcB, h1])) rfl (by first | simp [fcB, h12] | simp [fcB, h1])
  · have h1 := Int32.not_lt.mp h1
    refine xv_iload_n hC dX6_cut_4 rfl rfl ?_
    refine xv_aload_n hC dX6_cut_5 rfl rfl ?_
    refine tg_X6_1 hC fl_X6_21 dX6_cut_6 ?_
    refine tg_X2_1 hC (by first | assumption | omega) fl_X6_115 dX6_cut_9 ?_
    refine xv_icmp_le (tgt := 18) hC dX6_cut_12 (by decide) (fun h12 => ?_) (fun h12 => ?_)
    · have hx : x = nI (cl x) := by
        rcases pk_ix x (show 8001 < 2 ^ 31 by omega) with z | z | ⟨j, hj, rfl⟩
        · exact absurd z (Int32.not_lt.mpr h1)
        · exact absurd (Int32.le_trans z h12) (nI_ge (by omega) (by omega))
        · rw [show cl (nI j) = j from nI_clamp (by omega)]
      refine xv_aload_n hC dX6_cut_18 rfl rfl ?_
      refine tg_X6_1 hC fl_X6_21 dX6_cut_19 ?_
      refine xv_iload_n hC dX6_cut_22 rfl rfl ?_
      refine tp_X2_1 hC (by first | assumption | omega) fl_X6_115 dX6_cut_23 hx ?_
      refine xv_iload_n hC dX6_cut_26 rfl rfl ?_
      exact xv_ireturn hC hr dX6_cut_27 (rI (by simp [fcB, h1, h12])) rfl (by simp [fcB, h1, h12])
    · refine xv_bipush (v := -2) hC dX6_cut_15 (by decide) ?_
      exact xv_ireturn hC hr dX6_cut_17 (rI (by first | simp [fcB, h12] | simp [fcB, h1])) rfl (by first | simp [fcB, h12] | simp [fcB, h1])
set_option maxHeartbeats 1000000 in
set_option maxRecDepth 100000 in
theorem ev_add (l : Launch) (G : xD) (h sz : Nat) (E : cE) (S : cS) (O : cO) (on : Nat → Nat) (sec : Nat) (po : Nat → Option Nat) (re cf : Nat → Int32) (so : Nat → Nat) (seen rf : Int32) (Rd : cR) (w0 : xw) (hO : O.2.1 0 ≤ 8000) (x : Int32) : xM l G yX6_add cX6_add 2 (some .int) 1 0 0 [.ref h, .int x] sz (wC G h (E) (S) (O) (oN (on)) (sec, lP po, re, cf, oN so, seen, rf) Rd w0) (some (.int (faV O x))) (sz) (wC G h (E) (S) (faO' O x) (oN (on)) (sec, lP po, re, cf, oN so, seen, rf) Rd w0) := by
  refine xM_of (by decide) (Nat.le_of_ble_eq_true rfl) ?_
  intro A p e s m args below meth c hC hr hname
  have hC : xC p s m args meth c cX6_add 2 RX6 G A := hC
  have hr : meth.sig.returnType = (some .int) := hr
  show xV p l e _ s m args below meth c G A 2 _ sz _ 0 0 0 [(0, .ref h), (1, .int x)] []
  refine xv_aload_n hC dX6_add_0 rfl rfl ?_
  refine tg_X6_1 hC fl_X6_21 dX6_add_1 ?_
  refine tg_X2_1 hC (by first | assumption | omega) fl_X6_115 dX6_add_4 ?_
  refine xv_sipush (v := nI 8000) hC dX6_add_7 (by decide) ?_
  refine xv_icmp_lt (tgt := 16) hC dX6_add_10 (by decide) (fun h10 => ?_) (fun h10 => ?_)
  · try simp (disch := omega) only [nI_leI, nI_ltI, nI_eq, xz_eq, xz_le, xz_gt, cI_0, cI_n0, cI_inj, lg_cmp_ge, lg_cmp_le, lg_cmp_gt, lg_cmp_lt, lg_cmp_eq, Bool.not_eq_true, Bool.not_eq_false, Nat.not_le, Nat.not_lt] at h10
    refine xv_aload_n hC dX6_add_16 rfl rfl ?_
    refine tg_X6_1 hC fl_X6_21 dX6_add_17 ?_
    refine xv_iload_n hC dX6_add_20 rfl rfl ?_
    refine xv_callV hC Y_yX2_append im_yX2_append se_yX2_append ml_X6_136 dX6_add_21 (ev_append l G h sz (E) (S) (O) (oN on) (sec, lP po, re, cf, oN so, seen, rf) Rd w0 (b := 0) (by omega) (by omega) x) (wl_oA _ _ _ _ _ _ _ _ _ (by first | assumption | omega)) rfl rfl rfl (Nat.le_of_ble_eq_true rfl) ⟨Nat.le_of_ble_eq_true rfl, Nat.le_of_ble_eq_true rfl⟩ ⟨Nat.le_of_ble_eq_true rfl, Nat.le_of_ble_eq_true rfl⟩ ?_
    refine xv_rn ?_
    refine xv_world (show _ = wC G h (E) (S) (oApp O 0 x) (oN (on)) (sec, lP po, re, cf, oN so, seen, rf) Rd w0 by rw [oApR_0 h10]) ?_
    refine xv_aload_n hC dX6_add_24 rfl rfl ?_
    refine tg_X6_1 hC fl_X6_21 dX6_add_25 ?_
    refine tg_X2_1 hC (by first | assumption | omega) fl_X6_115 dX6_add_28 ?_
    exact xv_ireturn hC hr dX6_add_31 (rI (by simp [faV, h10])) rfl (by simp [faO', h10])
  · try simp (disch := omega) only [nI_leI, nI_ltI, nI_eq, xz_eq, xz_le, xz_gt, cI_0, cI_n0, cI_inj, lg_cmp_ge, lg_cmp_le, lg_cmp_gt, lg_cmp_lt, lg_cmp_eq, Bool.not_eq_true, Bool.not_eq_false, Nat.not_le, Nat.not_lt] at h10
    refine xv_bipush (v := -4) hC dX6_add_13 (by decide) ?_
    exact xv_ireturn hC hr dX6_add_15 (rI (by simp [faV, Nat.not_lt.mpr h10])) rfl (by simp [faO', Nat.not_lt.mpr h10])
set_option maxHeartbeats 1000000 in
set_option maxRecDepth 100000 in
theorem ev_poke (l : Launch) (G : xD) (h sz : Nat) (E : cE) (S : cS) (O : cO) (on : Nat → Nat) (sec : Nat) (po : Nat → Option Nat) (re cf : Nat → Int32) (so : Nat → Nat) (seen rf : Int32) (Rd : cR) (w0 : xw) (hO : O.2.1 0 ≤ 8000) (x y : Int32) : xM l G yX6_poke cX6_poke 3 (some .int) 2 0 0 [.ref h, .int x, .int y] sz (wC G h (E) (S) (O) (oN (on)) (sec, lP po, re, cf, oN so, seen, rf) Rd w0) (some (.int (fkV O x y))) (sz) (wC G h (E) (S) (fkO O x y) (oN (on)) (sec, lP po, re, cf, oN so, seen, rf) Rd w0) := by
  refine xM_of (by decide) (Nat.le_of_ble_eq_true rfl) ?_
  intro A p e s m args below meth c hC hr hname
  have hC : xC p s m args meth c cX6_poke 3 RX6 G A := hC
  have hr : meth.sig.returnType = (some .int) := hr
  show xV p l e _ s m args below meth c G A 3 _ sz _ 0 0 0 [(0, .ref h), (1, .int x), (2, .int y)] []
  refine xv_aload_n hC dX6_poke_0 rfl rfl ?_
  refine tg_X6_1 hC fl_X6_21 dX6_poke_1 ?_
  refine xv_iload_n hC dX6_poke_4 rfl rfl ?_
  refine xv_callV hC Y_yX2_holds im_yX2_holds se_yX2_holds ml_X6_124 dX6_poke_5 (ev_holds l G h sz (E) (S) (O) (oN on) (sec, lP po, re, cf, oN so, seen, rf) Rd w0 (b := 0) (by omega) hO x) (wl_oA _ _ _ _ _ _ _ _ _ (by first | assumption | omega)) rfl rfl rfl (Nat.le_of_ble_eq_true rfl) ⟨Nat.le_of_ble_eq_true rfl, Nat.le_of_ble_eq_true rfl⟩ ⟨Nat.le_of_ble_eq_true rfl, Nat.le_of_ble_eq_true rfl⟩ ?_
  refine xv_rs ?_
  refine xv_if_ne (tgt := 13) hC dX6_poke_8 (by decide) (fun h8 => ?_) (fun h8 => ?_)
  · rw [cI_n0] at h8
    have hx := xIn_cl (by omega) h8
    have hx1 := hx.1
    refine xv_iload_n hC dX6_poke_13 rfl rfl ?_
    refine xv_iconst (v := nI 1) hC dX6_poke_14 (by decide) ?_
    refine xv_icmp_lt (tgt := 25) hC dX6_poke_15 (by decide) (fun h15 => ?_) (fun h15 => ?_)
    · have h15 := Int32.not_le.mpr h15
      refine xv_bipush (v := -2) hC dX6_poke_25 (by decide) ?_
      exact xv_ireturn hC hr dX6_poke_27 (rI (by first | simp [fkV, h8, fkB, h22] | simp [fkV, h8, fkB, h15])) rfl (by first | simp [fkO, h8, fkB, h22] | simp [fkO, h8, fkB, h15])
    · have h15 := Int32.not_lt.mp h15
      refine xv_iload_n hC dX6_poke_18 rfl rfl ?_
      refine xv_sipush (v := nI 255) hC dX6_poke_19 (by decide) ?_
      refine xv_icmp_le (tgt := 28) hC dX6_poke_22 (by decide) (fun h22 => ?_) (fun h22 => ?_)
      · have hk : fkB y = true := by simp [fkB, h15, h22]
        refine xv_aload_n hC dX6_poke_28 rfl rfl ?_
        refine tg_X6_1 hC fl_X6_21 dX6_poke_29 ?_
        refine tg_X2_0 hC (by first | assumption | omega) fl_X6_132 dX6_poke_32 ?_
        refine xv_iload_n hC dX6_poke_35 rfl rfl ?_
        refine xv_cast (congrArg Value.int hx.2) ?_
        refine xv_aload_n hC dX6_poke_36 rfl rfl ?_
        refine tg_X6_1 hC fl_X6_21 dX6_poke_37 ?_
        refine tg_X2_0 hC (by first | assumption | omega) fl_X6_132 dX6_poke_40 ?_
        refine xv_iload_n hC dX6_poke_43 rfl rfl ?_
        refine xv_cast (congrArg Value.int hx.2) ?_
        refine al_bytes hC (by first | assumption | omega) dX6_poke_44 rfl (show cl x < 8000 by omega) ?_
        refine xv_iload_n hC dX6_poke_45 rfl rfl ?_
        refine xv_ixor hC dX6_poke_46 ?_
        refine xv_i2b hC dX6_poke_47 ?_
        refine as_bytes hC (by first | assumption | omega) dX6_poke_48 rfl (show cl x < 8000 by omega) ?_
        refine xv_world (show _ = wC G h (E) (S) (fkO O x y) (oN (on)) (sec, lP po, re, cf, oN so, seen, rf) Rd w0 by rw [fkO, if_pos (by rw [h8, hk]; rfl)]; simp only [pk_vb, xb]) ?_
        refine xv_aload_n hC dX6_poke_49 rfl rfl ?_
        refine tg_X6_1 hC fl_X6_21 dX6_poke_50 ?_
        refine xv_iload_n hC dX6_poke_53 rfl rfl ?_
        refine xv_cast (congrArg Value.int hx.2) ?_
        refine xv_callV hC Y_yX2_at im_yX2_at se_yX2_at ml_X6_139 dX6_poke_54 (ev_at l G h sz (E) (S) (fkO O x y) (oN on) (sec, lP po, re, cf, oN so, seen, rf) Rd w0 (b := 0) (by omega) (by unfold fkO; split <;> exact hO) (i := cl x) (by omega)) (wl_oA _ _ _ _ _ _ _ _ _ (by first | assumption | omega)) rfl rfl rfl (Nat.le_of_ble_eq_true rfl) ⟨Nat.le_of_ble_eq_true rfl, Nat.le_of_ble_eq_true rfl⟩ ⟨Nat.le_of_ble_eq_true rfl, Nat.le_of_ble_eq_true rfl⟩ ?_
        refine xv_rs ?_
        exact xv_ireturn hC hr dX6_poke_57 (rI (by simp [fkV, h8, hk])) rfl rfl
      · refine xv_bipush (v := -2) hC dX6_poke_25 (by decide) ?_
        exact xv_ireturn hC hr dX6_poke_27 (rI (by first | simp [fkV, h8, fkB, h22] | simp [fkV, h8, fkB, h15])) rfl (by first | simp [fkO, h8, fkB, h22] | simp [fkO, h8, fkB, h15])
  · try simp (disch := omega) only [nI_leI, nI_ltI, nI_eq, xz_eq, xz_le, xz_gt, cI_0, cI_n0, cI_inj, lg_cmp_ge, lg_cmp_le, lg_cmp_gt, lg_cmp_lt, lg_cmp_eq, Bool.not_eq_true, Bool.not_eq_false, Nat.not_le, Nat.not_lt] at h8
    refine xv_iconst (v := -1) hC dX6_poke_11 (by decide) ?_
    exact xv_ireturn hC hr dX6_poke_12 (rI (by simp [fkV, h8])) rfl (by simp [fkO, h8])
set_option maxHeartbeats 1000000 in
set_option maxRecDepth 100000 in
theorem ev_load_busy (l : Launch) (G : xD) (h sz : Nat) (E : cE) (S : cS) (O : cO) (on : Nat → Nat) (sec : Nat) (po : Nat → Option Nat) (re cf : Nat → Int32) (so : Nat → Nat) (seen rf : Int32) (Rd : cR) (w0 : xw) (hb : S.2.2.2.2.1 = true) : xM l G yX6_load cX6_load 2 (some .int) 6 0 0 [.ref h] sz (wC G h (E) (S) (O) (oN (on)) (sec, lP po, re, cf, oN so, seen, rf) Rd w0) (some (.int (-3))) (sz) (wC G h (E) (S) (O) (oN (on)) (sec, lP po, re, cf, oN so, seen, rf) Rd w0) := by
  refine xM_of (by decide) (Nat.le_of_ble_eq_true rfl) ?_
  intro A p e s m args below meth c hC hr hname
  have hC : xC p s m args meth c cX6_load 2 RX6 G A := hC
  have hr : meth.sig.returnType = (some .int) := hr
  show xV p l e _ s m args below meth c G A 2 _ sz _ 0 0 0 [(0, .ref h)] []
  refine xv_aload_n hC dX6_load_0 rfl rfl ?_
  refine tg_X6_0 hC fl_X6_10 dX6_load_1 ?_
  refine tg_X4_5 hC fl_X6_100 dX6_load_4 ?_
  refine xv_if_eq (tgt := 13) hC dX6_load_7 (by decide) (fun h7 => ?_) (fun h7 => ?_)
  · rw [cI_0, hb] at h7
    exact absurd h7 (by decide)
  · refine xv_bipush (v := -3) hC dX6_load_10 (by decide) ?_
    exact xv_ireturn hC hr dX6_load_12 rfl rfl rfl
set_option maxHeartbeats 1000000 in
set_option maxRecDepth 100000 in
theorem ev_load_none (l : Launch) (G : xD) (h sz : Nat) (E : cE) (S : cS) (O : cO) (on : Nat → Nat) (sec : Nat) (po : Nat → Option Nat) (re cf : Nat → Int32) (so : Nat → Nat) (seen rf : Int32) (Rd : cR) (w0 : xw) (hb : S.2.2.2.2.1 = false) (h0 : O.2.1 0 = 0) : xM l G yX6_load cX6_load 2 (some .int) 6 0 0 [.ref h] sz (wC G h (E) (S) (O) (oN (on)) (sec, lP po, re, cf, oN so, seen, rf) Rd w0) (some (.int (nI 0))) (sz) (wC G h E S O (oN on) (0, lP po, re, cf, oN so, seen, rf) Rd w0) := by
  refine xM_of (by decide) (Nat.le_of_ble_eq_true rfl) ?_
  intro A p e s m args below meth c hC hr hname
  have hC : xC p s m args meth c cX6_load 2 RX6 G A := hC
  have hr : meth.sig.returnType = (some .int) := hr
  show xV p l e _ s m args below meth c G A 2 _ sz _ 0 0 0 [(0, .ref h)] []
  refine xv_aload_n hC dX6_load_0 rfl rfl ?_
  refine tg_X6_0 hC fl_X6_10 dX6_load_1 ?_
  refine tg_X4_5 hC fl_X6_100 dX6_load_4 ?_
  refine xv_if_eq (tgt := 13) hC dX6_load_7 (by decide) (fun h7 => ?_) (fun h7 => ?_)
  · refine xv_aload_n hC dX6_load_13 rfl rfl ?_
    refine tg_X6_3 hC fl_X6_39 dX6_load_14 ?_
    refine xv_iconst (v := nI 0) hC dX6_load_17 (by decide) ?_
    refine tp_X1_0 hC fl_X6_143 dX6_load_18 rfl ?_
    refine xv_aload_n hC dX6_load_21 rfl rfl ?_
    refine tg_X6_1 hC fl_X6_21 dX6_load_22 ?_
    refine tg_X2_1 hC (by first | assumption | omega) fl_X6_115 dX6_load_25 ?_
    refine xv_if_ne (tgt := 33) hC dX6_load_28 (by decide) (fun h28 => ?_) (fun h28 => ?_)
    · rw [h0] at h28
      exact absurd (by decide) h28
    · refine xv_iconst (v := nI 0) hC dX6_load_31 (by decide) ?_
      exact xv_ireturn hC hr dX6_load_32 rfl rfl rfl
  · rw [cI_n0, hb] at h7
    exact absurd h7 (by decide)
set_option maxHeartbeats 1000000 in
set_option maxRecDepth 100000 in
theorem ev_load_ref (l : Launch) (G : xD) (h sz : Nat) (E : cE) (S : cS) (O : cO) (on : Nat → Nat) (sec : Nat) (po : Nat → Option Nat) (re cf : Nat → Int32) (so : Nat → Nat) (seen rf : Int32) (Rd : cR) (w0 : xw) (hO : O.2.1 0 ≤ 8000) (hb : S.2.2.2.2.1 = false) (h0 : ¬ O.2.1 0 = 0) (hr0 : ¬ raW S O = 0) : xM l G yX6_load cX6_load 2 (some .int) 6 0 0 [.ref h] sz (wC G h (E) (S) (O) (oN (on)) (sec, lP po, re, cf, oN so, seen, rf) Rd w0) (some (.int (-10 - raW S O))) (sz) (wC G h E S O (oN on) (0, lP po, re, cf, oN so, seen, rf) Rd w0) := by
  refine xM_of (by decide) (Nat.le_of_ble_eq_true rfl) ?_
  intro A p e s m args below meth c hC hr hname
  have hC : xC p s m args meth c cX6_load 2 RX6 G A := hC
  have hr : meth.sig.returnType = (some .int) := hr
  show xV p l e _ s m args below meth c G A 2 _ sz _ 0 0 0 [(0, .ref h)] []
  refine xv_aload_n hC dX6_load_0 rfl rfl ?_
  refine tg_X6_0 hC fl_X6_10 dX6_load_1 ?_
  refine tg_X4_5 hC fl_X6_100 dX6_load_4 ?_
  refine xv_if_eq (tgt := 13) hC dX6_load_7 (by decide) (fun h7 => ?_) (fun h7 => ?_)
  · refine xv_aload_n hC dX6_load_13 rfl rfl ?_
    refine tg_X6_3 hC fl_X6_39 dX6_load_14 ?_
    refine xv_iconst (v := nI 0) hC dX6_load_17 (by decide) ?_
    refine tp_X1_0 hC fl_X6_143 dX6_load_18 rfl ?_
    refine xv_aload_n hC dX6_load_21 rfl rfl ?_
    refine tg_X6_1 hC fl_X6_21 dX6_load_22 ?_
    refine tg_X2_1 hC (by first | assumption | omega) fl_X6_115 dX6_load_25 ?_
    refine xv_if_ne (tgt := 33) hC dX6_load_28 (by decide) (fun h28 => ?_) (fun h28 => ?_)
    · refine xv_aload_n hC dX6_load_33 rfl rfl ?_
      refine tg_X6_3 hC fl_X6_39 dX6_load_34 ?_
      refine xv_callV hC Y_yX1_refusalAsWhole im_yX1_refusalAsWhole se_yX1_refusalAsWhole ml_X6_146 dX6_load_37 (ev_refusalAsWhole l G h sz E S O on 0 po re cf so seen rf Rd w0 hO) (wl_Loader _ _ _ _ _ _ _ _ _) rfl rfl rfl (Nat.le_of_ble_eq_true rfl) ⟨Nat.le_of_ble_eq_true rfl, Nat.le_of_ble_eq_true rfl⟩ ⟨Nat.le_of_ble_eq_true rfl, Nat.le_of_ble_eq_true rfl⟩ ?_
      refine xv_rs ?_
      refine xv_istore_n hC dX6_load_40 rfl (by decide) ?_
      refine xv_iload_n hC dX6_load_41 rfl rfl ?_
      refine xv_if_ne (tgt := 55) hC dX6_load_42 (by decide) (fun h42 => ?_) (fun h42 => ?_)
      · refine xv_bipush (v := -10) hC dX6_load_55 (by decide) ?_
        refine xv_iload_n hC dX6_load_57 rfl rfl ?_
        refine xv_isub hC dX6_load_58 ?_
        exact xv_ireturn hC hr dX6_load_59 rfl rfl rfl
      · exact absurd h42 hr0
    · rw [xz_eq (by omega)] at h28
      exact absurd h28 h0
  · rw [cI_n0, hb] at h7
    exact absurd h7 (by decide)
set_option maxHeartbeats 1000000 in
set_option maxRecDepth 100000 in
theorem ev_load_go (l : Launch) (G : xD) (h sz : Nat) (E : cE) (S : cS) (O : cO) (on : Nat → Nat) (sec : Nat) (po : Nat → Option Nat) (re cf : Nat → Int32) (so : Nat → Nat) (seen rf : Int32) (Rd : cR) (ra : Nat → Nat) (Ra : cR) (w1 : xw) (hO : O.2.1 0 ≤ 8000) (hE : eOK E) (hso : ∀ j, so j < 12) (hpo : ∀ j q, po j = some q → q < 12) (hA : ∀ j, ra j ≤ 8000) (hb : S.2.2.2.2.1 = false) (h0 : ¬ O.2.1 0 = 0) (hr0 : raW S O = 0) : xM l G yX6_load cX6_load 2 (some .int) 6 0 0 [.ref h] sz (wC G h (E) (S) (O) (oN (on)) (sec, lP po, re, cf, oN so, seen, rf) Rd (wX G h (oN ra) Ra w1)) (some (.int (nI (lnT E S O po re cf so ra Ra).1.2.2.2.2.2))) (sz) (wC G h (lnEE O (lnT E S O po re cf so ra Ra)) (lnES O (lnT E S O po re cf so ra Ra)) O (oN on) (lsSec O, lP (lnT E S O po re cf so ra Ra).1.1.2.1, (lnT E S O po re cf so ra Ra).1.2.2.1, (lnT E S O po re cf so ra Ra).1.2.2.2.1, oN (lnT E S O po re cf so ra Ra).1.1.2.2.1, (lnT E S O po re cf so ra Ra).1.1.2.2.2.1, (lnT E S O po re cf so ra Ra).1.2.2.2.2.1) (lnT E S O po re cf so ra Ra).1.1.2.2.2.2 (wX G h (oN (lnT E S O po re cf so ra Ra).2.1) (lnER O (lnT E S O po re cf so ra Ra)) w1)) := by
  refine xM_of (by decide) (Nat.le_of_ble_eq_true rfl) ?_
  intro A p e s m args below meth c hC hr hname
  have hC : xC p s m args meth c cX6_load 2 RX6 G A := hC
  have hr : meth.sig.returnType = (some .int) := hr
  show xV p l e _ s m args below meth c G A 2 _ sz _ 0 0 0 [(0, .ref h)] []
  refine xv_aload_n hC dX6_load_0 rfl rfl ?_
  refine tg_X6_0 hC fl_X6_10 dX6_load_1 ?_
  refine tg_X4_5 hC fl_X6_100 dX6_load_4 ?_
  refine xv_if_eq (tgt := 13) hC dX6_load_7 (by decide) (fun h7 => ?_) (fun h7 => ?_)
  · refine xv_aload_n hC dX6_load_13 rfl rfl ?_
    refine tg_X6_3 hC fl_X6_39 dX6_load_14 ?_
    refine xv_iconst (v := nI 0) hC dX6_load_17 (by decide) ?_
    refine tp_X1_0 hC fl_X6_143 dX6_load_18 rfl ?_
    refine xv_aload_n hC dX6_load_21 rfl rfl ?_
    refine tg_X6_1 hC fl_X6_21 dX6_load_22 ?_
    refine tg_X2_1 hC (by first | assumption | omega) fl_X6_115 dX6_load_25 ?_
    refine xv_if_ne (tgt := 33) hC dX6_load_28 (by decide) (fun h28 => ?_) (fun h28 => ?_)
    · refine xv_aload_n hC dX6_load_33 rfl rfl ?_
      refine tg_X6_3 hC fl_X6_39 dX6_load_34 ?_
      refine xv_callV hC Y_yX1_refusalAsWhole im_yX1_refusalAsWhole se_yX1_refusalAsWhole ml_X6_146 dX6_load_37 (ev_refusalAsWhole l G h sz E S O on 0 po re cf so seen rf Rd (wX G h (oN ra) Ra w1) hO) (wl_Loader _ _ _ _ _ _ _ _ _) rfl rfl rfl (Nat.le_of_ble_eq_true rfl) ⟨Nat.le_of_ble_eq_true rfl, Nat.le_of_ble_eq_true rfl⟩ ⟨Nat.le_of_ble_eq_true rfl, Nat.le_of_ble_eq_true rfl⟩ ?_
      refine xv_rs ?_
      refine xv_istore_n hC dX6_load_40 rfl (by decide) ?_
      refine xv_iload_n hC dX6_load_41 rfl rfl ?_
      refine xv_if_ne (tgt := 55) hC dX6_load_42 (by decide) (fun h42 => ?_) (fun h42 => ?_)
      · exact absurd hr0 h42
      · refine xv_aload_n hC dX6_load_45 rfl rfl ?_
        refine tg_X6_3 hC fl_X6_39 dX6_load_46 ?_
        refine xv_callV hC Y_yX1_loadSections im_yX1_loadSections se_yX1_loadSections ml_X6_150 dX6_load_49 (ev_loadSections l G h sz E S O on 0 po re cf so seen rf Rd ra Ra w1 hO hE hso hpo hA) (wl_Loader _ _ _ _ _ _ _ _ _) rfl rfl rfl (Nat.le_of_ble_eq_true rfl) ⟨Nat.le_of_ble_eq_true rfl, Nat.le_of_ble_eq_true rfl⟩ ⟨Nat.le_of_ble_eq_true rfl, Nat.le_of_ble_eq_true rfl⟩ ?_
        refine xv_rs ?_
        refine xv_goto (tgt := 59) hC dX6_load_52 (by decide) ?_
        exact xv_ireturn hC hr dX6_load_59 rfl rfl rfl
    · rw [xz_eq (by omega)] at h28
      exact absurd h28 h0
  · rw [cI_n0, hb] at h7
    exact absurd h7 (by decide)
set_option maxHeartbeats 1000000 in
set_option maxRecDepth 100000 in
theorem ev_told (l : Launch) (G : xD) (h sz : Nat) (E : cE) (S : cS) (O : cO) (on : Nat → Nat) (sec : Nat) (po : Nat → Option Nat) (re cf : Nat → Int32) (so : Nat → Nat) (seen rf : Int32) (Rd : cR) (w0 : xw) (hsec : sec ≤ 255) (x y : Int32) : xM l G yX6_told cX6_told 3 (some .int) 0 0 0 [.ref h, .int x, .int y] sz (wC G h (E) (S) (O) (oN (on)) (sec, lP po, re, cf, oN so, seen, rf) Rd w0) (some (.int (ftoV sec po re cf x y))) (sz) (wC G h (E) (S) (O) (oN (on)) (sec, lP po, re, cf, oN so, seen, rf) Rd w0) := by
  refine xM_of (by decide) (Nat.le_of_ble_eq_true rfl) ?_
  intro A p e s m args below meth c hC hr hname
  have hC : xC p s m args meth c cX6_told 3 RX6 G A := hC
  have hr : meth.sig.returnType = (some .int) := hr
  show xV p l e _ s m args below meth c G A 3 _ sz _ 0 0 0 [(0, .ref h), (1, .int x), (2, .int y)] []
  refine xv_iload_n hC dX6_told_0 rfl rfl ?_
  refine xv_if_lt (tgt := 15) hC dX6_told_1 (by decide) (fun h1 => ?_) (fun h1 => ?_)
  · have hxi : xIn x sec = false := by simp [xIn, h1]
    refine xv_iconst (v := -1) hC dX6_told_15 (by decide) ?_
    exact xv_ireturn hC hr dX6_told_16 (rI (by simp [ftoV, hxi])) rfl rfl
  · refine xv_iload_n hC dX6_told_4 rfl rfl ?_
    refine xv_aload_n hC dX6_told_5 rfl rfl ?_
    refine tg_X6_3 hC fl_X6_39 dX6_told_6 ?_
    refine tg_X1_0 hC fl_X6_143 dX6_told_9 ?_
    refine xv_icmp_lt (tgt := 17) hC dX6_told_12 (by decide) (fun h12 => ?_) (fun h12 => ?_)
    · have hxi : xIn x sec = true := by simp [xIn, h1, Int32.not_le.mpr h12]
      have hx := xIn_cl (by omega) hxi
      have hx1 := hx.1
      refine xv_iload_n hC dX6_told_17 rfl rfl ?_
      by_cases hk0 : y = nI 0
      · refine xv_tabIn (tgt := 44) hC dX6_told_18 (by rw [hk0]; decide) (by rw [hk0]; decide) (by rw [hk0]; rfl) (by decide) ?_
        refine xv_aload_n hC dX6_told_44 rfl rfl ?_
        refine tg_X6_3 hC fl_X6_39 dX6_told_45 ?_
        refine tg_X1_1 hC fl_X6_153 dX6_told_48 ?_
        refine xv_iload_n hC dX6_told_51 rfl rfl ?_
        refine xv_cast (congrArg Value.int hx.2) ?_
        refine al_partOf hC dX6_told_52 rfl (by first | assumption | omega) ?_
        exact xv_ireturn hC hr dX6_told_53 (rI (by rw [ftoV, if_pos hxi, if_pos hk0])) rfl rfl
      by_cases hk1 : y = nI 1
      · refine xv_tabIn (tgt := 54) hC dX6_told_18 (by rw [hk1]; decide) (by rw [hk1]; decide) (by rw [hk1]; rfl) (by decide) ?_
        refine xv_aload_n hC dX6_told_54 rfl rfl ?_
        refine tg_X6_3 hC fl_X6_39 dX6_told_55 ?_
        refine tg_X1_2 hC fl_X6_157 dX6_told_58 ?_
        refine xv_iload_n hC dX6_told_61 rfl rfl ?_
        refine xv_cast (congrArg Value.int hx.2) ?_
        refine al_reasonOf hC dX6_told_62 rfl (by first | assumption | omega) ?_
        exact xv_ireturn hC hr dX6_told_63 (rI (by rw [ftoV, if_pos hxi, if_neg hk0, if_pos hk1])) rfl rfl
      by_cases hk2 : y = nI 2
      · refine xv_tabIn (tgt := 64) hC dX6_told_18 (by rw [hk2]; decide) (by rw [hk2]; decide) (by rw [hk2]; rfl) (by decide) ?_
        refine xv_aload_n hC dX6_told_64 rfl rfl ?_
        refine tg_X6_3 hC fl_X6_39 dX6_told_65 ?_
        refine tg_X1_3 hC fl_X6_160 dX6_told_68 ?_
        refine xv_iload_n hC dX6_told_71 rfl rfl ?_
        refine xv_cast (congrArg Value.int hx.2) ?_
        refine al_conflictsOf hC dX6_told_72 rfl (by first | assumption | omega) ?_
        exact xv_ireturn hC hr dX6_told_73 (rI (by rw [ftoV, if_pos hxi, if_neg hk0, if_neg hk1, if_pos hk2])) rfl rfl
      refine xv_tabOut (tgt := 74) hC dX6_told_18 (swOut3 hk0 hk1 hk2) (by decide) ?_
      refine xv_iconst (v := -1) hC dX6_told_74 (by decide) ?_
      exact xv_ireturn hC hr dX6_told_75 (rI (by rw [ftoV, if_pos hxi, if_neg hk0, if_neg hk1, if_neg hk2])) rfl rfl
    · have hxi : xIn x sec = false := by simp [xIn, Int32.not_lt.mp h12]
      refine xv_iconst (v := -1) hC dX6_told_15 (by decide) ?_
      exact xv_ireturn hC hr dX6_told_16 (rI (by simp [ftoV, hxi])) rfl rfl
set_option maxHeartbeats 1000000 in
set_option maxRecDepth 100000 in
theorem ev_count (l : Launch) (G : xD) (h sz : Nat) (E : cE) (S : cS) (O : cO) (on : Nat → Nat) (sec : Nat) (po : Nat → Option Nat) (re cf : Nat → Int32) (so : Nat → Nat) (seen rf : Int32) (Rd : cR) (w0 : xw) (hE : eOK E) (hsec : sec ≤ 255) (x : Int32) : xM l G yX6_count cX6_count 2 (some .int) 1 0 0 [.ref h, .int x] sz (wC G h (E) (S) (O) (oN (on)) (sec, lP po, re, cf, oN so, seen, rf) Rd w0) (some (.int (fcoV E S O sec cf x))) (sz) (wC G h (E) (S) (O) (oN (on)) (sec, lP po, re, cf, oN so, seen, rf) Rd w0) := by
  refine xM_of (by decide) (Nat.le_of_ble_eq_true rfl) ?_
  intro A p e s m args below meth c hC hr hname
  have hC : xC p s m args meth c cX6_count 2 RX6 G A := hC
  have hr : meth.sig.returnType = (some .int) := hr
  show xV p l e _ s m args below meth c G A 2 _ sz _ 0 0 0 [(0, .ref h), (1, .int x)] []
  refine xv_iload_n hC dX6_count_0 rfl rfl ?_
  by_cases hk0 : x = nI 0
  · refine xv_tabIn (tgt := 40) hC dX6_count_1 (by rw [hk0]; decide) (by rw [hk0]; decide) (by rw [hk0]; rfl) (by decide) ?_
    refine xv_aload_n hC dX6_count_40 rfl rfl ?_
    refine tg_X6_3 hC fl_X6_39 dX6_count_41 ?_
    refine tg_X1_0 hC fl_X6_143 dX6_count_44 ?_
    exact xv_ireturn hC hr dX6_count_47 (rI (by rw [fcoV, if_pos hk0])) rfl rfl
  by_cases hk1 : x = nI 1
  · refine xv_tabIn (tgt := 48) hC dX6_count_1 (by rw [hk1]; decide) (by rw [hk1]; decide) (by rw [hk1]; rfl) (by decide) ?_
    refine xv_aload_n hC dX6_count_48 rfl rfl ?_
    refine tg_X6_3 hC fl_X6_39 dX6_count_49 ?_
    refine xv_callV hC Y_yX1_allConflicts im_yX1_allConflicts se_yX1_allConflicts ml_X6_163 dX6_count_52 (ev_allConflicts l G h sz E S O on sec po re cf so seen rf Rd w0 hsec) (wl_Loader _ _ _ _ _ _ _ _ _) rfl rfl rfl (Nat.le_of_ble_eq_true rfl) ⟨Nat.le_of_ble_eq_true rfl, Nat.le_of_ble_eq_true rfl⟩ ⟨Nat.le_of_ble_eq_true rfl, Nat.le_of_ble_eq_true rfl⟩ ?_
    refine xv_rs ?_
    exact xv_ireturn hC hr dX6_count_55 (rI (by rw [fcoV, if_neg hk0, if_pos hk1])) rfl rfl
  by_cases hk2 : x = nI 2
  · refine xv_tabIn (tgt := 56) hC dX6_count_1 (by rw [hk2]; decide) (by rw [hk2]; decide) (by rw [hk2]; rfl) (by decide) ?_
    refine xv_aload_n hC dX6_count_56 rfl rfl ?_
    refine tg_X6_1 hC fl_X6_21 dX6_count_57 ?_
    refine tg_X2_1 hC (by first | assumption | omega) fl_X6_115 dX6_count_60 ?_
    exact xv_ireturn hC hr dX6_count_63 (rI (by rw [fcoV, if_neg hk0, if_neg hk1, if_pos hk2])) rfl rfl
  by_cases hk3 : x = nI 3
  · refine xv_tabIn (tgt := 64) hC dX6_count_1 (by rw [hk3]; decide) (by rw [hk3]; decide) (by rw [hk3]; rfl) (by decide) ?_
    refine xv_aload_n hC dX6_count_64 rfl rfl ?_
    refine tg_X6_0 hC fl_X6_10 dX6_count_65 ?_
    refine xv_callV hC Y_yX4_partsWithEntries im_yX4_partsWithEntries se_yX4_partsWithEntries ml_X6_166 dX6_count_68 (ev_partsWithEntries l G h sz (E) (S) (O) (oN on) (sec, lP po, re, cf, oN so, seen, rf) Rd w0 hE) (wl_Setter _ _ _ _ _ _ _ _ _) rfl rfl rfl (Nat.le_of_ble_eq_true rfl) ⟨Nat.le_of_ble_eq_true rfl, Nat.le_of_ble_eq_true rfl⟩ ⟨Nat.le_of_ble_eq_true rfl, Nat.le_of_ble_eq_true rfl⟩ ?_
    refine xv_rs ?_
    refine xv_callS hC Y_yJ6_bitCount_0f7a4 sm_yJ6_bitCount_0f7a4 ml_X6_169 dX6_count_71 (ev_bitCount l G sz _ (pwE E 12)) rfl rfl (Nat.le_of_ble_eq_true rfl) ⟨Nat.le_of_ble_eq_true rfl, Nat.le_of_ble_eq_true rfl⟩ ⟨Nat.le_of_ble_eq_true rfl, Nat.le_of_ble_eq_true rfl⟩ ?_
    refine xv_rs ?_
    exact xv_ireturn hC hr dX6_count_74 (rI (by rw [fcoV, if_neg hk0, if_neg hk1, if_neg hk2, if_pos hk3])) rfl rfl
  by_cases hk4 : x = nI 4
  · refine xv_tabIn (tgt := 75) hC dX6_count_1 (by rw [hk4]; decide) (by rw [hk4]; decide) (by rw [hk4]; rfl) (by decide) ?_
    refine xv_aload_n hC dX6_count_75 rfl rfl ?_
    refine tg_X6_0 hC fl_X6_10 dX6_count_76 ?_
    refine tg_X4_2 hC fl_X6_174 dX6_count_79 ?_
    refine xv_callS hC Y_yJ6_bitCount_0f7a4 sm_yJ6_bitCount_0f7a4 ml_X6_169 dX6_count_82 (ev_bitCount l G sz _ S.2.1) rfl rfl (Nat.le_of_ble_eq_true rfl) ⟨Nat.le_of_ble_eq_true rfl, Nat.le_of_ble_eq_true rfl⟩ ⟨Nat.le_of_ble_eq_true rfl, Nat.le_of_ble_eq_true rfl⟩ ?_
    refine xv_rs ?_
    exact xv_ireturn hC hr dX6_count_85 (rI (by rw [fcoV, if_neg hk0, if_neg hk1, if_neg hk2, if_neg hk3, if_pos hk4])) rfl rfl
  by_cases hk5 : x = nI 5
  · refine xv_tabIn (tgt := 86) hC dX6_count_1 (by rw [hk5]; decide) (by rw [hk5]; decide) (by rw [hk5]; rfl) (by decide) ?_
    refine xv_aload_n hC dX6_count_86 rfl rfl ?_
    refine tg_X6_0 hC fl_X6_10 dX6_count_87 ?_
    refine xv_callV hC Y_yX4_allEntries im_yX4_allEntries se_yX4_allEntries ml_X6_177 dX6_count_90 (ev_allEntries l G h sz (E) (S) (O) (oN on) (sec, lP po, re, cf, oN so, seen, rf) Rd w0) (wl_Setter _ _ _ _ _ _ _ _ _) rfl rfl rfl (Nat.le_of_ble_eq_true rfl) ⟨Nat.le_of_ble_eq_true rfl, Nat.le_of_ble_eq_true rfl⟩ ⟨Nat.le_of_ble_eq_true rfl, Nat.le_of_ble_eq_true rfl⟩ ?_
    refine xv_rs ?_
    exact xv_ireturn hC hr dX6_count_93 (rI (by rw [fcoV, if_neg hk0, if_neg hk1, if_neg hk2, if_neg hk3, if_neg hk4, if_pos hk5])) rfl rfl
  refine xv_tabOut (tgt := 94) hC dX6_count_1 (swOut6 hk0 hk1 hk2 hk3 hk4 hk5) (by decide) ?_
  refine xv_bipush (v := -2) hC dX6_count_94 (by decide) ?_
  exact xv_ireturn hC hr dX6_count_96 (rI (by rw [fcoV, if_neg hk0, if_neg hk1, if_neg hk2, if_neg hk3, if_neg hk4, if_neg hk5])) rfl rfl
set_option maxHeartbeats 1000000 in
set_option maxRecDepth 100000 in
theorem ev_same (l : Launch) (G : xD) (h sz : Nat) (E : cE) (S : cS) (O : cO) (on : Nat → Nat) (sec : Nat) (po : Nat → Option Nat) (re cf : Nat → Int32) (so : Nat → Nat) (seen rf : Int32) (Rd : cR) (w0 : xw) (hE : eOK E) (x y : Int32) : xM l G yX6_same cX6_same 3 (some .boolean) 2 0 0 [.ref h, .int x, .int y] sz (wC G h (E) (S) (O) (oN (on)) (sec, lP po, re, cf, oN so, seen, rf) Rd w0) (some (.int (cI (fsaV E x y)))) (sz) (wC G h (E) (S) (O) (oN (on)) (sec, lP po, re, cf, oN so, seen, rf) Rd w0) := by
  refine xM_of (by decide) (Nat.le_of_ble_eq_true rfl) ?_
  intro A p e s m args below meth c hC hr hname
  have hC : xC p s m args meth c cX6_same 3 RX6 G A := hC
  have hr : meth.sig.returnType = (some .boolean) := hr
  show xV p l e _ s m args below meth c G A 3 _ sz _ 0 0 0 [(0, .ref h), (1, .int x), (2, .int y)] []
  refine xv_iload_n hC dX6_same_0 rfl rfl ?_
  refine xv_callS hC Y_yX6_isPart sm_yX6_isPart ml_X6_65 dX6_same_1 (ev_isPart l G sz _ x) rfl rfl (Nat.le_of_ble_eq_true rfl) ⟨Nat.le_of_ble_eq_true rfl, Nat.le_of_ble_eq_true rfl⟩ ⟨Nat.le_of_ble_eq_true rfl, Nat.le_of_ble_eq_true rfl⟩ ?_
  refine xv_rs ?_
  refine xv_if_eq (tgt := 42) hC dX6_same_4 (by decide) (fun h4 => ?_) (fun h4 => ?_)
  · try simp (disch := omega) only [nI_leI, nI_ltI, nI_eq, xz_eq, xz_le, xz_gt, cI_0, cI_n0, cI_inj, lg_cmp_ge, lg_cmp_le, lg_cmp_gt, lg_cmp_lt, lg_cmp_eq, Bool.not_eq_true, Bool.not_eq_false, Nat.not_le, Nat.not_lt] at h4
    refine xv_iconst (v := nI 0) hC dX6_same_42 (by decide) ?_
    exact xv_zreturn hC hr (by rfl) dX6_same_43 (by first | exact rN1 (by rw [fsaV, h4, h11, h35]; rfl) | exact rN0 (by rw [fsaV, h4, h11, h35]; rfl) | exact rN0 (by rw [fsaV, h4, h11]; rfl) | exact rN0 (by rw [fsaV, h4]; rfl)) rfl rfl
  · rw [cI_n0] at h4
    have hx := xIn_cl (by omega) h4
    have hx1 := hx.1
    refine xv_iload_n hC dX6_same_7 rfl rfl ?_
    refine xv_callS hC Y_yX6_isPart sm_yX6_isPart ml_X6_65 dX6_same_8 (ev_isPart l G sz _ y) rfl rfl (Nat.le_of_ble_eq_true rfl) ⟨Nat.le_of_ble_eq_true rfl, Nat.le_of_ble_eq_true rfl⟩ ⟨Nat.le_of_ble_eq_true rfl, Nat.le_of_ble_eq_true rfl⟩ ?_
    refine xv_rs ?_
    refine xv_if_eq (tgt := 42) hC dX6_same_11 (by decide) (fun h11 => ?_) (fun h11 => ?_)
    · try simp (disch := omega) only [nI_leI, nI_ltI, nI_eq, xz_eq, xz_le, xz_gt, cI_0, cI_n0, cI_inj, lg_cmp_ge, lg_cmp_le, lg_cmp_gt, lg_cmp_lt, lg_cmp_eq, Bool.not_eq_true, Bool.not_eq_false, Nat.not_le, Nat.not_lt] at h11
      refine xv_iconst (v := nI 0) hC dX6_same_42 (by decide) ?_
      exact xv_zreturn hC hr (by rfl) dX6_same_43 (by first | exact rN1 (by rw [fsaV, h4, h11, h35]; rfl) | exact rN0 (by rw [fsaV, h4, h11, h35]; rfl) | exact rN0 (by rw [fsaV, h4, h11]; rfl) | exact rN0 (by rw [fsaV, h4]; rfl)) rfl rfl
    · rw [cI_n0] at h11
      have hy := xIn_cl (by omega) h11
      have hy1 := hy.1
      refine xv_aload_n hC dX6_same_14 rfl rfl ?_
      refine tg_X6_0 hC fl_X6_10 dX6_same_15 ?_
      refine tg_X4_0 hC fl_X6_51 dX6_same_18 ?_
      refine xv_iload_n hC dX6_same_21 rfl rfl ?_
      refine xv_cast (congrArg Value.int hx.2) ?_
      refine al_parts hC dX6_same_22 rfl (by first | assumption | omega) ?_
      refine xv_aload_n hC dX6_same_23 rfl rfl ?_
      refine tg_X6_0 hC fl_X6_10 dX6_same_24 ?_
      refine tg_X4_0 hC fl_X6_51 dX6_same_27 ?_
      refine xv_iload_n hC dX6_same_30 rfl rfl ?_
      refine xv_cast (congrArg Value.int hy.2) ?_
      refine al_parts hC dX6_same_31 rfl (by first | assumption | omega) ?_
      refine xv_callV hC Y_yX0_isLike im_yX0_isLike se_yX0_isLike ml_X6_180 dX6_same_32 (ev_isLike l G h sz (E) (S) (O) (oN on) (sec, lP po, re, cf, oN so, seen, rf) Rd w0 (q := cl x) (q' := cl y) (by omega) (by omega) (by have := hE.lt (show cl x < 26 by omega); omega) (by have := hE.lt (show cl y < 26 by omega); omega)) (wl_eA _ _ _ _ _ _ _ _ _ (by first | assumption | omega)) rfl rfl rfl (Nat.le_of_ble_eq_true rfl) ⟨Nat.le_of_ble_eq_true rfl, Nat.le_of_ble_eq_true rfl⟩ ⟨Nat.le_of_ble_eq_true rfl, Nat.le_of_ble_eq_true rfl⟩ ?_
      refine xv_rs ?_
      refine xv_if_eq (tgt := 42) hC dX6_same_35 (by decide) (fun h35 => ?_) (fun h35 => ?_)
      · try simp (disch := omega) only [nI_leI, nI_ltI, nI_eq, xz_eq, xz_le, xz_gt, cI_0, cI_n0, cI_inj, lg_cmp_ge, lg_cmp_le, lg_cmp_gt, lg_cmp_lt, lg_cmp_eq, Bool.not_eq_true, Bool.not_eq_false, Nat.not_le, Nat.not_lt] at h35
        refine xv_iconst (v := nI 0) hC dX6_same_42 (by decide) ?_
        exact xv_zreturn hC hr (by rfl) dX6_same_43 (by first | exact rN1 (by rw [fsaV, h4, h11, h35]; rfl) | exact rN0 (by rw [fsaV, h4, h11, h35]; rfl) | exact rN0 (by rw [fsaV, h4, h11]; rfl) | exact rN0 (by rw [fsaV, h4]; rfl)) rfl rfl
      · try simp (disch := omega) only [nI_leI, nI_ltI, nI_eq, xz_eq, xz_le, xz_gt, cI_0, cI_n0, cI_inj, lg_cmp_ge, lg_cmp_le, lg_cmp_gt, lg_cmp_lt, lg_cmp_eq, Bool.not_eq_true, Bool.not_eq_false, Nat.not_le, Nat.not_lt] at h35
        refine xv_iconst (v := nI 1) hC dX6_same_38 (by decide) ?_
        refine xv_goto (tgt := 43) hC dX6_same_39 (by decide) ?_
        exact xv_zreturn hC hr (by rfl) dX6_same_43 (by first | exact rN1 (by rw [fsaV, h4, h11, h35]; rfl) | exact rN0 (by rw [fsaV, h4, h11, h35]; rfl) | exact rN0 (by rw [fsaV, h4, h11]; rfl) | exact rN0 (by rw [fsaV, h4]; rfl)) rfl rfl
