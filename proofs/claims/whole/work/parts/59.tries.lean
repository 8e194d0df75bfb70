set_option maxHeartbeats 1000000 in
set_option maxRecDepth 100000 in
theorem ev_get (l : Launch) (G : xD) (h sz : Nat) (E : cE) (S : cS) (O : cO) (on : Nat → Nat) (sec : Nat) (po : Nat → Option Nat) (re cf : Nat → Int32) (so : Nat → Nat) (seen rf : Int32) (Rd : cR) (w0 : xw) (x y : Int32) (hB : fgB E x y = true) : xM l G yX6_get cX6_get 3 (some .long) 1 0 0 [.ref h, .int x, .int y] sz (wC G h E S O (oN on) (sec, lP po, re, cf, oN so, seen, rf) Rd w0) (some (.long (E.2.1 (cl x) (cl y)))) (sz) (wC G h E S O (oN on) (sec, lP po, re, cf, oN so, seen, rf) Rd w0) := by
  refine xM_of (by decide) (Nat.le_of_ble_eq_true rfl) ?_
  intro A p e s m args below meth c hC hr hname
  have hC : xC p s m args meth c cX6_get 3 RX6 G A := hC
  have hr : meth.sig.returnType = (some .long) := hr
  show xV p l e _ s m args below meth c G A 3 _ sz _ 0 0 0 [(0, .ref h), (1, .int x), (2, .int y)] []
  refine xv_iload_n hC dX6_get_0 rfl rfl ?_
  refine xv_callS hC Y_yX6_isPart sm_yX6_isPart ml_X6_65 dX6_get_1 (ev_isPart l G sz _ x) rfl rfl (Nat.le_of_ble_eq_true rfl) ⟨Nat.le_of_ble_eq_true rfl, Nat.le_of_ble_eq_true rfl⟩ ⟨Nat.le_of_ble_eq_true rfl, Nat.le_of_ble_eq_true rfl⟩ ?_
  refine xv_rs ?_
  refine xv_if_eq (tgt := 31) hC dX6_get_4 (by decide) (fun h4 => ?_) (fun h4 => ?_)
  · rw [cI_0] at h4
    simp [fgB, h4] at hB
  · rw [cI_n0] at h4
    have hx := xIn_cl (by omega) h4
    have hx1 := hx.1
    refine xv_iload_n hC dX6_get_7 rfl rfl ?_
    refine xv_callS hC Y_yX6_isPlace sm_yX6_isPlace ml_X6_69 dX6_get_8 (ev_isPlace l G sz _ y) rfl rfl (Nat.le_of_ble_eq_true rfl) ⟨Nat.le_of_ble_eq_true rfl, Nat.le_of_ble_eq_true rfl⟩ ⟨Nat.le_of_ble_eq_true rfl, Nat.le_of_ble_eq_true rfl⟩ ?_
    refine xv_rs ?_
    refine xv_if_eq (tgt := 31) hC dX6_get_11 (by decide) (fun h11 => ?_) (fun h11 => ?_)
    · rw [cI_0] at h11
      simp [fgB, h11] at hB
    · rw [cI_n0] at h11
      have hy := xIn_cl (by omega) h11
      have hy1 := hy.1
      refine xv_aload_n hC dX6_get_14 rfl rfl ?_
      refine tg_X6_0 hC fl_X6_10 dX6_get_15 ?_
      refine tg_X4_0 hC fl_X6_51 dX6_get_18 ?_
      refine xv_iload_n hC dX6_get_21 rfl rfl ?_
      refine xv_cast (congrArg Value.int hx.2) ?_
      refine al_parts hC dX6_get_22 rfl (by first | assumption | omega) ?_
      refine tg_X0_0 hC (by first | assumption | omega) fl_X6_72 dX6_get_23 ?_
      refine xv_iload_n hC dX6_get_26 rfl rfl ?_
      refine xv_cast (congrArg Value.int hy.2) ?_
      refine al_there hC (by first | assumption | omega) dX6_get_27 rfl (by first | assumption | omega) ?_
      refine xv_if_ne (tgt := 41) hC dX6_get_28 (by decide) (fun h28 => ?_) (fun h28 => ?_)
      · refine xv_aload_n hC dX6_get_41 rfl rfl ?_
        refine tg_X6_0 hC fl_X6_10 dX6_get_42 ?_
        refine tg_X4_0 hC fl_X6_51 dX6_get_45 ?_
        refine xv_iload_n hC dX6_get_48 rfl rfl ?_
        refine xv_cast (congrArg Value.int hx.2) ?_
        refine al_parts hC dX6_get_49 rfl (by first | assumption | omega) ?_
        refine tg_X0_1 hC (by first | assumption | omega) fl_X6_83 dX6_get_50 ?_
        refine xv_iload_n hC dX6_get_53 rfl rfl ?_
        refine xv_cast (congrArg Value.int hy.2) ?_
        refine al_values hC (by first | assumption | omega) dX6_get_54 rfl (by first | assumption | omega) ?_
        exact xv_lreturn hC hr dX6_get_55 rfl rfl rfl
      · rw [cI_0] at h28
        simp [fgB, h28] at hB
set_option maxHeartbeats 1000000 in
set_option maxRecDepth 100000 in
theorem ev_get_x (l : Launch) (G : xD) (h sz : Nat) (E : cE) (S : cS) (O : cO) (on : Nat → Nat) (sec : Nat) (po : Nat → Option Nat) (re cf : Nat → Int32) (so : Nat → Nat) (seen rf : Int32) (Rd : cR) (w0 : xw) (hl : l.stackTraces = false) (x y : Int32) (hB : fgB E x y = false) : xTM l G yX6_get cX6_get 3 (some .long) 7 [.ref h, .int x, .int y] sz (wC G h E S O (oN on) (sec, lP po, re, cf, oN so, seen, rf) Rd w0) "java/util/NoSuchElementException" := by
  refine xTM_of (by decide) (Nat.le_of_ble_eq_true rfl) ?_
  intro A p e s m args below meth c hC ht hZ
  have hC : xC p s m args meth c cX6_get 3 RX6 G A := hC
  show xV p l e (xr 7 1 6) s m args below meth c G A 3 (vx_MQ below (fun _ _ _ _ => False) (xXC G A (wC G h E S O (oN on) (sec, lP po, re, cf, oN so, seen, rf) Rd w0) "java/util/NoSuchElementException") args s 1 6 A) sz _ 0 0 0 [(0, .ref h), (1, .int x), (2, .int y)] []
  have J : xV p l e (xr 7 1 6) s m args below meth c G A 3 (vx_MQ below (fun _ _ _ _ => False) (xXC G A (wC G h E S O (oN on) (sec, lP po, re, cf, oN so, seen, rf) Rd w0) "java/util/NoSuchElementException") args s 1 6 A) sz (wC G h E S O (oN on) (sec, lP po, re, cf, oN so, seen, rf) Rd w0) 0 0 31 [(0, .ref h), (1, .int x), (2, .int y)] [] := xv_throwN hC hl ht hZ dX6_get_31 dX6_get_34 dX6_get_35 dX6_get_37 dX6_get_40
  refine xv_iload_n hC dX6_get_0 rfl rfl ?_
  refine xv_callS hC Y_yX6_isPart sm_yX6_isPart ml_X6_65 dX6_get_1 (ev_isPart l G sz _ x) rfl rfl (Nat.le_of_ble_eq_true rfl) ⟨Nat.le_of_ble_eq_true rfl, Nat.le_of_ble_eq_true rfl⟩ ⟨Nat.le_of_ble_eq_true rfl, Nat.le_of_ble_eq_true rfl⟩ ?_
  refine xv_rs ?_
  refine xv_if_eq (tgt := 31) hC dX6_get_4 (by decide) (fun h4 => ?_) (fun h4 => ?_)
  · exact J
  · rw [cI_n0] at h4
    have hx := xIn_cl (by omega) h4
    have hx1 := hx.1
    refine xv_iload_n hC dX6_get_7 rfl rfl ?_
    refine xv_callS hC Y_yX6_isPlace sm_yX6_isPlace ml_X6_69 dX6_get_8 (ev_isPlace l G sz _ y) rfl rfl (Nat.le_of_ble_eq_true rfl) ⟨Nat.le_of_ble_eq_true rfl, Nat.le_of_ble_eq_true rfl⟩ ⟨Nat.le_of_ble_eq_true rfl, Nat.le_of_ble_eq_true rfl⟩ ?_
    refine xv_rs ?_
    refine xv_if_eq (tgt := 31) hC dX6_get_11 (by decide) (fun h11 => ?_) (fun h11 => ?_)
    · exact J
    · rw [cI_n0] at h11
      have hy := xIn_cl (by omega) h11
      have hy1 := hy.1
      refine xv_aload_n hC dX6_get_14 rfl rfl ?_
      refine tg_X6_0 hC fl_X6_10 dX6_get_15 ?_
      refine tg_X4_0 hC fl_X6_51 dX6_get_18 ?_
      refine xv_iload_n hC dX6_get_21 rfl rfl ?_
      refine xv_cast (congrArg Value.int hx.2) ?_
      refine al_parts hC dX6_get_22 rfl (by first | assumption | omega) ?_
      refine tg_X0_0 hC (by first | assumption | omega) fl_X6_72 dX6_get_23 ?_
      refine xv_iload_n hC dX6_get_26 rfl rfl ?_
      refine xv_cast (congrArg Value.int hy.2) ?_
      refine al_there hC (by first | assumption | omega) dX6_get_27 rfl (by first | assumption | omega) ?_
      refine xv_if_ne (tgt := 41) hC dX6_get_28 (by decide) (fun h28 => ?_) (fun h28 => ?_)
      · rw [cI_n0] at h28
        simp [fgB, h4, h11, h28] at hB
      · exact J
set_option maxHeartbeats 1000000 in
set_option maxRecDepth 100000 in
theorem ev_octet (l : Launch) (G : xD) (h sz : Nat) (E : cE) (S : cS) (O : cO) (on : Nat → Nat) (sec : Nat) (po : Nat → Option Nat) (re cf : Nat → Int32) (so : Nat → Nat) (seen rf : Int32) (Rd : cR) (w0 : xw) (hO : O.2.1 0 ≤ 8000) (hF : oFit O) (x : Int32) (hB : xIn x (O.2.1 0) = true) : xM l G yX6_octet cX6_octet 2 (some .byte) 1 0 0 [.ref h, .int x] sz (wC G h E S O (oN on) (sec, lP po, re, cf, oN so, seen, rf) Rd w0) (some (.int (O.1 0 (cl x)))) (sz) (wC G h E S O (oN on) (sec, lP po, re, cf, oN so, seen, rf) Rd w0) := by
  refine xM_of (by decide) (Nat.le_of_ble_eq_true rfl) ?_
  intro A p e s m args below meth c hC hr hname
  have hC : xC p s m args meth c cX6_octet 2 RX6 G A := hC
  have hr : meth.sig.returnType = (some .byte) := hr
  show xV p l e _ s m args below meth c G A 2 _ sz _ 0 0 0 [(0, .ref h), (1, .int x)] []
  refine xv_aload_n hC dX6_octet_0 rfl rfl ?_
  refine tg_X6_1 hC fl_X6_21 dX6_octet_1 ?_
  refine xv_iload_n hC dX6_octet_4 rfl rfl ?_
  refine xv_callV hC Y_yX2_holds im_yX2_holds se_yX2_holds ml_X6_124 dX6_octet_5 (ev_holds l G h sz E S O (oN on) (sec, lP po, re, cf, oN so, seen, rf) Rd w0 (b := 0) (by omega) hO x) (wl_oA _ _ _ _ _ _ _ _ _ (by first | assumption | omega)) rfl rfl rfl (Nat.le_of_ble_eq_true rfl) ⟨Nat.le_of_ble_eq_true rfl, Nat.le_of_ble_eq_true rfl⟩ ⟨Nat.le_of_ble_eq_true rfl, Nat.le_of_ble_eq_true rfl⟩ ?_
  refine xv_rs ?_
  refine xv_if_ne (tgt := 21) hC dX6_octet_8 (by decide) (fun h8 => ?_) (fun h8 => ?_)
  · rw [cI_n0] at h8
    have hx := xIn_cl (by omega) h8
    have hx1 := hx.1
    refine xv_aload_n hC dX6_octet_21 rfl rfl ?_
    refine tg_X6_1 hC fl_X6_21 dX6_octet_22 ?_
    refine tg_X2_0 hC (by first | assumption | omega) fl_X6_132 dX6_octet_25 ?_
    refine xv_iload_n hC dX6_octet_28 rfl rfl ?_
    refine xv_cast (congrArg Value.int hx.2) ?_
    refine al_bytes hC (by first | assumption | omega) dX6_octet_29 rfl (show cl x < 8000 by omega) ?_
    exact xv_zreturn hC hr (congrArg Value.int (xb_fit (hF 0 (cl x)))) dX6_octet_30 rfl rfl rfl
  · rw [cI_0] at h8
    rw [h8] at hB
    exact absurd hB (by decide)
set_option maxHeartbeats 1000000 in
set_option maxRecDepth 100000 in
theorem ev_octet_x (l : Launch) (G : xD) (h sz : Nat) (E : cE) (S : cS) (O : cO) (on : Nat → Nat) (sec : Nat) (po : Nat → Option Nat) (re cf : Nat → Int32) (so : Nat → Nat) (seen rf : Int32) (Rd : cR) (w0 : xw) (hl : l.stackTraces = false) (hO : O.2.1 0 ≤ 8000) (x : Int32) (hB : xIn x (O.2.1 0) = false) : xTM l G yX6_octet cX6_octet 2 (some .byte) 7 [.ref h, .int x] sz (wC G h E S O (oN on) (sec, lP po, re, cf, oN so, seen, rf) Rd w0) "java/lang/ArrayIndexOutOfBoundsException" := by
  refine xTM_of (by decide) (Nat.le_of_ble_eq_true rfl) ?_
  intro A p e s m args below meth c hC ht hZ
  have hC : xC p s m args meth c cX6_octet 2 RX6 G A := hC
  show xV p l e (xr 7 1 6) s m args below meth c G A 2 (vx_MQ below (fun _ _ _ _ => False) (xXC G A (wC G h E S O (oN on) (sec, lP po, re, cf, oN so, seen, rf) Rd w0) "java/lang/ArrayIndexOutOfBoundsException") args s 1 6 A) sz _ 0 0 0 [(0, .ref h), (1, .int x)] []
  have J : xV p l e (xr 7 1 6) s m args below meth c G A 2 (vx_MQ below (fun _ _ _ _ => False) (xXC G A (wC G h E S O (oN on) (sec, lP po, re, cf, oN so, seen, rf) Rd w0) "java/lang/ArrayIndexOutOfBoundsException") args s 1 6 A) sz (wC G h E S O (oN on) (sec, lP po, re, cf, oN so, seen, rf) Rd w0) 0 0 11 [(0, .ref h), (1, .int x)] [] := xv_throwA hC hl ht hZ dX6_octet_11 dX6_octet_14 dX6_octet_15 dX6_octet_17 dX6_octet_20
  refine xv_aload_n hC dX6_octet_0 rfl rfl ?_
  refine tg_X6_1 hC fl_X6_21 dX6_octet_1 ?_
  refine xv_iload_n hC dX6_octet_4 rfl rfl ?_
  refine xv_callV hC Y_yX2_holds im_yX2_holds se_yX2_holds ml_X6_124 dX6_octet_5 (ev_holds l G h sz E S O (oN on) (sec, lP po, re, cf, oN so, seen, rf) Rd w0 (b := 0) (by omega) hO x) (wl_oA _ _ _ _ _ _ _ _ _ (by first | assumption | omega)) rfl rfl rfl (Nat.le_of_ble_eq_true rfl) ⟨Nat.le_of_ble_eq_true rfl, Nat.le_of_ble_eq_true rfl⟩ ⟨Nat.le_of_ble_eq_true rfl, Nat.le_of_ble_eq_true rfl⟩ ?_
  refine xv_rs ?_
  refine xv_if_ne (tgt := 21) hC dX6_octet_8 (by decide) (fun h8 => ?_) (fun h8 => ?_)
  · rw [cI_n0, hB] at h8
    exact absurd h8 (by decide)
  · exact J
theorem lw_out (G : xD) (h : Nat) (E : cE) (S : cS) (O : cO) (od : Nat → Int32) (L : cL) (Rd : Nat × Int32) (ra : Nat → Int32) (Ra : Nat × Int32) (w1 : xw) (ov : Nat) (hov : ov < h ∨ h + 57 ≤ ov) (f : Nat → Int64) (v : Int64) : ∀ a e', wC G h E S O od L Rd (wX G h ra Ra (xup w1 ov (.inl (G.2 1, 1, .inr (.inl (fun _ => v)))))) a = some e' → ∃ e0, xup (wC G h E S O od L Rd (wX G h ra Ra w1)) ov (.inl (G.2 1, 1, .inr (.inl (vp_updL f (nI 0).toNatClampNeg v)))) a = some e0 ∧ ∀ H : Heap, va_at G.1 vwCl (a, e0) H → va_at G.1 vwCl (a, e') H := by
  intro a e' he
  have hcm := (wCX_loc G h E S O od L Rd ra Ra).com (cLoc.one ov (.inl (G.2 1, 1, .inr (.inl (fun _ => v))))) (by omega) w1
  try dsimp only at hcm
  rw [hcm] at he
  by_cases ea : a = ov
  · subst ea
    rw [xup_self] at he ⊢
    refine ⟨_, rfl, fun H z => ?_⟩
    have he := Option.some.inj he
    subst he
    have z : H[a]? = some (vp_cell (G.2 1) (1, .inr (.inl (vp_updL f (nI 0).toNatClampNeg v)))) := z
    show H[a]? = some (vp_cell (G.2 1) (1, .inr (.inl (fun _ => v))))
    rw [z, vp_cell_l, vp_cell_l]
    refine congrArg some (arrV_cong (fun j hj => ?_))
    have h0 : (nI 0).toNatClampNeg = 0 := by decide
    have hj0 : j = 0 := by omega
    rw [h0, hj0]
    simp [vp_updL]
  · rw [xup_ne ea] at he ⊢
    exact ⟨e', he, fun H z => z⟩
set_option maxHeartbeats 1000000 in
set_option maxRecDepth 100000 in
theorem el_get (l : Launch) (G : xD) (h sz : Nat) (E : cE) (S : cS) (O : cO) (on : Nat → Nat) (sec : Nat) (po : Nat → Option Nat) (re cf : Nat → Int32) (so : Nat → Nat) (seen rf : Int32) (Rd : cR) (ra : Nat → Nat) (Ra : cR) (w1 : xw) (ov : Nat) (f : Nat → Int64) (hov : ov < h ∨ h + 57 ≤ ov) (hw0 : w1 ov = some (.inl (G.2 1, 1, .inr (.inl (f))))) (x y : Int32) (hB : fgB E x y = true) : xLW l G yL_get cL_get 5 (some .int) [(0, 9, 12, 13)] 8 1 6 [.ref h, .int x, .int y, .ref ov] sz (wC G h E S O (oN on) (sec, lP po, re, cf, oN so, seen, rf) Rd (wX G h (oN ra) Ra w1)) (fun r _ w' => r = some (.int (nI 0)) ∧ w' = wC G h E S O (oN on) (sec, lP po, re, cf, oN so, seen, rf) Rd (wX G h (oN ra) Ra (xup w1 ov (.inl (G.2 1, 1, .inr (.inl (fun _ => E.2.1 (cl x) (cl y)))))))) := by
  refine xLW_of (by decide) (Nat.le_of_ble_eq_true rfl) ?_
  intro A p e s m args below meth c hC hr ht hZ
  have hC : xC p s m args meth c cL_get 5 RL G A := hC
  have hr : meth.sig.returnType = some .int := hr
  show xV p l e (xr 8 1 6) s m args below meth c G A 5 _ sz _ 0 0 0 [(0, .ref h), (1, .int x), (2, .int y), (3, .ref ov)] []
  refine xv_aload_n hC dL_get_0 rfl rfl ?_
  refine xv_iconst (v := nI 0) hC dL_get_1 (by decide) ?_
  refine xv_aload_n hC dL_get_2 rfl rfl ?_
  refine xv_iload_n hC dL_get_3 rfl rfl ?_
  refine xv_iload_n hC dL_get_4 rfl rfl ?_
  refine xv_callV hC Y_yX6_get im_yX6_get se_yX6_get ml_L_7 dL_get_5 (ev_get l G h sz E S O on sec po re cf so seen rf Rd (wX G h (oN ra) Ra w1) x y hB) (wl_FF _ _ _ _ _ _ _ _ _) rfl rfl rfl (Nat.le_of_ble_eq_true rfl) ⟨(Nat.le_of_ble_eq_true rfl), (Nat.le_of_ble_eq_true rfl)⟩ ⟨(Nat.le_of_ble_eq_true rfl), (Nat.le_of_ble_eq_true rfl)⟩ ?_
  refine xv_rs ?_
  refine xv_last hC dL_get_8 (((wCX_loc G h E S O (oN on) (sec, lP po, re, cf, oN so, seen, rf) Rd (oN ra) Ra).1 w1 ov hov).trans hw0) (vp_in_nI (by omega) (by omega)) ?_
  refine xv_le (w' := wC G h E S O (oN on) (sec, lP po, re, cf, oN so, seen, rf) Rd (wX G h (oN ra) Ra (xup w1 ov (.inl (G.2 1, 1, .inr (.inl (fun _ => E.2.1 (cl x) (cl y)))))))) (lw_out G h E S O (oN on) (sec, lP po, re, cf, oN so, seen, rf) Rd (oN ra) Ra w1 ov hov f _) ?_
  refine xv_goto (tgt := 16) hC dL_get_9 (by decide) ?_
  refine xv_iconst (v := nI 0) hC dL_get_16 (by decide) ?_
  refine xV.wid (k := 1) (n := 6) (Nat.le_of_ble_eq_true rfl) (Nat.le_of_ble_eq_true rfl) ?_
  exact xs_ireturn hC hr dL_get_17 ⟨rfl, rfl⟩
set_option maxHeartbeats 1000000 in
set_option maxRecDepth 100000 in
theorem el_get_x (l : Launch) (G : xD) (h sz : Nat) (E : cE) (S : cS) (O : cO) (on : Nat → Nat) (sec : Nat) (po : Nat → Option Nat) (re cf : Nat → Int32) (so : Nat → Nat) (seen rf : Int32) (Rd : cR) (ra : Nat → Nat) (Ra : cR) (w1 : xw) (hl : l.stackTraces = false) (ov : Nat) (x y : Int32) (hB : fgB E x y = false) : xLW l G yL_get cL_get 5 (some .int) [(0, 9, 12, 13)] 8 1 6 [.ref h, .int x, .int y, .ref ov] sz (wC G h E S O (oN on) (sec, lP po, re, cf, oN so, seen, rf) Rd (wX G h (oN ra) Ra w1)) (fun r _ w' => r = some (.int (nI 1)) ∧ w' = wC G h E S O (oN on) (sec, lP po, re, cf, oN so, seen, rf) Rd (wX G h (oN ra) Ra w1)) := by
  refine xLW_of (by decide) (Nat.le_of_ble_eq_true rfl) ?_
  intro A p e s m args below meth c hC hr ht hZ
  have hC : xC p s m args meth c cL_get 5 RL G A := hC
  have hr : meth.sig.returnType = some .int := hr
  show xV p l e (xr 8 1 6) s m args below meth c G A 5 _ sz _ 0 0 0 [(0, .ref h), (1, .int x), (2, .int y), (3, .ref ov)] []
  have htab : c.exceptionTable.toList = [⟨0, 9, 12, 13⟩] := ht
  refine xv_aload_n hC dL_get_0 rfl rfl ?_
  refine xv_iconst (v := nI 0) hC dL_get_1 (by decide) ?_
  refine xv_aload_n hC dL_get_2 rfl rfl ?_
  refine xv_iload_n hC dL_get_3 rfl rfl ?_
  refine xv_iload_n hC dL_get_4 rfl rfl ?_
  refine xv_callX hC Y_yX6_get im_yX6_get se_yX6_get ml_L_7 dL_get_5 (ev_get_x l G h sz E S O on sec po re cf so seen rf Rd (wX G h (oN ra) Ra w1) hl x y hB) hZ (wl_FF _ _ _ _ _ _ _ _ _) rfl rfl rfl (Nat.le_of_ble_eq_true rfl) ⟨(Nat.le_of_ble_eq_true rfl), (Nat.le_of_ble_eq_true rfl)⟩ ⟨(Nat.le_of_ble_eq_true rfl), (Nat.le_of_ble_eq_true rfl)⟩ _ htab (by decide) (by decide) zLN hZ.2.2.2.2.2.2.2.2.1 (fun sz' q => ?_)
  show xV p l e (xr 8 1 6) s m args below meth c G A 5 _ sz' _ 1 6 12 _ [.ref q]
  refine xv_astore hC dL_get_12 (by decide) ?_
  refine xv_iconst (v := nI 1) hC dL_get_14 (by decide) ?_
  exact xs_ireturn hC hr dL_get_15 ⟨rfl, rfl⟩
set_option maxHeartbeats 1000000 in
set_option maxRecDepth 100000 in
theorem el_octet (l : Launch) (G : xD) (h sz : Nat) (E : cE) (S : cS) (O : cO) (on : Nat → Nat) (sec : Nat) (po : Nat → Option Nat) (re cf : Nat → Int32) (so : Nat → Nat) (seen rf : Int32) (Rd : cR) (ra : Nat → Nat) (Ra : cR) (w1 : xw) (hO : O.2.1 0 ≤ 8000) (hF : oFit O) (ov : Nat) (f : Nat → Int64) (hov : ov < h ∨ h + 57 ≤ ov) (hw0 : w1 ov = some (.inl (G.2 1, 1, .inr (.inl (f))))) (x : Int32) (hB : xIn x (O.2.1 0) = true) : xLW l G yL_octet cL_octet 4 (some .int) [(0, 9, 12, 19)] 8 1 6 [.ref h, .int x, .ref ov] sz (wC G h E S O (oN on) (sec, lP po, re, cf, oN so, seen, rf) Rd (wX G h (oN ra) Ra w1)) (fun r _ w' => r = some (.int (nI 0)) ∧ w' = wC G h E S O (oN on) (sec, lP po, re, cf, oN so, seen, rf) Rd (wX G h (oN ra) Ra (xup w1 ov (.inl (G.2 1, 1, .inr (.inl (fun _ => (O.1 0 (cl x)).toInt64))))))) := by
  refine xLW_of (by decide) (Nat.le_of_ble_eq_true rfl) ?_
  intro A p e s m args below meth c hC hr ht hZ
  have hC : xC p s m args meth c cL_octet 4 RL G A := hC
  have hr : meth.sig.returnType = some .int := hr
  show xV p l e (xr 8 1 6) s m args below meth c G A 4 _ sz _ 0 0 0 [(0, .ref h), (1, .int x), (2, .ref ov)] []
  refine xv_aload_n hC dL_octet_0 rfl rfl ?_
  refine xv_iconst (v := nI 0) hC dL_octet_1 (by decide) ?_
  refine xv_aload_n hC dL_octet_2 rfl rfl ?_
  refine xv_iload_n hC dL_octet_3 rfl rfl ?_
  refine xv_callV hC Y_yX6_octet im_yX6_octet se_yX6_octet ml_L_15 dL_octet_4 (ev_octet l G h sz E S O on sec po re cf so seen rf Rd (wX G h (oN ra) Ra w1) hO hF x hB) (wl_FF _ _ _ _ _ _ _ _ _) rfl rfl rfl (Nat.le_of_ble_eq_true rfl) ⟨(Nat.le_of_ble_eq_true rfl), (Nat.le_of_ble_eq_true rfl)⟩ ⟨(Nat.le_of_ble_eq_true rfl), (Nat.le_of_ble_eq_true rfl)⟩ ?_
  refine xv_rs ?_
  refine xv_i2l hC dL_octet_7 ?_
  refine xv_last hC dL_octet_8 (((wCX_loc G h E S O (oN on) (sec, lP po, re, cf, oN so, seen, rf) Rd (oN ra) Ra).1 w1 ov hov).trans hw0) (vp_in_nI (by omega) (by omega)) ?_
  refine xv_le (w' := wC G h E S O (oN on) (sec, lP po, re, cf, oN so, seen, rf) Rd (wX G h (oN ra) Ra (xup w1 ov (.inl (G.2 1, 1, .inr (.inl (fun _ => (O.1 0 (cl x)).toInt64))))))) (lw_out G h E S O (oN on) (sec, lP po, re, cf, oN so, seen, rf) Rd (oN ra) Ra w1 ov hov f _) ?_
  refine xv_goto (tgt := 15) hC dL_octet_9 (by decide) ?_
  refine xv_iconst (v := nI 0) hC dL_octet_15 (by decide) ?_
  refine xV.wid (k := 1) (n := 6) (Nat.le_of_ble_eq_true rfl) (Nat.le_of_ble_eq_true rfl) ?_
  exact xs_ireturn hC hr dL_octet_16 ⟨rfl, rfl⟩
set_option maxHeartbeats 1000000 in
set_option maxRecDepth 100000 in
theorem el_octet_x (l : Launch) (G : xD) (h sz : Nat) (E : cE) (S : cS) (O : cO) (on : Nat → Nat) (sec : Nat) (po : Nat → Option Nat) (re cf : Nat → Int32) (so : Nat → Nat) (seen rf : Int32) (Rd : cR) (ra : Nat → Nat) (Ra : cR) (w1 : xw) (hl : l.stackTraces = false) (hO : O.2.1 0 ≤ 8000) (ov : Nat) (x : Int32) (hB : xIn x (O.2.1 0) = false) : xLW l G yL_octet cL_octet 4 (some .int) [(0, 9, 12, 19)] 8 1 6 [.ref h, .int x, .ref ov] sz (wC G h E S O (oN on) (sec, lP po, re, cf, oN so, seen, rf) Rd (wX G h (oN ra) Ra w1)) (fun r _ w' => r = some (.int (nI 1)) ∧ w' = wC G h E S O (oN on) (sec, lP po, re, cf, oN so, seen, rf) Rd (wX G h (oN ra) Ra w1)) := by
  refine xLW_of (by decide) (Nat.le_of_ble_eq_true rfl) ?_
  intro A p e s m args below meth c hC hr ht hZ
  have hC : xC p s m args meth c cL_octet 4 RL G A := hC
  have hr : meth.sig.returnType = some .int := hr
  show xV p l e (xr 8 1 6) s m args below meth c G A 4 _ sz _ 0 0 0 [(0, .ref h), (1, .int x), (2, .ref ov)] []
  have htab : c.exceptionTable.toList = [⟨0, 9, 12, 19⟩] := ht
  refine xv_aload_n hC dL_octet_0 rfl rfl ?_
  refine xv_iconst (v := nI 0) hC dL_octet_1 (by decide) ?_
  refine xv_aload_n hC dL_octet_2 rfl rfl ?_
  refine xv_iload_n hC dL_octet_3 rfl rfl ?_
  refine xv_callX hC Y_yX6_octet im_yX6_octet se_yX6_octet ml_L_15 dL_octet_4 (ev_octet_x l G h sz E S O on sec po re cf so seen rf Rd (wX G h (oN ra) Ra w1) hl hO x hB) hZ (wl_FF _ _ _ _ _ _ _ _ _) rfl rfl rfl (Nat.le_of_ble_eq_true rfl) ⟨(Nat.le_of_ble_eq_true rfl), (Nat.le_of_ble_eq_true rfl)⟩ ⟨(Nat.le_of_ble_eq_true rfl), (Nat.le_of_ble_eq_true rfl)⟩ _ htab (by decide) (by decide) cl_L_19 hZ.2.2.2.2.2.2.2.2.2 (fun sz' q => ?_)
  show xV p l e (xr 8 1 6) s m args below meth c G A 4 _ sz' _ 1 6 12 _ [.ref q]
  refine xv_astore_n hC dL_octet_12 rfl (by decide) ?_
  refine xv_iconst (v := nI 1) hC dL_octet_13 (by decide) ?_
  exact xs_ireturn hC hr dL_octet_14 ⟨rfl, rfl⟩
