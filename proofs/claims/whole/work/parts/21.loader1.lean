set_option maxHeartbeats 1000000 in
set_option maxRecDepth 100000 in
theorem ev_allConflicts (l : Launch) (G : xD) (h sz : Nat) (E : cE) (S : cS) (O : cO) (on : Nat → Nat) (sec : Nat) (po : Nat → Option Nat) (re cf : Nat → Int32) (so : Nat → Nat) (seen rf : Int32) (Rd : cR) (w0 : xw) (hsec : sec ≤ 255) : xM l G yX1_allConflicts cX1_allConflicts 3 (some .int) 0 0 0 [.ref (h + 46)] sz (wC G h (E) (S) O (oN on) (sec, lP po, re, cf, oN so, seen, rf) (Rd) w0) (some (.int (acI cf sec))) (sz) (wC G h (E) (S) O (oN on) (sec, lP po, re, cf, oN so, seen, rf) (Rd) w0) := by
  refine xM_of (by decide) (Nat.le_of_ble_eq_true rfl) ?_
  intro A p e s m args below meth c hC hr hname
  have hC : xC p s m args meth c cX1_allConflicts 3 RX1 G A := hC
  have hr : meth.sig.returnType = (some .int) := hr
  show xV p l e _ s m args below meth c G A 3 _ sz _ 0 0 0 [(0, .ref (h + 46))] []
  refine xv_iconst (v := nI 0) hC dX1_allConflicts_0 (by decide) ?_
  refine xv_istore_n hC dX1_allConflicts_1 rfl (by decide) ?_
  refine xv_iconst (v := nI 0) hC dX1_allConflicts_2 (by decide) ?_
  refine xv_istore_n hC dX1_allConflicts_3 rfl (by decide) ?_
  have Lp4 : ∀ (n i : Nat), (i ≤ sec) → (sec < i + n) → xV p l e (xr 0 0 0) s m args below meth c G A 3 (MQ below (xQ G A (some (.int (acI cf sec))) (sz) (wC G h (E) (S) O (oN on) (sec, lP po, re, cf, oN so, seen, rf) (Rd) w0)) args s 0 0 A) sz (wC G h (E) (S) O (oN on) (sec, lP po, re, cf, oN so, seen, rf) (Rd) w0) 0 0 4 [(2, .int (nI i)), (1, .int (acI cf i)), (0, .ref (h + 46))] [] := by
    intro n
    induction n with
    | zero =>
      intro i hi hn
      omega
    | succ n ih4 =>
      intro i hi hn
      refine xv_iload_n hC dX1_allConflicts_4 rfl rfl ?_
      refine xv_aload_n hC dX1_allConflicts_5 rfl rfl ?_
      refine tg_X1_0 hC fl_X1_9 dX1_allConflicts_6 ?_
      refine xv_icmp_ge (tgt := 27) hC dX1_allConflicts_9 (by decide) (fun h9 => ?_) (fun h9 => ?_)
      · try simp (disch := omega) only [nI_leI, nI_ltI, nI_eq, xz_eq, xz_le, xz_gt, cI_0, cI_n0, cI_inj, lg_cmp_ge, lg_cmp_le, lg_cmp_gt, lg_cmp_lt, lg_cmp_eq, Bool.not_eq_true, Bool.not_eq_false, Nat.not_le, Nat.not_lt] at h9
        refine xv_iload_n hC dX1_allConflicts_27 rfl rfl ?_
        exact xv_ireturn hC hr dX1_allConflicts_28 (by rw [show i = sec by omega]) rfl rfl
      · try simp (disch := omega) only [nI_leI, nI_ltI, nI_eq, xz_eq, xz_le, xz_gt, cI_0, cI_n0, cI_inj, lg_cmp_ge, lg_cmp_le, lg_cmp_gt, lg_cmp_lt, lg_cmp_eq, Bool.not_eq_true, Bool.not_eq_false, Nat.not_le, Nat.not_lt] at h9
        refine xv_iload_n hC dX1_allConflicts_12 rfl rfl ?_
        refine xv_aload_n hC dX1_allConflicts_13 rfl rfl ?_
        refine tg_X1_3 hC fl_X1_22 dX1_allConflicts_14 ?_
        refine xv_iload_n hC dX1_allConflicts_17 rfl rfl ?_
        refine al_conflictsOf hC dX1_allConflicts_18 rfl (by first | assumption | omega) ?_
        refine xv_iadd hC dX1_allConflicts_19 ?_
        refine xv_istore_n hC dX1_allConflicts_20 rfl (by decide) ?_
        refine xv_iinc hC dX1_allConflicts_21 rfl (xinc _) (by decide) ?_
        refine xv_goto (tgt := 4) hC dX1_allConflicts_24 (by decide) ?_
        exact ih4 (i + 1) (by omega) (by omega)
  exact Lp4 (sec + 1) 0 (by omega) (by omega)
set_option maxHeartbeats 1000000 in
set_option maxRecDepth 100000 in
theorem ev_isWhole (l : Launch) (G : xD) (h sz : Nat) (E : cE) (S : cS) (O : cO) (on : Nat → Nat) (sec : Nat) (po : Nat → Option Nat) (re cf : Nat → Int32) (so : Nat → Nat) (seen rf : Int32) (Rd : cR) (w0 : xw) (hO : O.2.1 0 ≤ 8000) : xM l G yX1_isWhole cX1_isWhole 1 (some .boolean) 2 0 0 [.ref (h + 46)] sz (wC G h (E) (S) O (oN on) (sec, lP po, re, cf, oN so, seen, rf) (Rd) w0) (some (.int (cI (isW O)))) (sz) (wC G h (E) (S) O (oN on) (sec, lP po, re, cf, oN so, seen, rf) (Rd) w0) := by
  refine xM_of (by decide) (Nat.le_of_ble_eq_true rfl) ?_
  intro A p e s m args below meth c hC hr hname
  have hC : xC p s m args meth c cX1_isWhole 1 RX1 G A := hC
  have hr : meth.sig.returnType = (some .boolean) := hr
  show xV p l e _ s m args below meth c G A 1 _ sz _ 0 0 0 [(0, .ref (h + 46))] []
  refine xv_aload_n hC dX1_isWhole_0 rfl rfl ?_
  refine tg_X1_5 hC fl_X1_48 dX1_isWhole_1 ?_
  refine xv_iconst (v := nI 2) hC dX1_isWhole_4 (by decide) ?_
  refine xv_callV hC Y_yX2_at im_yX2_at se_yX2_at ml_X1_64 dX1_isWhole_5 (ev_at l G h sz (E) (S) O (oN on) (sec, lP po, re, cf, oN so, seen, rf) (Rd) w0 (b := 0) (by omega) hO (i := 2) (by omega)) (wl_oA _ _ _ _ _ _ _ _ _ (by first | assumption | omega)) rfl rfl rfl (Nat.le_of_ble_eq_true rfl) ⟨Nat.le_of_ble_eq_true rfl, Nat.le_of_ble_eq_true rfl⟩ ⟨Nat.le_of_ble_eq_true rfl, Nat.le_of_ble_eq_true rfl⟩ ?_
  refine xv_rs ?_
  refine xv_if_ne (tgt := 15) hC dX1_isWhole_8 (by decide) (fun h8 => ?_) (fun h8 => ?_)
  · refine xv_iconst (v := nI 0) hC dX1_isWhole_15 (by decide) ?_
    exact xv_zreturn hC hr (by rfl) dX1_isWhole_16 (by first | exact rN0 (by simp [isW, h8]) | exact rN1 (by simp [isW, h8])) rfl rfl
  · refine xv_iconst (v := nI 1) hC dX1_isWhole_11 (by decide) ?_
    refine xv_goto (tgt := 16) hC dX1_isWhole_12 (by decide) ?_
    exact xv_zreturn hC hr (by rfl) dX1_isWhole_16 (by first | exact rN0 (by simp [isW, h8]) | exact rN1 (by simp [isW, h8])) rfl rfl
set_option maxHeartbeats 1000000 in
set_option maxRecDepth 100000 in
theorem ev_headLength (l : Launch) (G : xD) (h sz : Nat) (E : cE) (S : cS) (O : cO) (on : Nat → Nat) (sec : Nat) (po : Nat → Option Nat) (re cf : Nat → Int32) (so : Nat → Nat) (seen rf : Int32) (Rd : cR) (w0 : xw) (hO : O.2.1 0 ≤ 8000) : xM l G yX1_headLength cX1_headLength 1 (some .int) 3 0 0 [.ref (h + 46)] sz (wC G h (E) (S) O (oN on) (sec, lP po, re, cf, oN so, seen, rf) (Rd) w0) (some (.int (nI (hdL O)))) (sz) (wC G h (E) (S) O (oN on) (sec, lP po, re, cf, oN so, seen, rf) (Rd) w0) := by
  refine xM_of (by decide) (Nat.le_of_ble_eq_true rfl) ?_
  intro A p e s m args below meth c hC hr hname
  have hC : xC p s m args meth c cX1_headLength 1 RX1 G A := hC
  have hr : meth.sig.returnType = (some .int) := hr
  show xV p l e _ s m args below meth c G A 1 _ sz _ 0 0 0 [(0, .ref (h + 46))] []
  refine xv_aload_n hC dX1_headLength_0 rfl rfl ?_
  refine xv_callV hC Y_yX1_isWhole im_yX1_isWhole se_yX1_isWhole ml_X1_82 dX1_headLength_1 (ev_isWhole l G h sz E S O on sec po re cf so seen rf Rd w0 hO) (wl_Loader _ _ _ _ _ _ _ _ _) rfl rfl rfl (Nat.le_of_ble_eq_true rfl) ⟨Nat.le_of_ble_eq_true rfl, Nat.le_of_ble_eq_true rfl⟩ ⟨Nat.le_of_ble_eq_true rfl, Nat.le_of_ble_eq_true rfl⟩ ?_
  refine xv_rs ?_
  refine xv_if_eq (tgt := 11) hC dX1_headLength_4 (by decide) (fun h4 => ?_) (fun h4 => ?_)
  · try simp (disch := omega) only [nI_leI, nI_ltI, nI_eq, xz_eq, xz_le, xz_gt, cI_0, cI_n0, cI_inj, lg_cmp_ge, lg_cmp_le, lg_cmp_gt, lg_cmp_lt, lg_cmp_eq, Bool.not_eq_true, Bool.not_eq_false, Nat.not_le, Nat.not_lt] at h4
    refine xv_bipush (v := nI 9) hC dX1_headLength_11 (by decide) ?_
    exact xv_ireturn hC hr dX1_headLength_13 (by simp [hdL, h4]) rfl rfl
  · try simp (disch := omega) only [nI_leI, nI_ltI, nI_eq, xz_eq, xz_le, xz_gt, cI_0, cI_n0, cI_inj, lg_cmp_ge, lg_cmp_le, lg_cmp_gt, lg_cmp_lt, lg_cmp_eq, Bool.not_eq_true, Bool.not_eq_false, Nat.not_le, Nat.not_lt] at h4
    refine xv_iconst (v := nI 5) hC dX1_headLength_7 (by decide) ?_
    refine xv_goto (tgt := 13) hC dX1_headLength_8 (by decide) ?_
    exact xv_ireturn hC hr dX1_headLength_13 (by simp [hdL, h4]) rfl rfl
set_option maxHeartbeats 1000000 in
set_option maxRecDepth 100000 in
theorem ev_refusalAsWhole (l : Launch) (G : xD) (h sz : Nat) (E : cE) (S : cS) (O : cO) (on : Nat → Nat) (sec : Nat) (po : Nat → Option Nat) (re cf : Nat → Int32) (so : Nat → Nat) (seen rf : Int32) (Rd : cR) (w0 : xw) (hO : O.2.1 0 ≤ 8000) : xM l G yX1_refusalAsWhole cX1_refusalAsWhole 1 (some .int) 4 0 0 [.ref (h + 46)] sz (wC G h (E) (S) O (oN on) (sec, lP po, re, cf, oN so, seen, rf) (Rd) w0) (some (.int (raW S O))) (sz) (wC G h (E) (S) O (oN on) (sec, lP po, re, cf, oN so, seen, rf) (Rd) w0) := by
  refine xM_of (by decide) (Nat.le_of_ble_eq_true rfl) ?_
  intro A p e s m args below meth c hC hr hname
  have hC : xC p s m args meth c cX1_refusalAsWhole 1 RX1 G A := hC
  have hr : meth.sig.returnType = (some .int) := hr
  show xV p l e _ s m args below meth c G A 1 _ sz _ 0 0 0 [(0, .ref (h + 46))] []
  refine xv_aload_n hC dX1_refusalAsWhole_0 rfl rfl ?_
  refine tg_X1_5 hC fl_X1_48 dX1_refusalAsWhole_1 ?_
  refine xv_iconst (v := nI 0) hC dX1_refusalAsWhole_4 (by decide) ?_
  refine xv_callV hC Y_yX2_at im_yX2_at se_yX2_at ml_X1_64 dX1_refusalAsWhole_5 (ev_at l G h sz (E) (S) O (oN on) (sec, lP po, re, cf, oN so, seen, rf) (Rd) w0 (b := 0) (by omega) hO (i := 0) (by omega)) (wl_oA _ _ _ _ _ _ _ _ _ (by first | assumption | omega)) rfl rfl rfl (Nat.le_of_ble_eq_true rfl) ⟨Nat.le_of_ble_eq_true rfl, Nat.le_of_ble_eq_true rfl⟩ ⟨Nat.le_of_ble_eq_true rfl, Nat.le_of_ble_eq_true rfl⟩ ?_
  refine xv_rs ?_
  refine xv_bipush (v := nI 70) hC dX1_refusalAsWhole_8 (by decide) ?_
  refine xv_icmp_ne (tgt := 52) hC dX1_refusalAsWhole_10 (by decide) (fun h10 => ?_) (fun h10 => ?_)
  · refine xv_iconst (v := nI 1) hC dX1_refusalAsWhole_52 (by decide) ?_
    exact xv_ireturn hC hr dX1_refusalAsWhole_53 (rI (raW_1 (fun z => by first | exact absurd z.1 h10 | exact absurd z.2.1 h23 | exact absurd h35 z.2.2.1 | exact absurd z.2.2.2 h49))) rfl rfl
  · refine xv_aload_n hC dX1_refusalAsWhole_13 rfl rfl ?_
    refine tg_X1_5 hC fl_X1_48 dX1_refusalAsWhole_14 ?_
    refine xv_iconst (v := nI 1) hC dX1_refusalAsWhole_17 (by decide) ?_
    refine xv_callV hC Y_yX2_at im_yX2_at se_yX2_at ml_X1_64 dX1_refusalAsWhole_18 (ev_at l G h sz (E) (S) O (oN on) (sec, lP po, re, cf, oN so, seen, rf) (Rd) w0 (b := 0) (by omega) hO (i := 1) (by omega)) (wl_oA _ _ _ _ _ _ _ _ _ (by first | assumption | omega)) rfl rfl rfl (Nat.le_of_ble_eq_true rfl) ⟨Nat.le_of_ble_eq_true rfl, Nat.le_of_ble_eq_true rfl⟩ ⟨Nat.le_of_ble_eq_true rfl, Nat.le_of_ble_eq_true rfl⟩ ?_
    refine xv_rs ?_
    refine xv_bipush (v := nI 77) hC dX1_refusalAsWhole_21 (by decide) ?_
    refine xv_icmp_ne (tgt := 52) hC dX1_refusalAsWhole_23 (by decide) (fun h23 => ?_) (fun h23 => ?_)
    · refine xv_iconst (v := nI 1) hC dX1_refusalAsWhole_52 (by decide) ?_
      exact xv_ireturn hC hr dX1_refusalAsWhole_53 (rI (raW_1 (fun z => by first | exact absurd z.1 h10 | exact absurd z.2.1 h23 | exact absurd h35 z.2.2.1 | exact absurd z.2.2.2 h49))) rfl rfl
    · refine xv_aload_n hC dX1_refusalAsWhole_26 rfl rfl ?_
      refine tg_X1_5 hC fl_X1_48 dX1_refusalAsWhole_27 ?_
      refine xv_iconst (v := nI 2) hC dX1_refusalAsWhole_30 (by decide) ?_
      refine xv_callV hC Y_yX2_at im_yX2_at se_yX2_at ml_X1_64 dX1_refusalAsWhole_31 (ev_at l G h sz (E) (S) O (oN on) (sec, lP po, re, cf, oN so, seen, rf) (Rd) w0 (b := 0) (by omega) hO (i := 2) (by omega)) (wl_oA _ _ _ _ _ _ _ _ _ (by first | assumption | omega)) rfl rfl rfl (Nat.le_of_ble_eq_true rfl) ⟨Nat.le_of_ble_eq_true rfl, Nat.le_of_ble_eq_true rfl⟩ ⟨Nat.le_of_ble_eq_true rfl, Nat.le_of_ble_eq_true rfl⟩ ?_
      refine xv_rs ?_
      refine xv_iconst (v := nI 1) hC dX1_refusalAsWhole_34 (by decide) ?_
      refine xv_icmp_gt (tgt := 52) hC dX1_refusalAsWhole_35 (by decide) (fun h35 => ?_) (fun h35 => ?_)
      · refine xv_iconst (v := nI 1) hC dX1_refusalAsWhole_52 (by decide) ?_
        exact xv_ireturn hC hr dX1_refusalAsWhole_53 (rI (raW_1 (fun z => by first | exact absurd z.1 h10 | exact absurd z.2.1 h23 | exact absurd h35 z.2.2.1 | exact absurd z.2.2.2 h49))) rfl rfl
      · refine xv_aload_n hC dX1_refusalAsWhole_38 rfl rfl ?_
        refine tg_X1_5 hC fl_X1_48 dX1_refusalAsWhole_39 ?_
        refine tg_X2_1 hC (by first | assumption | omega) fl_X1_70 dX1_refusalAsWhole_42 ?_
        refine xv_aload_n hC dX1_refusalAsWhole_45 rfl rfl ?_
        refine xv_callV hC Y_yX1_headLength im_yX1_headLength se_yX1_headLength ml_X1_73 dX1_refusalAsWhole_46 (ev_headLength l G h sz E S O on sec po re cf so seen rf Rd w0 hO) (wl_Loader _ _ _ _ _ _ _ _ _) rfl rfl rfl (Nat.le_of_ble_eq_true rfl) ⟨Nat.le_of_ble_eq_true rfl, Nat.le_of_ble_eq_true rfl⟩ ⟨Nat.le_of_ble_eq_true rfl, Nat.le_of_ble_eq_true rfl⟩ ?_
        refine xv_rs ?_
        have hdl : hdL O ≤ 9 := by unfold hdL; split <;> omega
        refine xv_icmp_ge (tgt := 54) hC dX1_refusalAsWhole_49 (by decide) (fun h49 => ?_) (fun h49 => ?_)
        · rw [nI_leI (by omega) (by omega)] at h49
          refine xv_aload_n hC dX1_refusalAsWhole_54 rfl rfl ?_
          refine tg_X1_5 hC fl_X1_48 dX1_refusalAsWhole_55 ?_
          refine xv_iconst (v := nI 3) hC dX1_refusalAsWhole_58 (by decide) ?_
          refine xv_callV hC Y_yX2_at im_yX2_at se_yX2_at ml_X1_64 dX1_refusalAsWhole_59 (ev_at l G h sz (E) (S) O (oN on) (sec, lP po, re, cf, oN so, seen, rf) (Rd) w0 (b := 0) (by omega) hO (i := 3) (by omega)) (wl_oA _ _ _ _ _ _ _ _ _ (by first | assumption | omega)) rfl rfl rfl (Nat.le_of_ble_eq_true rfl) ⟨Nat.le_of_ble_eq_true rfl, Nat.le_of_ble_eq_true rfl⟩ ⟨Nat.le_of_ble_eq_true rfl, Nat.le_of_ble_eq_true rfl⟩ ?_
          refine xv_rs ?_
          refine xv_aload_n hC dX1_refusalAsWhole_62 rfl rfl ?_
          refine tg_X1_4 hC fl_X1_44 dX1_refusalAsWhole_63 ?_
          refine tg_X4_3 hC fl_X1_77 dX1_refusalAsWhole_66 ?_
          refine xv_icmp_le (tgt := 74) hC dX1_refusalAsWhole_69 (by decide) (fun h69 => ?_) (fun h69 => ?_)
          · refine xv_aload_n hC dX1_refusalAsWhole_74 rfl rfl ?_
            refine xv_callV hC Y_yX1_isWhole im_yX1_isWhole se_yX1_isWhole ml_X1_82 dX1_refusalAsWhole_75 (ev_isWhole l G h sz E S O on sec po re cf so seen rf Rd w0 hO) (wl_Loader _ _ _ _ _ _ _ _ _) rfl rfl rfl (Nat.le_of_ble_eq_true rfl) ⟨Nat.le_of_ble_eq_true rfl, Nat.le_of_ble_eq_true rfl⟩ ⟨Nat.le_of_ble_eq_true rfl, Nat.le_of_ble_eq_true rfl⟩ ?_
            refine xv_rs ?_
            refine xv_if_ne (tgt := 111) hC dX1_refusalAsWhole_78 (by decide) (fun h78 => ?_) (fun h78 => ?_)
            · try simp (disch := omega) only [nI_leI, nI_ltI, nI_eq, xz_eq, xz_le, xz_gt, cI_0, cI_n0, cI_inj, lg_cmp_ge, lg_cmp_le, lg_cmp_gt, lg_cmp_lt, lg_cmp_eq, Bool.not_eq_true, Bool.not_eq_false, Nat.not_le, Nat.not_lt] at h78
              refine xv_iconst (v := nI 0) hC dX1_refusalAsWhole_111 (by decide) ?_
              exact xv_ireturn hC hr dX1_refusalAsWhole_112 (rI (raW_ok h10 h23 h35 h49 h69 (by first | exact Or.inl h78 | exact Or.inr ⟨h88, h106⟩))) rfl rfl
            · try simp (disch := omega) only [nI_leI, nI_ltI, nI_eq, xz_eq, xz_le, xz_gt, cI_0, cI_n0, cI_inj, lg_cmp_ge, lg_cmp_le, lg_cmp_gt, lg_cmp_lt, lg_cmp_eq, Bool.not_eq_true, Bool.not_eq_false, Nat.not_le, Nat.not_lt] at h78
              refine xv_aload_n hC dX1_refusalAsWhole_81 rfl rfl ?_
              refine tg_X1_4 hC fl_X1_44 dX1_refusalAsWhole_82 ?_
              refine tg_X4_6 hC fl_X1_86 dX1_refusalAsWhole_85 ?_
              refine xv_if_eq (tgt := 109) hC dX1_refusalAsWhole_88 (by decide) (fun h88 => ?_) (fun h88 => ?_)
              · try simp (disch := omega) only [nI_leI, nI_ltI, nI_eq, xz_eq, xz_le, xz_gt, cI_0, cI_n0, cI_inj, lg_cmp_ge, lg_cmp_le, lg_cmp_gt, lg_cmp_lt, lg_cmp_eq, Bool.not_eq_true, Bool.not_eq_false, Nat.not_le, Nat.not_lt] at h88
                refine xv_iconst (v := nI 3) hC dX1_refusalAsWhole_109 (by decide) ?_
                exact xv_ireturn hC hr dX1_refusalAsWhole_110 (rI (raW_3 h10 h23 h35 h49 h69 h78 (by first | exact Or.inl h88 | exact Or.inr h106))) rfl rfl
              · try simp (disch := omega) only [nI_leI, nI_ltI, nI_eq, xz_eq, xz_le, xz_gt, cI_0, cI_n0, cI_inj, lg_cmp_ge, lg_cmp_le, lg_cmp_gt, lg_cmp_lt, lg_cmp_eq, Bool.not_eq_true, Bool.not_eq_false, Nat.not_le, Nat.not_lt] at h88
                refine xv_aload_n hC dX1_refusalAsWhole_91 rfl rfl ?_
                refine tg_X1_4 hC fl_X1_44 dX1_refusalAsWhole_92 ?_
                refine tg_X4_7 hC fl_X1_90 dX1_refusalAsWhole_95 ?_
                refine xv_aload_n hC dX1_refusalAsWhole_98 rfl rfl ?_
                refine tg_X1_5 hC fl_X1_48 dX1_refusalAsWhole_99 ?_
                refine xv_iconst (v := nI 4) hC dX1_refusalAsWhole_102 (by decide) ?_
                refine xv_callV hC Y_yX2_fourAt im_yX2_fourAt se_yX2_fourAt ml_X1_93 dX1_refusalAsWhole_103 (ev_fourAt l G h sz (E) (S) O (oN on) (sec, lP po, re, cf, oN so, seen, rf) (Rd) w0 (b := 0) (by omega) hO (i := 4) (by omega)) (wl_oA _ _ _ _ _ _ _ _ _ (by first | assumption | omega)) rfl rfl rfl (Nat.le_of_ble_eq_true rfl) ⟨Nat.le_of_ble_eq_true rfl, Nat.le_of_ble_eq_true rfl⟩ ⟨Nat.le_of_ble_eq_true rfl, Nat.le_of_ble_eq_true rfl⟩ ?_
                refine xv_rs ?_
                refine xv_icmp_eq (tgt := 111) hC dX1_refusalAsWhole_106 (by decide) (fun h106 => ?_) (fun h106 => ?_)
                · refine xv_iconst (v := nI 0) hC dX1_refusalAsWhole_111 (by decide) ?_
                  exact xv_ireturn hC hr dX1_refusalAsWhole_112 (rI (raW_ok h10 h23 h35 h49 h69 (by first | exact Or.inl h78 | exact Or.inr ⟨h88, h106⟩))) rfl rfl
                · refine xv_iconst (v := nI 3) hC dX1_refusalAsWhole_109 (by decide) ?_
                  exact xv_ireturn hC hr dX1_refusalAsWhole_110 (rI (raW_3 h10 h23 h35 h49 h69 h78 (by first | exact Or.inl h88 | exact Or.inr h106))) rfl rfl
          · refine xv_iconst (v := nI 2) hC dX1_refusalAsWhole_72 (by decide) ?_
            exact xv_ireturn hC hr dX1_refusalAsWhole_73 (rI (raW_2 h10 h23 h35 h49 h69)) rfl rfl
        · rw [nI_leI (by omega) (by omega)] at h49
          refine xv_iconst (v := nI 1) hC dX1_refusalAsWhole_52 (by decide) ?_
          exact xv_ireturn hC hr dX1_refusalAsWhole_53 (rI (raW_1 (fun z => by first | exact absurd z.1 h10 | exact absurd z.2.1 h23 | exact absurd h35 z.2.2.1 | exact absurd z.2.2.2 h49))) rfl rfl
set_option maxHeartbeats 1000000 in
set_option maxRecDepth 100000 in
theorem ev_nextPart (l : Launch) (G : xD) (h sz : Nat) (E : cE) (S : cS) (O : cO) (on : Nat → Nat) (sec : Nat) (po : Nat → Option Nat) (re cf : Nat → Int32) (so : Nat → Nat) (seen rf : Int32) (Rd : cR) (w0 : xw) (hO : O.2.1 0 ≤ 8000) (hp : Rd.1 ≤ 8000) : xM l G yX1_nextPart cX1_nextPart 2 (some .int) 2 0 0 [.ref (h + 46)] sz (wC G h (E) (S) O (oN on) (sec, lP po, re, cf, oN so, seen, rf) (Rd) w0) (some (.int (nxV O Rd))) (sz) (wC G h (E) (S) O (oN on) (sec, lP po, re, cf, oN so, seen, rf) (npR O Rd seen) w0) := by
  refine xM_of (by decide) (Nat.le_of_ble_eq_true rfl) ?_
  intro A p e s m args below meth c hC hr hname
  have hC : xC p s m args meth c cX1_nextPart 2 RX1 G A := hC
  have hr : meth.sig.returnType = (some .int) := hr
  show xV p l e _ s m args below meth c G A 2 _ sz _ 0 0 0 [(0, .ref (h + 46))] []
  refine xv_aload_n hC dX1_nextPart_0 rfl rfl ?_
  refine tg_X1_6 hC fl_X1_57 dX1_nextPart_1 ?_
  refine xv_callV hC Y_yX3_next im_yX3_next se_yX3_next ml_X1_136 dX1_nextPart_4 (ev_next l G h sz E S O (oN on) (sec, lP po, re, cf, oN so, seen, rf) Rd w0 hO hp) (wl_Reader _ _ _ _ _ _ _ _ _) rfl rfl rfl (Nat.le_of_ble_eq_true rfl) ⟨Nat.le_of_ble_eq_true rfl, Nat.le_of_ble_eq_true rfl⟩ ⟨Nat.le_of_ble_eq_true rfl, Nat.le_of_ble_eq_true rfl⟩ ?_
  refine xv_rs ?_
  refine xv_istore_n hC dX1_nextPart_7 rfl (by decide) ?_
  refine xv_iload_n hC dX1_nextPart_8 rfl rfl ?_
  refine xv_callSN (host := "FormatFiles") hC Y_yX6_isPart sm_yX6_isPart (by decide) dX1_nextPart_9 (ev_isPart l G sz _ (nxV O Rd)) rfl rfl (Nat.le_of_ble_eq_true rfl) ⟨Nat.le_of_ble_eq_true rfl, Nat.le_of_ble_eq_true rfl⟩ ⟨Nat.le_of_ble_eq_true rfl, Nat.le_of_ble_eq_true rfl⟩ ?_
  refine xv_rs ?_
  refine xv_if_eq (tgt := 26) hC dX1_nextPart_12 (by decide) (fun h12 => ?_) (fun h12 => ?_)
  · try simp (disch := omega) only [nI_leI, nI_ltI, nI_eq, xz_eq, xz_le, xz_gt, cI_0, cI_n0, cI_inj, lg_cmp_ge, lg_cmp_le, lg_cmp_gt, lg_cmp_lt, lg_cmp_eq, Bool.not_eq_true, Bool.not_eq_false, Nat.not_le, Nat.not_lt] at h12
    refine xv_aload_n hC dX1_nextPart_26 rfl rfl ?_
    refine tg_X1_6 hC fl_X1_57 dX1_nextPart_27 ?_
    refine xv_iconst (v := nI 5) hC dX1_nextPart_30 (by decide) ?_
    refine xv_callV hC Y_yX3_refuse im_yX3_refuse se_yX3_refuse ml_X1_143 dX1_nextPart_31 (ev_refuse l G h sz E S O (oN on) (sec, lP po, re, cf, oN so, seen, rf) (nxR O Rd) w0 (nI 5)) (wl_Reader _ _ _ _ _ _ _ _ _) rfl rfl rfl (Nat.le_of_ble_eq_true rfl) ⟨Nat.le_of_ble_eq_true rfl, Nat.le_of_ble_eq_true rfl⟩ ⟨Nat.le_of_ble_eq_true rfl, Nat.le_of_ble_eq_true rfl⟩ ?_
    refine xv_rn ?_
    refine xv_iload_n hC dX1_nextPart_34 rfl rfl ?_
    exact xv_ireturn hC hr dX1_nextPart_35 rfl rfl (by simp [npR, npOk, *])
  · rw [cI_n0] at h12
    have hlt : nxN O Rd < 32 := by
      have := (nxV_nI O Rd).1
      obtain ⟨j, h1, h2⟩ := xIn_of (by omega) h12
      unfold nxN
      rw [h2, nI_clamp (by omega)]
      omega
    refine xv_aload_n hC dX1_nextPart_15 rfl rfl ?_
    refine tg_X1_11 hC fl_X1_38 dX1_nextPart_16 ?_
    refine xv_iload_n hC dX1_nextPart_19 rfl rfl ?_
    refine xv_cast (congrArg Value.int (nxV_nI O Rd).1) ?_
    refine xv_callSN (host := "FormatFiles") hC Y_yX6_isIn sm_yX6_isIn (by decide) dX1_nextPart_20 (ev_isIn l G sz _ seen (q := nxN O Rd) hlt) rfl rfl (Nat.le_of_ble_eq_true rfl) ⟨Nat.le_of_ble_eq_true rfl, Nat.le_of_ble_eq_true rfl⟩ ⟨Nat.le_of_ble_eq_true rfl, Nat.le_of_ble_eq_true rfl⟩ ?_
    refine xv_rs ?_
    refine xv_if_eq (tgt := 34) hC dX1_nextPart_23 (by decide) (fun h23 => ?_) (fun h23 => ?_)
    · try simp (disch := omega) only [nI_leI, nI_ltI, nI_eq, xz_eq, xz_le, xz_gt, cI_0, cI_n0, cI_inj, lg_cmp_ge, lg_cmp_le, lg_cmp_gt, lg_cmp_lt, lg_cmp_eq, Bool.not_eq_true, Bool.not_eq_false, Nat.not_le, Nat.not_lt] at h23
      refine xv_iload_n hC dX1_nextPart_34 rfl rfl ?_
      exact xv_ireturn hC hr dX1_nextPart_35 rfl rfl (by simp [npR, npOk, *])
    · try simp (disch := omega) only [nI_leI, nI_ltI, nI_eq, xz_eq, xz_le, xz_gt, cI_0, cI_n0, cI_inj, lg_cmp_ge, lg_cmp_le, lg_cmp_gt, lg_cmp_lt, lg_cmp_eq, Bool.not_eq_true, Bool.not_eq_false, Nat.not_le, Nat.not_lt] at h23
      refine xv_aload_n hC dX1_nextPart_26 rfl rfl ?_
      refine tg_X1_6 hC fl_X1_57 dX1_nextPart_27 ?_
      refine xv_iconst (v := nI 5) hC dX1_nextPart_30 (by decide) ?_
      refine xv_callV hC Y_yX3_refuse im_yX3_refuse se_yX3_refuse ml_X1_143 dX1_nextPart_31 (ev_refuse l G h sz E S O (oN on) (sec, lP po, re, cf, oN so, seen, rf) (nxR O Rd) w0 (nI 5)) (wl_Reader _ _ _ _ _ _ _ _ _) rfl rfl rfl (Nat.le_of_ble_eq_true rfl) ⟨Nat.le_of_ble_eq_true rfl, Nat.le_of_ble_eq_true rfl⟩ ⟨Nat.le_of_ble_eq_true rfl, Nat.le_of_ble_eq_true rfl⟩ ?_
      refine xv_rn ?_
      refine xv_iload_n hC dX1_nextPart_34 rfl rfl ?_
      exact xv_ireturn hC hr dX1_nextPart_35 rfl rfl (by simp [npR, npOk, *])
set_option maxHeartbeats 1000000 in
set_option maxRecDepth 100000 in
theorem ev_hasOwnRows_none (l : Launch) (G : xD) (h sz : Nat) (E : cE) (S : cS) (O : cO) (on : Nat → Nat) (sec : Nat) (po : Nat → Option Nat) (re cf : Nat → Int32) (so : Nat → Nat) (seen rf : Int32) (Rd : cR) (w0 : xw) : xM l G yX1_hasOwnRows cX1_hasOwnRows 2 (some .boolean) 1 0 0 [.ref (h + 46), .int (-1)] sz (wC G h (E) (S) O (oN on) (sec, lP po, re, cf, oN so, seen, rf) (Rd) w0) (some (.int (cI (hoB so none)))) sz (wC G h (E) (S) O (oN on) (sec, lP po, re, cf, oN so, seen, rf) (Rd) w0) := by
  refine xM_of (by decide) (Nat.le_of_ble_eq_true rfl) ?_
  intro A p e s m args below meth c hC hr hname
  have hC : xC p s m args meth c cX1_hasOwnRows 2 RX1 G A := hC
  have hr : meth.sig.returnType = (some .boolean) := hr
  show xV p l e _ s m args below meth c G A 2 _ sz _ 0 0 0 [(0, .ref (h + 46)), (1, .int (-1))] []
  refine xv_iload_n hC dX1_hasOwnRows_0 rfl rfl ?_
  refine xv_callSN (host := "FormatFiles") hC Y_yX6_isPart sm_yX6_isPart (by decide) dX1_hasOwnRows_1 (ev_isPart l G sz _ (-1)) rfl rfl (Nat.le_of_ble_eq_true rfl) ⟨Nat.le_of_ble_eq_true rfl, Nat.le_of_ble_eq_true rfl⟩ ⟨Nat.le_of_ble_eq_true rfl, Nat.le_of_ble_eq_true rfl⟩ ?_
  refine xv_rs ?_
  refine xv_if_eq (tgt := 21) hC dX1_hasOwnRows_4 (by decide) (fun h4 => ?_) (fun h4 => ?_)
  · refine xv_iconst (v := nI 0) hC dX1_hasOwnRows_21 (by decide) ?_
    exact xv_zreturn hC hr (by rfl) dX1_hasOwnRows_22 rfl rfl rfl
  · exact absurd h4 (by decide)
set_option maxHeartbeats 1000000 in
set_option maxRecDepth 100000 in
theorem ev_hasOwnRows_some (l : Launch) (G : xD) (h sz : Nat) (E : cE) (S : cS) (O : cO) (on : Nat → Nat) (sec : Nat) (po : Nat → Option Nat) (re cf : Nat → Int32) (so : Nat → Nat) (seen rf : Int32) (Rd : cR) (w0 : xw) {q : Nat} (hq : q < 12) (hso : ∀ j, so j < 12) : xM l G yX1_hasOwnRows cX1_hasOwnRows 2 (some .boolean) 1 0 0 [.ref (h + 46), .int (nI q)] sz (wC G h (E) (S) O (oN on) (sec, lP po, re, cf, oN so, seen, rf) (Rd) w0) (some (.int (cI (hoB so (some q))))) (sz) (wC G h (E) (S) O (oN on) (sec, lP po, re, cf, oN so, seen, rf) (Rd) w0) := by
  refine xM_of (by decide) (Nat.le_of_ble_eq_true rfl) ?_
  intro A p e s m args below meth c hC hr hname
  have hC : xC p s m args meth c cX1_hasOwnRows 2 RX1 G A := hC
  have hr : meth.sig.returnType = (some .boolean) := hr
  show xV p l e _ s m args below meth c G A 2 _ sz _ 0 0 0 [(0, .ref (h + 46)), (1, .int (nI q))] []
  refine xv_iload_n hC dX1_hasOwnRows_0 rfl rfl ?_
  refine xv_callSN (host := "FormatFiles") hC Y_yX6_isPart sm_yX6_isPart (by decide) dX1_hasOwnRows_1 (ev_isPart l G sz _ (nI q)) rfl rfl (Nat.le_of_ble_eq_true rfl) ⟨Nat.le_of_ble_eq_true rfl, Nat.le_of_ble_eq_true rfl⟩ ⟨Nat.le_of_ble_eq_true rfl, Nat.le_of_ble_eq_true rfl⟩ ?_
  refine xv_rs ?_
  refine xv_if_eq (tgt := 21) hC dX1_hasOwnRows_4 (by decide) (fun h4 => ?_) (fun h4 => ?_)
  · rw [cI_0, xIn_nI (by omega) (by omega), decide_eq_false_iff_not] at h4
    exact absurd hq h4
  · refine xv_aload_n hC dX1_hasOwnRows_7 rfl rfl ?_
    refine tg_X1_10 hC fl_X1_35 dX1_hasOwnRows_8 ?_
    refine xv_iload_n hC dX1_hasOwnRows_11 rfl rfl ?_
    refine al_sourceOf hC dX1_hasOwnRows_12 rfl (by first | assumption | omega) ?_
    refine xv_iload_n hC dX1_hasOwnRows_13 rfl rfl ?_
    refine xv_icmp_ne (tgt := 21) hC dX1_hasOwnRows_14 (by decide) (fun h14 => ?_) (fun h14 => ?_)
    · have hs1 := hso q
      have h14 : ¬ nI (so q) = nI q := h14
      rw [nI_eq (by omega) (by omega)] at h14
      refine xv_iconst (v := nI 0) hC dX1_hasOwnRows_21 (by decide) ?_
      exact xv_zreturn hC hr (by rfl) dX1_hasOwnRows_22 (by first | exact rN0 (by simp [hoB, h14]) | exact rN1 (by simp [hoB, h14])) rfl rfl
    · have hs1 := hso q
      have h14 : nI (so q) = nI q := h14
      rw [nI_eq (by omega) (by omega)] at h14
      refine xv_iconst (v := nI 1) hC dX1_hasOwnRows_17 (by decide) ?_
      refine xv_goto (tgt := 22) hC dX1_hasOwnRows_18 (by decide) ?_
      exact xv_zreturn hC hr (by rfl) dX1_hasOwnRows_22 (by first | exact rN0 (by simp [hoB, h14]) | exact rN1 (by simp [hoB, h14])) rfl rfl
theorem ev_hasOwnRows (l : Launch) (G : xD) (h sz : Nat) (E : cE) (S : cS) (O : cO) (on : Nat → Nat) (sec : Nat) (po : Nat → Option Nat) (re cf : Nat → Int32) (so : Nat → Nat) (seen rf : Int32) (Rd : cR) (w0 : xw) (o : Option Nat) (ho : ∀ q, o = some q → q < 12) (hso : ∀ j, so j < 12) : xM l G yX1_hasOwnRows cX1_hasOwnRows 2 (some .boolean) 1 0 0 [.ref (h + 46), .int (fwR o)] sz (wC G h (E) (S) O (oN on) (sec, lP po, re, cf, oN so, seen, rf) (Rd) w0) (some (.int (cI (hoB so o)))) sz (wC G h (E) (S) O (oN on) (sec, lP po, re, cf, oN so, seen, rf) (Rd) w0) := by
  cases o with
  | none => exact ev_hasOwnRows_none l G h sz E S O on sec po re cf so seen rf Rd w0
  | some q => exact ev_hasOwnRows_some l G h sz E S O on sec po re cf so seen rf Rd w0 (ho q rfl) hso
set_option maxHeartbeats 1000000 in
set_option maxRecDepth 100000 in
theorem ev_readRows (l : Launch) (G : xD) (h sz : Nat) (E : cE) (S : cS) (O : cO) (on : Nat → Nat) (sec : Nat) (po : Nat → Option Nat) (re cf : Nat → Int32) (so : Nat → Nat) (seen rf : Int32) (Rd : cR) (ra : Nat → Nat) (Ra : cR) (w1 : xw) (hO : O.2.1 0 ≤ 8000) (hp : Rd.1 ≤ 8000) {s1 p1 : Nat} (hs : s1 < 255) (hp1 : p1 < 12) (hE : eOK E) (hso : ∀ j, so j < 12) (hpo : ∀ j q, po j = some q → q < 12) : xM l G yX1_readRows cX1_readRows 5 none 3 0 0 [.ref (h + 46), .int (nI s1), .int (nI p1)] sz (wC G h (E) S O (oN on) (sec, lP po, re, cf, oN so, seen, rf) (Rd) (wX G h (oN (ra)) Ra w1)) (none) (sz) (wC G h (rrE O E Rd) S O (oN on) (sec, lP po, re, cf, oN (rrF O po s1 p1 E so Rd).2.1, seen, rf) ((rrF O po s1 p1 E so Rd).2.2) (wX G h (oN (rrA O po s1 p1 so ra Rd)) Ra w1)) := by
  refine xM_of (by decide) (Nat.le_of_ble_eq_true rfl) ?_
  intro A p e s m args below meth c hC hr hname
  have hC : xC p s m args meth c cX1_readRows 5 RX1 G A := hC
  have hr : meth.sig.returnType = none := hr
  show xV p l e _ s m args below meth c G A 5 _ sz _ 0 0 0 [(0, .ref (h + 46)), (1, .int (nI s1)), (2, .int (nI p1))] []
  refine xv_aload_n hC dX1_readRows_0 rfl rfl ?_
  refine tg_X1_6 hC fl_X1_57 dX1_readRows_1 ?_
  refine xv_callV hC Y_yX3_next im_yX3_next se_yX3_next ml_X1_136 dX1_readRows_4 (ev_next l G h sz E S O (oN on) (sec, lP po, re, cf, oN so, seen, rf) Rd (wX G h (oN (ra)) Ra w1) hO hp) (wl_Reader _ _ _ _ _ _ _ _ _) rfl rfl rfl (Nat.le_of_ble_eq_true rfl) ⟨Nat.le_of_ble_eq_true rfl, Nat.le_of_ble_eq_true rfl⟩ ⟨Nat.le_of_ble_eq_true rfl, Nat.le_of_ble_eq_true rfl⟩ ?_
  refine xv_rs ?_
  refine xv_istore_n hC dX1_readRows_7 rfl (by decide) ?_
  refine xv_aload_n hC dX1_readRows_8 rfl rfl ?_
  refine tg_X1_10 hC fl_X1_35 dX1_readRows_9 ?_
  refine xv_iload_n hC dX1_readRows_12 rfl rfl ?_
  refine xv_iload_n hC dX1_readRows_13 rfl rfl ?_
  refine as_sourceOf hC dX1_readRows_14 rfl (by first | assumption | omega) ?_
  refine xv_world (show _ = wC G h (E) S O (oN on) (sec, lP po, re, cf, oN (va_up so p1 p1), seen, rf) (nxR O Rd) (wX G h (oN (ra)) Ra w1) by simp only [oN_up]) ?_
  refine xv_aload_n hC dX1_readRows_15 rfl rfl ?_
  refine tg_X1_9 hC fl_X1_32 dX1_readRows_16 ?_
  refine xv_iload_n hC dX1_readRows_19 rfl rfl ?_
  refine xv_aload_n hC dX1_readRows_20 rfl rfl ?_
  refine tg_X1_6 hC fl_X1_57 dX1_readRows_21 ?_
  refine tg_X3_0 hC fl_X1_112 dX1_readRows_24 ?_
  refine as_rowsAt hC dX1_readRows_27 rfl (by first | assumption | omega) ?_
  refine xv_world (show _ = wC G h (E) S O (oN on) (sec, lP po, re, cf, oN (va_up so p1 p1), seen, rf) (nxR O Rd) (wX G h (oN (va_up ra p1 (nxR O Rd).1)) Ra w1) by simp only [oN_up]) ?_
  refine xv_iload_n hC dX1_readRows_28 rfl rfl ?_
  refine xv_if_ne (tgt := 46) hC dX1_readRows_29 (by decide) (fun h29 => ?_) (fun h29 => ?_)
  · refine xv_iload_n hC dX1_readRows_46 rfl rfl ?_
    refine xv_iconst (v := nI 1) hC dX1_readRows_47 (by decide) ?_
    refine xv_icmp_ne (tgt := 125) hC dX1_readRows_48 (by decide) (fun h48 => ?_) (fun h48 => ?_)
    · refine xv_aload_n hC dX1_readRows_125 rfl rfl ?_
      refine tg_X1_6 hC fl_X1_57 dX1_readRows_126 ?_
      refine xv_iconst (v := nI 5) hC dX1_readRows_129 (by decide) ?_
      refine xv_callV hC Y_yX3_refuse im_yX3_refuse se_yX3_refuse ml_X1_143 dX1_readRows_130 (ev_refuse l G h sz E S O (oN on) (sec, lP po, re, cf, oN (va_up so p1 p1), seen, rf) (nxR O Rd) (wX G h (oN (va_up ra p1 (nxR O Rd).1)) Ra w1) (nI 5)) (wl_Reader _ _ _ _ _ _ _ _ _) rfl rfl rfl (Nat.le_of_ble_eq_true rfl) ⟨Nat.le_of_ble_eq_true rfl, Nat.le_of_ble_eq_true rfl⟩ ⟨Nat.le_of_ble_eq_true rfl, Nat.le_of_ble_eq_true rfl⟩ ?_
      refine xv_rn ?_
      exact xv_return hC hr dX1_readRows_133 rfl rfl (by first | (have h29 : nxV O Rd = 0 := h29; simp [rrF, rrE, rrA, h29, nrF_rd O (13 + p1) 25 E E (nxR O Rd)]; done) | (simp [rrF, rrE, rrA, Nat.not_lt.mpr, nI1_ne, *]))
    · refine xv_aload_n hC dX1_readRows_51 rfl rfl ?_
      refine tg_X1_6 hC fl_X1_57 dX1_readRows_52 ?_
      refine xv_callV hC Y_yX3_next im_yX3_next se_yX3_next ml_X1_136 dX1_readRows_55 (ev_next l G h sz E S O (oN on) (sec, lP po, re, cf, oN (va_up so p1 p1), seen, rf) (nxR O Rd) (wX G h (oN (va_up ra p1 (nxR O Rd).1)) Ra w1) hO (nxR_le hp hO)) (wl_Reader _ _ _ _ _ _ _ _ _) rfl rfl rfl (Nat.le_of_ble_eq_true rfl) ⟨Nat.le_of_ble_eq_true rfl, Nat.le_of_ble_eq_true rfl⟩ ⟨Nat.le_of_ble_eq_true rfl, Nat.le_of_ble_eq_true rfl⟩ ?_
      refine xv_rs ?_
      refine xv_cast (congrArg Value.int (nxV_nI O (nxR O Rd)).1) ?_
      have hj := (nxV_nI O (nxR O Rd)).2
      have hso1 : ∀ j, va_up so p1 p1 j < 12 := fun j => by
        by_cases e : j = p1
        · rw [e, va_up_self]; exact hp1
        · rw [va_up_ne _ _ e]; exact hso j
      refine xv_istore hC dX1_readRows_58 (by decide) ?_
      refine xv_iload hC dX1_readRows_60 rfl ?_
      refine xv_iload_n hC dX1_readRows_62 rfl rfl ?_
      refine xv_icmp_ge (tgt := 114) hC dX1_readRows_63 (by decide) (fun h63 => ?_) (fun h63 => ?_)
      · try simp (disch := omega) only [nI_leI, nI_ltI, nI_eq, xz_eq, xz_le, xz_gt, cI_0, cI_n0, cI_inj, lg_cmp_ge, lg_cmp_le, lg_cmp_gt, lg_cmp_lt, lg_cmp_eq, Bool.not_eq_true, Bool.not_eq_false, Nat.not_le, Nat.not_lt] at h63
        refine xv_aload_n hC dX1_readRows_114 rfl rfl ?_
        refine tg_X1_6 hC fl_X1_57 dX1_readRows_115 ?_
        refine xv_iconst (v := nI 5) hC dX1_readRows_118 (by decide) ?_
        refine xv_callV hC Y_yX3_refuse im_yX3_refuse se_yX3_refuse ml_X1_143 dX1_readRows_119 (ev_refuse l G h sz E S O (oN on) (sec, lP po, re, cf, oN (va_up so p1 p1), seen, rf) (nxR O (nxR O Rd)) (wX G h (oN (va_up ra p1 (nxR O Rd).1)) Ra w1) (nI 5)) (wl_Reader _ _ _ _ _ _ _ _ _) rfl rfl rfl (Nat.le_of_ble_eq_true rfl) ⟨Nat.le_of_ble_eq_true rfl, Nat.le_of_ble_eq_true rfl⟩ ⟨Nat.le_of_ble_eq_true rfl, Nat.le_of_ble_eq_true rfl⟩ ?_
        refine xv_rn ?_
        refine xv_goto (tgt := 133) hC dX1_readRows_122 (by decide) ?_
        exact xv_return hC hr dX1_readRows_133 rfl rfl (by first | (have h29 : nxV O Rd = 0 := h29; simp [rrF, rrE, rrA, h29, nrF_rd O (13 + p1) 25 E E (nxR O Rd)]; done) | (simp [rrF, rrE, rrA, Nat.not_lt.mpr, nI1_ne, *]))
      · try simp (disch := omega) only [nI_leI, nI_ltI, nI_eq, xz_eq, xz_le, xz_gt, cI_0, cI_n0, cI_inj, lg_cmp_ge, lg_cmp_le, lg_cmp_gt, lg_cmp_lt, lg_cmp_eq, Bool.not_eq_true, Bool.not_eq_false, Nat.not_le, Nat.not_lt] at h63
        refine xv_aload_n hC dX1_readRows_66 rfl rfl ?_
        refine xv_aload_n hC dX1_readRows_67 rfl rfl ?_
        refine tg_X1_1 hC fl_X1_15 dX1_readRows_68 ?_
        refine xv_iload hC dX1_readRows_71 rfl ?_
        refine al_partOf hC dX1_readRows_73 rfl (by first | assumption | omega) ?_
        refine xv_callV hC Y_yX1_hasOwnRows im_yX1_hasOwnRows se_yX1_hasOwnRows ml_X1_150 dX1_readRows_74 (ev_hasOwnRows l G h sz E S O on sec po re cf (va_up so p1 p1) seen rf (nxR O (nxR O Rd)) (wX G h (oN (va_up ra p1 (nxR O Rd).1)) Ra w1) (po (nxN O (nxR O Rd))) (fun q hq => hpo _ q hq) hso1) (wl_Loader _ _ _ _ _ _ _ _ _) rfl rfl rfl (Nat.le_of_ble_eq_true rfl) ⟨Nat.le_of_ble_eq_true rfl, Nat.le_of_ble_eq_true rfl⟩ ⟨Nat.le_of_ble_eq_true rfl, Nat.le_of_ble_eq_true rfl⟩ ?_
        refine xv_rs ?_
        refine xv_if_eq (tgt := 114) hC dX1_readRows_77 (by decide) (fun h77 => ?_) (fun h77 => ?_)
        · try simp (disch := omega) only [nI_leI, nI_ltI, nI_eq, xz_eq, xz_le, xz_gt, cI_0, cI_n0, cI_inj, lg_cmp_ge, lg_cmp_le, lg_cmp_gt, lg_cmp_lt, lg_cmp_eq, Bool.not_eq_true, Bool.not_eq_false, Nat.not_le, Nat.not_lt] at h77
          refine xv_aload_n hC dX1_readRows_114 rfl rfl ?_
          refine tg_X1_6 hC fl_X1_57 dX1_readRows_115 ?_
          refine xv_iconst (v := nI 5) hC dX1_readRows_118 (by decide) ?_
          refine xv_callV hC Y_yX3_refuse im_yX3_refuse se_yX3_refuse ml_X1_143 dX1_readRows_119 (ev_refuse l G h sz E S O (oN on) (sec, lP po, re, cf, oN (va_up so p1 p1), seen, rf) (nxR O (nxR O Rd)) (wX G h (oN (va_up ra p1 (nxR O Rd).1)) Ra w1) (nI 5)) (wl_Reader _ _ _ _ _ _ _ _ _) rfl rfl rfl (Nat.le_of_ble_eq_true rfl) ⟨Nat.le_of_ble_eq_true rfl, Nat.le_of_ble_eq_true rfl⟩ ⟨Nat.le_of_ble_eq_true rfl, Nat.le_of_ble_eq_true rfl⟩ ?_
          refine xv_rn ?_
          refine xv_goto (tgt := 133) hC dX1_readRows_122 (by decide) ?_
          exact xv_return hC hr dX1_readRows_133 rfl rfl (by first | (have h29 : nxV O Rd = 0 := h29; simp [rrF, rrE, rrA, h29, nrF_rd O (13 + p1) 25 E E (nxR O Rd)]; done) | (simp [rrF, rrE, rrA, Nat.not_lt.mpr, nI1_ne, *]))
        · try simp (disch := omega) only [nI_leI, nI_ltI, nI_eq, xz_eq, xz_le, xz_gt, cI_0, cI_n0, cI_inj, lg_cmp_ge, lg_cmp_le, lg_cmp_gt, lg_cmp_lt, lg_cmp_eq, Bool.not_eq_true, Bool.not_eq_false, Nat.not_le, Nat.not_lt] at h77
          refine xv_aload_n hC dX1_readRows_80 rfl rfl ?_
          refine tg_X1_10 hC fl_X1_35 dX1_readRows_81 ?_
          refine xv_iload_n hC dX1_readRows_84 rfl rfl ?_
          refine xv_aload_n hC dX1_readRows_85 rfl rfl ?_
          refine tg_X1_1 hC fl_X1_15 dX1_readRows_86 ?_
          refine xv_iload hC dX1_readRows_89 rfl ?_
          refine al_partOf hC dX1_readRows_91 rfl (by first | assumption | omega) ?_
          refine xv_cast (congrArg Value.int (show _ = nI ((po (nxN O (nxR O Rd))).getD 0) from hoB_some h77)) ?_
          refine as_sourceOf hC dX1_readRows_92 rfl (by first | assumption | omega) ?_
          refine xv_world (show _ = wC G h (E) S O (oN on) (sec, lP po, re, cf, oN (va_up (va_up so p1 p1) p1 ((po (nxN O (nxR O Rd))).getD 0)), seen, rf) (nxR O (nxR O Rd)) (wX G h (oN (va_up ra p1 (nxR O Rd).1)) Ra w1) by simp only [oN_up]) ?_
          refine xv_aload_n hC dX1_readRows_93 rfl rfl ?_
          refine tg_X1_9 hC fl_X1_32 dX1_readRows_94 ?_
          refine xv_iload_n hC dX1_readRows_97 rfl rfl ?_
          refine xv_aload_n hC dX1_readRows_98 rfl rfl ?_
          refine tg_X1_9 hC fl_X1_32 dX1_readRows_99 ?_
          refine xv_aload_n hC dX1_readRows_102 rfl rfl ?_
          refine tg_X1_1 hC fl_X1_15 dX1_readRows_103 ?_
          refine xv_iload hC dX1_readRows_106 rfl ?_
          refine al_partOf hC dX1_readRows_108 rfl (by first | assumption | omega) ?_
          refine xv_cast (congrArg Value.int (show _ = nI ((po (nxN O (nxR O Rd))).getD 0) from hoB_some h77)) ?_
          refine al_rowsAt hC dX1_readRows_109 rfl (show ((po (nxN O (nxR O Rd))).getD 0) < 12 from hoB_lt hpo h77) ?_
          refine as_rowsAt hC dX1_readRows_110 rfl (by first | assumption | omega) ?_
          refine xv_world (show _ = wC G h (E) S O (oN on) (sec, lP po, re, cf, oN (va_up (va_up so p1 p1) p1 ((po (nxN O (nxR O Rd))).getD 0)), seen, rf) (nxR O (nxR O Rd)) (wX G h (oN (va_up (va_up ra p1 (nxR O Rd).1) p1 ((va_up ra p1 (nxR O Rd).1) ((po (nxN O (nxR O Rd))).getD 0)))) Ra w1) by rw [show oN (va_up ra p1 (nxR O Rd).1) ((po (nxN O (nxR O Rd))).getD 0) = nI ((va_up ra p1 (nxR O Rd).1) ((po (nxN O (nxR O Rd))).getD 0)) from rfl, oN_up]) ?_
          refine xv_goto (tgt := 122) hC dX1_readRows_111 (by decide) ?_
          refine xv_goto (tgt := 133) hC dX1_readRows_122 (by decide) ?_
          exact xv_return hC hr dX1_readRows_133 rfl rfl (by first | (have h29 : nxV O Rd = 0 := h29; simp [rrF, rrE, rrA, h29, nrF_rd O (13 + p1) 25 E E (nxR O Rd)]; done) | (simp [rrF, rrE, rrA, Nat.not_lt.mpr, nI1_ne, *]))
  · refine xv_aload_n hC dX1_readRows_32 rfl rfl ?_
    refine tg_X1_6 hC fl_X1_57 dX1_readRows_33 ?_
    refine xv_aload_n hC dX1_readRows_36 rfl rfl ?_
    refine tg_X1_8 hC fl_X1_28 dX1_readRows_37 ?_
    refine xv_callV hC Y_yX3_nextRows im_yX3_nextRows se_yX3_nextRows ml_X1_146 dX1_readRows_40 (ev_nextRows l G h sz E S O (oN on) (sec, lP po, re, cf, oN (va_up so p1 p1), seen, rf) (nxR O Rd) (wX G h (oN (va_up ra p1 (nxR O Rd).1)) Ra w1) hO (nxR_le hp hO) (q := 25) (by omega)) (wl_Reader _ _ _ _ _ _ _ _ _) rfl rfl rfl (Nat.le_of_ble_eq_true rfl) ⟨Nat.le_of_ble_eq_true rfl, Nat.le_of_ble_eq_true rfl⟩ ⟨Nat.le_of_ble_eq_true rfl, Nat.le_of_ble_eq_true rfl⟩ ?_
    refine xv_rn ?_
    refine xv_goto (tgt := 133) hC dX1_readRows_43 (by decide) ?_
    exact xv_return hC hr dX1_readRows_133 rfl rfl (by first | (have h29 : nxV O Rd = 0 := h29; simp [rrF, rrE, rrA, h29, nrF_rd O (13 + p1) 25 E E (nxR O Rd)]; done) | (simp [rrF, rrE, rrA, Nat.not_lt.mpr, nI1_ne, *]))
