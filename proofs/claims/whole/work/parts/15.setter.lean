set_option maxHeartbeats 1000000 in
set_option maxRecDepth 100000 in
theorem ev_setEntry (l : Launch) (G : xD) (h sz : Nat) (E : cE) (S : cS) (O : cO) (od : Nat → Int32) (L : cL) (Rd : Nat × Int32) (w0 : xw) {q i : Nat} (hq : q < 12) (hi : i < 100) (v : Int64) : xM l G yX4_setEntry cX4_setEntry 5 none 1 0 0 [.ref (h + 1), .int (nI q), .int (nI i), .long v] sz (wC G h E S O od L Rd w0) (none) (sz) (wC G h (seE E q i v) (seS E S q i v) O od L Rd w0) := by
  refine xM_of (by decide) (Nat.le_of_ble_eq_true rfl) ?_
  intro A p e s m args below meth c hC hr hname
  have hC : xC p s m args meth c cX4_setEntry 5 RX4 G A := hC
  have hr : meth.sig.returnType = none := hr
  show xV p l e _ s m args below meth c G A 5 _ sz _ 0 0 0 [(0, .ref (h + 1)), (1, .int (nI q)), (2, .int (nI i)), (3, .long v)] []
  refine xv_aload_n hC dX4_setEntry_0 rfl rfl ?_
  refine tg_X4_0 hC fl_X4_11 dX4_setEntry_1 ?_
  refine xv_iload_n hC dX4_setEntry_4 rfl rfl ?_
  refine al_parts hC dX4_setEntry_5 rfl (by first | assumption | omega) ?_
  refine xv_iload_n hC dX4_setEntry_6 rfl rfl ?_
  refine xv_lload_n hC dX4_setEntry_7 rfl rfl ?_
  refine xv_callV hC Y_yX0_holdsSame im_yX0_holdsSame se_yX0_holdsSame ml_X4_42 dX4_setEntry_8 (ev_holdsSame l G h sz E S O od L Rd w0 (q := q) (i := i) (by omega) hi v) (wl_eA _ _ _ _ _ _ _ _ _ (by first | assumption | omega)) rfl rfl rfl (Nat.le_of_ble_eq_true rfl) ⟨Nat.le_of_ble_eq_true rfl, Nat.le_of_ble_eq_true rfl⟩ ⟨Nat.le_of_ble_eq_true rfl, Nat.le_of_ble_eq_true rfl⟩ ?_
  refine xv_rs ?_
  refine xv_if_ne (tgt := 37) hC dX4_setEntry_11 (by decide) (fun h11 => ?_) (fun h11 => ?_)
  · try simp (disch := omega) only [nI_leI, nI_ltI, nI_eq, xz_eq, xz_le, xz_gt, cI_0, cI_n0, cI_inj, lg_cmp_ge, lg_cmp_le, lg_cmp_gt, lg_cmp_lt, lg_cmp_eq, Bool.not_eq_true, Bool.not_eq_false, Nat.not_le, Nat.not_lt] at h11
    exact xv_return hC hr dX4_setEntry_37 rfl rfl (by simp [seE, seS, h11, bitI])
  · try simp (disch := omega) only [nI_leI, nI_ltI, nI_eq, xz_eq, xz_le, xz_gt, cI_0, cI_n0, cI_inj, lg_cmp_ge, lg_cmp_le, lg_cmp_gt, lg_cmp_lt, lg_cmp_eq, Bool.not_eq_true, Bool.not_eq_false, Nat.not_le, Nat.not_lt] at h11
    refine xv_aload_n hC dX4_setEntry_14 rfl rfl ?_
    refine tg_X4_0 hC fl_X4_11 dX4_setEntry_15 ?_
    refine xv_iload_n hC dX4_setEntry_18 rfl rfl ?_
    refine al_parts hC dX4_setEntry_19 rfl (by first | assumption | omega) ?_
    refine xv_iload_n hC dX4_setEntry_20 rfl rfl ?_
    refine xv_lload_n hC dX4_setEntry_21 rfl rfl ?_
    refine xv_callV hC Y_yX0_set im_yX0_set se_yX0_set ml_X4_46 dX4_setEntry_22 (ev_set l G h sz E S O od L Rd w0 (q := q) (i := i) (by omega) hi v) (wl_eA _ _ _ _ _ _ _ _ _ (by first | assumption | omega)) rfl rfl rfl (Nat.le_of_ble_eq_true rfl) ⟨Nat.le_of_ble_eq_true rfl, Nat.le_of_ble_eq_true rfl⟩ ⟨Nat.le_of_ble_eq_true rfl, Nat.le_of_ble_eq_true rfl⟩ ?_
    refine xv_rn ?_
    refine xv_aload_n hC dX4_setEntry_25 rfl rfl ?_
    refine xv_dup hC dX4_setEntry_26 rfl ?_
    refine tg_X4_2 hC fl_X4_21 dX4_setEntry_27 ?_
    refine xv_iconst (v := nI 1) hC dX4_setEntry_30 (by decide) ?_
    refine xv_iload_n hC dX4_setEntry_31 rfl rfl ?_
    refine xv_ishl hC dX4_setEntry_32 ?_
    refine xv_ior hC dX4_setEntry_33 ?_
    refine tp_X4_2 hC fl_X4_21 dX4_setEntry_34 ?_
    exact xv_return hC hr dX4_setEntry_37 rfl rfl (by simp [seE, seS, h11, bitI])
set_option maxHeartbeats 1000000 in
set_option maxRecDepth 100000 in
theorem ev_dropEntry (l : Launch) (G : xD) (h sz : Nat) (E : cE) (S : cS) (O : cO) (od : Nat → Int32) (L : cL) (Rd : Nat × Int32) (w0 : xw) {q i : Nat} (hq : q < 12) (hi : i < 100) (hs : E.1 q i = true → 1 ≤ E.2.2 q) : xM l G yX4_dropEntry cX4_dropEntry 3 (some .boolean) 1 0 0 [.ref (h + 1), .int (nI q), .int (nI i)] sz (wC G h E S O od L Rd w0) (some (.int (cI (E.1 q i)))) (sz) (wC G h (drE E q i) (drS E S q i) O od L Rd w0) := by
  refine xM_of (by decide) (Nat.le_of_ble_eq_true rfl) ?_
  intro A p e s m args below meth c hC hr hname
  have hC : xC p s m args meth c cX4_dropEntry 3 RX4 G A := hC
  have hr : meth.sig.returnType = (some .boolean) := hr
  show xV p l e _ s m args below meth c G A 3 _ sz _ 0 0 0 [(0, .ref (h + 1)), (1, .int (nI q)), (2, .int (nI i))] []
  refine xv_aload_n hC dX4_dropEntry_0 rfl rfl ?_
  refine tg_X4_0 hC fl_X4_11 dX4_dropEntry_1 ?_
  refine xv_iload_n hC dX4_dropEntry_4 rfl rfl ?_
  refine al_parts hC dX4_dropEntry_5 rfl (by first | assumption | omega) ?_
  refine tg_X0_0 hC (by first | assumption | omega) fl_X4_50 dX4_dropEntry_6 ?_
  refine xv_iload_n hC dX4_dropEntry_9 rfl rfl ?_
  refine al_there hC (by first | assumption | omega) dX4_dropEntry_10 rfl (by first | assumption | omega) ?_
  refine xv_if_ne (tgt := 16) hC dX4_dropEntry_11 (by decide) (fun h11 => ?_) (fun h11 => ?_)
  · try simp (disch := omega) only [nI_leI, nI_ltI, nI_eq, xz_eq, xz_le, xz_gt, cI_0, cI_n0, cI_inj, lg_cmp_ge, lg_cmp_le, lg_cmp_gt, lg_cmp_lt, lg_cmp_eq, Bool.not_eq_true, Bool.not_eq_false, Nat.not_le, Nat.not_lt] at h11
    refine xv_aload_n hC dX4_dropEntry_16 rfl rfl ?_
    refine tg_X4_0 hC fl_X4_11 dX4_dropEntry_17 ?_
    refine xv_iload_n hC dX4_dropEntry_20 rfl rfl ?_
    refine al_parts hC dX4_dropEntry_21 rfl (by first | assumption | omega) ?_
    refine xv_iload_n hC dX4_dropEntry_22 rfl rfl ?_
    refine xv_callV hC Y_yX0_drop im_yX0_drop se_yX0_drop ml_X4_54 dX4_dropEntry_23 (ev_drop l G h sz E S O od L Rd w0 (q := q) (i := i) (by omega) hi hs) (wl_eA _ _ _ _ _ _ _ _ _ (by first | assumption | omega)) rfl rfl rfl (Nat.le_of_ble_eq_true rfl) ⟨Nat.le_of_ble_eq_true rfl, Nat.le_of_ble_eq_true rfl⟩ ⟨Nat.le_of_ble_eq_true rfl, Nat.le_of_ble_eq_true rfl⟩ ?_
    refine xv_rn ?_
    refine xv_aload_n hC dX4_dropEntry_26 rfl rfl ?_
    refine xv_dup hC dX4_dropEntry_27 rfl ?_
    refine tg_X4_2 hC fl_X4_21 dX4_dropEntry_28 ?_
    refine xv_iconst (v := nI 1) hC dX4_dropEntry_31 (by decide) ?_
    refine xv_iload_n hC dX4_dropEntry_32 rfl rfl ?_
    refine xv_ishl hC dX4_dropEntry_33 ?_
    refine xv_ior hC dX4_dropEntry_34 ?_
    refine tp_X4_2 hC fl_X4_21 dX4_dropEntry_35 ?_
    refine xv_iconst (v := nI 1) hC dX4_dropEntry_38 (by decide) ?_
    exact xv_zreturn hC hr (by rfl) dX4_dropEntry_39 (rN1 h11) rfl (by simp [drE, drS, h11, bitI])
  · try simp (disch := omega) only [nI_leI, nI_ltI, nI_eq, xz_eq, xz_le, xz_gt, cI_0, cI_n0, cI_inj, lg_cmp_ge, lg_cmp_le, lg_cmp_gt, lg_cmp_lt, lg_cmp_eq, Bool.not_eq_true, Bool.not_eq_false, Nat.not_le, Nat.not_lt] at h11
    refine xv_iconst (v := nI 0) hC dX4_dropEntry_14 (by decide) ?_
    exact xv_zreturn hC hr (by rfl) dX4_dropEntry_15 (rN0 h11) rfl (by simp [drE, drS, h11])
set_option maxHeartbeats 1000000 in
set_option maxRecDepth 100000 in
theorem ev_setNeed (l : Launch) (G : xD) (h sz : Nat) (E : cE) (S : cS) (O : cO) (od : Nat → Int32) (L : cL) (Rd : Nat × Int32) (w0 : xw) {q r : Nat} (hq : q < 12) (hr1 : r < 12) (d : Bool) : xM l G yX4_setNeed cX4_setNeed 4 (some .boolean) 1 0 0 [.ref (h + 1), .int (nI q), .int (nI r), .int (cI d)] sz (wC G h E S O od L Rd w0) (some (.int (cI (!decide (bt (S.1 q) r = d))))) (sz) (wC G h (E) ((if bt (S.1 q) r = d then S else (va_up S.1 q (S.1 q ^^^ bitI r), S.2))) O od L Rd w0) := by
  refine xM_of (by decide) (Nat.le_of_ble_eq_true rfl) ?_
  intro A p e s m args below meth c hC hr hname
  have hC : xC p s m args meth c cX4_setNeed 4 RX4 G A := hC
  have hr : meth.sig.returnType = (some .boolean) := hr
  show xV p l e _ s m args below meth c G A 4 _ sz _ 0 0 0 [(0, .ref (h + 1)), (1, .int (nI q)), (2, .int (nI r)), (3, .int (cI d))] []
  refine xv_aload_n hC dX4_setNeed_0 rfl rfl ?_
  refine tg_X4_1 hC fl_X4_17 dX4_setNeed_1 ?_
  refine xv_iload_n hC dX4_setNeed_4 rfl rfl ?_
  refine al_needed hC dX4_setNeed_5 rfl (by first | assumption | omega) ?_
  refine xv_iload_n hC dX4_setNeed_6 rfl rfl ?_
  refine xv_callSN (host := "FormatFiles") hC Y_yX6_isIn sm_yX6_isIn (by decide) dX4_setNeed_7 (ev_isIn l G sz _ (S.1 q) (q := r) (by omega)) rfl rfl (Nat.le_of_ble_eq_true rfl) ⟨Nat.le_of_ble_eq_true rfl, Nat.le_of_ble_eq_true rfl⟩ ⟨Nat.le_of_ble_eq_true rfl, Nat.le_of_ble_eq_true rfl⟩ ?_
  refine xv_rs ?_
  refine xv_iload_n hC dX4_setNeed_10 rfl rfl ?_
  refine xv_icmp_ne (tgt := 16) hC dX4_setNeed_11 (by decide) (fun h11 => ?_) (fun h11 => ?_)
  · try simp (disch := omega) only [nI_leI, nI_ltI, nI_eq, xz_eq, xz_le, xz_gt, cI_0, cI_n0, cI_inj, lg_cmp_ge, lg_cmp_le, lg_cmp_gt, lg_cmp_lt, lg_cmp_eq, Bool.not_eq_true, Bool.not_eq_false, Nat.not_le, Nat.not_lt] at h11
    refine xv_aload_n hC dX4_setNeed_16 rfl rfl ?_
    refine tg_X4_1 hC fl_X4_17 dX4_setNeed_17 ?_
    refine xv_iload_n hC dX4_setNeed_20 rfl rfl ?_
    refine xv_dup2 hC dX4_setNeed_21 rfl rfl ?_
    refine al_needed hC dX4_setNeed_22 rfl (by first | assumption | omega) ?_
    refine xv_iconst (v := nI 1) hC dX4_setNeed_23 (by decide) ?_
    refine xv_iload_n hC dX4_setNeed_24 rfl rfl ?_
    refine xv_ishl hC dX4_setNeed_25 ?_
    refine xv_ixor hC dX4_setNeed_26 ?_
    refine as_needed hC dX4_setNeed_27 rfl (by first | assumption | omega) ?_
    refine xv_iconst (v := nI 1) hC dX4_setNeed_28 (by decide) ?_
    exact xv_zreturn hC hr (by rfl) dX4_setNeed_29 (rN1 (by simp [h11])) rfl (by simp [h11, bitI])
  · try simp (disch := omega) only [nI_leI, nI_ltI, nI_eq, xz_eq, xz_le, xz_gt, cI_0, cI_n0, cI_inj, lg_cmp_ge, lg_cmp_le, lg_cmp_gt, lg_cmp_lt, lg_cmp_eq, Bool.not_eq_true, Bool.not_eq_false, Nat.not_le, Nat.not_lt] at h11
    refine xv_iconst (v := nI 0) hC dX4_setNeed_14 (by decide) ?_
    exact xv_zreturn hC hr (by rfl) dX4_setNeed_15 (rN0 (by simp [h11])) rfl (by simp [h11])
set_option maxHeartbeats 1000000 in
set_option maxRecDepth 100000 in
theorem ev_leadsTo (l : Launch) (G : xD) (h sz : Nat) (E : cE) (S : cS) (O : cO) (od : Nat → Int32) (L : cL) (Rd : Nat × Int32) (w0 : xw) {q r : Nat} (hq : q < 12) (hr1 : r < 12) : xM l G yX4_leadsTo cX4_leadsTo 6 (some .boolean) 1 0 0 [.ref (h + 1), .int (nI q), .int (nI r)] sz (wC G h E S O od L Rd w0) (some (.int (cI (bt (ldR S.1 (bitI q) 11) r)))) (sz) (wC G h E S O od L Rd w0) := by
  refine xM_of (by decide) (Nat.le_of_ble_eq_true rfl) ?_
  intro A p e s m args below meth c hC hr hname
  have hC : xC p s m args meth c cX4_leadsTo 6 RX4 G A := hC
  have hr : meth.sig.returnType = (some .boolean) := hr
  show xV p l e _ s m args below meth c G A 6 _ sz _ 0 0 0 [(0, .ref (h + 1)), (1, .int (nI q)), (2, .int (nI r))] []
  refine xv_iconst (v := nI 1) hC dX4_leadsTo_0 (by decide) ?_
  refine xv_iload_n hC dX4_leadsTo_1 rfl rfl ?_
  refine xv_ishl hC dX4_leadsTo_2 ?_
  refine xv_istore_n hC dX4_leadsTo_3 rfl (by decide) ?_
  refine xv_iconst (v := nI 1) hC dX4_leadsTo_4 (by decide) ?_
  refine xv_istore hC dX4_leadsTo_5 (by decide) ?_
  have Lp7 : ∀ (n k : Nat), (k ≤ 11) → (11 < k + n) → xV p l e (xr 1 0 0) s m args below meth c G A 6 (MQ below (xQ G A (some (.int (cI (bt (ldR S.1 (bitI q) 11) r)))) (sz) (wC G h E S O od L Rd w0)) args s 0 0 A) sz (wC G h E S O od L Rd w0) 0 0 7 [(4, .int (nI (k + 1))), (3, .int (ldR S.1 (bitI q) k)), (0, .ref (h + 1)), (1, .int (nI q)), (2, .int (nI r))] [] := by
    intro n
    induction n with
    | zero =>
      intro k hk hn
      omega
    | succ n ih7 =>
      intro k hk hn
      refine xv_iload hC dX4_leadsTo_7 rfl ?_
      refine xv_bipush (v := nI 12) hC dX4_leadsTo_9 (by decide) ?_
      refine xv_icmp_ge (tgt := 55) hC dX4_leadsTo_11 (by decide) (fun h11 => ?_) (fun h11 => ?_)
      · try simp (disch := omega) only [nI_leI, nI_ltI, nI_eq, xz_eq, xz_le, xz_gt, cI_0, cI_n0, cI_inj, lg_cmp_ge, lg_cmp_le, lg_cmp_gt, lg_cmp_lt, lg_cmp_eq, Bool.not_eq_true, Bool.not_eq_false, Nat.not_le, Nat.not_lt] at h11
        refine xv_iload_n hC dX4_leadsTo_55 rfl rfl ?_
        refine xv_iload_n hC dX4_leadsTo_56 rfl rfl ?_
        refine xv_callSN (host := "FormatFiles") hC Y_yX6_isIn sm_yX6_isIn (by decide) dX4_leadsTo_57 (ev_isIn l G sz _ (ldR S.1 (bitI q) k) (q := r) (by omega)) rfl rfl (Nat.le_of_ble_eq_true rfl) ⟨Nat.le_of_ble_eq_true rfl, Nat.le_of_ble_eq_true rfl⟩ ⟨Nat.le_of_ble_eq_true rfl, Nat.le_of_ble_eq_true rfl⟩ ?_
        refine xv_rs ?_
        exact xv_zreturn hC hr (by first | rfl | exact cI_nar _) dX4_leadsTo_60 (by rw [show k = 11 by omega]) rfl rfl
      · try simp (disch := omega) only [nI_leI, nI_ltI, nI_eq, xz_eq, xz_le, xz_gt, cI_0, cI_n0, cI_inj, lg_cmp_ge, lg_cmp_le, lg_cmp_gt, lg_cmp_lt, lg_cmp_eq, Bool.not_eq_true, Bool.not_eq_false, Nat.not_le, Nat.not_lt] at h11
        refine xv_iconst (v := nI 0) hC dX4_leadsTo_14 (by decide) ?_
        refine xv_istore hC dX4_leadsTo_15 (by decide) ?_
        have Lp17 : ∀ (n j : Nat), (j ≤ 12) → (12 < j + n) → xV p l e (xr 1 0 0) s m args below meth c G A 6 (MQ below (xQ G A (some (.int (cI (bt (ldR S.1 (bitI q) 11) r)))) (sz) (wC G h E S O od L Rd w0)) args s 0 0 A) sz (wC G h E S O od L Rd w0) 0 0 17 [(5, .int (nI j)), (3, .int (ldP S.1 (ldR S.1 (bitI q) k) j)), (4, .int (nI (k + 1))), (0, .ref (h + 1)), (1, .int (nI q)), (2, .int (nI r))] [] := by
          intro n
          induction n with
          | zero =>
            intro j hj hm
            omega
          | succ n ih17 =>
            intro j hj hm
            refine xv_iload hC dX4_leadsTo_17 rfl ?_
            refine xv_bipush (v := nI 12) hC dX4_leadsTo_19 (by decide) ?_
            refine xv_icmp_ge (tgt := 49) hC dX4_leadsTo_21 (by decide) (fun h21 => ?_) (fun h21 => ?_)
            · try simp (disch := omega) only [nI_leI, nI_ltI, nI_eq, xz_eq, xz_le, xz_gt, cI_0, cI_n0, cI_inj, lg_cmp_ge, lg_cmp_le, lg_cmp_gt, lg_cmp_lt, lg_cmp_eq, Bool.not_eq_true, Bool.not_eq_false, Nat.not_le, Nat.not_lt] at h21
              refine xv_iinc hC dX4_leadsTo_49 rfl (xinc _) (by decide) ?_
              refine xv_goto (tgt := 7) hC dX4_leadsTo_52 (by decide) ?_
              have hj12 : j = 12 := by omega
              subst hj12
              refine xV.to [(4, .int (nI (k + 1 + 1))), (3, .int (ldR S.1 (bitI q) (k + 1))), (0, .ref (h + 1)), (1, .int (nI q)), (2, .int (nI r))] ⟨rfl, rfl, rfl, rfl, rfl, trivial⟩ ?_
              exact ih7 (k + 1) (by omega) (by omega)
            · try simp (disch := omega) only [nI_leI, nI_ltI, nI_eq, xz_eq, xz_le, xz_gt, cI_0, cI_n0, cI_inj, lg_cmp_ge, lg_cmp_le, lg_cmp_gt, lg_cmp_lt, lg_cmp_eq, Bool.not_eq_true, Bool.not_eq_false, Nat.not_le, Nat.not_lt] at h21
              refine xv_iload_n hC dX4_leadsTo_24 rfl rfl ?_
              refine xv_iload hC dX4_leadsTo_25 rfl ?_
              refine xv_callSN (host := "FormatFiles") hC Y_yX6_isIn sm_yX6_isIn (by decide) dX4_leadsTo_27 (ev_isIn l G sz _ (ldP S.1 (ldR S.1 (bitI q) k) j) (q := j) (by omega)) rfl rfl (Nat.le_of_ble_eq_true rfl) ⟨Nat.le_of_ble_eq_true rfl, Nat.le_of_ble_eq_true rfl⟩ ⟨Nat.le_of_ble_eq_true rfl, Nat.le_of_ble_eq_true rfl⟩ ?_
              refine xv_rs ?_
              refine xv_if_eq (tgt := 43) hC dX4_leadsTo_30 (by decide) (fun h30 => ?_) (fun h30 => ?_)
              · try simp (disch := omega) only [nI_leI, nI_ltI, nI_eq, xz_eq, xz_le, xz_gt, cI_0, cI_n0, cI_inj, lg_cmp_ge, lg_cmp_le, lg_cmp_gt, lg_cmp_lt, lg_cmp_eq, Bool.not_eq_true, Bool.not_eq_false, Nat.not_le, Nat.not_lt] at h30
                refine xv_iinc hC dX4_leadsTo_43 rfl (xinc _) (by decide) ?_
                refine xv_goto (tgt := 17) hC dX4_leadsTo_46 (by decide) ?_
                refine xv_lv (show _ = [(5, .int (nI (j + 1))), (3, .int (ldP S.1 (ldR S.1 (bitI q) k) (j + 1))), (4, .int (nI (k + 1))), (0, .ref (h + 1)), (1, .int (nI q)), (2, .int (nI r))] by simp only [ldP, ldS, h30, if_true, if_false, Bool.false_eq_true]; rfl) ?_
                exact ih17 (j + 1) (by omega) (by omega)
              · try simp (disch := omega) only [nI_leI, nI_ltI, nI_eq, xz_eq, xz_le, xz_gt, cI_0, cI_n0, cI_inj, lg_cmp_ge, lg_cmp_le, lg_cmp_gt, lg_cmp_lt, lg_cmp_eq, Bool.not_eq_true, Bool.not_eq_false, Nat.not_le, Nat.not_lt] at h30
                refine xv_iload_n hC dX4_leadsTo_33 rfl rfl ?_
                refine xv_aload_n hC dX4_leadsTo_34 rfl rfl ?_
                refine tg_X4_1 hC fl_X4_17 dX4_leadsTo_35 ?_
                refine xv_iload hC dX4_leadsTo_38 rfl ?_
                refine al_needed hC dX4_leadsTo_40 rfl (by first | assumption | omega) ?_
                refine xv_ior hC dX4_leadsTo_41 ?_
                refine xv_istore_n hC dX4_leadsTo_42 rfl (by decide) ?_
                refine xv_iinc hC dX4_leadsTo_43 rfl (xinc _) (by decide) ?_
                refine xv_goto (tgt := 17) hC dX4_leadsTo_46 (by decide) ?_
                refine xv_lv (show _ = [(5, .int (nI (j + 1))), (3, .int (ldP S.1 (ldR S.1 (bitI q) k) (j + 1))), (4, .int (nI (k + 1))), (0, .ref (h + 1)), (1, .int (nI q)), (2, .int (nI r))] by simp only [ldP, ldS, h30, if_true, if_false, Bool.false_eq_true]; rfl) ?_
                exact ih17 (j + 1) (by omega) (by omega)
        refine xV.to [(5, .int (nI 0)), (3, .int (ldP S.1 (ldR S.1 (bitI q) k) 0)), (4, .int (nI (k + 1))), (0, .ref (h + 1)), (1, .int (nI q)), (2, .int (nI r))] ⟨rfl, rfl, rfl, rfl, rfl, rfl, trivial⟩ ?_
        exact Lp17 13 0 (by omega) (by omega)
  exact Lp7 12 0 (by omega) (by omega)
set_option maxHeartbeats 1000000 in
set_option maxRecDepth 100000 in
theorem ev_firstToWrite (l : Launch) (G : xD) (h sz : Nat) (E : cE) (S : cS) (O : cO) (od : Nat → Int32) (L : cL) (Rd : Nat × Int32) (w0 : xw) (w : Int32) : xM l G yX4_firstToWrite cX4_firstToWrite 3 (some .int) 1 0 0 [.ref (h + 1), .int w] sz (wC G h E S O od L Rd w0) (some (.int (fwR (fstB (fwOk S.1 w) 12)))) (sz) (wC G h E S O od L Rd w0) := by
  refine xM_of (by decide) (Nat.le_of_ble_eq_true rfl) ?_
  intro A p e s m args below meth c hC hr hname
  have hC : xC p s m args meth c cX4_firstToWrite 3 RX4 G A := hC
  have hr : meth.sig.returnType = (some .int) := hr
  show xV p l e _ s m args below meth c G A 3 _ sz _ 0 0 0 [(0, .ref (h + 1)), (1, .int w)] []
  refine xv_iconst (v := nI 0) hC dX4_firstToWrite_0 (by decide) ?_
  refine xv_istore_n hC dX4_firstToWrite_1 rfl (by decide) ?_
  have Lp2 : ∀ (n j : Nat), (j ≤ 12) → (12 < j + n) → (∀ i, i < j → fwOk S.1 w i = false) → xV p l e (xr 1 0 0) s m args below meth c G A 3 (MQ below (xQ G A (some (.int (fwR (fstB (fwOk S.1 w) 12)))) (sz) (wC G h E S O od L Rd w0)) args s 0 0 A) sz (wC G h E S O od L Rd w0) 0 0 2 [(2, .int (nI j)), (0, .ref (h + 1)), (1, .int w)] [] := by
    intro n
    induction n with
    | zero =>
      intro j hj hn hb
      omega
    | succ n ih2 =>
      intro j hj hn hb
      refine xv_iload_n hC dX4_firstToWrite_2 rfl rfl ?_
      refine xv_bipush (v := nI 12) hC dX4_firstToWrite_3 (by decide) ?_
      refine xv_icmp_ge (tgt := 35) hC dX4_firstToWrite_5 (by decide) (fun h5 => ?_) (fun h5 => ?_)
      · try simp (disch := omega) only [nI_leI, nI_ltI, nI_eq, xz_eq, xz_le, xz_gt, cI_0, cI_n0, cI_inj, lg_cmp_ge, lg_cmp_le, lg_cmp_gt, lg_cmp_lt, lg_cmp_eq, Bool.not_eq_true, Bool.not_eq_false, Nat.not_le, Nat.not_lt] at h5
        refine xv_iconst (v := -1) hC dX4_firstToWrite_35 (by decide) ?_
        exact xv_ireturn hC hr dX4_firstToWrite_36 (by rw [fstB_no (fun i hi => hb i (by omega))]; rfl) rfl rfl
      · try simp (disch := omega) only [nI_leI, nI_ltI, nI_eq, xz_eq, xz_le, xz_gt, cI_0, cI_n0, cI_inj, lg_cmp_ge, lg_cmp_le, lg_cmp_gt, lg_cmp_lt, lg_cmp_eq, Bool.not_eq_true, Bool.not_eq_false, Nat.not_le, Nat.not_lt] at h5
        refine xv_iload_n hC dX4_firstToWrite_8 rfl rfl ?_
        refine xv_iload_n hC dX4_firstToWrite_9 rfl rfl ?_
        refine xv_callSN (host := "FormatFiles") hC Y_yX6_isIn sm_yX6_isIn (by decide) dX4_firstToWrite_10 (ev_isIn l G sz _ w (q := j) (by omega)) rfl rfl (Nat.le_of_ble_eq_true rfl) ⟨Nat.le_of_ble_eq_true rfl, Nat.le_of_ble_eq_true rfl⟩ ⟨Nat.le_of_ble_eq_true rfl, Nat.le_of_ble_eq_true rfl⟩ ?_
        refine xv_rs ?_
        refine xv_if_eq (tgt := 29) hC dX4_firstToWrite_13 (by decide) (fun h13 => ?_) (fun h13 => ?_)
        · try simp (disch := omega) only [nI_leI, nI_ltI, nI_eq, xz_eq, xz_le, xz_gt, cI_0, cI_n0, cI_inj, lg_cmp_ge, lg_cmp_le, lg_cmp_gt, lg_cmp_lt, lg_cmp_eq, Bool.not_eq_true, Bool.not_eq_false, Nat.not_le, Nat.not_lt] at h13
          refine xv_iinc hC dX4_firstToWrite_29 rfl (xinc _) (by decide) ?_
          refine xv_goto (tgt := 2) hC dX4_firstToWrite_32 (by decide) ?_
          exact ih2 (j + 1) (by omega) (by omega) (lt_s hb (by simp [fwOk, *]))
        · try simp (disch := omega) only [nI_leI, nI_ltI, nI_eq, xz_eq, xz_le, xz_gt, cI_0, cI_n0, cI_inj, lg_cmp_ge, lg_cmp_le, lg_cmp_gt, lg_cmp_lt, lg_cmp_eq, Bool.not_eq_true, Bool.not_eq_false, Nat.not_le, Nat.not_lt] at h13
          refine xv_aload_n hC dX4_firstToWrite_16 rfl rfl ?_
          refine tg_X4_1 hC fl_X4_17 dX4_firstToWrite_17 ?_
          refine xv_iload_n hC dX4_firstToWrite_20 rfl rfl ?_
          refine al_needed hC dX4_firstToWrite_21 rfl (by first | assumption | omega) ?_
          refine xv_iload_n hC dX4_firstToWrite_22 rfl rfl ?_
          refine xv_iand hC dX4_firstToWrite_23 ?_
          refine xv_if_ne (tgt := 29) hC dX4_firstToWrite_24 (by decide) (fun h24 => ?_) (fun h24 => ?_)
          · refine xv_iinc hC dX4_firstToWrite_29 rfl (xinc _) (by decide) ?_
            refine xv_goto (tgt := 2) hC dX4_firstToWrite_32 (by decide) ?_
            exact ih2 (j + 1) (by omega) (by omega) (lt_s hb (by simp [fwOk, *]))
          · refine xv_iload_n hC dX4_firstToWrite_27 rfl rfl ?_
            exact xv_ireturn hC hr dX4_firstToWrite_28 (by rw [fstB_yes (i := j) (by simp [fwOk, *]) hb (by omega)]; rfl) rfl rfl
  exact Lp2 13 0 (by omega) (by omega) lt_0
set_option maxHeartbeats 1000000 in
set_option maxRecDepth 100000 in
theorem ev_partsWithEntries (l : Launch) (G : xD) (h sz : Nat) (E : cE) (S : cS) (O : cO) (od : Nat → Int32) (L : cL) (Rd : Nat × Int32) (w0 : xw) (hE : eOK E) : xM l G yX4_partsWithEntries cX4_partsWithEntries 3 (some .int) 0 0 0 [.ref (h + 1)] sz (wC G h E S O od L Rd w0) (some (.int (pwE E 12))) (sz) (wC G h E S O od L Rd w0) := by
  refine xM_of (by decide) (Nat.le_of_ble_eq_true rfl) ?_
  intro A p e s m args below meth c hC hr hname
  have hC : xC p s m args meth c cX4_partsWithEntries 3 RX4 G A := hC
  have hr : meth.sig.returnType = (some .int) := hr
  show xV p l e _ s m args below meth c G A 3 _ sz _ 0 0 0 [(0, .ref (h + 1))] []
  refine xv_iconst (v := nI 0) hC dX4_partsWithEntries_0 (by decide) ?_
  refine xv_istore_n hC dX4_partsWithEntries_1 rfl (by decide) ?_
  refine xv_iconst (v := nI 0) hC dX4_partsWithEntries_2 (by decide) ?_
  refine xv_istore_n hC dX4_partsWithEntries_3 rfl (by decide) ?_
  have Lp4 : ∀ (n j : Nat), (j ≤ 12) → (12 < j + n) → xV p l e (xr 0 0 0) s m args below meth c G A 3 (MQ below (xQ G A (some (.int (pwE E 12))) (sz) (wC G h E S O od L Rd w0)) args s 0 0 A) sz (wC G h E S O od L Rd w0) 0 0 4 [(2, .int (nI j)), (1, .int (pwE E j)), (0, .ref (h + 1))] [] := by
    intro n
    induction n with
    | zero =>
      intro j hj hn
      omega
    | succ n ih4 =>
      intro j hj hn
      refine xv_iload_n hC dX4_partsWithEntries_4 rfl rfl ?_
      refine xv_bipush (v := nI 12) hC dX4_partsWithEntries_5 (by decide) ?_
      refine xv_icmp_ge (tgt := 34) hC dX4_partsWithEntries_7 (by decide) (fun h7 => ?_) (fun h7 => ?_)
      · try simp (disch := omega) only [nI_leI, nI_ltI, nI_eq, xz_eq, xz_le, xz_gt, cI_0, cI_n0, cI_inj, lg_cmp_ge, lg_cmp_le, lg_cmp_gt, lg_cmp_lt, lg_cmp_eq, Bool.not_eq_true, Bool.not_eq_false, Nat.not_le, Nat.not_lt] at h7
        refine xv_iload_n hC dX4_partsWithEntries_34 rfl rfl ?_
        exact xv_ireturn hC hr dX4_partsWithEntries_35 (by rw [show j = 12 by omega]) rfl rfl
      · try simp (disch := omega) only [nI_leI, nI_ltI, nI_eq, xz_eq, xz_le, xz_gt, cI_0, cI_n0, cI_inj, lg_cmp_ge, lg_cmp_le, lg_cmp_gt, lg_cmp_lt, lg_cmp_eq, Bool.not_eq_true, Bool.not_eq_false, Nat.not_le, Nat.not_lt] at h7
        refine xv_aload_n hC dX4_partsWithEntries_10 rfl rfl ?_
        refine tg_X4_0 hC fl_X4_11 dX4_partsWithEntries_11 ?_
        refine xv_iload_n hC dX4_partsWithEntries_14 rfl rfl ?_
        refine al_parts hC dX4_partsWithEntries_15 rfl (by first | assumption | omega) ?_
        refine tg_X0_2 hC (by first | assumption | omega) fl_X4_62 dX4_partsWithEntries_16 ?_
        have hE1 := hE.lt (show j < 26 by omega)
        refine xv_if_le (tgt := 28) hC dX4_partsWithEntries_19 (by decide) (fun h19 => ?_) (fun h19 => ?_)
        · rw [xz_le (by omega)] at h19
          have h19 : ¬ 0 < E.2.2 j := by omega
          refine xv_iinc hC dX4_partsWithEntries_28 rfl (xinc _) (by decide) ?_
          refine xv_goto (tgt := 4) hC dX4_partsWithEntries_31 (by decide) ?_
          refine xv_lv (show _ = [(2, .int (nI (j + 1))), (1, .int (pwE E (j + 1))), (0, .ref (h + 1))] by simp only [pwE, h19, if_true, if_false]; rfl) ?_
          exact ih4 (j + 1) (by omega) (by omega)
        · rw [xz_le (by omega)] at h19
          have h19 : 0 < E.2.2 j := by omega
          refine xv_iload_n hC dX4_partsWithEntries_22 rfl rfl ?_
          refine xv_iconst (v := nI 1) hC dX4_partsWithEntries_23 (by decide) ?_
          refine xv_iload_n hC dX4_partsWithEntries_24 rfl rfl ?_
          refine xv_ishl hC dX4_partsWithEntries_25 ?_
          refine xv_ior hC dX4_partsWithEntries_26 ?_
          refine xv_istore_n hC dX4_partsWithEntries_27 rfl (by decide) ?_
          refine xv_iinc hC dX4_partsWithEntries_28 rfl (xinc _) (by decide) ?_
          refine xv_goto (tgt := 4) hC dX4_partsWithEntries_31 (by decide) ?_
          refine xv_lv (show _ = [(2, .int (nI (j + 1))), (1, .int (pwE E (j + 1))), (0, .ref (h + 1))] by simp only [pwE, h19, if_true, if_false]; rfl) ?_
          exact ih4 (j + 1) (by omega) (by omega)
  exact Lp4 13 0 (by omega) (by omega)
set_option maxHeartbeats 1000000 in
set_option maxRecDepth 100000 in
theorem ev_allEntries (l : Launch) (G : xD) (h sz : Nat) (E : cE) (S : cS) (O : cO) (od : Nat → Int32) (L : cL) (Rd : Nat × Int32) (w0 : xw) : xM l G yX4_allEntries cX4_allEntries 3 (some .int) 0 0 0 [.ref (h + 1)] sz (wC G h E S O od L Rd w0) (some (.int (nI (aeE E 12)))) (sz) (wC G h E S O od L Rd w0) := by
  refine xM_of (by decide) (Nat.le_of_ble_eq_true rfl) ?_
  intro A p e s m args below meth c hC hr hname
  have hC : xC p s m args meth c cX4_allEntries 3 RX4 G A := hC
  have hr : meth.sig.returnType = (some .int) := hr
  show xV p l e _ s m args below meth c G A 3 _ sz _ 0 0 0 [(0, .ref (h + 1))] []
  refine xv_iconst (v := nI 0) hC dX4_allEntries_0 (by decide) ?_
  refine xv_istore_n hC dX4_allEntries_1 rfl (by decide) ?_
  refine xv_iconst (v := nI 0) hC dX4_allEntries_2 (by decide) ?_
  refine xv_istore_n hC dX4_allEntries_3 rfl (by decide) ?_
  have Lp4 : ∀ (n j : Nat), (j ≤ 12) → (12 < j + n) → xV p l e (xr 0 0 0) s m args below meth c G A 3 (MQ below (xQ G A (some (.int (nI (aeE E 12)))) (sz) (wC G h E S O od L Rd w0)) args s 0 0 A) sz (wC G h E S O od L Rd w0) 0 0 4 [(2, .int (nI j)), (1, .int (nI (aeE E j))), (0, .ref (h + 1))] [] := by
    intro n
    induction n with
    | zero =>
      intro j hj hn
      omega
    | succ n ih4 =>
      intro j hj hn
      refine xv_iload_n hC dX4_allEntries_4 rfl rfl ?_
      refine xv_bipush (v := nI 12) hC dX4_allEntries_5 (by decide) ?_
      refine xv_icmp_ge (tgt := 28) hC dX4_allEntries_7 (by decide) (fun h7 => ?_) (fun h7 => ?_)
      · try simp (disch := omega) only [nI_leI, nI_ltI, nI_eq, xz_eq, xz_le, xz_gt, cI_0, cI_n0, cI_inj, lg_cmp_ge, lg_cmp_le, lg_cmp_gt, lg_cmp_lt, lg_cmp_eq, Bool.not_eq_true, Bool.not_eq_false, Nat.not_le, Nat.not_lt] at h7
        refine xv_iload_n hC dX4_allEntries_28 rfl rfl ?_
        exact xv_ireturn hC hr dX4_allEntries_29 (by rw [show j = 12 by omega]) rfl rfl
      · try simp (disch := omega) only [nI_leI, nI_ltI, nI_eq, xz_eq, xz_le, xz_gt, cI_0, cI_n0, cI_inj, lg_cmp_ge, lg_cmp_le, lg_cmp_gt, lg_cmp_lt, lg_cmp_eq, Bool.not_eq_true, Bool.not_eq_false, Nat.not_le, Nat.not_lt] at h7
        refine xv_iload_n hC dX4_allEntries_10 rfl rfl ?_
        refine xv_aload_n hC dX4_allEntries_11 rfl rfl ?_
        refine tg_X4_0 hC fl_X4_11 dX4_allEntries_12 ?_
        refine xv_iload_n hC dX4_allEntries_15 rfl rfl ?_
        refine al_parts hC dX4_allEntries_16 rfl (by first | assumption | omega) ?_
        refine tg_X0_2 hC (by first | assumption | omega) fl_X4_62 dX4_allEntries_17 ?_
        refine xv_iadd hC dX4_allEntries_20 ?_
        refine xv_cast (congrArg Value.int (nI_add _ _)) ?_
        refine xv_istore_n hC dX4_allEntries_21 rfl (by decide) ?_
        refine xv_iinc hC dX4_allEntries_22 rfl (xinc _) (by decide) ?_
        refine xv_goto (tgt := 4) hC dX4_allEntries_25 (by decide) ?_
        exact ih4 (j + 1) (by omega) (by omega)
  exact Lp4 13 0 (by omega) (by omega)
set_option maxHeartbeats 1000000 in
set_option maxRecDepth 100000 in
theorem ev_startFrom (l : Launch) (G : xD) (h sz : Nat) (E : cE) (S : cS) (O : cO) (od : Nat → Int32) (L : cL) (Rd : Nat × Int32) (w0 : xw) (x : Int32) : xM l G yX4_startFrom cX4_startFrom 2 none 0 0 0 [.ref (h + 1), .int x] sz (wC G h E S O od L Rd w0) (none) (sz) (wC G h (E) ((S.1, nI 0, S.2.2.1, S.2.2.2.1, S.2.2.2.2.1, true, x)) O od L Rd w0) := by
  refine xM_of (by decide) (Nat.le_of_ble_eq_true rfl) ?_
  intro A p e s m args below meth c hC hr hname
  have hC : xC p s m args meth c cX4_startFrom 2 RX4 G A := hC
  have hr : meth.sig.returnType = none := hr
  show xV p l e _ s m args below meth c G A 2 _ sz _ 0 0 0 [(0, .ref (h + 1)), (1, .int x)] []
  refine xv_aload_n hC dX4_startFrom_0 rfl rfl ?_
  refine xv_iconst (v := nI 1) hC dX4_startFrom_1 (by decide) ?_
  refine tp_X4_6 hC fl_X4_35 dX4_startFrom_2 (by first | exact cI_c1 | exact cI_c0 | rfl) ?_
  refine xv_aload_n hC dX4_startFrom_5 rfl rfl ?_
  refine xv_iload_n hC dX4_startFrom_6 rfl rfl ?_
  refine tp_X4_7 hC fl_X4_38 dX4_startFrom_7 ?_
  refine xv_aload_n hC dX4_startFrom_10 rfl rfl ?_
  refine xv_iconst (v := nI 0) hC dX4_startFrom_11 (by decide) ?_
  refine tp_X4_2 hC fl_X4_21 dX4_startFrom_12 ?_
  exact xv_return hC hr dX4_startFrom_15 rfl rfl rfl
set_option maxHeartbeats 1000000 in
set_option maxRecDepth 100000 in
theorem ev_merge (l : Launch) (G : xD) (h sz : Nat) (E : cE) (S : cS) (O : cO) (od : Nat → Int32) (L : cL) (Rd : Nat × Int32) (w0 : xw) {q r : Nat} (hq : q < 12) (hr1 : r < 12 ∨ r = 25) (hE : eOK E) : xM l G yX4_merge cX4_merge 6 (some .int) 2 0 0 [.ref (h + 1), .int (nI q), .ref (eA h r)] sz (wC G h E S O od L Rd w0) (some (.int (nI (mgE E S q r 100).2.2))) (sz) (wC G h ((mgE E S q r 100).1) ((mgE E S q r 100).2.1) O od L Rd w0) := by
  refine xM_of (by decide) (Nat.le_of_ble_eq_true rfl) ?_
  intro A p e s m args below meth c hC hr hname
  have hC : xC p s m args meth c cX4_merge 6 RX4 G A := hC
  have hr : meth.sig.returnType = (some .int) := hr
  show xV p l e _ s m args below meth c G A 6 _ sz _ 0 0 0 [(0, .ref (h + 1)), (1, .int (nI q)), (2, .ref (eA h r))] []
  refine xv_iconst (v := nI 0) hC dX4_merge_0 (by decide) ?_
  refine xv_istore_n hC dX4_merge_1 rfl (by decide) ?_
  refine xv_iconst (v := nI 0) hC dX4_merge_2 (by decide) ?_
  refine xv_istore hC dX4_merge_3 (by decide) ?_
  have Lp5 : ∀ (n i : Nat), (i ≤ 100) → (100 < i + n) → xV p l e (xr 2 0 0) s m args below meth c G A 6 (MQ below (xQ G A (some (.int (nI (mgE E S q r 100).2.2))) (sz) (wC G h ((mgE E S q r 100).1) ((mgE E S q r 100).2.1) O od L Rd w0)) args s 0 0 A) sz (wC G h ((mgE E S q r i).1) ((mgE E S q r i).2.1) O od L Rd w0) 0 0 5 [(4, .int (nI i)), (3, .int (nI (mgE E S q r i).2.2)), (0, .ref (h + 1)), (1, .int (nI q)), (2, .ref (eA h r))] [] := by
    intro n
    induction n with
    | zero =>
      intro i hi hn
      omega
    | succ n ih5 =>
      intro i hi hn
      refine xv_iload hC dX4_merge_5 rfl ?_
      refine xv_bipush (v := nI 100) hC dX4_merge_7 (by decide) ?_
      refine xv_icmp_ge (tgt := 111) hC dX4_merge_9 (by decide) (fun h9 => ?_) (fun h9 => ?_)
      · try simp (disch := omega) only [nI_leI, nI_ltI, nI_eq, xz_eq, xz_le, xz_gt, cI_0, cI_n0, cI_inj, lg_cmp_ge, lg_cmp_le, lg_cmp_gt, lg_cmp_lt, lg_cmp_eq, Bool.not_eq_true, Bool.not_eq_false, Nat.not_le, Nat.not_lt] at h9
        refine xv_iload_n hC dX4_merge_111 rfl rfl ?_
        exact xv_ireturn hC hr dX4_merge_112 (by rw [show i = 100 by omega]) rfl (by rw [show i = 100 by omega])
      · try simp (disch := omega) only [nI_leI, nI_ltI, nI_eq, xz_eq, xz_le, xz_gt, cI_0, cI_n0, cI_inj, lg_cmp_ge, lg_cmp_le, lg_cmp_gt, lg_cmp_lt, lg_cmp_eq, Bool.not_eq_true, Bool.not_eq_false, Nat.not_le, Nat.not_lt] at h9
        refine xv_aload_n hC dX4_merge_12 rfl rfl ?_
        refine tg_X0_0 hC (by first | assumption | omega) fl_X4_50 dX4_merge_13 ?_
        refine xv_iload hC dX4_merge_16 rfl ?_
        refine al_there hC (by first | assumption | omega) dX4_merge_18 rfl (by first | assumption | omega) ?_
        refine xv_if_ne (tgt := 25) hC dX4_merge_19 (by decide) (fun h19 => ?_) (fun h19 => ?_)
        · try simp (disch := omega) only [nI_leI, nI_ltI, nI_eq, xz_eq, xz_le, xz_gt, cI_0, cI_n0, cI_inj, lg_cmp_ge, lg_cmp_le, lg_cmp_gt, lg_cmp_lt, lg_cmp_eq, Bool.not_eq_true, Bool.not_eq_false, Nat.not_le, Nat.not_lt] at h19
          refine xv_aload_n hC dX4_merge_25 rfl rfl ?_
          refine tg_X4_0 hC fl_X4_11 dX4_merge_26 ?_
          refine xv_iload_n hC dX4_merge_29 rfl rfl ?_
          refine al_parts hC dX4_merge_30 rfl (by first | assumption | omega) ?_
          refine tg_X0_0 hC (by first | assumption | omega) fl_X4_50 dX4_merge_31 ?_
          refine xv_iload hC dX4_merge_34 rfl ?_
          refine al_there hC (by first | assumption | omega) dX4_merge_36 rfl (by first | assumption | omega) ?_
          refine xv_if_eq (tgt := 67) hC dX4_merge_37 (by decide) (fun h37 => ?_) (fun h37 => ?_)
          · try simp (disch := omega) only [nI_leI, nI_ltI, nI_eq, xz_eq, xz_le, xz_gt, cI_0, cI_n0, cI_inj, lg_cmp_ge, lg_cmp_le, lg_cmp_gt, lg_cmp_lt, lg_cmp_eq, Bool.not_eq_true, Bool.not_eq_false, Nat.not_le, Nat.not_lt] at h37
            refine xv_iconst (v := nI 0) hC dX4_merge_67 (by decide) ?_
            refine xv_istore hC dX4_merge_68 (by decide) ?_
            refine xv_iload hC dX4_merge_70 rfl ?_
            refine xv_if_eq (tgt := 78) hC dX4_merge_72 (by decide) (fun h72 => ?_) (fun h72 => ?_)
            · refine xv_iload hC dX4_merge_78 rfl ?_
              refine xv_if_eq (tgt := 91) hC dX4_merge_80 (by decide) (fun h80 => ?_) (fun h80 => ?_)
              · refine xv_aload_n hC dX4_merge_91 rfl rfl ?_
                refine xv_iload_n hC dX4_merge_92 rfl rfl ?_
                refine xv_iload hC dX4_merge_93 rfl ?_
                refine xv_aload_n hC dX4_merge_95 rfl rfl ?_
                refine tg_X0_1 hC (by first | assumption | omega) fl_X4_65 dX4_merge_96 ?_
                refine xv_iload hC dX4_merge_99 rfl ?_
                refine al_values hC (by first | assumption | omega) dX4_merge_101 rfl (by first | assumption | omega) ?_
                refine xv_callV hC Y_yX4_setEntry im_yX4_setEntry se_yX4_setEntry ml_X4_69 dX4_merge_102 (ev_setEntry l G h sz (mgE E S q r i).1 (mgE E S q r i).2.1 O od L Rd w0 (q := q) (i := i) hq (by omega) ((mgE E S q r i).1.2.1 r i)) (wl_Setter _ _ _ _ _ _ _ _ _) rfl rfl rfl (Nat.le_of_ble_eq_true rfl) ⟨Nat.le_of_ble_eq_true rfl, Nat.le_of_ble_eq_true rfl⟩ ⟨Nat.le_of_ble_eq_true rfl, Nat.le_of_ble_eq_true rfl⟩ ?_
                refine xv_rn ?_
                refine xv_iinc hC dX4_merge_105 rfl (xinc _) (by decide) ?_
                refine xv_goto (tgt := 5) hC dX4_merge_108 (by decide) ?_
                refine xv_world (show _ = wC G h ((mgE E S q r (i + 1)).1) ((mgE E S q r (i + 1)).2.1) O od L Rd w0 by simp [mgE, mgD, cfl, *]) ?_
                refine xV.to [(4, .int (nI (i + 1))), (3, .int (nI (mgE E S q r (i + 1)).2.2)), (0, .ref (h + 1)), (1, .int (nI q)), (2, .ref (eA h r))] ⟨rfl, congrArg (fun z => some (Value.int (nI z))) (show _ = (mgE E S q r (i + 1)).2.2 by simp [mgE, mgC, cfl, *]), rfl, rfl, rfl, trivial⟩ ?_
                exact ih5 (i + 1) (by omega) (by omega)
              · exact absurd h80 (by decide)
            · exact absurd h72 (by decide)
          · try simp (disch := omega) only [nI_leI, nI_ltI, nI_eq, xz_eq, xz_le, xz_gt, cI_0, cI_n0, cI_inj, lg_cmp_ge, lg_cmp_le, lg_cmp_gt, lg_cmp_lt, lg_cmp_eq, Bool.not_eq_true, Bool.not_eq_false, Nat.not_le, Nat.not_lt] at h37
            refine xv_aload_n hC dX4_merge_40 rfl rfl ?_
            refine tg_X4_0 hC fl_X4_11 dX4_merge_41 ?_
            refine xv_iload_n hC dX4_merge_44 rfl rfl ?_
            refine al_parts hC dX4_merge_45 rfl (by first | assumption | omega) ?_
            refine tg_X0_1 hC (by first | assumption | omega) fl_X4_65 dX4_merge_46 ?_
            refine xv_iload hC dX4_merge_49 rfl ?_
            refine al_values hC (by first | assumption | omega) dX4_merge_51 rfl (by first | assumption | omega) ?_
            refine xv_aload_n hC dX4_merge_52 rfl rfl ?_
            refine tg_X0_1 hC (by first | assumption | omega) fl_X4_65 dX4_merge_53 ?_
            refine xv_iload hC dX4_merge_56 rfl ?_
            refine al_values hC (by first | assumption | omega) dX4_merge_58 rfl (by first | assumption | omega) ?_
            refine xv_lcmp hC dX4_merge_59 ?_
            refine xv_if_eq (tgt := 67) hC dX4_merge_60 (by decide) (fun h60 => ?_) (fun h60 => ?_)
            · try simp (disch := omega) only [nI_leI, nI_ltI, nI_eq, xz_eq, xz_le, xz_gt, cI_0, cI_n0, cI_inj, lg_cmp_ge, lg_cmp_le, lg_cmp_gt, lg_cmp_lt, lg_cmp_eq, Bool.not_eq_true, Bool.not_eq_false, Nat.not_le, Nat.not_lt] at h60
              refine xv_iconst (v := nI 0) hC dX4_merge_67 (by decide) ?_
              refine xv_istore hC dX4_merge_68 (by decide) ?_
              refine xv_iload hC dX4_merge_70 rfl ?_
              refine xv_if_eq (tgt := 78) hC dX4_merge_72 (by decide) (fun h72 => ?_) (fun h72 => ?_)
              · refine xv_iload hC dX4_merge_78 rfl ?_
                refine xv_if_eq (tgt := 91) hC dX4_merge_80 (by decide) (fun h80 => ?_) (fun h80 => ?_)
                · refine xv_aload_n hC dX4_merge_91 rfl rfl ?_
                  refine xv_iload_n hC dX4_merge_92 rfl rfl ?_
                  refine xv_iload hC dX4_merge_93 rfl ?_
                  refine xv_aload_n hC dX4_merge_95 rfl rfl ?_
                  refine tg_X0_1 hC (by first | assumption | omega) fl_X4_65 dX4_merge_96 ?_
                  refine xv_iload hC dX4_merge_99 rfl ?_
                  refine al_values hC (by first | assumption | omega) dX4_merge_101 rfl (by first | assumption | omega) ?_
                  refine xv_callV hC Y_yX4_setEntry im_yX4_setEntry se_yX4_setEntry ml_X4_69 dX4_merge_102 (ev_setEntry l G h sz (mgE E S q r i).1 (mgE E S q r i).2.1 O od L Rd w0 (q := q) (i := i) hq (by omega) ((mgE E S q r i).1.2.1 r i)) (wl_Setter _ _ _ _ _ _ _ _ _) rfl rfl rfl (Nat.le_of_ble_eq_true rfl) ⟨Nat.le_of_ble_eq_true rfl, Nat.le_of_ble_eq_true rfl⟩ ⟨Nat.le_of_ble_eq_true rfl, Nat.le_of_ble_eq_true rfl⟩ ?_
                  refine xv_rn ?_
                  refine xv_iinc hC dX4_merge_105 rfl (xinc _) (by decide) ?_
                  refine xv_goto (tgt := 5) hC dX4_merge_108 (by decide) ?_
                  refine xv_world (show _ = wC G h ((mgE E S q r (i + 1)).1) ((mgE E S q r (i + 1)).2.1) O od L Rd w0 by simp [mgE, mgD, cfl, *]) ?_
                  refine xV.to [(4, .int (nI (i + 1))), (3, .int (nI (mgE E S q r (i + 1)).2.2)), (0, .ref (h + 1)), (1, .int (nI q)), (2, .ref (eA h r))] ⟨rfl, congrArg (fun z => some (Value.int (nI z))) (show _ = (mgE E S q r (i + 1)).2.2 by simp [mgE, mgC, cfl, *]), rfl, rfl, rfl, trivial⟩ ?_
                  exact ih5 (i + 1) (by omega) (by omega)
                · exact absurd h80 (by decide)
              · exact absurd h72 (by decide)
            · try simp (disch := omega) only [nI_leI, nI_ltI, nI_eq, xz_eq, xz_le, xz_gt, cI_0, cI_n0, cI_inj, lg_cmp_ge, lg_cmp_le, lg_cmp_gt, lg_cmp_lt, lg_cmp_eq, Bool.not_eq_true, Bool.not_eq_false, Nat.not_le, Nat.not_lt] at h60
              refine xv_iconst (v := nI 1) hC dX4_merge_63 (by decide) ?_
              refine xv_goto (tgt := 68) hC dX4_merge_64 (by decide) ?_
              refine xv_istore hC dX4_merge_68 (by decide) ?_
              refine xv_iload hC dX4_merge_70 rfl ?_
              refine xv_if_eq (tgt := 78) hC dX4_merge_72 (by decide) (fun h72 => ?_) (fun h72 => ?_)
              · exact absurd h72 (by decide)
              · refine xv_iinc hC dX4_merge_75 rfl (xinc _) (by decide) ?_
                refine xv_iload hC dX4_merge_78 rfl ?_
                refine xv_if_eq (tgt := 91) hC dX4_merge_80 (by decide) (fun h80 => ?_) (fun h80 => ?_)
                · exact absurd h80 (by decide)
                · refine xv_aload_n hC dX4_merge_83 rfl rfl ?_
                  refine tg_X4_4 hC fl_X4_28 dX4_merge_84 ?_
                  refine xv_iconst (v := nI 1) hC dX4_merge_87 (by decide) ?_
                  refine xv_icmp_ne (tgt := 105) hC dX4_merge_88 (by decide) (fun h88 => ?_) (fun h88 => ?_)
                  · try simp (disch := omega) only [nI_leI, nI_ltI, nI_eq, xz_eq, xz_le, xz_gt, cI_0, cI_n0, cI_inj, lg_cmp_ge, lg_cmp_le, lg_cmp_gt, lg_cmp_lt, lg_cmp_eq, Bool.not_eq_true, Bool.not_eq_false, Nat.not_le, Nat.not_lt] at h88
                    refine xv_iinc hC dX4_merge_105 rfl (xinc _) (by decide) ?_
                    refine xv_goto (tgt := 5) hC dX4_merge_108 (by decide) ?_
                    refine xv_world (show _ = wC G h ((mgE E S q r (i + 1)).1) ((mgE E S q r (i + 1)).2.1) O od L Rd w0 by simp [mgE, mgD, cfl, *]) ?_
                    refine xV.to [(4, .int (nI (i + 1))), (3, .int (nI (mgE E S q r (i + 1)).2.2)), (0, .ref (h + 1)), (1, .int (nI q)), (2, .ref (eA h r))] ⟨rfl, congrArg (fun z => some (Value.int (nI z))) (show _ = (mgE E S q r (i + 1)).2.2 by simp [mgE, mgC, cfl, *]), rfl, rfl, rfl, trivial⟩ ?_
                    exact ih5 (i + 1) (by omega) (by omega)
                  · try simp (disch := omega) only [nI_leI, nI_ltI, nI_eq, xz_eq, xz_le, xz_gt, cI_0, cI_n0, cI_inj, lg_cmp_ge, lg_cmp_le, lg_cmp_gt, lg_cmp_lt, lg_cmp_eq, Bool.not_eq_true, Bool.not_eq_false, Nat.not_le, Nat.not_lt] at h88
                    refine xv_aload_n hC dX4_merge_91 rfl rfl ?_
                    refine xv_iload_n hC dX4_merge_92 rfl rfl ?_
                    refine xv_iload hC dX4_merge_93 rfl ?_
                    refine xv_aload_n hC dX4_merge_95 rfl rfl ?_
                    refine tg_X0_1 hC (by first | assumption | omega) fl_X4_65 dX4_merge_96 ?_
                    refine xv_iload hC dX4_merge_99 rfl ?_
                    refine al_values hC (by first | assumption | omega) dX4_merge_101 rfl (by first | assumption | omega) ?_
                    refine xv_callV hC Y_yX4_setEntry im_yX4_setEntry se_yX4_setEntry ml_X4_69 dX4_merge_102 (ev_setEntry l G h sz (mgE E S q r i).1 (mgE E S q r i).2.1 O od L Rd w0 (q := q) (i := i) hq (by omega) ((mgE E S q r i).1.2.1 r i)) (wl_Setter _ _ _ _ _ _ _ _ _) rfl rfl rfl (Nat.le_of_ble_eq_true rfl) ⟨Nat.le_of_ble_eq_true rfl, Nat.le_of_ble_eq_true rfl⟩ ⟨Nat.le_of_ble_eq_true rfl, Nat.le_of_ble_eq_true rfl⟩ ?_
                    refine xv_rn ?_
                    refine xv_iinc hC dX4_merge_105 rfl (xinc _) (by decide) ?_
                    refine xv_goto (tgt := 5) hC dX4_merge_108 (by decide) ?_
                    refine xv_world (show _ = wC G h ((mgE E S q r (i + 1)).1) ((mgE E S q r (i + 1)).2.1) O od L Rd w0 by simp [mgE, mgD, cfl, *]) ?_
                    refine xV.to [(4, .int (nI (i + 1))), (3, .int (nI (mgE E S q r (i + 1)).2.2)), (0, .ref (h + 1)), (1, .int (nI q)), (2, .ref (eA h r))] ⟨rfl, congrArg (fun z => some (Value.int (nI z))) (show _ = (mgE E S q r (i + 1)).2.2 by simp [mgE, mgC, cfl, *]), rfl, rfl, rfl, trivial⟩ ?_
                    exact ih5 (i + 1) (by omega) (by omega)
        · try simp (disch := omega) only [nI_leI, nI_ltI, nI_eq, xz_eq, xz_le, xz_gt, cI_0, cI_n0, cI_inj, lg_cmp_ge, lg_cmp_le, lg_cmp_gt, lg_cmp_lt, lg_cmp_eq, Bool.not_eq_true, Bool.not_eq_false, Nat.not_le, Nat.not_lt] at h19
          refine xv_goto (tgt := 105) hC dX4_merge_22 (by decide) ?_
          refine xv_iinc hC dX4_merge_105 rfl (xinc _) (by decide) ?_
          refine xv_goto (tgt := 5) hC dX4_merge_108 (by decide) ?_
          refine xv_world (show _ = wC G h ((mgE E S q r (i + 1)).1) ((mgE E S q r (i + 1)).2.1) O od L Rd w0 by simp [mgE, mgD, cfl, *]) ?_
          refine xV.to [(4, .int (nI (i + 1))), (3, .int (nI (mgE E S q r (i + 1)).2.2)), (0, .ref (h + 1)), (1, .int (nI q)), (2, .ref (eA h r))] ⟨rfl, congrArg (fun z => some (Value.int (nI z))) (show _ = (mgE E S q r (i + 1)).2.2 by simp [mgE, mgC, cfl, *]), rfl, rfl, rfl, trivial⟩ ?_
          exact ih5 (i + 1) (by omega) (by omega)
  exact Lp5 101 0 (by omega) (by omega)
set_option maxHeartbeats 1000000 in
set_option maxRecDepth 100000 in
theorem ev_replace (l : Launch) (G : xD) (h sz : Nat) (E : cE) (S : cS) (O : cO) (od : Nat → Int32) (L : cL) (Rd : Nat × Int32) (w0 : xw) {q r : Nat} (hq : q < 12) (hr1 : r < 12 ∨ r = 25) (hE : eOK E) : xM l G yX4_replace cX4_replace 4 none 2 0 0 [.ref (h + 1), .int (nI q), .ref (eA h r)] sz (wC G h E S O od L Rd w0) (none) (sz) (wC G h ((rpE E S q r 100).1) ((rpE E S q r 100).2) O od L Rd w0) := by
  refine xM_of (by decide) (Nat.le_of_ble_eq_true rfl) ?_
  intro A p e s m args below meth c hC hr hname
  have hC : xC p s m args meth c cX4_replace 4 RX4 G A := hC
  have hr : meth.sig.returnType = none := hr
  show xV p l e _ s m args below meth c G A 4 _ sz _ 0 0 0 [(0, .ref (h + 1)), (1, .int (nI q)), (2, .ref (eA h r))] []
  refine xv_iconst (v := nI 0) hC dX4_replace_0 (by decide) ?_
  refine xv_istore_n hC dX4_replace_1 rfl (by decide) ?_
  have Lp2 : ∀ (n i : Nat), (i ≤ 100) → (100 < i + n) → xV p l e (xr 2 0 0) s m args below meth c G A 4 (MQ below (xQ G A (none) (sz) (wC G h ((rpE E S q r 100).1) ((rpE E S q r 100).2) O od L Rd w0)) args s 0 0 A) sz (wC G h ((rpE E S q r i).1) ((rpE E S q r i).2) O od L Rd w0) 0 0 2 [(3, .int (nI i)), (0, .ref (h + 1)), (1, .int (nI q)), (2, .ref (eA h r))] [] := by
    intro n
    induction n with
    | zero =>
      intro i hi hn
      omega
    | succ n ih2 =>
      intro i hi hn
      refine xv_iload_n hC dX4_replace_2 rfl rfl ?_
      refine xv_bipush (v := nI 100) hC dX4_replace_3 (by decide) ?_
      refine xv_icmp_ge (tgt := 45) hC dX4_replace_5 (by decide) (fun h5 => ?_) (fun h5 => ?_)
      · try simp (disch := omega) only [nI_leI, nI_ltI, nI_eq, xz_eq, xz_le, xz_gt, cI_0, cI_n0, cI_inj, lg_cmp_ge, lg_cmp_le, lg_cmp_gt, lg_cmp_lt, lg_cmp_eq, Bool.not_eq_true, Bool.not_eq_false, Nat.not_le, Nat.not_lt] at h5
        exact xv_return hC hr dX4_replace_45 rfl rfl (by rw [show i = 100 by omega])
      · try simp (disch := omega) only [nI_leI, nI_ltI, nI_eq, xz_eq, xz_le, xz_gt, cI_0, cI_n0, cI_inj, lg_cmp_ge, lg_cmp_le, lg_cmp_gt, lg_cmp_lt, lg_cmp_eq, Bool.not_eq_true, Bool.not_eq_false, Nat.not_le, Nat.not_lt] at h5
        refine xv_aload_n hC dX4_replace_8 rfl rfl ?_
        refine tg_X0_0 hC (by first | assumption | omega) fl_X4_50 dX4_replace_9 ?_
        refine xv_iload_n hC dX4_replace_12 rfl rfl ?_
        refine al_there hC (by first | assumption | omega) dX4_replace_13 rfl (by first | assumption | omega) ?_
        refine xv_if_eq (tgt := 32) hC dX4_replace_14 (by decide) (fun h14 => ?_) (fun h14 => ?_)
        · try simp (disch := omega) only [nI_leI, nI_ltI, nI_eq, xz_eq, xz_le, xz_gt, cI_0, cI_n0, cI_inj, lg_cmp_ge, lg_cmp_le, lg_cmp_gt, lg_cmp_lt, lg_cmp_eq, Bool.not_eq_true, Bool.not_eq_false, Nat.not_le, Nat.not_lt] at h14
          refine xv_aload_n hC dX4_replace_32 rfl rfl ?_
          refine xv_iload_n hC dX4_replace_33 rfl rfl ?_
          refine xv_iload_n hC dX4_replace_34 rfl rfl ?_
          refine xv_callV hC Y_yX4_dropEntry im_yX4_dropEntry se_yX4_dropEntry ml_X4_73 dX4_replace_35 (ev_dropEntry l G h sz (rpE E S q r i).1 (rpE E S q r i).2 O od L Rd w0 (q := q) (i := i) hq (by omega) (fun ht => (rpE_ok hE (by omega) i (by omega)).pos (by omega) (by omega) ht)) (wl_Setter _ _ _ _ _ _ _ _ _) rfl rfl rfl (Nat.le_of_ble_eq_true rfl) ⟨Nat.le_of_ble_eq_true rfl, Nat.le_of_ble_eq_true rfl⟩ ⟨Nat.le_of_ble_eq_true rfl, Nat.le_of_ble_eq_true rfl⟩ ?_
          refine xv_rs ?_
          refine xv_pop hC dX4_replace_38 rfl ?_
          refine xv_iinc hC dX4_replace_39 rfl (xinc _) (by decide) ?_
          refine xv_goto (tgt := 2) hC dX4_replace_42 (by decide) ?_
          refine xv_world (show _ = wC G h ((rpE E S q r (i + 1)).1) ((rpE E S q r (i + 1)).2) O od L Rd w0 by simp [rpE, h14]) ?_
          exact ih2 (i + 1) (by omega) (by omega)
        · try simp (disch := omega) only [nI_leI, nI_ltI, nI_eq, xz_eq, xz_le, xz_gt, cI_0, cI_n0, cI_inj, lg_cmp_ge, lg_cmp_le, lg_cmp_gt, lg_cmp_lt, lg_cmp_eq, Bool.not_eq_true, Bool.not_eq_false, Nat.not_le, Nat.not_lt] at h14
          refine xv_aload_n hC dX4_replace_17 rfl rfl ?_
          refine xv_iload_n hC dX4_replace_18 rfl rfl ?_
          refine xv_iload_n hC dX4_replace_19 rfl rfl ?_
          refine xv_aload_n hC dX4_replace_20 rfl rfl ?_
          refine tg_X0_1 hC (by first | assumption | omega) fl_X4_65 dX4_replace_21 ?_
          refine xv_iload_n hC dX4_replace_24 rfl rfl ?_
          refine al_values hC (by first | assumption | omega) dX4_replace_25 rfl (by first | assumption | omega) ?_
          refine xv_callV hC Y_yX4_setEntry im_yX4_setEntry se_yX4_setEntry ml_X4_69 dX4_replace_26 (ev_setEntry l G h sz (rpE E S q r i).1 (rpE E S q r i).2 O od L Rd w0 (q := q) (i := i) hq (by omega) ((rpE E S q r i).1.2.1 r i)) (wl_Setter _ _ _ _ _ _ _ _ _) rfl rfl rfl (Nat.le_of_ble_eq_true rfl) ⟨Nat.le_of_ble_eq_true rfl, Nat.le_of_ble_eq_true rfl⟩ ⟨Nat.le_of_ble_eq_true rfl, Nat.le_of_ble_eq_true rfl⟩ ?_
          refine xv_rn ?_
          refine xv_goto (tgt := 39) hC dX4_replace_29 (by decide) ?_
          refine xv_iinc hC dX4_replace_39 rfl (xinc _) (by decide) ?_
          refine xv_goto (tgt := 2) hC dX4_replace_42 (by decide) ?_
          refine xv_world (show _ = wC G h ((rpE E S q r (i + 1)).1) ((rpE E S q r (i + 1)).2) O od L Rd w0 by simp [rpE, h14]) ?_
          exact ih2 (i + 1) (by omega) (by omega)
  exact Lp2 101 0 (by omega) (by omega)
