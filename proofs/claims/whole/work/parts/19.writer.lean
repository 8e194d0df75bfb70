set_option maxHeartbeats 1000000 in
set_option maxRecDepth 100000 in
theorem ev_bitCount (l : Launch) (G : xD) (sz : Nat) (w : xw) (x : Int32) : xM l G yJ6_bitCount_0f7a4 cJ6_bitCount_0f7a4 1 (some .int) 0 0 0 [.int x] sz (w) (some (.int (bcI x))) (sz) (w) := by
  refine xM_of (by decide) (Nat.le_of_ble_eq_true rfl) ?_
  intro A p e s m args below meth c hC hr hname
  have hC : xC p s m args meth c cJ6_bitCount_0f7a4 1 RJ6 G A := hC
  have hr : meth.sig.returnType = (some .int) := hr
  show xV p l e _ s m args below meth c G A 1 _ sz _ 0 0 0 [(0, .int x)] []
  refine xv_iload_n hC dJ6_bitCount_0f7a4_0 rfl rfl ?_
  refine xv_iload_n hC dJ6_bitCount_0f7a4_1 rfl rfl ?_
  refine xv_iconst (v := nI 1) hC dJ6_bitCount_0f7a4_2 (by decide) ?_
  refine xv_iushr hC dJ6_bitCount_0f7a4_3 ?_
  refine xv_ldcw hC dJ6_bitCount_0f7a4_4 kn_J6_265 ?_
  refine xv_iand hC dJ6_bitCount_0f7a4_7 ?_
  refine xv_isub hC dJ6_bitCount_0f7a4_8 ?_
  refine xv_cast (show _ = Value.int (bc1 x) from rfl) ?_
  refine xv_istore_n hC dJ6_bitCount_0f7a4_9 rfl (by decide) ?_
  refine xv_iload_n hC dJ6_bitCount_0f7a4_10 rfl rfl ?_
  refine xv_ldcw hC dJ6_bitCount_0f7a4_11 kn_J6_266 ?_
  refine xv_iand hC dJ6_bitCount_0f7a4_14 ?_
  refine xv_iload_n hC dJ6_bitCount_0f7a4_15 rfl rfl ?_
  refine xv_iconst (v := nI 2) hC dJ6_bitCount_0f7a4_16 (by decide) ?_
  refine xv_iushr hC dJ6_bitCount_0f7a4_17 ?_
  refine xv_ldcw hC dJ6_bitCount_0f7a4_18 kn_J6_266 ?_
  refine xv_iand hC dJ6_bitCount_0f7a4_21 ?_
  refine xv_iadd hC dJ6_bitCount_0f7a4_22 ?_
  refine xv_cast (show _ = Value.int (bc2 (bc1 x)) from rfl) ?_
  refine xv_istore_n hC dJ6_bitCount_0f7a4_23 rfl (by decide) ?_
  refine xv_iload_n hC dJ6_bitCount_0f7a4_24 rfl rfl ?_
  refine xv_iload_n hC dJ6_bitCount_0f7a4_25 rfl rfl ?_
  refine xv_iconst (v := nI 4) hC dJ6_bitCount_0f7a4_26 (by decide) ?_
  refine xv_iushr hC dJ6_bitCount_0f7a4_27 ?_
  refine xv_iadd hC dJ6_bitCount_0f7a4_28 ?_
  refine xv_ldcw hC dJ6_bitCount_0f7a4_29 kn_J6_267 ?_
  refine xv_iand hC dJ6_bitCount_0f7a4_32 ?_
  refine xv_cast (show _ = Value.int (bc3 (bc2 (bc1 x))) from rfl) ?_
  refine xv_istore_n hC dJ6_bitCount_0f7a4_33 rfl (by decide) ?_
  refine xv_iload_n hC dJ6_bitCount_0f7a4_34 rfl rfl ?_
  refine xv_iload_n hC dJ6_bitCount_0f7a4_35 rfl rfl ?_
  refine xv_bipush (v := nI 8) hC dJ6_bitCount_0f7a4_36 (by decide) ?_
  refine xv_iushr hC dJ6_bitCount_0f7a4_38 ?_
  refine xv_iadd hC dJ6_bitCount_0f7a4_39 ?_
  refine xv_cast (show _ = Value.int (bc4 (bc3 (bc2 (bc1 x)))) from rfl) ?_
  refine xv_istore_n hC dJ6_bitCount_0f7a4_40 rfl (by decide) ?_
  refine xv_iload_n hC dJ6_bitCount_0f7a4_41 rfl rfl ?_
  refine xv_iload_n hC dJ6_bitCount_0f7a4_42 rfl rfl ?_
  refine xv_bipush (v := nI 16) hC dJ6_bitCount_0f7a4_43 (by decide) ?_
  refine xv_iushr hC dJ6_bitCount_0f7a4_45 ?_
  refine xv_iadd hC dJ6_bitCount_0f7a4_46 ?_
  refine xv_cast (show _ = Value.int (bc5 (bc4 (bc3 (bc2 (bc1 x))))) from rfl) ?_
  refine xv_istore_n hC dJ6_bitCount_0f7a4_47 rfl (by decide) ?_
  refine xv_iload_n hC dJ6_bitCount_0f7a4_48 rfl rfl ?_
  refine xv_bipush (v := nI 63) hC dJ6_bitCount_0f7a4_49 (by decide) ?_
  refine xv_iand hC dJ6_bitCount_0f7a4_51 ?_
  exact xv_ireturn hC hr dJ6_bitCount_0f7a4_52 rfl rfl rfl
set_option maxHeartbeats 1000000 in
set_option maxRecDepth 100000 in
theorem ev_writeRows (l : Launch) (G : xD) (h sz : Nat) (E : cE) (S : cS) (O : cO) (on : Nat → Nat) (L : cL) (Rd : cR) (w0 : xw) (hO : O.2.1 1 ≤ 8000) {q : Nat} (hq : q < 25) (hE : eOK E) : xM l G yX5_writeRows cX5_writeRows 6 none 2 0 0 [.ref (h + 42), .ref (eA h q)] sz (wC G h E S (O) (oN on) L Rd w0) (none) (sz) (wC G h E S (oApps O 1 (wrL E q 100).2) (oN on) L Rd w0) := by
  refine xM_of (by decide) (Nat.le_of_ble_eq_true rfl) ?_
  intro A p e s m args below meth c hC hr hname
  have hC : xC p s m args meth c cX5_writeRows 6 RX5 G A := hC
  have hr : meth.sig.returnType = none := hr
  show xV p l e _ s m args below meth c G A 6 _ sz _ 0 0 0 [(0, .ref (h + 42)), (1, .ref (eA h q))] []
  refine xv_aload_n hC dX5_writeRows_0 rfl rfl ?_
  refine tg_X5_0 hC fl_X5_12 dX5_writeRows_1 ?_
  refine xv_aload_n hC dX5_writeRows_4 rfl rfl ?_
  refine tg_X0_2 hC (by first | assumption | omega) fl_X5_96 dX5_writeRows_5 ?_
  refine xv_i2l hC dX5_writeRows_8 ?_
  refine xv_cast (congrArg Value.long (nI_l (by have := hE.lt hq; omega))) ?_
  refine xv_callV hC Y_yX2_appendCount im_yX2_appendCount se_yX2_appendCount ml_X5_99 dX5_writeRows_9 (ev_appendCount l G h sz E S O (oN on) L Rd w0 (b := 1) (by omega) hO (lN (E.2.2 q))) (wl_oA _ _ _ _ _ _ _ _ _ (by first | assumption | omega)) rfl rfl rfl (Nat.le_of_ble_eq_true rfl) ⟨Nat.le_of_ble_eq_true rfl, Nat.le_of_ble_eq_true rfl⟩ ⟨Nat.le_of_ble_eq_true rfl, Nat.le_of_ble_eq_true rfl⟩ ?_
  refine xv_rn ?_
  refine xv_iconst (v := nI 0 - nI 1) hC dX5_writeRows_12 (by decide) ?_
  refine xv_istore_n hC dX5_writeRows_13 rfl (by decide) ?_
  refine xv_iconst (v := nI 0) hC dX5_writeRows_14 (by decide) ?_
  refine xv_istore_n hC dX5_writeRows_15 rfl (by decide) ?_
  have Lp16 : ∀ (n i : Nat), (i ≤ 100) → (100 < i + n) → xV p l e (xr 2 0 0) s m args below meth c G A 6 (MQ below (xQ G A (none) (sz) (wC G h E S (oApps O 1 (wrL E q 100).2) (oN on) L Rd w0)) args s 0 0 A) sz (wC G h E S (oApps O 1 (wrL E q i).2) (oN on) L Rd w0) 0 0 16 [(3, .int (nI i)), (2, .int (nI (wrL E q i).1 - nI 1)), (0, .ref (h + 42)), (1, .ref (eA h q))] [] := by
    intro n
    induction n with
    | zero =>
      intro i hi hn
      omega
    | succ n ih16 =>
      intro i hi hn
      refine xv_iload_n hC dX5_writeRows_16 rfl rfl ?_
      refine xv_bipush (v := nI 100) hC dX5_writeRows_17 (by decide) ?_
      refine xv_icmp_ge (tgt := 91) hC dX5_writeRows_19 (by decide) (fun h19 => ?_) (fun h19 => ?_)
      · try simp (disch := omega) only [nI_leI, nI_ltI, nI_eq, xz_eq, xz_le, xz_gt, cI_0, cI_n0, cI_inj, lg_cmp_ge, lg_cmp_le, lg_cmp_gt, lg_cmp_lt, lg_cmp_eq, Bool.not_eq_true, Bool.not_eq_false, Nat.not_le, Nat.not_lt] at h19
        exact xv_return hC hr dX5_writeRows_91 rfl rfl (by rw [show i = 100 by omega])
      · try simp (disch := omega) only [nI_leI, nI_ltI, nI_eq, xz_eq, xz_le, xz_gt, cI_0, cI_n0, cI_inj, lg_cmp_ge, lg_cmp_le, lg_cmp_gt, lg_cmp_lt, lg_cmp_eq, Bool.not_eq_true, Bool.not_eq_false, Nat.not_le, Nat.not_lt] at h19
        refine xv_aload_n hC dX5_writeRows_22 rfl rfl ?_
        refine tg_X0_0 hC (by first | assumption | omega) fl_X5_103 dX5_writeRows_23 ?_
        refine xv_iload_n hC dX5_writeRows_26 rfl rfl ?_
        refine al_there hC (by first | assumption | omega) dX5_writeRows_27 rfl (by first | assumption | omega) ?_
        refine xv_if_eq (tgt := 85) hC dX5_writeRows_28 (by decide) (fun h28 => ?_) (fun h28 => ?_)
        · try simp (disch := omega) only [nI_leI, nI_ltI, nI_eq, xz_eq, xz_le, xz_gt, cI_0, cI_n0, cI_inj, lg_cmp_ge, lg_cmp_le, lg_cmp_gt, lg_cmp_lt, lg_cmp_eq, Bool.not_eq_true, Bool.not_eq_false, Nat.not_le, Nat.not_lt] at h28
          refine xv_iinc hC dX5_writeRows_85 rfl (xinc _) (by decide) ?_
          refine xv_goto (tgt := 16) hC dX5_writeRows_88 (by decide) ?_
          refine xv_world (show _ = wC G h E S (oApps O 1 (wrL E q (i + 1)).2) (oN on) L Rd w0 by simp [wrL, h28, oApps_app]) ?_
          refine xV.to [(3, .int (nI (i + 1))), (2, .int (nI (wrL E q (i + 1)).1 - nI 1)), (0, .ref (h + 42)), (1, .ref (eA h q))] ⟨rfl, congrArg (fun z => some (Value.int (nI z - nI 1))) (show _ = (wrL E q (i + 1)).1 by simp [wrL, h28]), rfl, rfl, trivial⟩ ?_
          exact ih16 (i + 1) (by omega) (by omega)
        · try simp (disch := omega) only [nI_leI, nI_ltI, nI_eq, xz_eq, xz_le, xz_gt, cI_0, cI_n0, cI_inj, lg_cmp_ge, lg_cmp_le, lg_cmp_gt, lg_cmp_lt, lg_cmp_eq, Bool.not_eq_true, Bool.not_eq_false, Nat.not_le, Nat.not_lt] at h28
          refine xv_aload_n hC dX5_writeRows_31 rfl rfl ?_
          refine tg_X0_1 hC (by first | assumption | omega) fl_X5_107 dX5_writeRows_32 ?_
          refine xv_iload_n hC dX5_writeRows_35 rfl rfl ?_
          refine al_values hC (by first | assumption | omega) dX5_writeRows_36 rfl (by first | assumption | omega) ?_
          refine xv_lstore hC dX5_writeRows_37 (by decide) ?_
          refine xv_aload_n hC dX5_writeRows_39 rfl rfl ?_
          refine tg_X5_0 hC fl_X5_12 dX5_writeRows_40 ?_
          refine xv_iload_n hC dX5_writeRows_43 rfl rfl ?_
          refine xv_iload_n hC dX5_writeRows_44 rfl rfl ?_
          refine xv_isub hC dX5_writeRows_45 ?_
          refine xv_iconst (v := nI 1) hC dX5_writeRows_46 (by decide) ?_
          refine xv_isub hC dX5_writeRows_47 ?_
          refine xv_cast (congrArg Value.int (gapI (wrL_le E q i))) ?_
          refine xv_i2l hC dX5_writeRows_48 ?_
          refine xv_cast (congrArg Value.long (nI_l (by omega))) ?_
          refine xv_callV hC Y_yX2_appendCount im_yX2_appendCount se_yX2_appendCount ml_X5_99 dX5_writeRows_49 (ev_appendCount l G h sz E S (oApps O 1 (wrL E q i).2) (oN on) L Rd w0 (b := 1) (by omega) (oApps_len hO) (lN (i - (wrL E q i).1))) (wl_oA _ _ _ _ _ _ _ _ _ (by first | assumption | omega)) rfl rfl rfl (Nat.le_of_ble_eq_true rfl) ⟨Nat.le_of_ble_eq_true rfl, Nat.le_of_ble_eq_true rfl⟩ ⟨Nat.le_of_ble_eq_true rfl, Nat.le_of_ble_eq_true rfl⟩ ?_
          refine xv_rn ?_
          refine xv_aload_n hC dX5_writeRows_52 rfl rfl ?_
          refine tg_X5_0 hC fl_X5_12 dX5_writeRows_53 ?_
          refine xv_lload hC dX5_writeRows_56 rfl ?_
          refine xv_lconst (v := 0) hC dX5_writeRows_58 (by decide) ?_
          refine xv_lcmp hC dX5_writeRows_59 ?_
          refine xv_if_lt (tgt := 71) hC dX5_writeRows_60 (by decide) (fun h60 => ?_) (fun h60 => ?_)
          · rw [lg_cmp_lt] at h60
            refine xv_ldc2 hC dX5_writeRows_71 kn_X5_111 ?_
            refine xv_lload hC dX5_writeRows_74 rfl ?_
            refine xv_lsub hC dX5_writeRows_76 ?_
            refine xv_lload hC dX5_writeRows_77 rfl ?_
            refine xv_lsub hC dX5_writeRows_79 ?_
            refine xv_cast (congrArg Value.long (show _ = zzE (E.2.1 q i) by rw [zzE, if_pos h60])) ?_
            refine xv_callV hC Y_yX2_appendCount im_yX2_appendCount se_yX2_appendCount ml_X5_99 dX5_writeRows_80 (ev_appendCount l G h sz E S (oApps (oApps O 1 (wrL E q i).2) 1 (cB 9 (lN (i - (wrL E q i).1)))) (oN on) L Rd w0 (b := 1) (by omega) (oApps_len (oApps_len hO)) (zzE (E.2.1 q i))) (wl_oA _ _ _ _ _ _ _ _ _ (by first | assumption | omega)) rfl rfl rfl (Nat.le_of_ble_eq_true rfl) ⟨Nat.le_of_ble_eq_true rfl, Nat.le_of_ble_eq_true rfl⟩ ⟨Nat.le_of_ble_eq_true rfl, Nat.le_of_ble_eq_true rfl⟩ ?_
            refine xv_rn ?_
            refine xv_iload_n hC dX5_writeRows_83 rfl rfl ?_
            refine xv_cast (congrArg Value.int (pk_sub (a := i + 1) (b := 1) (by omega)).symm) ?_
            refine xv_istore_n hC dX5_writeRows_84 rfl (by decide) ?_
            refine xv_iinc hC dX5_writeRows_85 rfl (xinc _) (by decide) ?_
            refine xv_goto (tgt := 16) hC dX5_writeRows_88 (by decide) ?_
            refine xv_world (show _ = wC G h E S (oApps O 1 (wrL E q (i + 1)).2) (oN on) L Rd w0 by simp [wrL, h28, oApps_app]) ?_
            refine xV.to [(3, .int (nI (i + 1))), (2, .int (nI (wrL E q (i + 1)).1 - nI 1)), (0, .ref (h + 42)), (1, .ref (eA h q))] ⟨rfl, congrArg (fun z => some (Value.int (nI z - nI 1))) (show _ = (wrL E q (i + 1)).1 by simp [wrL, h28]), rfl, rfl, trivial⟩ ?_
            exact ih16 (i + 1) (by omega) (by omega)
          · rw [lg_cmp_lt] at h60
            refine xv_lload hC dX5_writeRows_63 rfl ?_
            refine xv_lload hC dX5_writeRows_65 rfl ?_
            refine xv_ladd hC dX5_writeRows_67 ?_
            refine xv_goto (tgt := 80) hC dX5_writeRows_68 (by decide) ?_
            refine xv_cast (congrArg Value.long (show _ = zzE (E.2.1 q i) by rw [zzE, if_neg h60])) ?_
            refine xv_callV hC Y_yX2_appendCount im_yX2_appendCount se_yX2_appendCount ml_X5_99 dX5_writeRows_80 (ev_appendCount l G h sz E S (oApps (oApps O 1 (wrL E q i).2) 1 (cB 9 (lN (i - (wrL E q i).1)))) (oN on) L Rd w0 (b := 1) (by omega) (oApps_len (oApps_len hO)) (zzE (E.2.1 q i))) (wl_oA _ _ _ _ _ _ _ _ _ (by first | assumption | omega)) rfl rfl rfl (Nat.le_of_ble_eq_true rfl) ⟨Nat.le_of_ble_eq_true rfl, Nat.le_of_ble_eq_true rfl⟩ ⟨Nat.le_of_ble_eq_true rfl, Nat.le_of_ble_eq_true rfl⟩ ?_
            refine xv_rn ?_
            refine xv_iload_n hC dX5_writeRows_83 rfl rfl ?_
            refine xv_cast (congrArg Value.int (pk_sub (a := i + 1) (b := 1) (by omega)).symm) ?_
            refine xv_istore_n hC dX5_writeRows_84 rfl (by decide) ?_
            refine xv_iinc hC dX5_writeRows_85 rfl (xinc _) (by decide) ?_
            refine xv_goto (tgt := 16) hC dX5_writeRows_88 (by decide) ?_
            refine xv_world (show _ = wC G h E S (oApps O 1 (wrL E q (i + 1)).2) (oN on) L Rd w0 by simp [wrL, h28, oApps_app]) ?_
            refine xV.to [(3, .int (nI (i + 1))), (2, .int (nI (wrL E q (i + 1)).1 - nI 1)), (0, .ref (h + 42)), (1, .ref (eA h q))] ⟨rfl, congrArg (fun z => some (Value.int (nI z - nI 1))) (show _ = (wrL E q (i + 1)).1 by simp [wrL, h28]), rfl, rfl, trivial⟩ ?_
            exact ih16 (i + 1) (by omega) (by omega)
  exact Lp16 101 0 (by omega) (by omega)
set_option maxHeartbeats 1000000 in
set_option maxRecDepth 100000 in
theorem ev_firstAlike (l : Launch) (G : xD) (h sz : Nat) (E : cE) (S : cS) (O : cO) (on : Nat → Nat) (L : cL) (Rd : cR) (w0 : xw) {s1 : Nat} (hs : s1 < 12) (hod : ∀ j, j ≤ s1 → on j < 12) (hE : eOK E) : xM l G yX5_firstAlike cX5_firstAlike 4 (some .int) 2 0 0 [.ref (h + 42), .int (nI s1)] sz (wC G h E S (O) (oN on) L Rd w0) (some (.int (nI (faN E on s1)))) (sz) (wC G h E S (O) (oN on) L Rd w0) := by
  refine xM_of (by decide) (Nat.le_of_ble_eq_true rfl) ?_
  intro A p e s m args below meth c hC hr hname
  have hC : xC p s m args meth c cX5_firstAlike 4 RX5 G A := hC
  have hr : meth.sig.returnType = (some .int) := hr
  show xV p l e _ s m args below meth c G A 4 _ sz _ 0 0 0 [(0, .ref (h + 42)), (1, .int (nI s1))] []
  refine xv_aload_n hC dX5_firstAlike_0 rfl rfl ?_
  refine tg_X5_1 hC fl_X5_22 dX5_firstAlike_1 ?_
  refine tg_X4_0 hC fl_X5_78 dX5_firstAlike_4 ?_
  refine xv_aload_n hC dX5_firstAlike_7 rfl rfl ?_
  refine tg_X5_2 hC fl_X5_18 dX5_firstAlike_8 ?_
  refine xv_iload_n hC dX5_firstAlike_11 rfl rfl ?_
  refine al_order hC dX5_firstAlike_12 rfl (by first | assumption | omega) ?_
  refine al_parts hC dX5_firstAlike_13 rfl (hod _ (by omega)) ?_
  refine xv_astore_n hC dX5_firstAlike_14 rfl (by decide) ?_
  refine xv_iconst (v := nI 0) hC dX5_firstAlike_15 (by decide) ?_
  refine xv_istore_n hC dX5_firstAlike_16 rfl (by decide) ?_
  have Lp17 : ∀ (n i : Nat), (i ≤ s1) → (s1 < i + n) → (∀ j, j < i → eLike E (on j) (on s1) = false) → xV p l e (xr 2 0 0) s m args below meth c G A 4 (MQ below (xQ G A (some (.int (nI (faN E on s1)))) (sz) (wC G h E S (O) (oN on) L Rd w0)) args s 0 0 A) sz (wC G h E S (O) (oN on) L Rd w0) 0 0 17 [(3, .int (nI i)), (2, .ref (eA h (on s1))), (0, .ref (h + 42)), (1, .int (nI s1))] [] := by
    intro n
    induction n with
    | zero =>
      intro i hi hn hb
      omega
    | succ n ih17 =>
      intro i hi hn hb
      refine xv_iload_n hC dX5_firstAlike_17 rfl rfl ?_
      refine xv_iload_n hC dX5_firstAlike_18 rfl rfl ?_
      refine xv_icmp_ge (tgt := 51) hC dX5_firstAlike_19 (by decide) (fun h19 => ?_) (fun h19 => ?_)
      · try simp (disch := omega) only [nI_leI, nI_ltI, nI_eq, xz_eq, xz_le, xz_gt, cI_0, cI_n0, cI_inj, lg_cmp_ge, lg_cmp_le, lg_cmp_gt, lg_cmp_lt, lg_cmp_eq, Bool.not_eq_true, Bool.not_eq_false, Nat.not_le, Nat.not_lt] at h19
        refine xv_iload_n hC dX5_firstAlike_51 rfl rfl ?_
        exact xv_ireturn hC hr dX5_firstAlike_52 (by rw [faN, fstB_no (fun j hj => hb j (by omega))]; rfl) rfl rfl
      · try simp (disch := omega) only [nI_leI, nI_ltI, nI_eq, xz_eq, xz_le, xz_gt, cI_0, cI_n0, cI_inj, lg_cmp_ge, lg_cmp_le, lg_cmp_gt, lg_cmp_lt, lg_cmp_eq, Bool.not_eq_true, Bool.not_eq_false, Nat.not_le, Nat.not_lt] at h19
        refine xv_aload_n hC dX5_firstAlike_22 rfl rfl ?_
        refine tg_X5_1 hC fl_X5_22 dX5_firstAlike_23 ?_
        refine tg_X4_0 hC fl_X5_78 dX5_firstAlike_26 ?_
        refine xv_aload_n hC dX5_firstAlike_29 rfl rfl ?_
        refine tg_X5_2 hC fl_X5_18 dX5_firstAlike_30 ?_
        refine xv_iload_n hC dX5_firstAlike_33 rfl rfl ?_
        refine al_order hC dX5_firstAlike_34 rfl (by first | assumption | omega) ?_
        refine al_parts hC dX5_firstAlike_35 rfl (hod _ (by omega)) ?_
        have ho1 := hod i (by omega)
        have ho2 := hod s1 (by omega)
        have hE1 := hE.lt (show on i < 25 by omega)
        have hE2 := hE.lt (show on s1 < 25 by omega)
        refine xv_aload_n hC dX5_firstAlike_36 rfl rfl ?_
        refine xv_callV hC Y_yX0_isLike im_yX0_isLike se_yX0_isLike ml_X5_90 dX5_firstAlike_37 (ev_isLike l G h sz E S O (oN on) L Rd w0 (q := on i) (q' := on s1) (by omega) (by omega) (by omega) (by omega)) (wl_eA _ _ _ _ _ _ _ _ _ (by first | assumption | omega)) rfl rfl rfl (Nat.le_of_ble_eq_true rfl) ⟨Nat.le_of_ble_eq_true rfl, Nat.le_of_ble_eq_true rfl⟩ ⟨Nat.le_of_ble_eq_true rfl, Nat.le_of_ble_eq_true rfl⟩ ?_
        refine xv_rs ?_
        refine xv_if_eq (tgt := 45) hC dX5_firstAlike_40 (by decide) (fun h40 => ?_) (fun h40 => ?_)
        · try simp (disch := omega) only [nI_leI, nI_ltI, nI_eq, xz_eq, xz_le, xz_gt, cI_0, cI_n0, cI_inj, lg_cmp_ge, lg_cmp_le, lg_cmp_gt, lg_cmp_lt, lg_cmp_eq, Bool.not_eq_true, Bool.not_eq_false, Nat.not_le, Nat.not_lt] at h40
          refine xv_iinc hC dX5_firstAlike_45 rfl (xinc _) (by decide) ?_
          refine xv_goto (tgt := 17) hC dX5_firstAlike_48 (by decide) ?_
          exact ih17 (i + 1) (by omega) (by omega) (lt_s hb h40)
        · try simp (disch := omega) only [nI_leI, nI_ltI, nI_eq, xz_eq, xz_le, xz_gt, cI_0, cI_n0, cI_inj, lg_cmp_ge, lg_cmp_le, lg_cmp_gt, lg_cmp_lt, lg_cmp_eq, Bool.not_eq_true, Bool.not_eq_false, Nat.not_le, Nat.not_lt] at h40
          refine xv_iload_n hC dX5_firstAlike_43 rfl rfl ?_
          exact xv_ireturn hC hr dX5_firstAlike_44 (by rw [faN, fstB_yes (i := i) h40 hb (by omega)]; rfl) rfl rfl
  exact Lp17 (s1 + 1) 0 (by omega) (by omega) lt_0
set_option maxHeartbeats 1000000 in
set_option maxRecDepth 100000 in
theorem ev_writeSection (l : Launch) (G : xD) (h sz : Nat) (E : cE) (S : cS) (O : cO) (on : Nat → Nat) (L : cL) (Rd : cR) (w0 : xw) (hO : O.2.1 1 ≤ 8000) {s1 : Nat} (hs : s1 < 12) (hod : ∀ j, j ≤ s1 → on j < 12) (hE : eOK E) : xM l G yX5_writeSection cX5_writeSection 4 none 3 0 0 [.ref (h + 42), .int (nI s1)] sz (wC G h E S (O) (oN on) L Rd w0) (none) (sz) (wC G h E S (wsO E on O s1) (oN on) L Rd w0) := by
  refine xM_of (by decide) (Nat.le_of_ble_eq_true rfl) ?_
  intro A p e s m args below meth c hC hr hname
  have hC : xC p s m args meth c cX5_writeSection 4 RX5 G A := hC
  have hr : meth.sig.returnType = none := hr
  show xV p l e _ s m args below meth c G A 4 _ sz _ 0 0 0 [(0, .ref (h + 42)), (1, .int (nI s1))] []
  refine xv_aload_n hC dX5_writeSection_0 rfl rfl ?_
  refine tg_X5_0 hC fl_X5_12 dX5_writeSection_1 ?_
  refine tg_X2_1 hC (by first | assumption | omega) fl_X5_72 dX5_writeSection_4 ?_
  refine xv_istore_n hC dX5_writeSection_7 rfl (by decide) ?_
  refine xv_aload_n hC dX5_writeSection_8 rfl rfl ?_
  refine xv_iload_n hC dX5_writeSection_9 rfl rfl ?_
  refine xv_callV hC Y_yX5_firstAlike im_yX5_firstAlike se_yX5_firstAlike ml_X5_75 dX5_writeSection_10 (ev_firstAlike l G h sz E S O on L Rd w0 hs hod hE) (wl_Writer _ _ _ _ _ _ _ _ _) rfl rfl rfl (Nat.le_of_ble_eq_true rfl) ⟨Nat.le_of_ble_eq_true rfl, Nat.le_of_ble_eq_true rfl⟩ ⟨Nat.le_of_ble_eq_true rfl, Nat.le_of_ble_eq_true rfl⟩ ?_
  refine xv_rs ?_
  refine xv_istore_n hC dX5_writeSection_13 rfl (by decide) ?_
  refine xv_aload_n hC dX5_writeSection_14 rfl rfl ?_
  refine tg_X5_0 hC fl_X5_12 dX5_writeSection_15 ?_
  refine xv_aload_n hC dX5_writeSection_18 rfl rfl ?_
  refine tg_X5_2 hC fl_X5_18 dX5_writeSection_19 ?_
  refine xv_iload_n hC dX5_writeSection_22 rfl rfl ?_
  refine al_order hC dX5_writeSection_23 rfl (by first | assumption | omega) ?_
  refine xv_callV hC Y_yX2_append im_yX2_append se_yX2_append ml_X5_49 dX5_writeSection_24 (ev_append l G h sz E S O (oN on) L Rd w0 (b := 1) (by omega) hO (nI (on s1))) (wl_oA _ _ _ _ _ _ _ _ _ (by first | assumption | omega)) rfl rfl rfl (Nat.le_of_ble_eq_true rfl) ⟨Nat.le_of_ble_eq_true rfl, Nat.le_of_ble_eq_true rfl⟩ ⟨Nat.le_of_ble_eq_true rfl, Nat.le_of_ble_eq_true rfl⟩ ?_
  refine xv_rn ?_
  have J77 : xV p l e (xr 3 0 0) s m args below meth c G A 4 (MQ below (xQ G A (none) (sz) (wC G h E S (wsO E on O s1) (oN on) L Rd w0)) args s 0 0 A) sz (wC G h E S (wsO1 E on O s1) (oN on) L Rd w0) 0 0 77 [(2, .int (nI (O.2.1 1))), (0, .ref (h + 42)), (1, .int (nI s1))] [] := by
    refine xv_aload_n hC dX5_writeSection_77 rfl rfl ?_
    refine tg_X5_0 hC fl_X5_12 dX5_writeSection_78 ?_
    refine xv_aload_n hC dX5_writeSection_81 rfl rfl ?_
    refine tg_X5_0 hC fl_X5_12 dX5_writeSection_82 ?_
    refine xv_iload_n hC dX5_writeSection_85 rfl rfl ?_
    refine xv_aload_n hC dX5_writeSection_86 rfl rfl ?_
    refine tg_X5_0 hC fl_X5_12 dX5_writeSection_87 ?_
    refine tg_X2_1 hC (by first | assumption | omega) fl_X5_72 dX5_writeSection_90 ?_
    refine xv_cast (congrArg Value.int (show _ = nI (O.2.1 1 + ((wsO1 E on O s1).2.1 1 - O.2.1 1)) by rw [Nat.add_sub_cancel' (show O.2.1 1 ≤ (wsO1 E on O s1).2.1 1 from oApps_mono 1 _ _)])) ?_
    refine xv_callV hC Y_yX2_sumOf im_yX2_sumOf se_yX2_sumOf ml_X5_86 dX5_writeSection_93 (ev_sumOf l G h sz E S (wsO1 E on O s1) (oN on) L Rd w0 (b := 1) (by omega) (oApps_len hO) (a := O.2.1 1) (n0 := (wsO1 E on O s1).2.1 1 - O.2.1 1) (by have := oApps_len (b := 1) (xs := secB E on s1) hO; have : (wsO1 E on O s1).2.1 1 ≤ 8000 := this; omega)) (wl_oA _ _ _ _ _ _ _ _ _ (by first | assumption | omega)) rfl rfl rfl (Nat.le_of_ble_eq_true rfl) ⟨Nat.le_of_ble_eq_true rfl, Nat.le_of_ble_eq_true rfl⟩ ⟨Nat.le_of_ble_eq_true rfl, Nat.le_of_ble_eq_true rfl⟩ ?_
    refine xv_rs ?_
    refine xv_callV hC Y_yX2_appendFour im_yX2_appendFour se_yX2_appendFour ml_X5_69 dX5_writeSection_96 (ev_appendFour l G h sz E S (wsO1 E on O s1) (oN on) L Rd w0 (b := 1) (by omega) (oApps_len hO) (smF (oAt (wsO1 E on O s1) 1) (O.2.1 1) ((wsO1 E on O s1).2.1 1 - O.2.1 1))) (wl_oA _ _ _ _ _ _ _ _ _ (by first | assumption | omega)) rfl rfl rfl (Nat.le_of_ble_eq_true rfl) ⟨Nat.le_of_ble_eq_true rfl, Nat.le_of_ble_eq_true rfl⟩ ⟨Nat.le_of_ble_eq_true rfl, Nat.le_of_ble_eq_true rfl⟩ ?_
    refine xv_rn ?_
    exact xv_return hC hr dX5_writeSection_99 rfl rfl rfl
  have hfa := faN_le E on s1
  refine xv_iload_n hC dX5_writeSection_27 rfl rfl ?_
  refine xv_iload_n hC dX5_writeSection_28 rfl rfl ?_
  refine xv_icmp_ge (tgt := 51) hC dX5_writeSection_29 (by decide) (fun h29 => ?_) (fun h29 => ?_)
  · rw [nI_leI (by omega) (by omega)] at h29
    have h29 : ¬ faN E on s1 < s1 := by omega
    refine xv_aload_n hC dX5_writeSection_51 rfl rfl ?_
    refine tg_X5_0 hC fl_X5_12 dX5_writeSection_52 ?_
    refine xv_iconst (v := nI 0) hC dX5_writeSection_55 (by decide) ?_
    refine xv_callV hC Y_yX2_append im_yX2_append se_yX2_append ml_X5_49 dX5_writeSection_56 (ev_append l G h sz E S (oApp O 1 (nI (on s1))) (oN on) L Rd w0 (b := 1) (by omega) (oApp_len hO) (nI 0)) (wl_oA _ _ _ _ _ _ _ _ _ (by first | assumption | omega)) rfl rfl rfl (Nat.le_of_ble_eq_true rfl) ⟨Nat.le_of_ble_eq_true rfl, Nat.le_of_ble_eq_true rfl⟩ ⟨Nat.le_of_ble_eq_true rfl, Nat.le_of_ble_eq_true rfl⟩ ?_
    refine xv_rn ?_
    refine xv_aload_n hC dX5_writeSection_59 rfl rfl ?_
    refine xv_aload_n hC dX5_writeSection_60 rfl rfl ?_
    refine tg_X5_1 hC fl_X5_22 dX5_writeSection_61 ?_
    refine tg_X4_0 hC fl_X5_78 dX5_writeSection_64 ?_
    refine xv_aload_n hC dX5_writeSection_67 rfl rfl ?_
    refine tg_X5_2 hC fl_X5_18 dX5_writeSection_68 ?_
    refine xv_iload_n hC dX5_writeSection_71 rfl rfl ?_
    refine al_order hC dX5_writeSection_72 rfl (by first | assumption | omega) ?_
    refine al_parts hC dX5_writeSection_73 rfl (hod _ (by omega)) ?_
    refine xv_callV hC Y_yX5_writeRows im_yX5_writeRows se_yX5_writeRows ml_X5_82 dX5_writeSection_74 (ev_writeRows l G h sz E S (oApp (oApp O 1 (nI (on s1))) 1 (nI 0)) on L Rd w0 (oApp_len (oApp_len hO)) (q := on s1) (by have := hod s1 (by omega); omega) hE) (wl_Writer _ _ _ _ _ _ _ _ _) rfl rfl rfl (Nat.le_of_ble_eq_true rfl) ⟨Nat.le_of_ble_eq_true rfl, Nat.le_of_ble_eq_true rfl⟩ ⟨Nat.le_of_ble_eq_true rfl, Nat.le_of_ble_eq_true rfl⟩ ?_
    refine xv_rn ?_
    refine xv_world (show _ = wC G h E S (wsO1 E on O s1) (oN on) L Rd w0 by simp [wsO1, secB, oApps_c, oApps_n, h29, Nat.not_lt.mpr, *]) ?_
    refine xV.to [(2, .int (nI (O.2.1 1))), (0, .ref (h + 42)), (1, .int (nI s1))] ⟨rfl, rfl, rfl, trivial⟩ ?_
    exact J77
  · rw [nI_leI (by omega) (by omega)] at h29
    have h29 : faN E on s1 < s1 := by omega
    refine xv_aload_n hC dX5_writeSection_32 rfl rfl ?_
    refine tg_X5_0 hC fl_X5_12 dX5_writeSection_33 ?_
    refine xv_iconst (v := nI 1) hC dX5_writeSection_36 (by decide) ?_
    refine xv_callV hC Y_yX2_append im_yX2_append se_yX2_append ml_X5_49 dX5_writeSection_37 (ev_append l G h sz E S (oApp O 1 (nI (on s1))) (oN on) L Rd w0 (b := 1) (by omega) (oApp_len hO) (nI 1)) (wl_oA _ _ _ _ _ _ _ _ _ (by first | assumption | omega)) rfl rfl rfl (Nat.le_of_ble_eq_true rfl) ⟨Nat.le_of_ble_eq_true rfl, Nat.le_of_ble_eq_true rfl⟩ ⟨Nat.le_of_ble_eq_true rfl, Nat.le_of_ble_eq_true rfl⟩ ?_
    refine xv_rn ?_
    refine xv_aload_n hC dX5_writeSection_40 rfl rfl ?_
    refine tg_X5_0 hC fl_X5_12 dX5_writeSection_41 ?_
    refine xv_iload_n hC dX5_writeSection_44 rfl rfl ?_
    refine xv_callV hC Y_yX2_append im_yX2_append se_yX2_append ml_X5_49 dX5_writeSection_45 (ev_append l G h sz E S (oApp (oApp O 1 (nI (on s1))) 1 (nI 1)) (oN on) L Rd w0 (b := 1) (by omega) (oApp_len (oApp_len hO)) (nI (faN E on s1))) (wl_oA _ _ _ _ _ _ _ _ _ (by first | assumption | omega)) rfl rfl rfl (Nat.le_of_ble_eq_true rfl) ⟨Nat.le_of_ble_eq_true rfl, Nat.le_of_ble_eq_true rfl⟩ ⟨Nat.le_of_ble_eq_true rfl, Nat.le_of_ble_eq_true rfl⟩ ?_
    refine xv_rn ?_
    refine xv_goto (tgt := 77) hC dX5_writeSection_48 (by decide) ?_
    refine xv_world (show _ = wC G h E S (wsO1 E on O s1) (oN on) L Rd w0 by simp [wsO1, secB, oApps_c, oApps_n, h29, Nat.not_lt.mpr, *]) ?_
    refine xV.to [(2, .int (nI (O.2.1 1))), (0, .ref (h + 42)), (1, .int (nI s1))] ⟨rfl, rfl, rfl, trivial⟩ ?_
    exact J77
set_option maxHeartbeats 1000000 in
set_option maxRecDepth 100000 in
theorem ev_writeHead_true (l : Launch) (G : xD) (h sz : Nat) (E : cE) (S : cS) (O : cO) (on : Nat → Nat) (L : cL) (Rd : cR) (w0 : xw) (hO : O.2.1 1 ≤ 8000) : xM l G yX5_writeHead cX5_writeHead 2 none 2 0 0 [.ref (h + 42), .int (cI true)] sz (wC G h E S (O) (oN on) L Rd w0) (none) (sz) (wC G h E S (oApps O 1 (headB S true)) (oN on) L Rd w0) := by
  refine xM_of (by decide) (Nat.le_of_ble_eq_true rfl) ?_
  intro A p e s m args below meth c hC hr hname
  have hC : xC p s m args meth c cX5_writeHead 2 RX5 G A := hC
  have hr : meth.sig.returnType = none := hr
  show xV p l e _ s m args below meth c G A 2 _ sz _ 0 0 0 [(0, .ref (h + 42)), (1, .int (cI true))] []
  refine xv_aload_n hC dX5_writeHead_0 rfl rfl ?_
  refine tg_X5_0 hC fl_X5_12 dX5_writeHead_1 ?_
  refine xv_bipush (v := nI 70) hC dX5_writeHead_4 (by decide) ?_
  refine xv_callV hC Y_yX2_append im_yX2_append se_yX2_append ml_X5_49 dX5_writeHead_6 (ev_append l G h sz E S O (oN on) L Rd w0 (b := 1) (by omega) hO (nI 70)) (wl_oA _ _ _ _ _ _ _ _ _ (by first | assumption | omega)) rfl rfl rfl (Nat.le_of_ble_eq_true rfl) ⟨Nat.le_of_ble_eq_true rfl, Nat.le_of_ble_eq_true rfl⟩ ⟨Nat.le_of_ble_eq_true rfl, Nat.le_of_ble_eq_true rfl⟩ ?_
  refine xv_rn ?_
  refine xv_aload_n hC dX5_writeHead_9 rfl rfl ?_
  refine tg_X5_0 hC fl_X5_12 dX5_writeHead_10 ?_
  refine xv_bipush (v := nI 77) hC dX5_writeHead_13 (by decide) ?_
  refine xv_callV hC Y_yX2_append im_yX2_append se_yX2_append ml_X5_49 dX5_writeHead_15 (ev_append l G h sz E S (oApps O 1 [nI 70]) (oN on) L Rd w0 (b := 1) (by omega) (oApps_len hO) (nI 77)) (wl_oA _ _ _ _ _ _ _ _ _ (by first | assumption | omega)) rfl rfl rfl (Nat.le_of_ble_eq_true rfl) ⟨Nat.le_of_ble_eq_true rfl, Nat.le_of_ble_eq_true rfl⟩ ⟨Nat.le_of_ble_eq_true rfl, Nat.le_of_ble_eq_true rfl⟩ ?_
  refine xv_rn ?_
  refine xv_aload_n hC dX5_writeHead_18 rfl rfl ?_
  refine tg_X5_0 hC fl_X5_12 dX5_writeHead_19 ?_
  refine xv_iload_n hC dX5_writeHead_22 rfl rfl ?_
  refine xv_if_eq (tgt := 30) hC dX5_writeHead_23 (by decide) (fun h23 => ?_) (fun h23 => ?_)
  · exact absurd h23 (by decide)
  · refine xv_iconst (v := nI 0) hC dX5_writeHead_26 (by decide) ?_
    refine xv_goto (tgt := 31) hC dX5_writeHead_27 (by decide) ?_
    refine xv_callV hC Y_yX2_append im_yX2_append se_yX2_append ml_X5_49 dX5_writeHead_31 (ev_append l G h sz E S (oApps O 1 [nI 70, nI 77]) (oN on) L Rd w0 (b := 1) (by omega) (oApps_len hO) (nI 0)) (wl_oA _ _ _ _ _ _ _ _ _ (by first | assumption | omega)) rfl rfl rfl (Nat.le_of_ble_eq_true rfl) ⟨Nat.le_of_ble_eq_true rfl, Nat.le_of_ble_eq_true rfl⟩ ⟨Nat.le_of_ble_eq_true rfl, Nat.le_of_ble_eq_true rfl⟩ ?_
    refine xv_rn ?_
    refine xv_aload_n hC dX5_writeHead_34 rfl rfl ?_
    refine tg_X5_0 hC fl_X5_12 dX5_writeHead_35 ?_
    refine xv_aload_n hC dX5_writeHead_38 rfl rfl ?_
    refine tg_X5_1 hC fl_X5_22 dX5_writeHead_39 ?_
    refine tg_X4_3 hC fl_X5_63 dX5_writeHead_42 ?_
    refine xv_callV hC Y_yX2_append im_yX2_append se_yX2_append ml_X5_49 dX5_writeHead_45 (ev_append l G h sz E S (oApps O 1 [nI 70, nI 77, nI 0]) (oN on) L Rd w0 (b := 1) (by omega) (oApps_len hO) S.2.2.1) (wl_oA _ _ _ _ _ _ _ _ _ (by first | assumption | omega)) rfl rfl rfl (Nat.le_of_ble_eq_true rfl) ⟨Nat.le_of_ble_eq_true rfl, Nat.le_of_ble_eq_true rfl⟩ ⟨Nat.le_of_ble_eq_true rfl, Nat.le_of_ble_eq_true rfl⟩ ?_
    refine xv_rn ?_
    refine xv_iload_n hC dX5_writeHead_48 rfl rfl ?_
    refine xv_if_ne (tgt := 66) hC dX5_writeHead_49 (by decide) (fun h49 => ?_) (fun h49 => ?_)
    · exact xv_return hC hr dX5_writeHead_66 rfl rfl (by simp only [headB, if_true, List.append_nil]; rfl)
    · exact absurd h49 (by decide)
set_option maxHeartbeats 1000000 in
set_option maxRecDepth 100000 in
theorem ev_writeHead_false (l : Launch) (G : xD) (h sz : Nat) (E : cE) (S : cS) (O : cO) (on : Nat → Nat) (L : cL) (Rd : cR) (w0 : xw) (hO : O.2.1 1 ≤ 8000) : xM l G yX5_writeHead cX5_writeHead 2 none 2 0 0 [.ref (h + 42), .int (cI false)] sz (wC G h E S (O) (oN on) L Rd w0) (none) (sz) (wC G h E S (oApps O 1 (headB S false)) (oN on) L Rd w0) := by
  refine xM_of (by decide) (Nat.le_of_ble_eq_true rfl) ?_
  intro A p e s m args below meth c hC hr hname
  have hC : xC p s m args meth c cX5_writeHead 2 RX5 G A := hC
  have hr : meth.sig.returnType = none := hr
  show xV p l e _ s m args below meth c G A 2 _ sz _ 0 0 0 [(0, .ref (h + 42)), (1, .int (cI false))] []
  refine xv_aload_n hC dX5_writeHead_0 rfl rfl ?_
  refine tg_X5_0 hC fl_X5_12 dX5_writeHead_1 ?_
  refine xv_bipush (v := nI 70) hC dX5_writeHead_4 (by decide) ?_
  refine xv_callV hC Y_yX2_append im_yX2_append se_yX2_append ml_X5_49 dX5_writeHead_6 (ev_append l G h sz E S O (oN on) L Rd w0 (b := 1) (by omega) hO (nI 70)) (wl_oA _ _ _ _ _ _ _ _ _ (by first | assumption | omega)) rfl rfl rfl (Nat.le_of_ble_eq_true rfl) ⟨Nat.le_of_ble_eq_true rfl, Nat.le_of_ble_eq_true rfl⟩ ⟨Nat.le_of_ble_eq_true rfl, Nat.le_of_ble_eq_true rfl⟩ ?_
  refine xv_rn ?_
  refine xv_aload_n hC dX5_writeHead_9 rfl rfl ?_
  refine tg_X5_0 hC fl_X5_12 dX5_writeHead_10 ?_
  refine xv_bipush (v := nI 77) hC dX5_writeHead_13 (by decide) ?_
  refine xv_callV hC Y_yX2_append im_yX2_append se_yX2_append ml_X5_49 dX5_writeHead_15 (ev_append l G h sz E S (oApps O 1 [nI 70]) (oN on) L Rd w0 (b := 1) (by omega) (oApps_len hO) (nI 77)) (wl_oA _ _ _ _ _ _ _ _ _ (by first | assumption | omega)) rfl rfl rfl (Nat.le_of_ble_eq_true rfl) ⟨Nat.le_of_ble_eq_true rfl, Nat.le_of_ble_eq_true rfl⟩ ⟨Nat.le_of_ble_eq_true rfl, Nat.le_of_ble_eq_true rfl⟩ ?_
  refine xv_rn ?_
  refine xv_aload_n hC dX5_writeHead_18 rfl rfl ?_
  refine tg_X5_0 hC fl_X5_12 dX5_writeHead_19 ?_
  refine xv_iload_n hC dX5_writeHead_22 rfl rfl ?_
  refine xv_if_eq (tgt := 30) hC dX5_writeHead_23 (by decide) (fun h23 => ?_) (fun h23 => ?_)
  · refine xv_iconst (v := nI 1) hC dX5_writeHead_30 (by decide) ?_
    refine xv_callV hC Y_yX2_append im_yX2_append se_yX2_append ml_X5_49 dX5_writeHead_31 (ev_append l G h sz E S (oApps O 1 [nI 70, nI 77]) (oN on) L Rd w0 (b := 1) (by omega) (oApps_len hO) (nI 1)) (wl_oA _ _ _ _ _ _ _ _ _ (by first | assumption | omega)) rfl rfl rfl (Nat.le_of_ble_eq_true rfl) ⟨Nat.le_of_ble_eq_true rfl, Nat.le_of_ble_eq_true rfl⟩ ⟨Nat.le_of_ble_eq_true rfl, Nat.le_of_ble_eq_true rfl⟩ ?_
    refine xv_rn ?_
    refine xv_aload_n hC dX5_writeHead_34 rfl rfl ?_
    refine tg_X5_0 hC fl_X5_12 dX5_writeHead_35 ?_
    refine xv_aload_n hC dX5_writeHead_38 rfl rfl ?_
    refine tg_X5_1 hC fl_X5_22 dX5_writeHead_39 ?_
    refine tg_X4_3 hC fl_X5_63 dX5_writeHead_42 ?_
    refine xv_callV hC Y_yX2_append im_yX2_append se_yX2_append ml_X5_49 dX5_writeHead_45 (ev_append l G h sz E S (oApps O 1 [nI 70, nI 77, nI 1]) (oN on) L Rd w0 (b := 1) (by omega) (oApps_len hO) S.2.2.1) (wl_oA _ _ _ _ _ _ _ _ _ (by first | assumption | omega)) rfl rfl rfl (Nat.le_of_ble_eq_true rfl) ⟨Nat.le_of_ble_eq_true rfl, Nat.le_of_ble_eq_true rfl⟩ ⟨Nat.le_of_ble_eq_true rfl, Nat.le_of_ble_eq_true rfl⟩ ?_
    refine xv_rn ?_
    refine xv_iload_n hC dX5_writeHead_48 rfl rfl ?_
    refine xv_if_ne (tgt := 66) hC dX5_writeHead_49 (by decide) (fun h49 => ?_) (fun h49 => ?_)
    · exact absurd h49 (by decide)
    · refine xv_aload_n hC dX5_writeHead_52 rfl rfl ?_
      refine tg_X5_0 hC fl_X5_12 dX5_writeHead_53 ?_
      refine xv_aload_n hC dX5_writeHead_56 rfl rfl ?_
      refine tg_X5_1 hC fl_X5_22 dX5_writeHead_57 ?_
      refine tg_X4_7 hC fl_X5_66 dX5_writeHead_60 ?_
      refine xv_callV hC Y_yX2_appendFour im_yX2_appendFour se_yX2_appendFour ml_X5_69 dX5_writeHead_63 (ev_appendFour l G h sz E S (oApps O 1 [nI 70, nI 77, nI 1, S.2.2.1]) (oN on) L Rd w0 (b := 1) (by omega) (oApps_len hO) S.2.2.2.2.2.2) (wl_oA _ _ _ _ _ _ _ _ _ (by first | assumption | omega)) rfl rfl rfl (Nat.le_of_ble_eq_true rfl) ⟨Nat.le_of_ble_eq_true rfl, Nat.le_of_ble_eq_true rfl⟩ ⟨Nat.le_of_ble_eq_true rfl, Nat.le_of_ble_eq_true rfl⟩ ?_
      refine xv_rn ?_
      exact xv_return hC hr dX5_writeHead_66 rfl rfl (by simp only [headB, if_false, Bool.false_eq_true, oApps_app]; try rfl)
  · exact absurd h23 (by decide)
theorem ev_writeHead (l : Launch) (G : xD) (h sz : Nat) (E : cE) (S : cS) (O : cO) (on : Nat → Nat) (L : cL) (Rd : cR) (w0 : xw)  (hO : O.2.1 1 ≤ 8000) (d : Bool) : xM l G yX5_writeHead cX5_writeHead 2 none 2 0 0 [.ref (h + 42), .int (cI d)] sz (wC G h E S (O) (oN on) L Rd w0) none sz (wC G h E S (oApps O 1 (headB S d)) (oN on) L Rd w0) := by
  cases d
  · exact ev_writeHead_false l G h sz E S O on L Rd w0 hO
  · exact ev_writeHead_true l G h sz E S O on L Rd w0 hO
set_option maxHeartbeats 1000000 in
set_option maxRecDepth 100000 in
theorem ev_writeFile (l : Launch) (G : xD) (h sz : Nat) (E : cE) (S : cS) (O : cO) (on : Nat → Nat) (L : cL) (Rd : cR) (w0 : xw) (hO : O.2.1 1 ≤ 8000) (hE : eOK E) (d : Bool) : xM l G yX5_writeFile cX5_writeFile 6 (some .boolean) 4 0 0 [.ref (h + 42), .int (cI d)] sz (wC G h E S (O) (oN on) L Rd w0) (some (.int (cI (!(wfF E S O on d).1.2.2 1)))) (sz) (wC G h E S ((wfF E S O on d).1) (oN (wfF E S O on d).2) L Rd w0) := by
  refine xM_of (by decide) (Nat.le_of_ble_eq_true rfl) ?_
  intro A p e s m args below meth c hC hr hname
  have hC : xC p s m args meth c cX5_writeFile 6 RX5 G A := hC
  have hr : meth.sig.returnType = (some .boolean) := hr
  show xV p l e _ s m args below meth c G A 6 _ sz _ 0 0 0 [(0, .ref (h + 42)), (1, .int (cI d))] []
  have J21 : xV p l e (xr 4 0 0) s m args below meth c G A 6 (MQ below (xQ G A (some (.int (cI (!(wfF E S O on d).1.2.2 1)))) (sz) (wC G h E S ((wfF E S O on d).1) (oN (wfF E S O on d).2) L Rd w0)) args s 0 0 A) sz (wC G h E S (O) (oN on) L Rd w0) 0 0 21 [(0, .ref (h + 42)), (1, .int (cI d))] [.int (wfW E S d)] := by
    refine xv_istore_n hC dX5_writeFile_21 rfl (by decide) ?_
    refine xv_aload_n hC dX5_writeFile_22 rfl rfl ?_
    refine tg_X5_0 hC fl_X5_12 dX5_writeFile_23 ?_
    refine xv_callV hC Y_yX2_clear im_yX2_clear se_yX2_clear ml_X5_36 dX5_writeFile_26 (ev_oclear l G h sz E S O (oN on) L Rd w0 (b := 1) (by omega)) (wl_oA _ _ _ _ _ _ _ _ _ (by first | assumption | omega)) rfl rfl rfl (Nat.le_of_ble_eq_true rfl) ⟨Nat.le_of_ble_eq_true rfl, Nat.le_of_ble_eq_true rfl⟩ ⟨Nat.le_of_ble_eq_true rfl, Nat.le_of_ble_eq_true rfl⟩ ?_
    refine xv_rn ?_
    refine xv_aload_n hC dX5_writeFile_29 rfl rfl ?_
    refine xv_iload_n hC dX5_writeFile_30 rfl rfl ?_
    refine xv_callV hC Y_yX5_writeHead im_yX5_writeHead se_yX5_writeHead ml_X5_39 dX5_writeFile_31 (ev_writeHead l G h sz E S (O.1, va_up O.2.1 1 0, va_up O.2.2 1 false) on L Rd w0 (by simp [va_up]) d) (wl_Writer _ _ _ _ _ _ _ _ _) rfl rfl rfl (Nat.le_of_ble_eq_true rfl) ⟨Nat.le_of_ble_eq_true rfl, Nat.le_of_ble_eq_true rfl⟩ ⟨Nat.le_of_ble_eq_true rfl, Nat.le_of_ble_eq_true rfl⟩ ?_
    refine xv_rn ?_
    refine xv_aload_n hC dX5_writeFile_34 rfl rfl ?_
    refine tg_X5_0 hC fl_X5_12 dX5_writeFile_35 ?_
    refine xv_iload_n hC dX5_writeFile_38 rfl rfl ?_
    refine xv_callS hC Y_yJ6_bitCount_0f7a4 sm_yJ6_bitCount_0f7a4 ml_X5_43 dX5_writeFile_39 (ev_bitCount l G sz _ (wfW E S d)) rfl rfl (Nat.le_of_ble_eq_true rfl) ⟨Nat.le_of_ble_eq_true rfl, Nat.le_of_ble_eq_true rfl⟩ ⟨Nat.le_of_ble_eq_true rfl, Nat.le_of_ble_eq_true rfl⟩ ?_
    refine xv_rs ?_
    refine xv_callV hC Y_yX2_append im_yX2_append se_yX2_append ml_X5_49 dX5_writeFile_42 (ev_append l G h sz E S (oApps (O.1, va_up O.2.1 1 0, va_up O.2.2 1 false) 1 (headB S d)) (oN on) L Rd w0 (b := 1) (by omega) (oApps_len (by simp [va_up])) (bcI (wfW E S d))) (wl_oA _ _ _ _ _ _ _ _ _ (by first | assumption | omega)) rfl rfl rfl (Nat.le_of_ble_eq_true rfl) ⟨Nat.le_of_ble_eq_true rfl, Nat.le_of_ble_eq_true rfl⟩ ⟨Nat.le_of_ble_eq_true rfl, Nat.le_of_ble_eq_true rfl⟩ ?_
    refine xv_rn ?_
    refine xv_iload_n hC dX5_writeFile_45 rfl rfl ?_
    refine xv_istore_n hC dX5_writeFile_46 rfl (by decide) ?_
    have J109 : xV p l e (xr 4 0 0) s m args below meth c G A 6 (MQ below (xQ G A (some (.int (cI (!(wfF E S O on d).1.2.2 1)))) (sz) (wC G h E S ((wfF E S O on d).1) (oN (wfF E S O on d).2) L Rd w0)) args s 0 0 A) sz (wC G h E S ((wfF E S O on d).1) (oN (wfF E S O on d).2) L Rd w0) 0 0 109 [(0, .ref (h + 42)), (1, .int (cI d))] [] := by
      refine xv_aload_n hC dX5_writeFile_109 rfl rfl ?_
      refine tg_X5_0 hC fl_X5_12 dX5_writeFile_110 ?_
      refine tg_X2_2 hC (by first | assumption | omega) fl_X5_59 dX5_writeFile_113 ?_
      refine xv_if_ne (tgt := 123) hC dX5_writeFile_116 (by decide) (fun h116 => ?_) (fun h116 => ?_)
      · try simp (disch := omega) only [nI_leI, nI_ltI, nI_eq, xz_eq, xz_le, xz_gt, cI_0, cI_n0, cI_inj, lg_cmp_ge, lg_cmp_le, lg_cmp_gt, lg_cmp_lt, lg_cmp_eq, Bool.not_eq_true, Bool.not_eq_false, Nat.not_le, Nat.not_lt] at h116
        refine xv_iconst (v := nI 0) hC dX5_writeFile_123 (by decide) ?_
        exact xv_zreturn hC hr (by rfl) dX5_writeFile_124 (by first | exact rN0 (by simp [h116]) | exact rN1 (by simp [h116])) rfl rfl
      · try simp (disch := omega) only [nI_leI, nI_ltI, nI_eq, xz_eq, xz_le, xz_gt, cI_0, cI_n0, cI_inj, lg_cmp_ge, lg_cmp_le, lg_cmp_gt, lg_cmp_lt, lg_cmp_eq, Bool.not_eq_true, Bool.not_eq_false, Nat.not_le, Nat.not_lt] at h116
        refine xv_iconst (v := nI 1) hC dX5_writeFile_119 (by decide) ?_
        refine xv_goto (tgt := 124) hC dX5_writeFile_120 (by decide) ?_
        exact xv_zreturn hC hr (by rfl) dX5_writeFile_124 (by first | exact rN0 (by simp [h116]) | exact rN1 (by simp [h116])) rfl rfl
    refine xv_iconst (v := nI 0) hC dX5_writeFile_47 (by decide) ?_
    refine xv_istore hC dX5_writeFile_48 (by decide) ?_
    have Lp50 : ∀ (n s1 : Nat) (O1 : cO) (on1 : Nat → Nat) (x : Int32), (s1 + n = 13) → (s1 ≤ 12) → (O1.2.1 1 ≤ 8000) → (∀ j, j < s1 → on1 j < 12) → (wfL E S.1 (n - 1) s1 O1 on1 x = wfF E S O on d) → xV p l e (xr 4 0 0) s m args below meth c G A 6 (MQ below (xQ G A (some (.int (cI (!(wfF E S O on d).1.2.2 1)))) (sz) (wC G h E S ((wfF E S O on d).1) (oN (wfF E S O on d).2) L Rd w0)) args s 0 0 A) sz (wC G h E S (O1) (oN on1) L Rd w0) 0 0 50 [(4, .int (nI s1)), (3, .int x), (0, .ref (h + 42)), (1, .int (cI d)), (2, .int (wfW E S d))] [] := by
      intro n
      induction n with
      | zero =>
        intro s1 O1 on1 x hs hs2 h1 ho hu
        omega
      | succ n ih50 =>
        intro s1 O1 on1 x hs hs2 h1 ho hu
        refine xv_iload hC dX5_writeFile_50 rfl ?_
        refine xv_bipush (v := nI 12) hC dX5_writeFile_52 (by decide) ?_
        refine xv_icmp_ge (tgt := 109) hC dX5_writeFile_54 (by decide) (fun h54 => ?_) (fun h54 => ?_)
        · try simp (disch := omega) only [nI_leI, nI_ltI, nI_eq, xz_eq, xz_le, xz_gt, cI_0, cI_n0, cI_inj, lg_cmp_ge, lg_cmp_le, lg_cmp_gt, lg_cmp_lt, lg_cmp_eq, Bool.not_eq_true, Bool.not_eq_false, Nat.not_le, Nat.not_lt] at h54
          refine xv_world (show _ = wC G h E S ((wfF E S O on d).1) (oN (wfF E S O on d).2) L Rd w0 by rw [← hu, wfL_end (by first | exact Or.inl (by omega) | exact Or.inr (Or.inl h58) | exact Or.inr (Or.inr hf))]) ?_
          refine xV.to [(0, .ref (h + 42)), (1, .int (cI d))] ⟨rfl, rfl, trivial⟩ ?_
          exact J109
        · try simp (disch := omega) only [nI_leI, nI_ltI, nI_eq, xz_eq, xz_le, xz_gt, cI_0, cI_n0, cI_inj, lg_cmp_ge, lg_cmp_le, lg_cmp_gt, lg_cmp_lt, lg_cmp_eq, Bool.not_eq_true, Bool.not_eq_false, Nat.not_le, Nat.not_lt] at h54
          refine xv_iload_n hC dX5_writeFile_57 rfl rfl ?_
          refine xv_if_eq (tgt := 109) hC dX5_writeFile_58 (by decide) (fun h58 => ?_) (fun h58 => ?_)
          · refine xv_world (show _ = wC G h E S ((wfF E S O on d).1) (oN (wfF E S O on d).2) L Rd w0 by rw [← hu, wfL_end (by first | exact Or.inl (by omega) | exact Or.inr (Or.inl h58) | exact Or.inr (Or.inr hf))]) ?_
            refine xV.to [(0, .ref (h + 42)), (1, .int (cI d))] ⟨rfl, rfl, trivial⟩ ?_
            exact J109
          · refine xv_aload_n hC dX5_writeFile_61 rfl rfl ?_
            refine tg_X5_1 hC fl_X5_22 dX5_writeFile_62 ?_
            refine xv_iload_n hC dX5_writeFile_65 rfl rfl ?_
            refine xv_callV hC Y_yX4_firstToWrite im_yX4_firstToWrite se_yX4_firstToWrite ml_X5_53 dX5_writeFile_66 (ev_firstToWrite l G h sz E S O1 (oN on1) L Rd w0 x) (wl_Setter _ _ _ _ _ _ _ _ _) rfl rfl rfl (Nat.le_of_ble_eq_true rfl) ⟨Nat.le_of_ble_eq_true rfl, Nat.le_of_ble_eq_true rfl⟩ ⟨Nat.le_of_ble_eq_true rfl, Nat.le_of_ble_eq_true rfl⟩ ?_
            refine xv_rs ?_
            cases hf : fstB (fwOk S.1 x) 12 with
            | none =>
              refine xv_cast (show _ = Value.int (-1) from rfl) ?_
              refine xv_istore hC dX5_writeFile_69 (by decide) ?_
              refine xv_iload hC dX5_writeFile_71 rfl ?_
              refine xv_if_ge (tgt := 79) hC dX5_writeFile_73 (by decide) (fun h73 => ?_) (fun h73 => ?_)
              · exact absurd h73 (by decide)
              · refine xv_goto (tgt := 109) hC dX5_writeFile_76 (by decide) ?_
                refine xv_world (show _ = wC G h E S ((wfF E S O on d).1) (oN (wfF E S O on d).2) L Rd w0 by rw [← hu, wfL_end (by first | exact Or.inl (by omega) | exact Or.inr (Or.inl h58) | exact Or.inr (Or.inr hf))]) ?_
                refine xV.to [(0, .ref (h + 42)), (1, .int (cI d))] ⟨rfl, rfl, trivial⟩ ?_
                exact J109
            | some p1 =>
              have hp1 : p1 < 12 := (fstB_lt hf).1
              refine xv_cast (show _ = Value.int (nI p1) from rfl) ?_
              refine xv_istore hC dX5_writeFile_69 (by decide) ?_
              refine xv_iload hC dX5_writeFile_71 rfl ?_
              refine xv_if_ge (tgt := 79) hC dX5_writeFile_73 (by decide) (fun h73 => ?_) (fun h73 => ?_)
              · refine xv_aload_n hC dX5_writeFile_79 rfl rfl ?_
                refine tg_X5_2 hC fl_X5_18 dX5_writeFile_80 ?_
                refine xv_iload hC dX5_writeFile_83 rfl ?_
                refine xv_iload hC dX5_writeFile_85 rfl ?_
                refine as_order hC dX5_writeFile_87 rfl (by first | assumption | omega) ?_
                refine xv_world (show _ = wC G h E S (O1) (oN (va_up on1 s1 p1)) L Rd w0 by rw [oN_up]) ?_
                have hod1 : ∀ j, j ≤ s1 → va_up on1 s1 p1 j < 12 := fun j hj => by
                  by_cases e : j = s1
                  · rw [e, va_up_self]; exact hp1
                  · rw [va_up_ne _ _ e]; exact ho j (by omega)
                refine xv_aload_n hC dX5_writeFile_88 rfl rfl ?_
                refine xv_iload hC dX5_writeFile_89 rfl ?_
                refine xv_callV hC Y_yX5_writeSection im_yX5_writeSection se_yX5_writeSection ml_X5_56 dX5_writeFile_91 (ev_writeSection l G h sz E S O1 (va_up on1 s1 p1) L Rd w0 h1 (s1 := s1) (by omega) hod1 hE) (wl_Writer _ _ _ _ _ _ _ _ _) rfl rfl rfl (Nat.le_of_ble_eq_true rfl) ⟨Nat.le_of_ble_eq_true rfl, Nat.le_of_ble_eq_true rfl⟩ ⟨Nat.le_of_ble_eq_true rfl, Nat.le_of_ble_eq_true rfl⟩ ?_
                refine xv_rn ?_
                refine xv_iload_n hC dX5_writeFile_94 rfl rfl ?_
                refine xv_iconst (v := nI 1) hC dX5_writeFile_95 (by decide) ?_
                refine xv_iload hC dX5_writeFile_96 rfl ?_
                refine xv_ishl hC dX5_writeFile_98 ?_
                refine xv_iconst (v := -1) hC dX5_writeFile_99 (by decide) ?_
                refine xv_ixor hC dX5_writeFile_100 ?_
                refine xv_iand hC dX5_writeFile_101 ?_
                refine xv_istore_n hC dX5_writeFile_102 rfl (by decide) ?_
                refine xv_iinc hC dX5_writeFile_103 rfl (xinc _) (by decide) ?_
                refine xv_goto (tgt := 50) hC dX5_writeFile_106 (by decide) ?_
                refine xV.to [(4, .int (nI (s1 + 1))), (3, .int (x &&& (bitI p1 ^^^ (-1)))), (0, .ref (h + 42)), (1, .int (cI d)), (2, .int (wfW E S d))] ⟨rfl, rfl, rfl, rfl, rfl, trivial⟩ ?_
                exact ih50 (s1 + 1) _ _ _ (by omega) (by omega) (wsO_len h1) (lt_s (fun j hj => by rw [va_up_ne _ _ (by omega)]; exact ho j hj) (by rw [va_up_self]; exact hp1)) (by rw [← hu]; obtain ⟨n', rfl⟩ : ∃ n', n = n' + 1 := ⟨n - 1, by omega⟩; exact (wfL_go (n := n') h58 hf).symm)
              · exact absurd (nI_pos' (by omega)) h73
    refine xV.to [(4, .int (nI 0)), (3, .int (wfW E S d)), (0, .ref (h + 42)), (1, .int (cI d)), (2, .int (wfW E S d))] ⟨rfl, rfl, rfl, rfl, rfl, trivial⟩ ?_
    exact Lp50 13 0 _ on _ (by omega) (by omega) (oApp_len (oApps_len (by simp [va_up]))) lt_0 rfl
  refine xv_iload_n hC dX5_writeFile_0 rfl rfl ?_
  refine xv_if_eq (tgt := 14) hC dX5_writeFile_1 (by decide) (fun h1 => ?_) (fun h1 => ?_)
  · try simp (disch := omega) only [nI_leI, nI_ltI, nI_eq, xz_eq, xz_le, xz_gt, cI_0, cI_n0, cI_inj, lg_cmp_ge, lg_cmp_le, lg_cmp_gt, lg_cmp_lt, lg_cmp_eq, Bool.not_eq_true, Bool.not_eq_false, Nat.not_le, Nat.not_lt] at h1
    refine xv_aload_n hC dX5_writeFile_14 rfl rfl ?_
    refine tg_X5_1 hC fl_X5_22 dX5_writeFile_15 ?_
    refine tg_X4_2 hC fl_X5_32 dX5_writeFile_18 ?_
    refine xv_cast (congrArg Value.int (show _ = wfW E S d by simp [wfW, h1])) ?_
    exact J21
  · try simp (disch := omega) only [nI_leI, nI_ltI, nI_eq, xz_eq, xz_le, xz_gt, cI_0, cI_n0, cI_inj, lg_cmp_ge, lg_cmp_le, lg_cmp_gt, lg_cmp_lt, lg_cmp_eq, Bool.not_eq_true, Bool.not_eq_false, Nat.not_le, Nat.not_lt] at h1
    refine xv_aload_n hC dX5_writeFile_4 rfl rfl ?_
    refine tg_X5_1 hC fl_X5_22 dX5_writeFile_5 ?_
    refine xv_callV hC Y_yX4_partsWithEntries im_yX4_partsWithEntries se_yX4_partsWithEntries ml_X5_26 dX5_writeFile_8 (ev_partsWithEntries l G h sz E S O (oN on) L Rd w0 hE) (wl_Setter _ _ _ _ _ _ _ _ _) rfl rfl rfl (Nat.le_of_ble_eq_true rfl) ⟨Nat.le_of_ble_eq_true rfl, Nat.le_of_ble_eq_true rfl⟩ ⟨Nat.le_of_ble_eq_true rfl, Nat.le_of_ble_eq_true rfl⟩ ?_
    refine xv_rs ?_
    refine xv_goto (tgt := 21) hC dX5_writeFile_11 (by decide) ?_
    refine xv_cast (congrArg Value.int (show _ = wfW E S d by simp [wfW, h1])) ?_
    exact J21
