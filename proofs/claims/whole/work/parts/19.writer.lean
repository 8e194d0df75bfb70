set_option maxHeartbeats 1000000 in
set_option maxRecDepth 100000 in
theorem ev_bitCount (l : Launch) (G : xD) (sz : Nat) (w : xw) (x : Int32) : xM l G yJ6_bitCount_0f7a4 cJ6_bitCount_0f7a4 1 (some .int) 0 0 0 [.int x] sz (w) (some (.int (bcI x))) (sz) (w) := by
  refine xM_of (by decide) (Nat.le_of_ble_eq_true rfl) ?_
  intro A p e s m args below meth c hC hr hname
  have hC : xC p s m args meth c cJ6_bitCount_0f7a4 1 RJ6 G A := hC
  have hr : meth.sig.returnType = (some .int) := hr
  show xV p l e _ s m args below meth c G A 1 _ sz _ 0 0 0 [(0, .int x)] []
  refine xv_iload_n hC dJ6_bitCount_0f7a4_0 rfl rfl ?_
  refine xv_iload_n hC dJ6_bitCount_0f7a4_1 rfl rfl ?_
  refine xv_iconst (v := nI 1) hC dJ6_bitCount_0f7a4_2 (by decide) ?_
  refine xv_iushr hC dJ6_bitCount_0f7a4_3 ?_
  refine xv_ldcw hC dJ6_bitCount_0f7a4_4 kn_J6_265 ?_
  refine xv_iand hC dJ6_bitCount_0f7a4_7 ?_
  refine xv_isub hC dJ6_bitCount_0f7a4_8 ?_
  refine xv_cast (show _ = Value.int (bc1 x) from rfl) ?_
  refine xv_istore_n hC dJ6_bitCount_0f7a4_9 rfl (by decide) ?_
  refine xv_iload_n hC dJ6_bitCount_0f7a4_10 rfl rfl ?_
  refine xv_ldcw hC dJ6_bitCount_0f7a4_11 kn_J6_266 ?_
  refine xv_iand hC dJ6_bitCount_0f7a4_14 ?_
  refine xv_iload_n hC dJ6_bitCount_0f7a4_15 rfl rfl ?_
  refine xv_iconst (v := nI 2) hC dJ6_bitCount_0f7a4_16 (by decide) ?_
  refine xv_iushr hC dJ6_bitCount_0f7a4_17 ?_
  refine xv_ldcw hC dJ6_bitCount_0f7a4_18 kn_J6_266 ?_
  refine xv_iand hC dJ6_bitCount_0f7a4_21 ?_
  refine xv_iadd hC dJ6_bitCount_0f7a4_22 ?_
  refine xv_cast (show _ = Value.int (bc2 (bc1 x)) from rfl) ?_
  refine xv_istore_n hC dJ6_bitCount_0f7a4_23 rfl (by decide) ?_
  refine xv_iload_n hC dJ6_bitCount_0f7a4_24 rfl rfl ?_
  refine xv_iload_n hC dJ6_bitCount_0f7a4_25 rfl rfl ?_
  refine xv_iconst (v := nI 4) hC dJ6_bitCount_0f7a4_26 (by decide) ?_
  refine xv_iushr hC dJ6_bitCount_0f7a4_27 ?_
  refine xv_iadd hC dJ6_bitCount_0f7a4_28 ?_
  refine xv_ldcw hC dJ6_bitCount_0f7a4_29 kn_J6_267 ?_
  refine xv_iand hC dJ6_bitCount_0f7a4_32 ?_
  refine xv_cast (show _ = Value.int (bc3 (bc2 (bc1 x))) from rfl) ?_
  refine xv_istore_n hC dJ6_bitCount_0f7a4_33 rfl (by decide) ?_
  refine xv_iload_n hC dJ6_bitCount_0f7a4_34 rfl rfl ?_
  refine xv_iload_n hC dJ6_bitCount_0f7a4_35 rfl rfl ?_
  refine xv_bipush (v := nI 8) hC dJ6_bitCount_0f7a4_36 (by decide) ?_
  refine xv_iushr hC dJ6_bitCount_0f7a4_38 ?_
  refine xv_iadd hC dJ6_bitCount_0f7a4_39 ?_
  refine xv_cast (show _ = Value.int (bc4 (bc3 (bc2 (bc1 x)))) from rfl) ?_
  refine xv_istore_n hC dJ6_bitCount_0f7a4_40 rfl (by decide) ?_
  refine xv_iload_n hC dJ6_bitCount_0f7a4_41 rfl rfl ?_
  refine xv_iload_n hC dJ6_bitCount_0f7a4_42 rfl rfl ?_
  refine xv_bipush (v := nI 16) hC dJ6_bitCount_0f7a4_43 (by decide) ?_
  refine xv_iushr hC dJ6_bitCount_0f7a4_45 ?_
  refine xv_iadd hC dJ6_bitCount_0f7a4_46 ?_
  refine xv_cast (show _ = Value.int (bc5 (bc4 (bc3 (bc2 (bc1 x))))) from rfl) ?_
  refine xv_istore_n hC dJ6_bitCount_0f7a4_47 rfl (by decide) ?_
  refine xv_iload_n hC dJ6_bitCount_0f7a4_48 rfl rfl ?_
  refine xv_bipush (v := nI 63) hC dJ6_bitCount_0f7a4_49 (by decide) ?_
  refine xv_iand hC dJ6_bitCount_0f7a4_51 ?_
  exact xv_ireturn hC hr dJ6_bitCount_0f7a4_52 rfl rfl rfl
set_option maxHeartbeats 1000000 in
set_option maxRecDepth 100000 in
theorem ev_writeRows (l : Launch) (G : xD) (h sz : Nat) (E : cE) (S : cS) (O : cO) (on : Nat → Nat) (L : cL) (Rd : cR) (w0 : xw) {b : Nat} (hb : b = 0 ∨ b = 2) (hO : O.2.1 b + 2010 ≤ 1000000) {q : Nat} (hq : q < 12 ∨ q = 25) (hE : eOK E) : xM l G yX5_writeRows cX5_writeRows 7 none 2 0 0 [.ref (h + 42), .ref (eA h q), .ref (oA h b)] sz (wC G h E S (O) (oN on) L Rd w0) (none) (sz) (wC G h E S (oApsR O b (wrL E q 100).2) (oN on) L Rd w0) := by
  refine xM_of (by decide) (Nat.le_of_ble_eq_true rfl) ?_
  intro A p e s m args below meth c hC hr hname
  have hC : xC p s m args meth c cX5_writeRows 7 RX5 G A := hC
  have hr : meth.sig.returnType = none := hr
  show xV p l e _ s m args below meth c G A 7 _ sz _ 0 0 0 [(0, .ref (h + 42)), (1, .ref (eA h q)), (2, .ref (oA h b))] []
  refine xv_aload_n hC dX5_writeRows_0 rfl rfl ?_
  refine xv_aload_n hC dX5_writeRows_1 rfl rfl ?_
  refine tg_X0_2 hC (by first | assumption | omega) fl_X5_94 dX5_writeRows_2 ?_
  refine xv_i2l hC dX5_writeRows_5 ?_
  refine xv_cast (congrArg Value.long (nI_l (by have := hE.lt (show q < 26 by omega); omega))) ?_
  refine xv_callV hC Y_yX2_appendCount im_yX2_appendCount se_yX2_appendCount ml_X5_97 dX5_writeRows_6 (ev_appendCount l G h sz E S O (oN on) L Rd w0 hb (by omega) (lN (E.2.2 q))) (wl_oA _ _ _ _ _ _ _ _ _ (by first | assumption | omega)) rfl rfl rfl (Nat.le_of_ble_eq_true rfl) ⟨Nat.le_of_ble_eq_true rfl, Nat.le_of_ble_eq_true rfl⟩ ⟨Nat.le_of_ble_eq_true rfl, Nat.le_of_ble_eq_true rfl⟩ ?_
  refine xv_rn ?_
  refine xv_iconst (v := nI 0 - nI 1) hC dX5_writeRows_9 (by decide) ?_
  refine xv_istore_n hC dX5_writeRows_10 rfl (by decide) ?_
  refine xv_iconst (v := nI 0) hC dX5_writeRows_11 (by decide) ?_
  refine xv_istore hC dX5_writeRows_12 (by decide) ?_
  have Lp14 : ∀ (n i : Nat), (i ≤ 100) → (100 < i + n) → xV p l e (xr 2 0 0) s m args below meth c G A 7 (MQ below (xQ G A (none) (sz) (wC G h E S (oApsR O b (wrL E q 100).2) (oN on) L Rd w0)) args s 0 0 A) sz (wC G h E S (oApsR O b (wrL E q i).2) (oN on) L Rd w0) 0 0 14 [(4, .int (nI i)), (3, .int (nI (wrL E q i).1 - nI 1)), (0, .ref (h + 42)), (1, .ref (eA h q)), (2, .ref (oA h b))] [] := by
    intro n
    induction n with
    | zero =>
      intro i hi hn
      omega
    | succ n ih14 =>
      intro i hi hn
      refine xv_iload hC dX5_writeRows_14 rfl ?_
      refine xv_bipush (v := nI 100) hC dX5_writeRows_16 (by decide) ?_
      refine xv_icmp_ge (tgt := 88) hC dX5_writeRows_18 (by decide) (fun h18 => ?_) (fun h18 => ?_)
      · try simp (disch := omega) only [nI_leI, nI_ltI, nI_eq, xz_eq, xz_le, xz_gt, cI_0, cI_n0, cI_inj, lg_cmp_ge, lg_cmp_le, lg_cmp_gt, lg_cmp_lt, lg_cmp_eq, Bool.not_eq_true, Bool.not_eq_false, Nat.not_le, Nat.not_lt] at h18
        exact xv_return hC hr dX5_writeRows_88 rfl rfl (by rw [show i = 100 by omega])
      · try simp (disch := omega) only [nI_leI, nI_ltI, nI_eq, xz_eq, xz_le, xz_gt, cI_0, cI_n0, cI_inj, lg_cmp_ge, lg_cmp_le, lg_cmp_gt, lg_cmp_lt, lg_cmp_eq, Bool.not_eq_true, Bool.not_eq_false, Nat.not_le, Nat.not_lt] at h18
        have hwl := wrL_len E q i
        have hc1 := cB_len 9 (lN (i - (wrL E q i).1))
        refine xv_aload_n hC dX5_writeRows_21 rfl rfl ?_
        refine tg_X0_0 hC (by first | assumption | omega) fl_X5_101 dX5_writeRows_22 ?_
        refine xv_iload hC dX5_writeRows_25 rfl ?_
        refine al_there hC (by first | assumption | omega) dX5_writeRows_27 rfl (by first | assumption | omega) ?_
        refine xv_if_eq (tgt := 82) hC dX5_writeRows_28 (by decide) (fun h28 => ?_) (fun h28 => ?_)
        · try simp (disch := omega) only [nI_leI, nI_ltI, nI_eq, xz_eq, xz_le, xz_gt, cI_0, cI_n0, cI_inj, lg_cmp_ge, lg_cmp_le, lg_cmp_gt, lg_cmp_lt, lg_cmp_eq, Bool.not_eq_true, Bool.not_eq_false, Nat.not_le, Nat.not_lt] at h28
          refine xv_iinc hC dX5_writeRows_82 rfl (xinc _) (by decide) ?_
          refine xv_goto (tgt := 14) hC dX5_writeRows_85 (by decide) ?_
          refine xv_world (show _ = wC G h E S (oApsR O b (wrL E q (i + 1)).2) (oN on) L Rd w0 by simp [wrL, h28, oApsR_app]) ?_
          refine xV.to [(4, .int (nI (i + 1))), (3, .int (nI (wrL E q (i + 1)).1 - nI 1)), (0, .ref (h + 42)), (1, .ref (eA h q)), (2, .ref (oA h b))] ⟨rfl, congrArg (fun z => some (Value.int (nI z - nI 1))) (show _ = (wrL E q (i + 1)).1 by simp [wrL, h28]), rfl, rfl, rfl, trivial⟩ ?_
          exact ih14 (i + 1) (by omega) (by omega)
        · try simp (disch := omega) only [nI_leI, nI_ltI, nI_eq, xz_eq, xz_le, xz_gt, cI_0, cI_n0, cI_inj, lg_cmp_ge, lg_cmp_le, lg_cmp_gt, lg_cmp_lt, lg_cmp_eq, Bool.not_eq_true, Bool.not_eq_false, Nat.not_le, Nat.not_lt] at h28
          refine xv_aload_n hC dX5_writeRows_31 rfl rfl ?_
          refine tg_X0_1 hC (by first | assumption | omega) fl_X5_105 dX5_writeRows_32 ?_
          refine xv_iload hC dX5_writeRows_35 rfl ?_
          refine al_values hC (by first | assumption | omega) dX5_writeRows_37 rfl (by first | assumption | omega) ?_
          refine xv_lstore hC dX5_writeRows_38 (by decide) ?_
          refine xv_aload_n hC dX5_writeRows_40 rfl rfl ?_
          refine xv_iload hC dX5_writeRows_41 rfl ?_
          refine xv_iload_n hC dX5_writeRows_43 rfl rfl ?_
          refine xv_isub hC dX5_writeRows_44 ?_
          refine xv_iconst (v := nI 1) hC dX5_writeRows_45 (by decide) ?_
          refine xv_isub hC dX5_writeRows_46 ?_
          refine xv_cast (congrArg Value.int (gapI (wrL_le E q i))) ?_
          refine xv_i2l hC dX5_writeRows_47 ?_
          refine xv_cast (congrArg Value.long (nI_l (by omega))) ?_
          refine xv_callV hC Y_yX2_appendCount im_yX2_appendCount se_yX2_appendCount ml_X5_97 dX5_writeRows_48 (ev_appendCount l G h sz E S (oApsR O b (wrL E q i).2) (oN on) L Rd w0 hb (by rw [oApsR_len]; omega) (lN (i - (wrL E q i).1))) (wl_oA _ _ _ _ _ _ _ _ _ (by first | assumption | omega)) rfl rfl rfl (Nat.le_of_ble_eq_true rfl) ⟨Nat.le_of_ble_eq_true rfl, Nat.le_of_ble_eq_true rfl⟩ ⟨Nat.le_of_ble_eq_true rfl, Nat.le_of_ble_eq_true rfl⟩ ?_
          refine xv_rn ?_
          refine xv_aload_n hC dX5_writeRows_51 rfl rfl ?_
          refine xv_lload hC dX5_writeRows_52 rfl ?_
          refine xv_lconst (v := 0) hC dX5_writeRows_54 (by decide) ?_
          refine xv_lcmp hC dX5_writeRows_55 ?_
          refine xv_if_lt (tgt := 67) hC dX5_writeRows_56 (by decide) (fun h56 => ?_) (fun h56 => ?_)
          · rw [lg_cmp_lt] at h56
            refine xv_ldc2 hC dX5_writeRows_67 kn_X5_109 ?_
            refine xv_lload hC dX5_writeRows_70 rfl ?_
            refine xv_lsub hC dX5_writeRows_72 ?_
            refine xv_lload hC dX5_writeRows_73 rfl ?_
            refine xv_lsub hC dX5_writeRows_75 ?_
            refine xv_cast (congrArg Value.long (show _ = zzE (E.2.1 q i) by rw [zzE, if_pos h56])) ?_
            refine xv_callV hC Y_yX2_appendCount im_yX2_appendCount se_yX2_appendCount ml_X5_97 dX5_writeRows_76 (ev_appendCount l G h sz E S (oApsR (oApsR O b (wrL E q i).2) b (cB 9 (lN (i - (wrL E q i).1)))) (oN on) L Rd w0 hb (by rw [oApsR_len, oApsR_len]; omega) (zzE (E.2.1 q i))) (wl_oA _ _ _ _ _ _ _ _ _ (by first | assumption | omega)) rfl rfl rfl (Nat.le_of_ble_eq_true rfl) ⟨Nat.le_of_ble_eq_true rfl, Nat.le_of_ble_eq_true rfl⟩ ⟨Nat.le_of_ble_eq_true rfl, Nat.le_of_ble_eq_true rfl⟩ ?_
            refine xv_rn ?_
            refine xv_iload hC dX5_writeRows_79 rfl ?_
            refine xv_cast (congrArg Value.int (pk_sub (a := i + 1) (b := 1) (by omega)).symm) ?_
            refine xv_istore_n hC dX5_writeRows_81 rfl (by decide) ?_
            refine xv_iinc hC dX5_writeRows_82 rfl (xinc _) (by decide) ?_
            refine xv_goto (tgt := 14) hC dX5_writeRows_85 (by decide) ?_
            refine xv_world (show _ = wC G h E S (oApsR O b (wrL E q (i + 1)).2) (oN on) L Rd w0 by simp [wrL, h28, oApsR_app]) ?_
            refine xV.to [(4, .int (nI (i + 1))), (3, .int (nI (wrL E q (i + 1)).1 - nI 1)), (0, .ref (h + 42)), (1, .ref (eA h q)), (2, .ref (oA h b))] ⟨rfl, congrArg (fun z => some (Value.int (nI z - nI 1))) (show _ = (wrL E q (i + 1)).1 by simp [wrL, h28]), rfl, rfl, rfl, trivial⟩ ?_
            exact ih14 (i + 1) (by omega) (by omega)
          · rw [lg_cmp_lt] at h56
            refine xv_lload hC dX5_writeRows_59 rfl ?_
            refine xv_lload hC dX5_writeRows_61 rfl ?_
            refine xv_ladd hC dX5_writeRows_63 ?_
            refine xv_cast (congrArg Value.long (show _ = zzE (E.2.1 q i) by rw [zzE, if_neg h56])) ?_
            refine xv_goto (tgt := 76) hC dX5_writeRows_64 (by decide) ?_
            refine xv_callV hC Y_yX2_appendCount im_yX2_appendCount se_yX2_appendCount ml_X5_97 dX5_writeRows_76 (ev_appendCount l G h sz E S (oApsR (oApsR O b (wrL E q i).2) b (cB 9 (lN (i - (wrL E q i).1)))) (oN on) L Rd w0 hb (by rw [oApsR_len, oApsR_len]; omega) (zzE (E.2.1 q i))) (wl_oA _ _ _ _ _ _ _ _ _ (by first | assumption | omega)) rfl rfl rfl (Nat.le_of_ble_eq_true rfl) ⟨Nat.le_of_ble_eq_true rfl, Nat.le_of_ble_eq_true rfl⟩ ⟨Nat.le_of_ble_eq_true rfl, Nat.le_of_ble_eq_true rfl⟩ ?_
            refine xv_rn ?_
            refine xv_iload hC dX5_writeRows_79 rfl ?_
            refine xv_cast (congrArg Value.int (pk_sub (a := i + 1) (b := 1) (by omega)).symm) ?_
            refine xv_istore_n hC dX5_writeRows_81 rfl (by decide) ?_
            refine xv_iinc hC dX5_writeRows_82 rfl (xinc _) (by decide) ?_
            refine xv_goto (tgt := 14) hC dX5_writeRows_85 (by decide) ?_
            refine xv_world (show _ = wC G h E S (oApsR O b (wrL E q (i + 1)).2) (oN on) L Rd w0 by simp [wrL, h28, oApsR_app]) ?_
            refine xV.to [(4, .int (nI (i + 1))), (3, .int (nI (wrL E q (i + 1)).1 - nI 1)), (0, .ref (h + 42)), (1, .ref (eA h q)), (2, .ref (oA h b))] ⟨rfl, congrArg (fun z => some (Value.int (nI z - nI 1))) (show _ = (wrL E q (i + 1)).1 by simp [wrL, h28]), rfl, rfl, rfl, trivial⟩ ?_
            exact ih14 (i + 1) (by omega) (by omega)
  exact Lp14 101 0 (by omega) (by omega)
set_option maxHeartbeats 1000000 in
set_option maxRecDepth 100000 in
theorem ev_firstAlike (l : Launch) (G : xD) (h sz : Nat) (E : cE) (S : cS) (O : cO) (on : Nat → Nat) (L : cL) (Rd : cR) (w0 : xw) {s1 : Nat} (hs : s1 < 12) (hod : ∀ j, j ≤ s1 → on j < 12) (hE : eOK E) : xM l G yX5_firstAlike cX5_firstAlike 4 (some .int) 2 0 0 [.ref (h + 42), .int (nI s1)] sz (wC G h E S (O) (oN on) L Rd w0) (some (.int (nI (faN E on s1)))) (sz) (wC G h E S (O) (oN on) L Rd w0) := by
  refine xM_of (by decide) (Nat.le_of_ble_eq_true rfl) ?_
  intro A p e s m args below meth c hC hr hname
  have hC : xC p s m args meth c cX5_firstAlike 4 RX5 G A := hC
  have hr : meth.sig.returnType = (some .int) := hr
  show xV p l e _ s m args below meth c G A 4 _ sz _ 0 0 0 [(0, .ref (h + 42)), (1, .int (nI s1))] []
  refine xv_aload_n hC dX5_firstAlike_0 rfl rfl ?_
  refine tg_X5_0 hC fl_X5_24 dX5_firstAlike_1 ?_
  refine tg_X4_0 hC fl_X5_76 dX5_firstAlike_4 ?_
  refine xv_aload_n hC dX5_firstAlike_7 rfl rfl ?_
  refine tg_X5_2 hC fl_X5_20 dX5_firstAlike_8 ?_
  refine xv_iload_n hC dX5_firstAlike_11 rfl rfl ?_
  refine al_order hC dX5_firstAlike_12 rfl (by first | assumption | omega) ?_
  refine al_parts hC dX5_firstAlike_13 rfl (hod _ (by omega)) ?_
  refine xv_astore_n hC dX5_firstAlike_14 rfl (by decide) ?_
  refine xv_iconst (v := nI 0) hC dX5_firstAlike_15 (by decide) ?_
  refine xv_istore_n hC dX5_firstAlike_16 rfl (by decide) ?_
  have Lp17 : ∀ (n i : Nat), (i ≤ s1) → (s1 < i + n) → (∀ j, j < i → eLike E (on j) (on s1) = false) → xV p l e (xr 2 0 0) s m args below meth c G A 4 (MQ below (xQ G A (some (.int (nI (faN E on s1)))) (sz) (wC G h E S (O) (oN on) L Rd w0)) args s 0 0 A) sz (wC G h E S (O) (oN on) L Rd w0) 0 0 17 [(3, .int (nI i)), (2, .ref (eA h (on s1))), (0, .ref (h + 42)), (1, .int (nI s1))] [] := by
    intro n
    induction n with
    | zero =>
      intro i hi hn hb
      omega
    | succ n ih17 =>
      intro i hi hn hb
      refine xv_iload_n hC dX5_firstAlike_17 rfl rfl ?_
      refine xv_iload_n hC dX5_firstAlike_18 rfl rfl ?_
      refine xv_icmp_ge (tgt := 51) hC dX5_firstAlike_19 (by decide) (fun h19 => ?_) (fun h19 => ?_)
      · try simp (disch := omega) only [nI_leI, nI_ltI, nI_eq, xz_eq, xz_le, xz_gt, cI_0, cI_n0, cI_inj, lg_cmp_ge, lg_cmp_le, lg_cmp_gt, lg_cmp_lt, lg_cmp_eq, Bool.not_eq_true, Bool.not_eq_false, Nat.not_le, Nat.not_lt] at h19
        refine xv_iload_n hC dX5_firstAlike_51 rfl rfl ?_
        exact xv_ireturn hC hr dX5_firstAlike_52 (by rw [faN, fstB_no (fun j hj => hb j (by omega))]; rfl) rfl rfl
      · try simp (disch := omega) only [nI_leI, nI_ltI, nI_eq, xz_eq, xz_le, xz_gt, cI_0, cI_n0, cI_inj, lg_cmp_ge, lg_cmp_le, lg_cmp_gt, lg_cmp_lt, lg_cmp_eq, Bool.not_eq_true, Bool.not_eq_false, Nat.not_le, Nat.not_lt] at h19
        refine xv_aload_n hC dX5_firstAlike_22 rfl rfl ?_
        refine tg_X5_0 hC fl_X5_24 dX5_firstAlike_23 ?_
        refine tg_X4_0 hC fl_X5_76 dX5_firstAlike_26 ?_
        refine xv_aload_n hC dX5_firstAlike_29 rfl rfl ?_
        refine tg_X5_2 hC fl_X5_20 dX5_firstAlike_30 ?_
        refine xv_iload_n hC dX5_firstAlike_33 rfl rfl ?_
        refine al_order hC dX5_firstAlike_34 rfl (by first | assumption | omega) ?_
        refine al_parts hC dX5_firstAlike_35 rfl (hod _ (by omega)) ?_
        have ho1 := hod i (by omega)
        have ho2 := hod s1 (by omega)
        have hE1 := hE.lt (show on i < 26 by omega)
        have hE2 := hE.lt (show on s1 < 26 by omega)
        refine xv_aload_n hC dX5_firstAlike_36 rfl rfl ?_
        refine xv_callV hC Y_yX0_isLike im_yX0_isLike se_yX0_isLike ml_X5_88 dX5_firstAlike_37 (ev_isLike l G h sz E S O (oN on) L Rd w0 (q := on i) (q' := on s1) (by omega) (by omega) (by omega) (by omega)) (wl_eA _ _ _ _ _ _ _ _ _ (by first | assumption | omega)) rfl rfl rfl (Nat.le_of_ble_eq_true rfl) ⟨Nat.le_of_ble_eq_true rfl, Nat.le_of_ble_eq_true rfl⟩ ⟨Nat.le_of_ble_eq_true rfl, Nat.le_of_ble_eq_true rfl⟩ ?_
        refine xv_rs ?_
        refine xv_if_eq (tgt := 45) hC dX5_firstAlike_40 (by decide) (fun h40 => ?_) (fun h40 => ?_)
        · try simp (disch := omega) only [nI_leI, nI_ltI, nI_eq, xz_eq, xz_le, xz_gt, cI_0, cI_n0, cI_inj, lg_cmp_ge, lg_cmp_le, lg_cmp_gt, lg_cmp_lt, lg_cmp_eq, Bool.not_eq_true, Bool.not_eq_false, Nat.not_le, Nat.not_lt] at h40
          refine xv_iinc hC dX5_firstAlike_45 rfl (xinc _) (by decide) ?_
          refine xv_goto (tgt := 17) hC dX5_firstAlike_48 (by decide) ?_
          exact ih17 (i + 1) (by omega) (by omega) (lt_s hb h40)
        · try simp (disch := omega) only [nI_leI, nI_ltI, nI_eq, xz_eq, xz_le, xz_gt, cI_0, cI_n0, cI_inj, lg_cmp_ge, lg_cmp_le, lg_cmp_gt, lg_cmp_lt, lg_cmp_eq, Bool.not_eq_true, Bool.not_eq_false, Nat.not_le, Nat.not_lt] at h40
          refine xv_iload_n hC dX5_firstAlike_43 rfl rfl ?_
          exact xv_ireturn hC hr dX5_firstAlike_44 (by rw [faN, fstB_yes (i := i) h40 hb (by omega)]; rfl) rfl rfl
  exact Lp17 (s1 + 1) 0 (by omega) (by omega) lt_0
set_option maxHeartbeats 1000000 in
set_option maxRecDepth 100000 in
theorem ev_writeSection (l : Launch) (G : xD) (h sz : Nat) (E : cE) (S : cS) (O : cO) (on : Nat → Nat) (L : cL) (Rd : cR) (w0 : xw) {b : Nat} (hb : b = 0 ∨ b = 2) (hO : O.2.1 b + 2016 ≤ 1000000) {s1 : Nat} (hs : s1 < 12) (hod : ∀ j, j ≤ s1 → on j < 12) (hE : eOK E) : xM l G yX5_writeSection cX5_writeSection 5 none 3 0 0 [.ref (h + 42), .int (nI s1), .ref (oA h b)] sz (wC G h E S (O) (oN on) L Rd w0) (none) (sz) (wC G h E S (wsN E on O b s1) (oN on) L Rd w0) := by
  refine xM_of (by decide) (Nat.le_of_ble_eq_true rfl) ?_
  intro A p e s m args below meth c hC hr hname
  have hC : xC p s m args meth c cX5_writeSection 5 RX5 G A := hC
  have hr : meth.sig.returnType = none := hr
  show xV p l e _ s m args below meth c G A 5 _ sz _ 0 0 0 [(0, .ref (h + 42)), (1, .int (nI s1)), (2, .ref (oA h b))] []
  have hfa := faN_le E on s1
  have hsl := secB_ln E on s1
  have hw1 := wsN1_len E on O b s1
  refine xv_aload_n hC dX5_writeSection_0 rfl rfl ?_
  refine tg_X2_1 hC (by first | assumption | omega) fl_X5_32 dX5_writeSection_1 ?_
  refine xv_istore_n hC dX5_writeSection_4 rfl (by decide) ?_
  refine xv_aload_n hC dX5_writeSection_5 rfl rfl ?_
  refine xv_iload_n hC dX5_writeSection_6 rfl rfl ?_
  refine xv_callV hC Y_yX5_firstAlike im_yX5_firstAlike se_yX5_firstAlike ml_X5_73 dX5_writeSection_7 (ev_firstAlike l G h sz E S O on L Rd w0 hs hod hE) (wl_Writer _ _ _ _ _ _ _ _ _) rfl rfl rfl (Nat.le_of_ble_eq_true rfl) ⟨Nat.le_of_ble_eq_true rfl, Nat.le_of_ble_eq_true rfl⟩ ⟨Nat.le_of_ble_eq_true rfl, Nat.le_of_ble_eq_true rfl⟩ ?_
  refine xv_rs ?_
  refine xv_istore hC dX5_writeSection_10 (by decide) ?_
  refine xv_aload_n hC dX5_writeSection_12 rfl rfl ?_
  refine xv_aload_n hC dX5_writeSection_13 rfl rfl ?_
  refine tg_X5_2 hC fl_X5_20 dX5_writeSection_14 ?_
  refine xv_iload_n hC dX5_writeSection_17 rfl rfl ?_
  refine al_order hC dX5_writeSection_18 rfl (by first | assumption | omega) ?_
  refine xv_callV hC Y_yX2_append im_yX2_append se_yX2_append ml_X5_54 dX5_writeSection_19 (ev_append l G h sz E S O (oN on) L Rd w0 hb (by omega) (nI (on s1))) (wl_oA _ _ _ _ _ _ _ _ _ (by first | assumption | omega)) rfl rfl rfl (Nat.le_of_ble_eq_true rfl) ⟨Nat.le_of_ble_eq_true rfl, Nat.le_of_ble_eq_true rfl⟩ ⟨Nat.le_of_ble_eq_true rfl, Nat.le_of_ble_eq_true rfl⟩ ?_
  refine xv_rn ?_
  have J66 : xV p l e (xr 3 0 0) s m args below meth c G A 5 (MQ below (xQ G A (none) (sz) (wC G h E S (wsN E on O b s1) (oN on) L Rd w0)) args s 0 0 A) sz (wC G h E S (wsN1 E on O b s1) (oN on) L Rd w0) 0 0 66 [(3, .int (nI (O.2.1 b))), (0, .ref (h + 42)), (1, .int (nI s1)), (2, .ref (oA h b))] [] := by
    refine xv_aload_n hC dX5_writeSection_66 rfl rfl ?_
    refine xv_aload_n hC dX5_writeSection_67 rfl rfl ?_
    refine xv_iload_n hC dX5_writeSection_68 rfl rfl ?_
    refine xv_aload_n hC dX5_writeSection_69 rfl rfl ?_
    refine tg_X2_1 hC (by first | assumption | omega) fl_X5_32 dX5_writeSection_70 ?_
    refine xv_cast (congrArg Value.int (show _ = nI (O.2.1 b + ((wsN1 E on O b s1).2.1 b - O.2.1 b)) by rw [Nat.add_sub_cancel' (show O.2.1 b ≤ (wsN1 E on O b s1).2.1 b by omega)])) ?_
    refine xv_callV hC Y_yX2_sumOf im_yX2_sumOf se_yX2_sumOf ml_X5_84 dX5_writeSection_73 (ev_sumOfR l G h sz E S (wsN1 E on O b s1) (oN on) L Rd w0 hb (by omega) (a := O.2.1 b) (n0 := (wsN1 E on O b s1).2.1 b - O.2.1 b) (by omega)) (wl_oA _ _ _ _ _ _ _ _ _ (by first | assumption | omega)) rfl rfl rfl (Nat.le_of_ble_eq_true rfl) ⟨Nat.le_of_ble_eq_true rfl, Nat.le_of_ble_eq_true rfl⟩ ⟨Nat.le_of_ble_eq_true rfl, Nat.le_of_ble_eq_true rfl⟩ ?_
    refine xv_rs ?_
    refine xv_callV hC Y_yX2_appendFour im_yX2_appendFour se_yX2_appendFour ml_X5_70 dX5_writeSection_76 (ev_appendFour l G h sz E S (wsN1 E on O b s1) (oN on) L Rd w0 hb (by omega) (smF (oAtR (wsN1 E on O b s1) b) (O.2.1 b) ((wsN1 E on O b s1).2.1 b - O.2.1 b))) (wl_oA _ _ _ _ _ _ _ _ _ (by first | assumption | omega)) rfl rfl rfl (Nat.le_of_ble_eq_true rfl) ⟨Nat.le_of_ble_eq_true rfl, Nat.le_of_ble_eq_true rfl⟩ ⟨Nat.le_of_ble_eq_true rfl, Nat.le_of_ble_eq_true rfl⟩ ?_
    refine xv_rn ?_
    exact xv_return hC hr dX5_writeSection_79 rfl rfl rfl
  refine xv_iload hC dX5_writeSection_22 rfl ?_
  refine xv_iload_n hC dX5_writeSection_24 rfl rfl ?_
  refine xv_icmp_ge (tgt := 42) hC dX5_writeSection_25 (by decide) (fun h25 => ?_) (fun h25 => ?_)
  · rw [nI_leI (by omega) (by omega)] at h25
    have h25 : ¬ faN E on s1 < s1 := by omega
    refine xv_aload_n hC dX5_writeSection_42 rfl rfl ?_
    refine xv_iconst (v := nI 0) hC dX5_writeSection_43 (by decide) ?_
    refine xv_callV hC Y_yX2_append im_yX2_append se_yX2_append ml_X5_54 dX5_writeSection_44 (ev_append l G h sz E S (oApR O b (nI (on s1))) (oN on) L Rd w0 hb (by rw [oApR_len]; omega) (nI 0)) (wl_oA _ _ _ _ _ _ _ _ _ (by first | assumption | omega)) rfl rfl rfl (Nat.le_of_ble_eq_true rfl) ⟨Nat.le_of_ble_eq_true rfl, Nat.le_of_ble_eq_true rfl⟩ ⟨Nat.le_of_ble_eq_true rfl, Nat.le_of_ble_eq_true rfl⟩ ?_
    refine xv_rn ?_
    refine xv_aload_n hC dX5_writeSection_47 rfl rfl ?_
    refine xv_aload_n hC dX5_writeSection_48 rfl rfl ?_
    refine tg_X5_0 hC fl_X5_24 dX5_writeSection_49 ?_
    refine tg_X4_0 hC fl_X5_76 dX5_writeSection_52 ?_
    refine xv_aload_n hC dX5_writeSection_55 rfl rfl ?_
    refine tg_X5_2 hC fl_X5_20 dX5_writeSection_56 ?_
    refine xv_iload_n hC dX5_writeSection_59 rfl rfl ?_
    refine al_order hC dX5_writeSection_60 rfl (by first | assumption | omega) ?_
    refine al_parts hC dX5_writeSection_61 rfl (hod _ (by omega)) ?_
    refine xv_aload_n hC dX5_writeSection_62 rfl rfl ?_
    refine xv_callV hC Y_yX5_writeRows im_yX5_writeRows se_yX5_writeRows ml_X5_80 dX5_writeSection_63 (ev_writeRows l G h sz E S (oApR (oApR O b (nI (on s1))) b (nI 0)) on L Rd w0 hb (by rw [oApR_len, oApR_len]; omega) (q := on s1) (by have := hod s1 (by omega); omega) hE) (wl_Writer _ _ _ _ _ _ _ _ _) rfl rfl rfl (Nat.le_of_ble_eq_true rfl) ⟨Nat.le_of_ble_eq_true rfl, Nat.le_of_ble_eq_true rfl⟩ ⟨Nat.le_of_ble_eq_true rfl, Nat.le_of_ble_eq_true rfl⟩ ?_
    refine xv_rn ?_
    refine xv_world (show _ = wC G h E S (wsN1 E on O b s1) (oN on) L Rd w0 by simp [wsN1, secB, oApsR_c, oApsR_n, h25, Nat.not_lt.mpr, *]) ?_
    refine xV.to [(3, .int (nI (O.2.1 b))), (0, .ref (h + 42)), (1, .int (nI s1)), (2, .ref (oA h b))] ⟨rfl, rfl, rfl, rfl, trivial⟩ ?_
    exact J66
  · rw [nI_leI (by omega) (by omega)] at h25
    have h25 : faN E on s1 < s1 := by omega
    refine xv_aload_n hC dX5_writeSection_28 rfl rfl ?_
    refine xv_iconst (v := nI 1) hC dX5_writeSection_29 (by decide) ?_
    refine xv_callV hC Y_yX2_append im_yX2_append se_yX2_append ml_X5_54 dX5_writeSection_30 (ev_append l G h sz E S (oApR O b (nI (on s1))) (oN on) L Rd w0 hb (by rw [oApR_len]; omega) (nI 1)) (wl_oA _ _ _ _ _ _ _ _ _ (by first | assumption | omega)) rfl rfl rfl (Nat.le_of_ble_eq_true rfl) ⟨Nat.le_of_ble_eq_true rfl, Nat.le_of_ble_eq_true rfl⟩ ⟨Nat.le_of_ble_eq_true rfl, Nat.le_of_ble_eq_true rfl⟩ ?_
    refine xv_rn ?_
    refine xv_aload_n hC dX5_writeSection_33 rfl rfl ?_
    refine xv_iload hC dX5_writeSection_34 rfl ?_
    refine xv_callV hC Y_yX2_append im_yX2_append se_yX2_append ml_X5_54 dX5_writeSection_36 (ev_append l G h sz E S (oApR (oApR O b (nI (on s1))) b (nI 1)) (oN on) L Rd w0 hb (by rw [oApR_len, oApR_len]; omega) (nI (faN E on s1))) (wl_oA _ _ _ _ _ _ _ _ _ (by first | assumption | omega)) rfl rfl rfl (Nat.le_of_ble_eq_true rfl) ⟨Nat.le_of_ble_eq_true rfl, Nat.le_of_ble_eq_true rfl⟩ ⟨Nat.le_of_ble_eq_true rfl, Nat.le_of_ble_eq_true rfl⟩ ?_
    refine xv_rn ?_
    refine xv_goto (tgt := 66) hC dX5_writeSection_39 (by decide) ?_
    refine xv_world (show _ = wC G h E S (wsN1 E on O b s1) (oN on) L Rd w0 by simp [wsN1, secB, oApsR_c, oApsR_n, h25, Nat.not_lt.mpr, *]) ?_
    refine xV.to [(3, .int (nI (O.2.1 b))), (0, .ref (h + 42)), (1, .int (nI s1)), (2, .ref (oA h b))] ⟨rfl, rfl, rfl, rfl, trivial⟩ ?_
    exact J66
set_option maxHeartbeats 1000000 in
set_option maxRecDepth 100000 in
theorem ev_writeHead_true (l : Launch) (G : xD) (h sz : Nat) (E : cE) (S : cS) (O : cO) (on : Nat → Nat) (L : cL) (Rd : cR) (w0 : xw) {b : Nat} (hb : b = 0 ∨ b = 2) (hO : O.2.1 b + 8 ≤ 1000000) : xM l G yX5_writeHead cX5_writeHead 3 none 2 0 0 [.ref (h + 42), .int (cI true), .ref (oA h b)] sz (wC G h E S (O) (oN on) L Rd w0) (none) (sz) (wC G h E S (oApsR O b (headB S true)) (oN on) L Rd w0) := by
  refine xM_of (by decide) (Nat.le_of_ble_eq_true rfl) ?_
  intro A p e s m args below meth c hC hr hname
  have hC : xC p s m args meth c cX5_writeHead 3 RX5 G A := hC
  have hr : meth.sig.returnType = none := hr
  show xV p l e _ s m args below meth c G A 3 _ sz _ 0 0 0 [(0, .ref (h + 42)), (1, .int (cI true)), (2, .ref (oA h b))] []
  refine xv_aload_n hC dX5_writeHead_0 rfl rfl ?_
  refine xv_bipush (v := nI 70) hC dX5_writeHead_1 (by decide) ?_
  refine xv_callV hC Y_yX2_append im_yX2_append se_yX2_append ml_X5_54 dX5_writeHead_3 (ev_append l G h sz E S O (oN on) L Rd w0 hb (by omega) (nI 70)) (wl_oA _ _ _ _ _ _ _ _ _ (by first | assumption | omega)) rfl rfl rfl (Nat.le_of_ble_eq_true rfl) ⟨Nat.le_of_ble_eq_true rfl, Nat.le_of_ble_eq_true rfl⟩ ⟨Nat.le_of_ble_eq_true rfl, Nat.le_of_ble_eq_true rfl⟩ ?_
  refine xv_rn ?_
  refine xv_aload_n hC dX5_writeHead_6 rfl rfl ?_
  refine xv_bipush (v := nI 77) hC dX5_writeHead_7 (by decide) ?_
  refine xv_callV hC Y_yX2_append im_yX2_append se_yX2_append ml_X5_54 dX5_writeHead_9 (ev_append l G h sz E S (oApsR O b [nI 70]) (oN on) L Rd w0 hb (by rw [oApsR_len]; simp; omega) (nI 77)) (wl_oA _ _ _ _ _ _ _ _ _ (by first | assumption | omega)) rfl rfl rfl (Nat.le_of_ble_eq_true rfl) ⟨Nat.le_of_ble_eq_true rfl, Nat.le_of_ble_eq_true rfl⟩ ⟨Nat.le_of_ble_eq_true rfl, Nat.le_of_ble_eq_true rfl⟩ ?_
  refine xv_rn ?_
  refine xv_aload_n hC dX5_writeHead_12 rfl rfl ?_
  refine xv_iload_n hC dX5_writeHead_13 rfl rfl ?_
  refine xv_if_eq (tgt := 21) hC dX5_writeHead_14 (by decide) (fun h14 => ?_) (fun h14 => ?_)
  · exact absurd h14 (by decide)
  · refine xv_iconst (v := nI 0) hC dX5_writeHead_17 (by decide) ?_
    refine xv_goto (tgt := 22) hC dX5_writeHead_18 (by decide) ?_
    refine xv_callV hC Y_yX2_append im_yX2_append se_yX2_append ml_X5_54 dX5_writeHead_22 (ev_append l G h sz E S (oApsR O b [nI 70, nI 77]) (oN on) L Rd w0 hb (by rw [oApsR_len]; simp; omega) (nI 0)) (wl_oA _ _ _ _ _ _ _ _ _ (by first | assumption | omega)) rfl rfl rfl (Nat.le_of_ble_eq_true rfl) ⟨Nat.le_of_ble_eq_true rfl, Nat.le_of_ble_eq_true rfl⟩ ⟨Nat.le_of_ble_eq_true rfl, Nat.le_of_ble_eq_true rfl⟩ ?_
    refine xv_rn ?_
    refine xv_aload_n hC dX5_writeHead_25 rfl rfl ?_
    refine xv_aload_n hC dX5_writeHead_26 rfl rfl ?_
    refine tg_X5_0 hC fl_X5_24 dX5_writeHead_27 ?_
    refine tg_X4_3 hC fl_X5_64 dX5_writeHead_30 ?_
    refine xv_callV hC Y_yX2_append im_yX2_append se_yX2_append ml_X5_54 dX5_writeHead_33 (ev_append l G h sz E S (oApsR O b [nI 70, nI 77, nI 0]) (oN on) L Rd w0 hb (by rw [oApsR_len]; simp; omega) (S.2.2.1)) (wl_oA _ _ _ _ _ _ _ _ _ (by first | assumption | omega)) rfl rfl rfl (Nat.le_of_ble_eq_true rfl) ⟨Nat.le_of_ble_eq_true rfl, Nat.le_of_ble_eq_true rfl⟩ ⟨Nat.le_of_ble_eq_true rfl, Nat.le_of_ble_eq_true rfl⟩ ?_
    refine xv_rn ?_
    refine xv_iload_n hC dX5_writeHead_36 rfl rfl ?_
    refine xv_if_ne (tgt := 51) hC dX5_writeHead_37 (by decide) (fun h37 => ?_) (fun h37 => ?_)
    · exact xv_return hC hr dX5_writeHead_51 rfl rfl (by simp only [headB, if_true, List.append_nil]; rfl)
    · exact absurd h37 (by decide)
set_option maxHeartbeats 1000000 in
set_option maxRecDepth 100000 in
theorem ev_writeHead_false (l : Launch) (G : xD) (h sz : Nat) (E : cE) (S : cS) (O : cO) (on : Nat → Nat) (L : cL) (Rd : cR) (w0 : xw) {b : Nat} (hb : b = 0 ∨ b = 2) (hO : O.2.1 b + 8 ≤ 1000000) : xM l G yX5_writeHead cX5_writeHead 3 none 2 0 0 [.ref (h + 42), .int (cI false), .ref (oA h b)] sz (wC G h E S (O) (oN on) L Rd w0) (none) (sz) (wC G h E S (oApsR O b (headB S false)) (oN on) L Rd w0) := by
  refine xM_of (by decide) (Nat.le_of_ble_eq_true rfl) ?_
  intro A p e s m args below meth c hC hr hname
  have hC : xC p s m args meth c cX5_writeHead 3 RX5 G A := hC
  have hr : meth.sig.returnType = none := hr
  show xV p l e _ s m args below meth c G A 3 _ sz _ 0 0 0 [(0, .ref (h + 42)), (1, .int (cI false)), (2, .ref (oA h b))] []
  refine xv_aload_n hC dX5_writeHead_0 rfl rfl ?_
  refine xv_bipush (v := nI 70) hC dX5_writeHead_1 (by decide) ?_
  refine xv_callV hC Y_yX2_append im_yX2_append se_yX2_append ml_X5_54 dX5_writeHead_3 (ev_append l G h sz E S O (oN on) L Rd w0 hb (by omega) (nI 70)) (wl_oA _ _ _ _ _ _ _ _ _ (by first | assumption | omega)) rfl rfl rfl (Nat.le_of_ble_eq_true rfl) ⟨Nat.le_of_ble_eq_true rfl, Nat.le_of_ble_eq_true rfl⟩ ⟨Nat.le_of_ble_eq_true rfl, Nat.le_of_ble_eq_true rfl⟩ ?_
  refine xv_rn ?_
  refine xv_aload_n hC dX5_writeHead_6 rfl rfl ?_
  refine xv_bipush (v := nI 77) hC dX5_writeHead_7 (by decide) ?_
  refine xv_callV hC Y_yX2_append im_yX2_append se_yX2_append ml_X5_54 dX5_writeHead_9 (ev_append l G h sz E S (oApsR O b [nI 70]) (oN on) L Rd w0 hb (by rw [oApsR_len]; simp; omega) (nI 77)) (wl_oA _ _ _ _ _ _ _ _ _ (by first | assumption | omega)) rfl rfl rfl (Nat.le_of_ble_eq_true rfl) ⟨Nat.le_of_ble_eq_true rfl, Nat.le_of_ble_eq_true rfl⟩ ⟨Nat.le_of_ble_eq_true rfl, Nat.le_of_ble_eq_true rfl⟩ ?_
  refine xv_rn ?_
  refine xv_aload_n hC dX5_writeHead_12 rfl rfl ?_
  refine xv_iload_n hC dX5_writeHead_13 rfl rfl ?_
  refine xv_if_eq (tgt := 21) hC dX5_writeHead_14 (by decide) (fun h14 => ?_) (fun h14 => ?_)
  · refine xv_iconst (v := nI 1) hC dX5_writeHead_21 (by decide) ?_
    refine xv_callV hC Y_yX2_append im_yX2_append se_yX2_append ml_X5_54 dX5_writeHead_22 (ev_append l G h sz E S (oApsR O b [nI 70, nI 77]) (oN on) L Rd w0 hb (by rw [oApsR_len]; simp; omega) (nI 1)) (wl_oA _ _ _ _ _ _ _ _ _ (by first | assumption | omega)) rfl rfl rfl (Nat.le_of_ble_eq_true rfl) ⟨Nat.le_of_ble_eq_true rfl, Nat.le_of_ble_eq_true rfl⟩ ⟨Nat.le_of_ble_eq_true rfl, Nat.le_of_ble_eq_true rfl⟩ ?_
    refine xv_rn ?_
    refine xv_aload_n hC dX5_writeHead_25 rfl rfl ?_
    refine xv_aload_n hC dX5_writeHead_26 rfl rfl ?_
    refine tg_X5_0 hC fl_X5_24 dX5_writeHead_27 ?_
    refine tg_X4_3 hC fl_X5_64 dX5_writeHead_30 ?_
    refine xv_callV hC Y_yX2_append im_yX2_append se_yX2_append ml_X5_54 dX5_writeHead_33 (ev_append l G h sz E S (oApsR O b [nI 70, nI 77, nI 1]) (oN on) L Rd w0 hb (by rw [oApsR_len]; simp; omega) (S.2.2.1)) (wl_oA _ _ _ _ _ _ _ _ _ (by first | assumption | omega)) rfl rfl rfl (Nat.le_of_ble_eq_true rfl) ⟨Nat.le_of_ble_eq_true rfl, Nat.le_of_ble_eq_true rfl⟩ ⟨Nat.le_of_ble_eq_true rfl, Nat.le_of_ble_eq_true rfl⟩ ?_
    refine xv_rn ?_
    refine xv_iload_n hC dX5_writeHead_36 rfl rfl ?_
    refine xv_if_ne (tgt := 51) hC dX5_writeHead_37 (by decide) (fun h37 => ?_) (fun h37 => ?_)
    · exact absurd h37 (by decide)
    · refine xv_aload_n hC dX5_writeHead_40 rfl rfl ?_
      refine xv_aload_n hC dX5_writeHead_41 rfl rfl ?_
      refine tg_X5_0 hC fl_X5_24 dX5_writeHead_42 ?_
      refine tg_X4_7 hC fl_X5_67 dX5_writeHead_45 ?_
      refine xv_callV hC Y_yX2_appendFour im_yX2_appendFour se_yX2_appendFour ml_X5_70 dX5_writeHead_48 (ev_appendFour l G h sz E S (oApsR O b [nI 70, nI 77, nI 1, S.2.2.1]) (oN on) L Rd w0 hb (by rw [oApsR_len]; simp; omega) S.2.2.2.2.2.2) (wl_oA _ _ _ _ _ _ _ _ _ (by first | assumption | omega)) rfl rfl rfl (Nat.le_of_ble_eq_true rfl) ⟨Nat.le_of_ble_eq_true rfl, Nat.le_of_ble_eq_true rfl⟩ ⟨Nat.le_of_ble_eq_true rfl, Nat.le_of_ble_eq_true rfl⟩ ?_
      refine xv_rn ?_
      exact xv_return hC hr dX5_writeHead_51 rfl rfl (by simp only [headB, if_false, Bool.false_eq_true, oApsR_app]; try rfl)
  · exact absurd h14 (by decide)
theorem ev_writeHead (l : Launch) (G : xD) (h sz : Nat) (E : cE) (S : cS) (O : cO) (on : Nat → Nat) (L : cL) (Rd : cR) (w0 : xw) {b : Nat} (hb : b = 0 ∨ b = 2) (hO : O.2.1 b + 8 ≤ 1000000) (d : Bool) : xM l G yX5_writeHead cX5_writeHead 3 none 2 0 0 [.ref (h + 42), .int (cI d), .ref (oA h b)] sz (wC G h E S (O) (oN on) L Rd w0) none sz (wC G h E S (oApsR O b (headB S d)) (oN on) L Rd w0) := by
  cases d
  · exact ev_writeHead_false l G h sz E S O on L Rd w0 hb hO
  · exact ev_writeHead_true l G h sz E S O on L Rd w0 hb hO
set_option maxHeartbeats 1000000 in
set_option maxRecDepth 100000 in
theorem ev_writeFile (l : Launch) (G : xD) (h sz : Nat) (E : cE) (S : cS) (O : cO) (on : Nat → Nat) (L : cL) (Rd : cR) (w0 : xw) {b : Nat} (hb : b = 0 ∨ b = 2) (hE : eOK E) (d : Bool) : xM l G yX5_writeFile cX5_writeFile 7 none 4 0 0 [.ref (h + 42), .int (cI d), .ref (oA h b)] sz (wC G h E S (O) (oN on) L Rd w0) (none) (sz) (wC G h E S ((wfN E S O on b d).1) (oN (wfN E S O on b d).2) L Rd w0) := by
  refine xM_of (by decide) (Nat.le_of_ble_eq_true rfl) ?_
  intro A p e s m args below meth c hC hr hname
  have hC : xC p s m args meth c cX5_writeFile 7 RX5 G A := hC
  have hr : meth.sig.returnType = none := hr
  show xV p l e _ s m args below meth c G A 7 _ sz _ 0 0 0 [(0, .ref (h + 42)), (1, .int (cI d)), (2, .ref (oA h b))] []
  have J21 : xV p l e (xr 4 0 0) s m args below meth c G A 7 (MQ below (xQ G A (none) (sz) (wC G h E S ((wfN E S O on b d).1) (oN (wfN E S O on b d).2) L Rd w0)) args s 0 0 A) sz (wC G h E S (O) (oN on) L Rd w0) 0 0 21 [(0, .ref (h + 42)), (1, .int (cI d)), (2, .ref (oA h b))] [.int (wfW E S d)] := by
    refine xv_istore_n hC dX5_writeFile_21 rfl (by decide) ?_
    refine xv_aload_n hC dX5_writeFile_22 rfl rfl ?_
    refine xv_iconst (v := nI 0) hC dX5_writeFile_23 (by decide) ?_
    refine tp_X2_1 hC (by first | assumption | omega) fl_X5_32 dX5_writeFile_24 rfl ?_
    refine xv_aload_n hC dX5_writeFile_27 rfl rfl ?_
    refine xv_iload_n hC dX5_writeFile_28 rfl rfl ?_
    refine xv_aload_n hC dX5_writeFile_29 rfl rfl ?_
    refine xv_callV hC Y_yX5_writeHead im_yX5_writeHead se_yX5_writeHead ml_X5_45 dX5_writeFile_30 (ev_writeHead l G h sz E S (O.1, va_up O.2.1 b 0, O.2.2) on L Rd w0 hb (by simp [va_up]) d) (wl_Writer _ _ _ _ _ _ _ _ _) rfl rfl rfl (Nat.le_of_ble_eq_true rfl) ⟨Nat.le_of_ble_eq_true rfl, Nat.le_of_ble_eq_true rfl⟩ ⟨Nat.le_of_ble_eq_true rfl, Nat.le_of_ble_eq_true rfl⟩ ?_
    refine xv_rn ?_
    refine xv_aload_n hC dX5_writeFile_33 rfl rfl ?_
    refine xv_iload_n hC dX5_writeFile_34 rfl rfl ?_
    refine xv_callS hC Y_yJ6_bitCount_0f7a4 sm_yJ6_bitCount_0f7a4 ml_X5_48 dX5_writeFile_35 (ev_bitCount l G sz _ (wfW E S d)) rfl rfl (Nat.le_of_ble_eq_true rfl) ⟨Nat.le_of_ble_eq_true rfl, Nat.le_of_ble_eq_true rfl⟩ ⟨Nat.le_of_ble_eq_true rfl, Nat.le_of_ble_eq_true rfl⟩ ?_
    refine xv_rs ?_
    refine xv_callV hC Y_yX2_append im_yX2_append se_yX2_append ml_X5_54 dX5_writeFile_38 (ev_append l G h sz E S (oApsR (O.1, va_up O.2.1 b 0, O.2.2) b (headB S d)) (oN on) L Rd w0 hb (by have := headB_ln S d; rw [oApsR_len]; simp [va_up]; omega) (bcI (wfW E S d))) (wl_oA _ _ _ _ _ _ _ _ _ (by first | assumption | omega)) rfl rfl rfl (Nat.le_of_ble_eq_true rfl) ⟨Nat.le_of_ble_eq_true rfl, Nat.le_of_ble_eq_true rfl⟩ ⟨Nat.le_of_ble_eq_true rfl, Nat.le_of_ble_eq_true rfl⟩ ?_
    refine xv_rn ?_
    refine xv_iload_n hC dX5_writeFile_41 rfl rfl ?_
    refine xv_istore hC dX5_writeFile_42 (by decide) ?_
    refine xv_iconst (v := nI 0) hC dX5_writeFile_44 (by decide) ?_
    refine xv_istore hC dX5_writeFile_45 (by decide) ?_
    have Lp47 : ∀ (n s1 : Nat) (O1 : cO) (on1 : Nat → Nat) (x : Int32), (s1 + n = 13) → (s1 ≤ 12) → (O1.2.1 b ≤ 10 + 2016 * s1) → (∀ j, j < s1 → on1 j < 12) → (wfLN E S.1 b (n - 1) s1 O1 on1 x = (wfN E S O on b d)) → xV p l e (xr 4 0 0) s m args below meth c G A 7 (MQ below (xQ G A (none) (sz) (wC G h E S ((wfN E S O on b d).1) (oN (wfN E S O on b d).2) L Rd w0)) args s 0 0 A) sz (wC G h E S (O1) (oN on1) L Rd w0) 0 0 47 [(5, .int (nI s1)), (4, .int x), (0, .ref (h + 42)), (1, .int (cI d)), (2, .ref (oA h b)), (3, .int (wfW E S d))] [] := by
      intro n
      induction n with
      | zero =>
        intro s1 O1 on1 x hs hs2 h1 ho hu
        omega
      | succ n ih47 =>
        intro s1 O1 on1 x hs hs2 h1 ho hu
        refine xv_iload hC dX5_writeFile_47 rfl ?_
        refine xv_bipush (v := nI 12) hC dX5_writeFile_49 (by decide) ?_
        refine xv_icmp_ge (tgt := 111) hC dX5_writeFile_51 (by decide) (fun h51 => ?_) (fun h51 => ?_)
        · try simp (disch := omega) only [nI_leI, nI_ltI, nI_eq, xz_eq, xz_le, xz_gt, cI_0, cI_n0, cI_inj, lg_cmp_ge, lg_cmp_le, lg_cmp_gt, lg_cmp_lt, lg_cmp_eq, Bool.not_eq_true, Bool.not_eq_false, Nat.not_le, Nat.not_lt] at h51
          exact xv_return hC hr dX5_writeFile_111 rfl rfl (by rw [← hu, wfLN_end (by first | exact Or.inl (by omega) | exact Or.inr (Or.inl h56) | exact Or.inr (Or.inr hf))])
        · try simp (disch := omega) only [nI_leI, nI_ltI, nI_eq, xz_eq, xz_le, xz_gt, cI_0, cI_n0, cI_inj, lg_cmp_ge, lg_cmp_le, lg_cmp_gt, lg_cmp_lt, lg_cmp_eq, Bool.not_eq_true, Bool.not_eq_false, Nat.not_le, Nat.not_lt] at h51
          refine xv_iload hC dX5_writeFile_54 rfl ?_
          refine xv_if_eq (tgt := 111) hC dX5_writeFile_56 (by decide) (fun h56 => ?_) (fun h56 => ?_)
          · exact xv_return hC hr dX5_writeFile_111 rfl rfl (by rw [← hu, wfLN_end (by first | exact Or.inl (by omega) | exact Or.inr (Or.inl h56) | exact Or.inr (Or.inr hf))])
          · refine xv_aload_n hC dX5_writeFile_59 rfl rfl ?_
            refine tg_X5_0 hC fl_X5_24 dX5_writeFile_60 ?_
            refine xv_iload hC dX5_writeFile_63 rfl ?_
            refine xv_callV hC Y_yX4_firstToWrite im_yX4_firstToWrite se_yX4_firstToWrite ml_X5_57 dX5_writeFile_65 (ev_firstToWrite l G h sz E S O1 (oN on1) L Rd w0 x) (wl_Setter _ _ _ _ _ _ _ _ _) rfl rfl rfl (Nat.le_of_ble_eq_true rfl) ⟨Nat.le_of_ble_eq_true rfl, Nat.le_of_ble_eq_true rfl⟩ ⟨Nat.le_of_ble_eq_true rfl, Nat.le_of_ble_eq_true rfl⟩ ?_
            refine xv_rs ?_
            cases hf : fstB (fwOk S.1 x) 12 with
            | none =>
              refine xv_cast (show _ = Value.int (-1) from rfl) ?_
              refine xv_istore hC dX5_writeFile_68 (by decide) ?_
              refine xv_iload hC dX5_writeFile_70 rfl ?_
              refine xv_if_ge (tgt := 78) hC dX5_writeFile_72 (by decide) (fun h72 => ?_) (fun h72 => ?_)
              · exact absurd h72 (by decide)
              · refine xv_goto (tgt := 111) hC dX5_writeFile_75 (by decide) ?_
                exact xv_return hC hr dX5_writeFile_111 rfl rfl (by rw [← hu, wfLN_end (by first | exact Or.inl (by omega) | exact Or.inr (Or.inl h56) | exact Or.inr (Or.inr hf))])
            | some p1 =>
              have hp1 : p1 < 12 := (fstB_lt hf).1
              refine xv_cast (show _ = Value.int (nI p1) from rfl) ?_
              refine xv_istore hC dX5_writeFile_68 (by decide) ?_
              refine xv_iload hC dX5_writeFile_70 rfl ?_
              refine xv_if_ge (tgt := 78) hC dX5_writeFile_72 (by decide) (fun h72 => ?_) (fun h72 => ?_)
              · refine xv_aload_n hC dX5_writeFile_78 rfl rfl ?_
                refine tg_X5_2 hC fl_X5_20 dX5_writeFile_79 ?_
                refine xv_iload hC dX5_writeFile_82 rfl ?_
                refine xv_iload hC dX5_writeFile_84 rfl ?_
                refine as_order hC dX5_writeFile_86 rfl (by first | assumption | omega) ?_
                refine xv_world (show _ = wC G h E S (O1) (oN (va_up on1 s1 p1)) L Rd w0 by rw [oN_up]) ?_
                have hod1 : ∀ j, j ≤ s1 → va_up on1 s1 p1 j < 12 := fun j hj => by
                  by_cases e : j = s1
                  · rw [e, va_up_self]; exact hp1
                  · rw [va_up_ne _ _ e]; exact ho j (by omega)
                refine xv_aload_n hC dX5_writeFile_87 rfl rfl ?_
                refine xv_iload hC dX5_writeFile_88 rfl ?_
                refine xv_aload_n hC dX5_writeFile_90 rfl rfl ?_
                refine xv_callV hC Y_yX5_writeSection im_yX5_writeSection se_yX5_writeSection ml_X5_60 dX5_writeFile_91 (ev_writeSection l G h sz E S O1 (va_up on1 s1 p1) L Rd w0 hb (by omega) (s1 := s1) (by omega) hod1 hE) (wl_Writer _ _ _ _ _ _ _ _ _) rfl rfl rfl (Nat.le_of_ble_eq_true rfl) ⟨Nat.le_of_ble_eq_true rfl, Nat.le_of_ble_eq_true rfl⟩ ⟨Nat.le_of_ble_eq_true rfl, Nat.le_of_ble_eq_true rfl⟩ ?_
                refine xv_rn ?_
                refine xv_iload hC dX5_writeFile_94 rfl ?_
                refine xv_iconst (v := nI 1) hC dX5_writeFile_96 (by decide) ?_
                refine xv_iload hC dX5_writeFile_97 rfl ?_
                refine xv_ishl hC dX5_writeFile_99 ?_
                refine xv_iconst (v := -1) hC dX5_writeFile_100 (by decide) ?_
                refine xv_ixor hC dX5_writeFile_101 ?_
                refine xv_iand hC dX5_writeFile_102 ?_
                refine xv_istore hC dX5_writeFile_103 (by decide) ?_
                refine xv_iinc hC dX5_writeFile_105 rfl (xinc _) (by decide) ?_
                refine xv_goto (tgt := 47) hC dX5_writeFile_108 (by decide) ?_
                refine xV.to [(5, .int (nI (s1 + 1))), (4, .int (x &&& (bitI p1 ^^^ (-1)))), (0, .ref (h + 42)), (1, .int (cI d)), (2, .ref (oA h b)), (3, .int (wfW E S d))] ⟨rfl, rfl, rfl, rfl, rfl, rfl, trivial⟩ ?_
                exact ih47 (s1 + 1) _ _ _ (by omega) (by omega) (by have h2 := wsN_len E (va_up on1 s1 p1) O1 b s1; have h3 := secB_ln E (va_up on1 s1 p1) s1; omega) (lt_s (fun j hj => by rw [va_up_ne _ _ (by omega)]; exact ho j hj) (by rw [va_up_self]; exact hp1)) (by rw [← hu]; obtain ⟨n', rfl⟩ : ∃ n', n = n' + 1 := ⟨n - 1, by omega⟩; exact (wfLN_go (n := n') h56 hf).symm)
              · exact absurd (nI_pos' (by omega)) h72
    refine xV.to [(5, .int (nI 0)), (4, .int (wfW E S d)), (0, .ref (h + 42)), (1, .int (cI d)), (2, .ref (oA h b)), (3, .int (wfW E S d))] ⟨rfl, rfl, rfl, rfl, rfl, rfl, trivial⟩ ?_
    exact Lp47 13 0 _ on _ (by omega) (by omega) (by have h2 := wfN0_len S O b d (wfW E S d); have h3 := headB_ln S d; have h4 : (wfN0 S O b d (wfW E S d)).2.1 b ≤ 10 + 2016 * 0 := (by omega); exact h4) lt_0 rfl
  refine xv_iload_n hC dX5_writeFile_0 rfl rfl ?_
  refine xv_if_eq (tgt := 14) hC dX5_writeFile_1 (by decide) (fun h1 => ?_) (fun h1 => ?_)
  · try simp (disch := omega) only [nI_leI, nI_ltI, nI_eq, xz_eq, xz_le, xz_gt, cI_0, cI_n0, cI_inj, lg_cmp_ge, lg_cmp_le, lg_cmp_gt, lg_cmp_lt, lg_cmp_eq, Bool.not_eq_true, Bool.not_eq_false, Nat.not_le, Nat.not_lt] at h1
    refine xv_aload_n hC dX5_writeFile_14 rfl rfl ?_
    refine tg_X5_0 hC fl_X5_24 dX5_writeFile_15 ?_
    refine tg_X4_2 hC fl_X5_42 dX5_writeFile_18 ?_
    refine xv_cast (congrArg Value.int (show _ = wfW E S d by simp [wfW, h1])) ?_
    exact J21
  · try simp (disch := omega) only [nI_leI, nI_ltI, nI_eq, xz_eq, xz_le, xz_gt, cI_0, cI_n0, cI_inj, lg_cmp_ge, lg_cmp_le, lg_cmp_gt, lg_cmp_lt, lg_cmp_eq, Bool.not_eq_true, Bool.not_eq_false, Nat.not_le, Nat.not_lt] at h1
    refine xv_aload_n hC dX5_writeFile_4 rfl rfl ?_
    refine tg_X5_0 hC fl_X5_24 dX5_writeFile_5 ?_
    refine xv_callV hC Y_yX4_partsWithEntries im_yX4_partsWithEntries se_yX4_partsWithEntries ml_X5_36 dX5_writeFile_8 (ev_partsWithEntries l G h sz E S O (oN on) L Rd w0 hE) (wl_Setter _ _ _ _ _ _ _ _ _) rfl rfl rfl (Nat.le_of_ble_eq_true rfl) ⟨Nat.le_of_ble_eq_true rfl, Nat.le_of_ble_eq_true rfl⟩ ⟨Nat.le_of_ble_eq_true rfl, Nat.le_of_ble_eq_true rfl⟩ ?_
    refine xv_rs ?_
    refine xv_goto (tgt := 21) hC dX5_writeFile_11 (by decide) ?_
    refine xv_cast (congrArg Value.int (show _ = wfW E S d by simp [wfW, h1])) ?_
    exact J21
set_option maxHeartbeats 1000000 in
set_option maxRecDepth 100000 in
theorem ev_lengthOf (l : Launch) (G : xD) (h sz : Nat) (E : cE) (S : cS) (O : cO) (on : Nat → Nat) (L : cL) (Rd : cR) (w0 : xw) (hE : eOK E) (d : Bool) : xM l G yX5_lengthOf cX5_lengthOf 2 (some .int) 5 0 0 [.ref (h + 42), .int (cI d)] sz (wC G h E S (O) (oN on) L Rd w0) (some (.int (nI ((wfN E S O on 2 d).1.2.1 2)))) (sz) (wC G h E S ((wfN E S O on 2 d).1) (oN (wfN E S O on 2 d).2) L Rd w0) := by
  refine xM_of (by decide) (Nat.le_of_ble_eq_true rfl) ?_
  intro A p e s m args below meth c hC hr hname
  have hC : xC p s m args meth c cX5_lengthOf 2 RX5 G A := hC
  have hr : meth.sig.returnType = (some .int) := hr
  show xV p l e _ s m args below meth c G A 2 _ sz _ 0 0 0 [(0, .ref (h + 42)), (1, .int (cI d))] []
  refine xv_aload_n hC dX5_lengthOf_0 rfl rfl ?_
  refine xv_iload_n hC dX5_lengthOf_1 rfl rfl ?_
  refine xv_aload_n hC dX5_lengthOf_2 rfl rfl ?_
  refine tg_X5_1 hC fl_X5_14 dX5_lengthOf_3 ?_
  refine xv_callV hC Y_yX5_writeFile im_yX5_writeFile se_yX5_writeFile ml_X5_28 dX5_lengthOf_6 (ev_writeFile l G h sz E S O on L Rd w0 (b := 2) (by omega) hE d) (wl_Writer _ _ _ _ _ _ _ _ _) rfl rfl rfl (Nat.le_of_ble_eq_true rfl) ⟨Nat.le_of_ble_eq_true rfl, Nat.le_of_ble_eq_true rfl⟩ ⟨Nat.le_of_ble_eq_true rfl, Nat.le_of_ble_eq_true rfl⟩ ?_
  refine xv_rn ?_
  refine xv_aload_n hC dX5_lengthOf_9 rfl rfl ?_
  refine tg_X5_1 hC fl_X5_14 dX5_lengthOf_10 ?_
  refine tg_X2_1 hC (by first | assumption | omega) fl_X5_32 dX5_lengthOf_13 ?_
  exact xv_ireturn hC hr dX5_lengthOf_16 rfl rfl rfl
