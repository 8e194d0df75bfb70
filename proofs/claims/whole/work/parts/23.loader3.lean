set_option maxHeartbeats 1000000 in
set_option maxRecDepth 100000 in
theorem ev_loadSections (l : Launch) (G : xD) (h sz : Nat) (E : cE) (S : cS) (O : cO) (on : Nat → Nat) (sec : Nat) (po : Nat → Option Nat) (re cf : Nat → Int32) (so : Nat → Nat) (seen rf : Int32) (Rd : cR) (ra : Nat → Nat) (Ra : cR) (w1 : xw) (hO : O.2.1 0 ≤ 8000) (hE : eOK E) (hso : ∀ j, so j < 12) (hpo : ∀ j q, po j = some q → q < 12) (hA : ∀ j, ra j ≤ 8000) : xM l G yX1_loadSections cX1_loadSections 3 (some .int) 5 0 0 [.ref (h + 46)] sz (wC G h E S O (oN on) (sec, lP po, re, cf, oN so, seen, rf) Rd (wX G h (oN ra) Ra w1)) (some (.int (nI (lnT E S O po re cf so ra Ra).1.2.2.2.2.2))) (sz) (wC G h (lnEE O (lnT E S O po re cf so ra Ra)) (lnES O (lnT E S O po re cf so ra Ra)) O (oN on) (lsSec O, lP (lnT E S O po re cf so ra Ra).1.1.2.1, (lnT E S O po re cf so ra Ra).1.2.2.1, (lnT E S O po re cf so ra Ra).1.2.2.2.1, oN (lnT E S O po re cf so ra Ra).1.1.2.2.1, (lnT E S O po re cf so ra Ra).1.1.2.2.2.1, (lnT E S O po re cf so ra Ra).1.2.2.2.2.1) (lnT E S O po re cf so ra Ra).1.1.2.2.2.2 (wX G h (oN (lnT E S O po re cf so ra Ra).2.1) (lnER O (lnT E S O po re cf so ra Ra)) w1)) := by
  refine xM_of (by decide) (Nat.le_of_ble_eq_true rfl) ?_
  intro A p e s m args below meth c hC hr hname
  have hC : xC p s m args meth c cX1_loadSections 3 RX1 G A := hC
  have hr : meth.sig.returnType = (some .int) := hr
  show xV p l e _ s m args below meth c G A 3 _ sz _ 0 0 0 [(0, .ref (h + 46))] []
  refine xv_iconst (v := nI 0) hC dX1_loadSections_0 (by decide) ?_
  refine xv_istore_n hC dX1_loadSections_1 rfl (by decide) ?_
  refine xv_aload_n hC dX1_loadSections_2 rfl rfl ?_
  refine xv_iconst (v := nI 0) hC dX1_loadSections_3 (by decide) ?_
  refine tp_X1_11 hC fl_X1_38 dX1_loadSections_4 ?_
  refine xv_aload_n hC dX1_loadSections_7 rfl rfl ?_
  refine xv_iconst (v := nI 0) hC dX1_loadSections_8 (by decide) ?_
  refine tp_X1_12 hC fl_X1_41 dX1_loadSections_9 ?_
  refine xv_aload_n hC dX1_loadSections_12 rfl rfl ?_
  refine xv_aload_n hC dX1_loadSections_13 rfl rfl ?_
  refine tg_X1_5 hC fl_X1_48 dX1_loadSections_14 ?_
  refine xv_aload_n hC dX1_loadSections_17 rfl rfl ?_
  refine xv_callV hC Y_yX1_headLength im_yX1_headLength se_yX1_headLength ml_X1_73 dX1_loadSections_18 (ev_headLength l G h sz E S O on sec po re cf so (nI 0) (nI 0) Rd (wX G h (oN ra) Ra w1) hO) (wl_Loader _ _ _ _ _ _ _ _ _) rfl rfl rfl (Nat.le_of_ble_eq_true rfl) ⟨Nat.le_of_ble_eq_true rfl, Nat.le_of_ble_eq_true rfl⟩ ⟨Nat.le_of_ble_eq_true rfl, Nat.le_of_ble_eq_true rfl⟩ ?_
  refine xv_rs ?_
  refine xv_iconst (v := nI 1) hC dX1_loadSections_21 (by decide) ?_
  refine xv_isub hC dX1_loadSections_22 ?_
  refine xv_cast (congrArg Value.int (pk_sub (a := hdL O) (b := 1) (by unfold hdL; split <;> omega))) ?_
  refine xv_callV hC Y_yX2_at im_yX2_at se_yX2_at ml_X1_64 dX1_loadSections_23 (ev_at l G h sz E S O (oN on) (sec, lP po, re, cf, oN so, nI 0, nI 0) Rd (wX G h (oN ra) Ra w1) (b := 0) (by omega) hO (i := hdL O - 1) (by unfold hdL; split <;> omega)) (wl_oA _ _ _ _ _ _ _ _ _ (by first | assumption | omega)) rfl rfl rfl (Nat.le_of_ble_eq_true rfl) ⟨Nat.le_of_ble_eq_true rfl, Nat.le_of_ble_eq_true rfl⟩ ⟨Nat.le_of_ble_eq_true rfl, Nat.le_of_ble_eq_true rfl⟩ ?_
  refine xv_rs ?_
  refine xv_cast (congrArg Value.int (show _ = nI (lsSec O) from (oAt_nI O 0 (hdL O - 1)).1)) ?_
  refine tp_X1_0 hC fl_X1_9 dX1_loadSections_26 rfl ?_
  refine xv_aload_n hC dX1_loadSections_29 rfl rfl ?_
  refine tg_X1_6 hC fl_X1_57 dX1_loadSections_30 ?_
  refine xv_aload_n hC dX1_loadSections_33 rfl rfl ?_
  refine xv_callV hC Y_yX1_headLength im_yX1_headLength se_yX1_headLength ml_X1_73 dX1_loadSections_34 (ev_headLength l G h sz E S O on (lsSec O) po re cf so (nI 0) (nI 0) Rd (wX G h (oN ra) Ra w1) hO) (wl_Loader _ _ _ _ _ _ _ _ _) rfl rfl rfl (Nat.le_of_ble_eq_true rfl) ⟨Nat.le_of_ble_eq_true rfl, Nat.le_of_ble_eq_true rfl⟩ ⟨Nat.le_of_ble_eq_true rfl, Nat.le_of_ble_eq_true rfl⟩ ?_
  refine xv_rs ?_
  refine xv_callV hC Y_yX3_startAt im_yX3_startAt se_yX3_startAt ml_X1_96 dX1_loadSections_37 (ev_startAt l G h sz E S O (oN on) (lsSec O, lP po, re, cf, oN so, nI 0, nI 0) Rd (wX G h (oN ra) Ra w1) (hdL O)) (wl_Reader _ _ _ _ _ _ _ _ _) rfl rfl rfl (Nat.le_of_ble_eq_true rfl) ⟨Nat.le_of_ble_eq_true rfl, Nat.le_of_ble_eq_true rfl⟩ ⟨Nat.le_of_ble_eq_true rfl, Nat.le_of_ble_eq_true rfl⟩ ?_
  refine xv_rn ?_
  refine xv_iconst (v := nI 0) hC dX1_loadSections_40 (by decide) ?_
  refine xv_istore_n hC dX1_loadSections_41 rfl (by decide) ?_
  have Lp42 : ∀ (n s1 : Nat) (T : cT) (ra1 : Nat → Nat) (Ra1 : cR), (s1 ≤ lsSec O) → (lsSec O < s1 + n) → ((T, ra1, Ra1) = lnL O (isW O) (lnT0 E S O po re cf so ra Ra) s1) → (uOK (T, ra1, Ra1)) → (T.2.2.2.2.2 ≤ s1) → xV p l e (xr 5 0 0) s m args below meth c G A 3 (MQ below (xQ G A (some (.int (nI (lnT E S O po re cf so ra Ra).1.2.2.2.2.2))) (sz) (wC G h (lnEE O (lnT E S O po re cf so ra Ra)) (lnES O (lnT E S O po re cf so ra Ra)) O (oN on) (lsSec O, lP (lnT E S O po re cf so ra Ra).1.1.2.1, (lnT E S O po re cf so ra Ra).1.2.2.1, (lnT E S O po re cf so ra Ra).1.2.2.2.1, oN (lnT E S O po re cf so ra Ra).1.1.2.2.1, (lnT E S O po re cf so ra Ra).1.1.2.2.2.1, (lnT E S O po re cf so ra Ra).1.2.2.2.2.1) (lnT E S O po re cf so ra Ra).1.1.2.2.2.2 (wX G h (oN (lnT E S O po re cf so ra Ra).2.1) (lnER O (lnT E S O po re cf so ra Ra)) w1))) args s 0 0 A) sz (wC G h T.1.1 (T.2.1) O (oN on) (lsSec O, lP T.1.2.1, T.2.2.1, T.2.2.2.1, oN T.1.2.2.1, T.1.2.2.2.1, T.2.2.2.2.1) T.1.2.2.2.2 (wX G h (oN ra1) Ra1 w1)) 0 0 42 [(2, .int (nI s1)), (1, .int (nI T.2.2.2.2.2)), (0, .ref (h + 46))] [] := by
    intro n
    induction n with
    | zero =>
      intro s1 T ra1 Ra1 hs hn hT hX hld
      omega
    | succ n ih42 =>
      intro s1 T ra1 Ra1 hs hn hT hX hld
      have hse := (oAt_nI O 0 (hdL O - 1)).2
      have hse : lsSec O < 256 := hse
      refine xv_iload_n hC dX1_loadSections_42 rfl rfl ?_
      refine xv_aload_n hC dX1_loadSections_43 rfl rfl ?_
      refine tg_X1_0 hC fl_X1_9 dX1_loadSections_44 ?_
      refine xv_icmp_ge (tgt := 159) hC dX1_loadSections_47 (by decide) (fun h47 => ?_) (fun h47 => ?_)
      · try simp (disch := omega) only [nI_leI, nI_ltI, nI_eq, xz_eq, xz_le, xz_gt, cI_0, cI_n0, cI_inj, lg_cmp_ge, lg_cmp_le, lg_cmp_gt, lg_cmp_lt, lg_cmp_eq, Bool.not_eq_true, Bool.not_eq_false, Nat.not_le, Nat.not_lt] at h47
        refine xv_aload_n hC dX1_loadSections_159 rfl rfl ?_
        refine xv_callV hC Y_yX1_isWhole im_yX1_isWhole se_yX1_isWhole ml_X1_82 dX1_loadSections_160 (ev_isWhole l G h sz T.1.1 T.2.1 O on (lsSec O) T.1.2.1 T.2.2.1 T.2.2.2.1 T.1.2.2.1 T.1.2.2.2.1 T.2.2.2.2.1 T.1.2.2.2.2 (wX G h (oN ra1) Ra1 w1) hO) (wl_Loader _ _ _ _ _ _ _ _ _) rfl rfl rfl (Nat.le_of_ble_eq_true rfl) ⟨Nat.le_of_ble_eq_true rfl, Nat.le_of_ble_eq_true rfl⟩ ⟨Nat.le_of_ble_eq_true rfl, Nat.le_of_ble_eq_true rfl⟩ ?_
        refine xv_rs ?_
        refine xv_if_eq (tgt := 178) hC dX1_loadSections_163 (by decide) (fun h163 => ?_) (fun h163 => ?_)
        · try simp (disch := omega) only [nI_leI, nI_ltI, nI_eq, xz_eq, xz_le, xz_gt, cI_0, cI_n0, cI_inj, lg_cmp_ge, lg_cmp_le, lg_cmp_gt, lg_cmp_lt, lg_cmp_eq, Bool.not_eq_true, Bool.not_eq_false, Nat.not_le, Nat.not_lt] at h163
          have hTF : (lnT E S O po re cf so ra Ra) = (T, ra1, Ra1) := by rw [hT, show s1 = lsSec O by omega]; rfl
          refine xv_world (show _ = wC G h (lnEE O (lnT E S O po re cf so ra Ra)) (lnES O (lnT E S O po re cf so ra Ra)) O (oN on) (lsSec O, lP (lnT E S O po re cf so ra Ra).1.1.2.1, (lnT E S O po re cf so ra Ra).1.2.2.1, (lnT E S O po re cf so ra Ra).1.2.2.2.1, oN (lnT E S O po re cf so ra Ra).1.1.2.2.1, (lnT E S O po re cf so ra Ra).1.1.2.2.2.1, (lnT E S O po re cf so ra Ra).1.2.2.2.2.1) (lnT E S O po re cf so ra Ra).1.1.2.2.2.2 (wX G h (oN (lnT E S O po re cf so ra Ra).2.1) (lnER O (lnT E S O po re cf so ra Ra)) w1) by rw [hTF]; first | (rw [(lnEnd_yes (U := (T, ra1, Ra1)) h163 h171).1, (lnEnd_yes (U := (T, ra1, Ra1)) h163 h171).2.1, (lnEnd_yes (U := (T, ra1, Ra1)) h163 h171).2.2]) | (have hno := lnEnd_no (U := (T, ra1, Ra1)) (by first | exact Or.inl h163 | exact Or.inr h171); rw [hno.1, hno.2.1, hno.2.2])) ?_
          refine xv_iload_n hC dX1_loadSections_178 rfl rfl ?_
          exact xv_ireturn hC hr dX1_loadSections_179 (by rw [hTF]) rfl rfl
        · try simp (disch := omega) only [nI_leI, nI_ltI, nI_eq, xz_eq, xz_le, xz_gt, cI_0, cI_n0, cI_inj, lg_cmp_ge, lg_cmp_le, lg_cmp_gt, lg_cmp_lt, lg_cmp_eq, Bool.not_eq_true, Bool.not_eq_false, Nat.not_le, Nat.not_lt] at h163
          refine xv_iload_n hC dX1_loadSections_166 rfl rfl ?_
          refine xv_aload_n hC dX1_loadSections_167 rfl rfl ?_
          refine tg_X1_0 hC fl_X1_9 dX1_loadSections_168 ?_
          refine xv_icmp_ne (tgt := 178) hC dX1_loadSections_171 (by decide) (fun h171 => ?_) (fun h171 => ?_)
          · rw [nI_eq (by omega) (by omega)] at h171
            have hTF : (lnT E S O po re cf so ra Ra) = (T, ra1, Ra1) := by rw [hT, show s1 = lsSec O by omega]; rfl
            refine xv_world (show _ = wC G h (lnEE O (lnT E S O po re cf so ra Ra)) (lnES O (lnT E S O po re cf so ra Ra)) O (oN on) (lsSec O, lP (lnT E S O po re cf so ra Ra).1.1.2.1, (lnT E S O po re cf so ra Ra).1.2.2.1, (lnT E S O po re cf so ra Ra).1.2.2.2.1, oN (lnT E S O po re cf so ra Ra).1.1.2.2.1, (lnT E S O po re cf so ra Ra).1.1.2.2.2.1, (lnT E S O po re cf so ra Ra).1.2.2.2.2.1) (lnT E S O po re cf so ra Ra).1.1.2.2.2.2 (wX G h (oN (lnT E S O po re cf so ra Ra).2.1) (lnER O (lnT E S O po re cf so ra Ra)) w1) by rw [hTF]; first | (rw [(lnEnd_yes (U := (T, ra1, Ra1)) h163 h171).1, (lnEnd_yes (U := (T, ra1, Ra1)) h163 h171).2.1, (lnEnd_yes (U := (T, ra1, Ra1)) h163 h171).2.2]) | (have hno := lnEnd_no (U := (T, ra1, Ra1)) (by first | exact Or.inl h163 | exact Or.inr h171); rw [hno.1, hno.2.1, hno.2.2])) ?_
            refine xv_iload_n hC dX1_loadSections_178 rfl rfl ?_
            exact xv_ireturn hC hr dX1_loadSections_179 (by rw [hTF]) rfl rfl
          · rw [nI_eq (by omega) (by omega)] at h171
            refine xv_aload_n hC dX1_loadSections_174 rfl rfl ?_
            refine xv_callV hC Y_yX1_becomeBase im_yX1_becomeBase se_yX1_becomeBase ml_X1_109 dX1_loadSections_175 (ev_becomeBase l G h sz T.1 T.2.1 O on (lsSec O) T.2.2.1 T.2.2.2.1 T.2.2.2.2.1 ra1 Ra1 w1 hO hX.1 hX.2) (wl_Loader _ _ _ _ _ _ _ _ _) rfl rfl rfl (Nat.le_of_ble_eq_true rfl) ⟨Nat.le_of_ble_eq_true rfl, Nat.le_of_ble_eq_true rfl⟩ ⟨Nat.le_of_ble_eq_true rfl, Nat.le_of_ble_eq_true rfl⟩ ?_
            refine xv_rn ?_
            have hTF : (lnT E S O po re cf so ra Ra) = (T, ra1, Ra1) := by rw [hT, show s1 = lsSec O by omega]; rfl
            refine xv_world (show _ = wC G h (lnEE O (lnT E S O po re cf so ra Ra)) (lnES O (lnT E S O po re cf so ra Ra)) O (oN on) (lsSec O, lP (lnT E S O po re cf so ra Ra).1.1.2.1, (lnT E S O po re cf so ra Ra).1.2.2.1, (lnT E S O po re cf so ra Ra).1.2.2.2.1, oN (lnT E S O po re cf so ra Ra).1.1.2.2.1, (lnT E S O po re cf so ra Ra).1.1.2.2.2.1, (lnT E S O po re cf so ra Ra).1.2.2.2.2.1) (lnT E S O po re cf so ra Ra).1.1.2.2.2.2 (wX G h (oN (lnT E S O po re cf so ra Ra).2.1) (lnER O (lnT E S O po re cf so ra Ra)) w1) by rw [hTF]; first | (rw [(lnEnd_yes (U := (T, ra1, Ra1)) h163 h171).1, (lnEnd_yes (U := (T, ra1, Ra1)) h163 h171).2.1, (lnEnd_yes (U := (T, ra1, Ra1)) h163 h171).2.2]) | (have hno := lnEnd_no (U := (T, ra1, Ra1)) (by first | exact Or.inl h163 | exact Or.inr h171); rw [hno.1, hno.2.1, hno.2.2])) ?_
            refine xv_iload_n hC dX1_loadSections_178 rfl rfl ?_
            exact xv_ireturn hC hr dX1_loadSections_179 (by rw [hTF]) rfl rfl
      · try simp (disch := omega) only [nI_leI, nI_ltI, nI_eq, xz_eq, xz_le, xz_gt, cI_0, cI_n0, cI_inj, lg_cmp_ge, lg_cmp_le, lg_cmp_gt, lg_cmp_lt, lg_cmp_eq, Bool.not_eq_true, Bool.not_eq_false, Nat.not_le, Nat.not_lt] at h47
        refine xv_iload_n hC dX1_loadSections_50 rfl rfl ?_
        refine xv_sipush (v := nI 255) hC dX1_loadSections_51 (by decide) ?_
        refine xv_icmp_ge (tgt := 159) hC dX1_loadSections_54 (by decide) (fun h54 => ?_) (fun h54 => ?_)
        · rw [nI_leI (by omega) (by omega)] at h54
          omega
        · try simp (disch := omega) only [nI_leI, nI_ltI, nI_eq, xz_eq, xz_le, xz_gt, cI_0, cI_n0, cI_inj, lg_cmp_ge, lg_cmp_le, lg_cmp_gt, lg_cmp_lt, lg_cmp_eq, Bool.not_eq_true, Bool.not_eq_false, Nat.not_le, Nat.not_lt] at h54
          have hX0 := lsX0_ok (s := s1) hX.1
          have hX1 := lnX_ok (s := s1) hO hX.1
          have hA1 := lnA_le (s := s1) hO hX.1 hX.2
          refine xv_aload_n hC dX1_loadSections_57 rfl rfl ?_
          refine tg_X1_1 hC fl_X1_15 dX1_loadSections_58 ?_
          refine xv_iload_n hC dX1_loadSections_61 rfl rfl ?_
          refine xv_iconst (v := -1) hC dX1_loadSections_62 (by decide) ?_
          refine as_partOf hC dX1_loadSections_63 rfl (by first | assumption | omega) ?_
          refine xv_world (show _ = wC G h (lsX0 s1 T.1).1 T.2.1 O (oN on) (lsSec O, lP (lsX0 s1 T.1).2.1, T.2.2.1, T.2.2.2.1, oN (lsX0 s1 T.1).2.2.1, (lsX0 s1 T.1).2.2.2.1, T.2.2.2.2.1) (lsX0 s1 T.1).2.2.2.2 (wX G h (oN ra1) Ra1 w1) by simp only [lP_none]; rfl) ?_
          refine xv_aload_n hC dX1_loadSections_64 rfl rfl ?_
          refine tg_X1_3 hC fl_X1_22 dX1_loadSections_65 ?_
          refine xv_iload_n hC dX1_loadSections_68 rfl rfl ?_
          refine xv_iconst (v := nI 0) hC dX1_loadSections_69 (by decide) ?_
          refine as_conflictsOf hC dX1_loadSections_70 rfl (by first | assumption | omega) ?_
          refine xv_world (show _ = wC G h (lsX0 s1 T.1).1 T.2.1 O (oN on) (lsSec O, lP (lsX0 s1 T.1).2.1, T.2.2.1, (va_up T.2.2.2.1 s1 (nI 0)), oN (lsX0 s1 T.1).2.2.1, (lsX0 s1 T.1).2.2.2.1, T.2.2.2.2.1) (lsX0 s1 T.1).2.2.2.2 (wX G h (oN ra1) Ra1 w1) from rfl) ?_
          refine xv_aload_n hC dX1_loadSections_71 rfl rfl ?_
          refine tg_X1_2 hC fl_X1_19 dX1_loadSections_72 ?_
          refine xv_iload_n hC dX1_loadSections_75 rfl rfl ?_
          refine xv_aload_n hC dX1_loadSections_76 rfl rfl ?_
          refine tg_X1_6 hC fl_X1_57 dX1_loadSections_77 ?_
          refine tg_X3_1 hC fl_X1_100 dX1_loadSections_80 ?_
          have J95 : xV p l e (xr 5 0 0) s m args below meth c G A 3 (MQ below (xQ G A (some (.int (nI (lnT E S O po re cf so ra Ra).1.2.2.2.2.2))) (sz) (wC G h (lnEE O (lnT E S O po re cf so ra Ra)) (lnES O (lnT E S O po re cf so ra Ra)) O (oN on) (lsSec O, lP (lnT E S O po re cf so ra Ra).1.1.2.1, (lnT E S O po re cf so ra Ra).1.2.2.1, (lnT E S O po re cf so ra Ra).1.2.2.2.1, oN (lnT E S O po re cf so ra Ra).1.1.2.2.1, (lnT E S O po re cf so ra Ra).1.1.2.2.2.1, (lnT E S O po re cf so ra Ra).1.2.2.2.2.1) (lnT E S O po re cf so ra Ra).1.1.2.2.2.2 (wX G h (oN (lnT E S O po re cf so ra Ra).2.1) (lnER O (lnT E S O po re cf so ra Ra)) w1))) args s 0 0 A) sz (wC G h (lnX O s1 T).1 T.2.1 O (oN on) (lsSec O, lP (lnX O s1 T).2.1, T.2.2.1, (va_up T.2.2.2.1 s1 (nI 0)), oN (lnX O s1 T).2.2.1, (lnX O s1 T).2.2.2.1, T.2.2.2.2.1) (lnX O s1 T).2.2.2.2 (wX G h (oN (lnA O s1 T ra1)) Ra1 w1)) 0 0 95 [(2, .int (nI s1)), (1, .int (nI T.2.2.2.2.2)), (0, .ref (h + 46))] [.int (lsR O s1 T), .int (nI s1), .ref (h + 48)] := by
            refine as_reasonOf hC dX1_loadSections_95 rfl (by first | assumption | omega) ?_
            refine xv_world (show _ = wC G h (lnX O s1 T).1 T.2.1 O (oN on) (lsSec O, lP (lnX O s1 T).2.1, (va_up T.2.2.1 s1 (lsR O s1 T)), (va_up T.2.2.2.1 s1 (nI 0)), oN (lnX O s1 T).2.2.1, (lnX O s1 T).2.2.2.1, T.2.2.2.2.1) (lnX O s1 T).2.2.2.2 (wX G h (oN (lnA O s1 T ra1)) Ra1 w1) from rfl) ?_
            refine xv_aload_n hC dX1_loadSections_96 rfl rfl ?_
            refine tg_X1_2 hC fl_X1_19 dX1_loadSections_97 ?_
            refine xv_iload_n hC dX1_loadSections_100 rfl rfl ?_
            refine al_reasonOf hC dX1_loadSections_101 rfl (by first | assumption | omega) ?_
            refine xv_if_ne (tgt := 127) hC dX1_loadSections_102 (by decide) (fun h102 => ?_) (fun h102 => ?_)
            · have h102 : ¬ (va_up T.2.2.1 s1 (lsR O s1 T)) s1 = 0 := h102
              rw [va_up_self] at h102
              cases hq : (lsX O s1 T).2.1 s1 with
              | none =>
                refine xv_aload_n hC dX1_loadSections_127 rfl rfl ?_
                refine tg_X1_1 hC fl_X1_15 dX1_loadSections_128 ?_
                refine xv_iload_n hC dX1_loadSections_131 rfl rfl ?_
                refine al_partOf hC dX1_loadSections_132 rfl (by first | assumption | omega) ?_
                refine xv_cast (congrArg Value.int (show _ = -1 by show fwR ((lsX O s1 T).2.1 s1) = -1; rw [hq]; rfl)) ?_
                refine xv_if_lt (tgt := 153) hC dX1_loadSections_133 (by decide) (fun h133 => ?_) (fun h133 => ?_)
                · refine xv_iinc hC dX1_loadSections_153 rfl (xinc _) (by decide) ?_
                  refine xv_goto (tgt := 42) hC dX1_loadSections_156 (by decide) ?_
                  refine xv_world (show _ = wC G h (lnS O (isW O) s1 (T, ra1, Ra1)).1.1.1 ((lnS O (isW O) s1 (T, ra1, Ra1)).1.2.1) O (oN on) (lsSec O, lP (lnS O (isW O) s1 (T, ra1, Ra1)).1.1.2.1, (lnS O (isW O) s1 (T, ra1, Ra1)).1.2.2.1, (lnS O (isW O) s1 (T, ra1, Ra1)).1.2.2.2.1, oN (lnS O (isW O) s1 (T, ra1, Ra1)).1.1.2.2.1, (lnS O (isW O) s1 (T, ra1, Ra1)).1.1.2.2.2.1, (lnS O (isW O) s1 (T, ra1, Ra1)).1.2.2.2.2.1) (lnS O (isW O) s1 (T, ra1, Ra1)).1.1.2.2.2.2 (wX G h (oN (lnS O (isW O) s1 (T, ra1, Ra1)).2.1) (lnS O (isW O) s1 (T, ra1, Ra1)).2.2 w1) by first | (rw [lnS, if_pos h102]; rfl) | (rw [lnS, if_neg h102, lsRf, hq]; rfl) | (rw [lnS, if_neg h102, lsRf, hq])) ?_
                  refine xV.to [(2, .int (nI (s1 + 1))), (1, .int (nI (lnS O (isW O) s1 (T, ra1, Ra1)).1.2.2.2.2.2)), (0, .ref (h + 46))] ⟨rfl, congrArg (fun z => some (Value.int (nI z))) (show _ = (lnS O (isW O) s1 (T, ra1, Ra1)).1.2.2.2.2.2 by first | (rw [lnS, if_pos h102]; rfl) | (rw [lnS, if_neg h102]; rfl) | (rw [lnS, if_pos h102]) | (rw [lnS, if_neg h102])), rfl, trivial⟩ ?_
                  exact ih42 (s1 + 1) (lnS O (isW O) s1 (T, ra1, Ra1)).1 (lnS O (isW O) s1 (T, ra1, Ra1)).2.1 (lnS O (isW O) s1 (T, ra1, Ra1)).2.2 (by omega) (by omega) (by rw [hT]; rfl) (lnS_ok hO hX) (by have := lnS_ld (O := O) (w := isW O) (s := s1) (U := (T, ra1, Ra1)); have hld2 : T.2.2.2.2.2 ≤ s1 := hld; have this : (lnS O (isW O) s1 (T, ra1, Ra1)).1.2.2.2.2.2 ≤ T.2.2.2.2.2 + 1 := this; omega)
                · exact absurd (by decide) h133
              | some q1 =>
                have hq1 := hX1.2.2.1 s1 q1 hq
                refine xv_aload_n hC dX1_loadSections_127 rfl rfl ?_
                refine tg_X1_1 hC fl_X1_15 dX1_loadSections_128 ?_
                refine xv_iload_n hC dX1_loadSections_131 rfl rfl ?_
                refine al_partOf hC dX1_loadSections_132 rfl (by first | assumption | omega) ?_
                refine xv_cast (congrArg Value.int (show _ = nI q1 by show fwR ((lsX O s1 T).2.1 s1) = nI q1; rw [hq]; rfl)) ?_
                refine xv_if_lt (tgt := 153) hC dX1_loadSections_133 (by decide) (fun h133 => ?_) (fun h133 => ?_)
                · exact absurd h133 (nI_pos (by omega))
                · refine xv_aload_n hC dX1_loadSections_136 rfl rfl ?_
                  refine xv_dup hC dX1_loadSections_137 rfl ?_
                  refine tg_X1_12 hC fl_X1_41 dX1_loadSections_138 ?_
                  refine xv_iconst (v := nI 1) hC dX1_loadSections_141 (by decide) ?_
                  refine xv_aload_n hC dX1_loadSections_142 rfl rfl ?_
                  refine tg_X1_1 hC fl_X1_15 dX1_loadSections_143 ?_
                  refine xv_iload_n hC dX1_loadSections_146 rfl rfl ?_
                  refine al_partOf hC dX1_loadSections_147 rfl (by first | assumption | omega) ?_
                  refine xv_cast (congrArg Value.int (show _ = nI q1 by show fwR ((lsX O s1 T).2.1 s1) = nI q1; rw [hq]; rfl)) ?_
                  refine xv_ishl hC dX1_loadSections_148 ?_
                  refine xv_ior hC dX1_loadSections_149 ?_
                  refine tp_X1_12 hC fl_X1_41 dX1_loadSections_150 ?_
                  refine xv_iinc hC dX1_loadSections_153 rfl (xinc _) (by decide) ?_
                  refine xv_goto (tgt := 42) hC dX1_loadSections_156 (by decide) ?_
                  refine xv_world (show _ = wC G h (lnS O (isW O) s1 (T, ra1, Ra1)).1.1.1 ((lnS O (isW O) s1 (T, ra1, Ra1)).1.2.1) O (oN on) (lsSec O, lP (lnS O (isW O) s1 (T, ra1, Ra1)).1.1.2.1, (lnS O (isW O) s1 (T, ra1, Ra1)).1.2.2.1, (lnS O (isW O) s1 (T, ra1, Ra1)).1.2.2.2.1, oN (lnS O (isW O) s1 (T, ra1, Ra1)).1.1.2.2.1, (lnS O (isW O) s1 (T, ra1, Ra1)).1.1.2.2.2.1, (lnS O (isW O) s1 (T, ra1, Ra1)).1.2.2.2.2.1) (lnS O (isW O) s1 (T, ra1, Ra1)).1.1.2.2.2.2 (wX G h (oN (lnS O (isW O) s1 (T, ra1, Ra1)).2.1) (lnS O (isW O) s1 (T, ra1, Ra1)).2.2 w1) by first | (rw [lnS, if_pos h102]; rfl) | (rw [lnS, if_neg h102, lsRf, hq]; rfl) | (rw [lnS, if_neg h102, lsRf, hq])) ?_
                  refine xV.to [(2, .int (nI (s1 + 1))), (1, .int (nI (lnS O (isW O) s1 (T, ra1, Ra1)).1.2.2.2.2.2)), (0, .ref (h + 46))] ⟨rfl, congrArg (fun z => some (Value.int (nI z))) (show _ = (lnS O (isW O) s1 (T, ra1, Ra1)).1.2.2.2.2.2 by first | (rw [lnS, if_pos h102]; rfl) | (rw [lnS, if_neg h102]; rfl) | (rw [lnS, if_pos h102]) | (rw [lnS, if_neg h102])), rfl, trivial⟩ ?_
                  exact ih42 (s1 + 1) (lnS O (isW O) s1 (T, ra1, Ra1)).1 (lnS O (isW O) s1 (T, ra1, Ra1)).2.1 (lnS O (isW O) s1 (T, ra1, Ra1)).2.2 (by omega) (by omega) (by rw [hT]; rfl) (lnS_ok hO hX) (by have := lnS_ld (O := O) (w := isW O) (s := s1) (U := (T, ra1, Ra1)); have hld2 : T.2.2.2.2.2 ≤ s1 := hld; have this : (lnS O (isW O) s1 (T, ra1, Ra1)).1.2.2.2.2.2 ≤ T.2.2.2.2.2 + 1 := this; omega)
            · have h102 : (va_up T.2.2.1 s1 (lsR O s1 T)) s1 = 0 := h102
              rw [va_up_self] at h102
              have hl0 := lsR_0 h102
              refine xv_aload_n hC dX1_loadSections_105 rfl rfl ?_
              refine tg_X1_3 hC fl_X1_22 dX1_loadSections_106 ?_
              refine xv_iload_n hC dX1_loadSections_109 rfl rfl ?_
              refine xv_aload_n hC dX1_loadSections_110 rfl rfl ?_
              refine xv_aload_n hC dX1_loadSections_111 rfl rfl ?_
              refine tg_X1_1 hC fl_X1_15 dX1_loadSections_112 ?_
              refine xv_iload_n hC dX1_loadSections_115 rfl rfl ?_
              refine al_partOf hC dX1_loadSections_116 rfl (by first | assumption | omega) ?_
              refine xv_cast (congrArg Value.int (show _ = nI (lsP O s1 T) by show fwR ((lsX O s1 T).2.1 s1) = _; rw [(lsR_0 h102).2.1]; rfl)) ?_
              refine xv_callV hC Y_yX1_loadSection im_yX1_loadSection se_yX1_loadSection ml_X1_106 dX1_loadSections_117 (ev_loadSection l G h sz (lnX O s1 T) T.2.1 O on (lsSec O) (va_up T.2.2.1 s1 (lsR O s1 T)) (va_up T.2.2.2.1 s1 (nI 0)) T.2.2.2.2.1 (lnA O s1 T ra1) Ra1 w1 hO hX1 hA1 (p1 := lsP O s1 T) hl0.2.2) (wl_Loader _ _ _ _ _ _ _ _ _) rfl rfl rfl (Nat.le_of_ble_eq_true rfl) ⟨Nat.le_of_ble_eq_true rfl, Nat.le_of_ble_eq_true rfl⟩ ⟨Nat.le_of_ble_eq_true rfl, Nat.le_of_ble_eq_true rfl⟩ ?_
              refine xv_rs ?_
              refine as_conflictsOf hC dX1_loadSections_120 rfl (by first | assumption | omega) ?_
              refine xv_iinc hC dX1_loadSections_121 rfl (xinc _) (by decide) ?_
              refine xv_goto (tgt := 153) hC dX1_loadSections_124 (by decide) ?_
              refine xv_iinc hC dX1_loadSections_153 rfl (xinc _) (by decide) ?_
              refine xv_goto (tgt := 42) hC dX1_loadSections_156 (by decide) ?_
              refine xv_world (show _ = wC G h (lnS O (isW O) s1 (T, ra1, Ra1)).1.1.1 ((lnS O (isW O) s1 (T, ra1, Ra1)).1.2.1) O (oN on) (lsSec O, lP (lnS O (isW O) s1 (T, ra1, Ra1)).1.1.2.1, (lnS O (isW O) s1 (T, ra1, Ra1)).1.2.2.1, (lnS O (isW O) s1 (T, ra1, Ra1)).1.2.2.2.1, oN (lnS O (isW O) s1 (T, ra1, Ra1)).1.1.2.2.1, (lnS O (isW O) s1 (T, ra1, Ra1)).1.1.2.2.2.1, (lnS O (isW O) s1 (T, ra1, Ra1)).1.2.2.2.2.1) (lnS O (isW O) s1 (T, ra1, Ra1)).1.1.2.2.2.2 (wX G h (oN (lnS O (isW O) s1 (T, ra1, Ra1)).2.1) (lnS O (isW O) s1 (T, ra1, Ra1)).2.2 w1) by first | (rw [lnS, if_pos h102]; rfl) | (rw [lnS, if_neg h102, lsRf, hq]; rfl) | (rw [lnS, if_neg h102, lsRf, hq])) ?_
              refine xV.to [(2, .int (nI (s1 + 1))), (1, .int (nI (lnS O (isW O) s1 (T, ra1, Ra1)).1.2.2.2.2.2)), (0, .ref (h + 46))] ⟨rfl, congrArg (fun z => some (Value.int (nI z))) (show _ = (lnS O (isW O) s1 (T, ra1, Ra1)).1.2.2.2.2.2 by first | (rw [lnS, if_pos h102]; rfl) | (rw [lnS, if_neg h102]; rfl) | (rw [lnS, if_pos h102]) | (rw [lnS, if_neg h102])), rfl, trivial⟩ ?_
              exact ih42 (s1 + 1) (lnS O (isW O) s1 (T, ra1, Ra1)).1 (lnS O (isW O) s1 (T, ra1, Ra1)).2.1 (lnS O (isW O) s1 (T, ra1, Ra1)).2.2 (by omega) (by omega) (by rw [hT]; rfl) (lnS_ok hO hX) (by have := lnS_ld (O := O) (w := isW O) (s := s1) (U := (T, ra1, Ra1)); have hld2 : T.2.2.2.2.2 ≤ s1 := hld; have this : (lnS O (isW O) s1 (T, ra1, Ra1)).1.2.2.2.2.2 ≤ T.2.2.2.2.2 + 1 := this; omega)
          refine xv_if_ne (tgt := 94) hC dX1_loadSections_83 (by decide) (fun h83 => ?_) (fun h83 => ?_)
          · have h83 : ¬ T.1.2.2.2.2.2 = 0 := h83
            refine xv_iconst (v := nI 4) hC dX1_loadSections_94 (by decide) ?_
            refine xv_cast (congrArg Value.int (show _ = lsR O s1 T by first | (rw [lsR, if_pos h83]) | (rw [lsR, if_neg h83]))) ?_
            refine xv_world (show _ = wC G h (lnX O s1 T).1 T.2.1 O (oN on) (lsSec O, lP (lnX O s1 T).2.1, T.2.2.1, (va_up T.2.2.2.1 s1 (nI 0)), oN (lnX O s1 T).2.2.1, (lnX O s1 T).2.2.2.1, T.2.2.2.2.1) (lnX O s1 T).2.2.2.2 (wX G h (oN (lnA O s1 T ra1)) Ra1 w1) by rw [lnX, lnE, lnA, lsX]; first | (rw [if_pos h83, if_pos h83, if_pos h83]) | (rw [if_neg h83, if_neg h83, if_neg h83]; rfl)) ?_
            exact J95
          · have h83 : T.1.2.2.2.2.2 = 0 := h83
            refine xv_aload_n hC dX1_loadSections_86 rfl rfl ?_
            refine xv_iload_n hC dX1_loadSections_87 rfl rfl ?_
            refine xv_callV hC Y_yX1_readSection im_yX1_readSection se_yX1_readSection ml_X1_103 dX1_loadSections_88 (ev_readSection l G h sz (lsX0 s1 T.1) T.2.1 O on (lsSec O) T.2.2.1 (va_up T.2.2.2.1 s1 (nI 0)) T.2.2.2.2.1 ra1 Ra1 w1 hO hX0 (s1 := s1) (by omega)) (wl_Loader _ _ _ _ _ _ _ _ _) rfl rfl rfl (Nat.le_of_ble_eq_true rfl) ⟨Nat.le_of_ble_eq_true rfl, Nat.le_of_ble_eq_true rfl⟩ ⟨Nat.le_of_ble_eq_true rfl, Nat.le_of_ble_eq_true rfl⟩ ?_
            refine xv_rs ?_
            refine xv_goto (tgt := 95) hC dX1_loadSections_91 (by decide) ?_
            refine xv_cast (congrArg Value.int (show _ = lsR O s1 T by first | (rw [lsR, if_pos h83]) | (rw [lsR, if_neg h83]))) ?_
            refine xv_world (show _ = wC G h (lnX O s1 T).1 T.2.1 O (oN on) (lsSec O, lP (lnX O s1 T).2.1, T.2.2.1, (va_up T.2.2.2.1 s1 (nI 0)), oN (lnX O s1 T).2.2.1, (lnX O s1 T).2.2.2.1, T.2.2.2.2.1) (lnX O s1 T).2.2.2.2 (wX G h (oN (lnA O s1 T ra1)) Ra1 w1) by rw [lnX, lnE, lnA, lsX]; first | (rw [if_pos h83, if_pos h83, if_pos h83]) | (rw [if_neg h83, if_neg h83, if_neg h83]; rfl)) ?_
            exact J95
  refine xv_world (show _ = wC G h (lsT0 E S O po re cf so).1.1 ((lsT0 E S O po re cf so).2.1) O (oN on) (lsSec O, lP (lsT0 E S O po re cf so).1.2.1, (lsT0 E S O po re cf so).2.2.1, (lsT0 E S O po re cf so).2.2.2.1, oN (lsT0 E S O po re cf so).1.2.2.1, (lsT0 E S O po re cf so).1.2.2.2.1, (lsT0 E S O po re cf so).2.2.2.2.1) (lsT0 E S O po re cf so).1.2.2.2.2 (wX G h (oN ra) Ra w1) from rfl) ?_
  refine xV.to [(2, .int (nI 0)), (1, .int (nI 0)), (0, .ref (h + 46))] ⟨rfl, rfl, rfl, trivial⟩ ?_
  exact Lp42 (lsSec O + 1) 0 (lsT0 E S O po re cf so) ra Ra (by omega) (by omega) rfl ⟨⟨hE, hso, hpo, show hdL O ≤ 8000 by unfold hdL; split <;> omega⟩, hA⟩ (Nat.le_refl 0)
