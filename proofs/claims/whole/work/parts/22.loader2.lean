set_option maxHeartbeats 1000000 in
set_option maxRecDepth 100000 in
theorem ev_readSection (l : Launch) (G : xD) (h sz : Nat) (X : cX) (S : cS) (O : cO) (on : Nat → Nat) (sec : Nat) (re cf : Nat → Int32) (rf : Int32) (ra : Nat → Nat) (Ra : cR) (w1 : xw) (hO : O.2.1 0 ≤ 8000) (hX : cOK X) {s1 : Nat} (hs : s1 < 255) : xM l G yX1_readSection cX1_readSection 6 (some .int) 4 0 0 [.ref (h + 46), .int (nI s1)] sz (wC G h X.1 (S) O (oN on) (sec, lP X.2.1, re, cf, oN X.2.2.1, X.2.2.2.1, rf) X.2.2.2.2 (wX G h (oN ra) Ra w1)) (some (.int (rsV S.1 rf O s1 X))) (sz) (wC G h (rsE O s1 X) (S) O (oN on) (sec, lP (rsX O s1 X).2.1, re, cf, oN (rsX O s1 X).2.2.1, (rsX O s1 X).2.2.2.1, rf) (rsX O s1 X).2.2.2.2 (wX G h (oN (rsA O s1 X ra)) Ra w1)) := by
  refine xM_of (by decide) (Nat.le_of_ble_eq_true rfl) ?_
  intro A p e s m args below meth c hC hr hname
  have hC : xC p s m args meth c cX1_readSection 6 RX1 G A := hC
  have hr : meth.sig.returnType = (some .int) := hr
  show xV p l e _ s m args below meth c G A 6 _ sz _ 0 0 0 [(0, .ref (h + 46)), (1, .int (nI s1))] []
  refine xv_aload_n hC dX1_readSection_0 rfl rfl ?_
  refine tg_X1_6 hC fl_X1_57 dX1_readSection_1 ?_
  refine tg_X3_0 hC fl_X1_112 dX1_readSection_4 ?_
  refine xv_istore_n hC dX1_readSection_7 rfl (by decide) ?_
  refine xv_aload_n hC dX1_readSection_8 rfl rfl ?_
  refine xv_callV hC Y_yX1_nextPart im_yX1_nextPart se_yX1_nextPart ml_X1_115 dX1_readSection_9 (ev_nextPart l G h sz X.1 S O on sec X.2.1 re cf X.2.2.1 X.2.2.2.1 rf X.2.2.2.2 (wX G h (oN ra) Ra w1) hO hX.2.2.2) (wl_Loader _ _ _ _ _ _ _ _ _) rfl rfl rfl (Nat.le_of_ble_eq_true rfl) ⟨Nat.le_of_ble_eq_true rfl, Nat.le_of_ble_eq_true rfl⟩ ⟨Nat.le_of_ble_eq_true rfl, Nat.le_of_ble_eq_true rfl⟩ ?_
  refine xv_rs ?_
  refine xv_cast (congrArg Value.int (show _ = nI (rsP O s1 X) from (nxV_nI O X.2.2.2.2).1)) ?_
  refine xv_istore_n hC dX1_readSection_12 rfl (by decide) ?_
  refine xv_aload_n hC dX1_readSection_13 rfl rfl ?_
  refine tg_X1_6 hC fl_X1_57 dX1_readSection_14 ?_
  refine tg_X3_1 hC fl_X1_100 dX1_readSection_17 ?_
  refine xv_if_eq (tgt := 31) hC dX1_readSection_20 (by decide) (fun h20 => ?_) (fun h20 => ?_)
  · have hp1 : rsP O s1 X < 12 := npR_0 h20
    have h20 : (rsR1 O X).2 = 0 := h20
    refine xv_aload_n hC dX1_readSection_31 rfl rfl ?_
    refine tg_X1_1 hC fl_X1_15 dX1_readSection_32 ?_
    refine xv_iload_n hC dX1_readSection_35 rfl rfl ?_
    refine xv_iload_n hC dX1_readSection_36 rfl rfl ?_
    refine as_partOf hC dX1_readSection_37 rfl (by first | assumption | omega) ?_
    refine xv_world (show _ = wC G h X.1 S O (oN on) (sec, lP (rsPo O s1 X), re, cf, oN X.2.2.1, X.2.2.2.1, rf) (rsR1 O X) (wX G h (oN ra) Ra w1) by simp only [lP_some]; rfl) ?_
    refine xv_aload_n hC dX1_readSection_38 rfl rfl ?_
    refine xv_dup hC dX1_readSection_39 rfl ?_
    refine tg_X1_11 hC fl_X1_38 dX1_readSection_40 ?_
    refine xv_iconst (v := nI 1) hC dX1_readSection_43 (by decide) ?_
    refine xv_iload_n hC dX1_readSection_44 rfl rfl ?_
    refine xv_ishl hC dX1_readSection_45 ?_
    refine xv_ior hC dX1_readSection_46 ?_
    refine tp_X1_11 hC fl_X1_38 dX1_readSection_47 ?_
    refine xv_world (show _ = wC G h X.1 S O (oN on) (sec, lP (rsPo O s1 X), re, cf, oN X.2.2.1, (X.2.2.2.1 ||| bitI (rsP O s1 X)), rf) (rsR1 O X) (wX G h (oN ra) Ra w1) from rfl) ?_
    refine xv_aload_n hC dX1_readSection_50 rfl rfl ?_
    refine xv_iload_n hC dX1_readSection_51 rfl rfl ?_
    refine xv_iload_n hC dX1_readSection_52 rfl rfl ?_
    refine xv_callV hC Y_yX1_readRows im_yX1_readRows se_yX1_readRows ml_X1_118 dX1_readSection_53 (ev_readRows l G h sz X.1 S O on sec (rsPo O s1 X) re cf X.2.2.1 (X.2.2.2.1 ||| bitI (rsP O s1 X)) rf (rsR1 O X) ra Ra w1 hO (npR_le hX.2.2.2 hO) (s1 := s1) (p1 := (rsP O s1 X)) hs hp1 hX.1 hX.2.1 (up_po hX.2.2.1 hp1)) (wl_Loader _ _ _ _ _ _ _ _ _) rfl rfl rfl (Nat.le_of_ble_eq_true rfl) ⟨Nat.le_of_ble_eq_true rfl, Nat.le_of_ble_eq_true rfl⟩ ⟨Nat.le_of_ble_eq_true rfl, Nat.le_of_ble_eq_true rfl⟩ ?_
    refine xv_rn ?_
    refine xv_world (show _ = wC G h (rrE O X.1 (rsR1 O X)) S O (oN on) (sec, lP (rsPo O s1 X), re, cf, oN (rsT O s1 X).2.1, (X.2.2.2.1 ||| bitI (rsP O s1 X)), rf) (rsT O s1 X).2.2 (wX G h (oN (rrA O (rsPo O s1 X) s1 (rsP O s1 X) X.2.2.1 ra (rsR1 O X))) Ra w1) from rfl) ?_
    have hle : (rsT O s1 X).2.2.1 ≤ 8000 := rrF_le hO _ _ _ _ _ (npR_le hX.2.2.2 hO)
    have hmo : X.2.2.2.2.1 ≤ (rsT O s1 X).2.2.1 := Nat.le_trans (npR_mono O X.2.2.2.2 X.2.2.2.1) (rrF_mono O _ _ _ _ _ _)
    have hso : ∀ j, (rsT O s1 X).2.1 j < 12 := rrF_so hp1 hX.2.1 (up_po hX.2.2.1 hp1)
    refine xv_aload_n hC dX1_readSection_56 rfl rfl ?_
    refine tg_X1_5 hC fl_X1_48 dX1_readSection_57 ?_
    refine xv_iload_n hC dX1_readSection_60 rfl rfl ?_
    refine xv_aload_n hC dX1_readSection_61 rfl rfl ?_
    refine tg_X1_6 hC fl_X1_57 dX1_readSection_62 ?_
    refine tg_X3_0 hC fl_X1_112 dX1_readSection_65 ?_
    refine xv_cast (congrArg Value.int (show _ = nI (X.2.2.2.2.1 + ((rsT O s1 X).2.2.1 - X.2.2.2.2.1)) by rw [Nat.add_sub_cancel' hmo])) ?_
    refine xv_callV hC Y_yX2_sumOf im_yX2_sumOf se_yX2_sumOf ml_X1_122 dX1_readSection_68 (ev_sumOf l G h sz (rrE O X.1 (rsR1 O X)) S O (oN on) (sec, lP (rsPo O s1 X), re, cf, oN (rsT O s1 X).2.1, (X.2.2.2.1 ||| bitI (rsP O s1 X)), rf) (rsT O s1 X).2.2 (wX G h (oN (rrA O (rsPo O s1 X) s1 (rsP O s1 X) X.2.2.1 ra (rsR1 O X))) Ra w1) (b := 0) (by omega) hO (a := X.2.2.2.2.1) (n0 := (rsT O s1 X).2.2.1 - X.2.2.2.2.1) (by omega)) (wl_oA _ _ _ _ _ _ _ _ _ (by first | assumption | omega)) rfl rfl rfl (Nat.le_of_ble_eq_true rfl) ⟨Nat.le_of_ble_eq_true rfl, Nat.le_of_ble_eq_true rfl⟩ ⟨Nat.le_of_ble_eq_true rfl, Nat.le_of_ble_eq_true rfl⟩ ?_
    refine xv_rs ?_
    refine xv_istore hC dX1_readSection_71 (by decide) ?_
    refine xv_aload_n hC dX1_readSection_73 rfl rfl ?_
    refine tg_X1_6 hC fl_X1_57 dX1_readSection_74 ?_
    refine xv_callV hC Y_yX3_nextFour im_yX3_nextFour se_yX3_nextFour ml_X1_126 dX1_readSection_77 (ev_nextFour l G h sz (rrE O X.1 (rsR1 O X)) S O (oN on) (sec, lP (rsPo O s1 X), re, cf, oN (rsT O s1 X).2.1, (X.2.2.2.1 ||| bitI (rsP O s1 X)), rf) (rsT O s1 X).2.2 (wX G h (oN (rrA O (rsPo O s1 X) s1 (rsP O s1 X) X.2.2.1 ra (rsR1 O X))) Ra w1) hO hle) (wl_Reader _ _ _ _ _ _ _ _ _) rfl rfl rfl (Nat.le_of_ble_eq_true rfl) ⟨Nat.le_of_ble_eq_true rfl, Nat.le_of_ble_eq_true rfl⟩ ⟨Nat.le_of_ble_eq_true rfl, Nat.le_of_ble_eq_true rfl⟩ ?_
    refine xv_rs ?_
    refine xv_world (show _ = wC G h (rrE O X.1 (rsR1 O X)) S O (oN on) (sec, lP (rsPo O s1 X), re, cf, oN (rsT O s1 X).2.1, (X.2.2.2.1 ||| bitI (rsP O s1 X)), rf) (rsR3 O s1 X) (wX G h (oN (rrA O (rsPo O s1 X) s1 (rsP O s1 X) X.2.2.1 ra (rsR1 O X))) Ra w1) from rfl) ?_
    refine xv_istore hC dX1_readSection_80 (by decide) ?_
    refine xv_aload_n hC dX1_readSection_82 rfl rfl ?_
    refine tg_X1_6 hC fl_X1_57 dX1_readSection_83 ?_
    refine tg_X3_1 hC fl_X1_100 dX1_readSection_86 ?_
    refine xv_if_eq (tgt := 100) hC dX1_readSection_89 (by decide) (fun h89 => ?_) (fun h89 => ?_)
    · have h89 : (rsR3 O s1 X).2 = 0 := h89
      refine xv_iload hC dX1_readSection_100 rfl ?_
      refine xv_iload hC dX1_readSection_102 rfl ?_
      refine xv_icmp_eq (tgt := 110) hC dX1_readSection_104 (by decide) (fun h104 => ?_) (fun h104 => ?_)
      · have h104 : rsSum O s1 X = n4V O (rsT O s1 X).2.2 := h104
        refine xv_aload_n hC dX1_readSection_110 rfl rfl ?_
        refine tg_X1_12 hC fl_X1_41 dX1_readSection_111 ?_
        refine xv_aload_n hC dX1_readSection_114 rfl rfl ?_
        refine tg_X1_10 hC fl_X1_35 dX1_readSection_115 ?_
        refine xv_iload_n hC dX1_readSection_118 rfl rfl ?_
        refine al_sourceOf hC dX1_readSection_119 rfl (by first | assumption | omega) ?_
        refine xv_callSN (host := "FormatFiles") hC Y_yX6_isIn sm_yX6_isIn (by decide) dX1_readSection_120 (ev_isIn l G sz _ rf (q := (rsT O s1 X).2.1 (rsP O s1 X)) (by have := hso (rsP O s1 X); omega)) rfl rfl (Nat.le_of_ble_eq_true rfl) ⟨Nat.le_of_ble_eq_true rfl, Nat.le_of_ble_eq_true rfl⟩ ⟨Nat.le_of_ble_eq_true rfl, Nat.le_of_ble_eq_true rfl⟩ ?_
        refine xv_rs ?_
        refine xv_if_eq (tgt := 129) hC dX1_readSection_123 (by decide) (fun h123 => ?_) (fun h123 => ?_)
        · try simp (disch := omega) only [nI_leI, nI_ltI, nI_eq, xz_eq, xz_le, xz_gt, cI_0, cI_n0, cI_inj, lg_cmp_ge, lg_cmp_le, lg_cmp_gt, lg_cmp_lt, lg_cmp_eq, Bool.not_eq_true, Bool.not_eq_false, Nat.not_le, Nat.not_lt] at h123
          refine xv_aload_n hC dX1_readSection_129 rfl rfl ?_
          refine tg_X1_12 hC fl_X1_41 dX1_readSection_130 ?_
          refine xv_aload_n hC dX1_readSection_133 rfl rfl ?_
          refine tg_X1_4 hC fl_X1_44 dX1_readSection_134 ?_
          refine tg_X4_1 hC fl_X1_133 dX1_readSection_137 ?_
          refine xv_iload_n hC dX1_readSection_140 rfl rfl ?_
          refine al_needed hC dX1_readSection_141 rfl (by first | assumption | omega) ?_
          refine xv_iand hC dX1_readSection_142 ?_
          refine xv_if_eq (tgt := 151) hC dX1_readSection_143 (by decide) (fun h143 => ?_) (fun h143 => ?_)
          · have h143 : rf &&& S.1 (rsP O s1 X) = 0 := h143
            refine xv_iconst (v := nI 0) hC dX1_readSection_151 (by decide) ?_
            exact xv_ireturn hC hr dX1_readSection_152 (rI (by rw [rsV, if_pos h20, if_pos h89, if_pos h104, if_neg (by rw [h123]; decide)]; first | rw [if_pos h143] | rw [if_neg h143])) rfl (by rw [rsX, rsE, rsA, if_pos h20, if_pos h20, if_pos h20])
          · have h143 : ¬ rf &&& S.1 (rsP O s1 X) = 0 := h143
            refine xv_bipush (v := nI 8) hC dX1_readSection_146 (by decide) ?_
            refine xv_goto (tgt := 152) hC dX1_readSection_148 (by decide) ?_
            exact xv_ireturn hC hr dX1_readSection_152 (rI (by rw [rsV, if_pos h20, if_pos h89, if_pos h104, if_neg (by rw [h123]; decide)]; first | rw [if_pos h143] | rw [if_neg h143])) rfl (by rw [rsX, rsE, rsA, if_pos h20, if_pos h20, if_pos h20])
        · try simp (disch := omega) only [nI_leI, nI_ltI, nI_eq, xz_eq, xz_le, xz_gt, cI_0, cI_n0, cI_inj, lg_cmp_ge, lg_cmp_le, lg_cmp_gt, lg_cmp_lt, lg_cmp_eq, Bool.not_eq_true, Bool.not_eq_false, Nat.not_le, Nat.not_lt] at h123
          refine xv_bipush (v := nI 7) hC dX1_readSection_126 (by decide) ?_
          exact xv_ireturn hC hr dX1_readSection_128 (rI (by rw [rsV, if_pos h20, if_pos h89, if_pos h104, if_pos h123])) rfl (by rw [rsX, rsE, rsA, if_pos h20, if_pos h20, if_pos h20])
      · have h104 : ¬ rsSum O s1 X = n4V O (rsT O s1 X).2.2 := h104
        refine xv_bipush (v := nI 6) hC dX1_readSection_107 (by decide) ?_
        exact xv_ireturn hC hr dX1_readSection_109 (rI (by rw [rsV, if_pos h20, if_pos h89, if_neg h104])) rfl (by rw [rsX, rsE, rsA, if_pos h20, if_pos h20, if_pos h20])
    · have h89 : ¬ (rsR3 O s1 X).2 = 0 := h89
      refine xv_aload_n hC dX1_readSection_92 rfl rfl ?_
      refine tg_X1_6 hC fl_X1_57 dX1_readSection_93 ?_
      refine tg_X3_1 hC fl_X1_100 dX1_readSection_96 ?_
      exact xv_ireturn hC hr dX1_readSection_99 (rI (by rw [rsV, if_pos h20, if_neg h89])) rfl (by rw [rsX, rsE, rsA, if_pos h20, if_pos h20, if_pos h20])
  · have h20 : ¬ (rsR1 O X).2 = 0 := h20
    refine xv_aload_n hC dX1_readSection_23 rfl rfl ?_
    refine tg_X1_6 hC fl_X1_57 dX1_readSection_24 ?_
    refine tg_X3_1 hC fl_X1_100 dX1_readSection_27 ?_
    exact xv_ireturn hC hr dX1_readSection_30 (rI (by rw [rsV, if_neg h20]; rfl)) rfl (by rw [rsX, rsE, rsA, if_neg h20, if_neg h20, if_neg h20]; rfl)
set_option maxHeartbeats 1000000 in
set_option maxRecDepth 100000 in
theorem ev_readAgain (l : Launch) (G : xD) (h sz : Nat) (E : cE) (S : cS) (O : cO) (od : Nat → Int32) (L : cL) (Rd : cR) (ra : Nat → Nat) (Ra : cR) (w1 : xw) (hO : O.2.1 0 ≤ 8000) {p1 : Nat} (hp1 : p1 < 12) (hA : ra p1 ≤ 8000) : xM l G yX1_readAgain cX1_readAgain 2 none 3 0 0 [.ref (h + 46), .int (nI p1)] sz (wC G h (E) S O od L Rd (wX G h (oN ra) (Ra) w1)) (none) (sz) (wC G h (lgE O E ra p1) S O od L Rd (wX G h (oN ra) (lgR O E ra p1) w1)) := by
  refine xM_of (by decide) (Nat.le_of_ble_eq_true rfl) ?_
  intro A p e s m args below meth c hC hr hname
  have hC : xC p s m args meth c cX1_readAgain 2 RX1 G A := hC
  have hr : meth.sig.returnType = none := hr
  show xV p l e _ s m args below meth c G A 2 _ sz _ 0 0 0 [(0, .ref (h + 46)), (1, .int (nI p1))] []
  refine xv_aload_n hC dX1_readAgain_0 rfl rfl ?_
  refine tg_X1_7 hC fl_X1_61 dX1_readAgain_1 ?_
  refine xv_aload_n hC dX1_readAgain_4 rfl rfl ?_
  refine tg_X1_9 hC fl_X1_32 dX1_readAgain_5 ?_
  refine xv_iload_n hC dX1_readAgain_8 rfl rfl ?_
  refine al_rowsAt hC dX1_readAgain_9 rfl (by first | assumption | omega) ?_
  refine xv_cast (congrArg Value.int (show _ = nI (ra p1) from rfl)) ?_
  refine xv_callV hC Y_yX3_startAt im_yX3_startAt se_yX3_startAt ml_X1_96 dX1_readAgain_10 (evb_startAt l G h sz E S O od L Rd (oN ra) Ra w1 (ra p1)) (wl_Readerb _ _ _ _ _ _ _ _ _ _ _) rfl rfl rfl (Nat.le_of_ble_eq_true rfl) ⟨Nat.le_of_ble_eq_true rfl, Nat.le_of_ble_eq_true rfl⟩ ⟨Nat.le_of_ble_eq_true rfl, Nat.le_of_ble_eq_true rfl⟩ ?_
  refine xv_rn ?_
  refine xv_aload_n hC dX1_readAgain_13 rfl rfl ?_
  refine tg_X1_7 hC fl_X1_61 dX1_readAgain_14 ?_
  refine xv_aload_n hC dX1_readAgain_17 rfl rfl ?_
  refine tg_X1_8 hC fl_X1_28 dX1_readAgain_18 ?_
  refine xv_callV hC Y_yX3_nextRows im_yX3_nextRows se_yX3_nextRows ml_X1_146 dX1_readAgain_21 (evb_nextRows l G h sz E S O od L Rd (oN ra) (ra p1, nI 0) w1 hO hA (q := 25) (by omega)) (wl_Readerb _ _ _ _ _ _ _ _ _ _ _) rfl rfl rfl (Nat.le_of_ble_eq_true rfl) ⟨Nat.le_of_ble_eq_true rfl, Nat.le_of_ble_eq_true rfl⟩ ⟨Nat.le_of_ble_eq_true rfl, Nat.le_of_ble_eq_true rfl⟩ ?_
  refine xv_rn ?_
  exact xv_return hC hr dX1_readAgain_24 rfl rfl rfl
set_option maxHeartbeats 1000000 in
set_option maxRecDepth 100000 in
theorem ev_loadSection (l : Launch) (G : xD) (h sz : Nat) (X : cX) (S : cS) (O : cO) (on : Nat → Nat) (sec : Nat) (re cf : Nat → Int32) (rf : Int32) (ra : Nat → Nat) (Ra : cR) (w1 : xw) (hO : O.2.1 0 ≤ 8000) (hX : cOK X) (hA : ∀ j, ra j ≤ 8000) {p1 : Nat} (hp1 : p1 < 12) : xM l G yX1_loadSection cX1_loadSection 2 (some .int) 4 0 0 [.ref (h + 46), .int (nI p1)] sz (wC G h X.1 (S) O (oN on) (sec, lP X.2.1, re, cf, oN X.2.2.1, X.2.2.2.1, rf) X.2.2.2.2 (wX G h (oN ra) Ra w1)) (some (.int (nI (lsM (lgE O X.1 ra p1) S (isW O) p1 25).2.2))) (sz) (wC G h (lsM (lgE O X.1 ra p1) S (isW O) p1 25).1 (lsM (lgE O X.1 ra p1) S (isW O) p1 25).2.1 O (oN on) (sec, lP X.2.1, re, cf, oN X.2.2.1, X.2.2.2.1, rf) X.2.2.2.2 (wX G h (oN ra) (lgR O X.1 ra p1) w1)) := by
  refine xM_of (by decide) (Nat.le_of_ble_eq_true rfl) ?_
  intro A p e s m args below meth c hC hr hname
  have hC : xC p s m args meth c cX1_loadSection 2 RX1 G A := hC
  have hr : meth.sig.returnType = (some .int) := hr
  show xV p l e _ s m args below meth c G A 2 _ sz _ 0 0 0 [(0, .ref (h + 46)), (1, .int (nI p1))] []
  refine xv_aload_n hC dX1_loadSection_0 rfl rfl ?_
  refine xv_iload_n hC dX1_loadSection_1 rfl rfl ?_
  refine xv_callV hC Y_yX1_readAgain im_yX1_readAgain se_yX1_readAgain ml_X1_153 dX1_loadSection_2 (ev_readAgain l G h sz X.1 S O (oN on) (sec, lP X.2.1, re, cf, oN X.2.2.1, X.2.2.2.1, rf) X.2.2.2.2 ra Ra w1 hO hp1 (hA p1)) (wl_Loader _ _ _ _ _ _ _ _ _) rfl rfl rfl (Nat.le_of_ble_eq_true rfl) ⟨Nat.le_of_ble_eq_true rfl, Nat.le_of_ble_eq_true rfl⟩ ⟨Nat.le_of_ble_eq_true rfl, Nat.le_of_ble_eq_true rfl⟩ ?_
  refine xv_rn ?_
  refine xv_aload_n hC dX1_loadSection_5 rfl rfl ?_
  refine xv_callV hC Y_yX1_isWhole im_yX1_isWhole se_yX1_isWhole ml_X1_82 dX1_loadSection_6 (ev_isWhole l G h sz (lgE O X.1 ra p1) S O on sec X.2.1 re cf X.2.2.1 X.2.2.2.1 rf X.2.2.2.2 (wX G h (oN ra) (lgR O X.1 ra p1) w1) hO) (wl_Loader _ _ _ _ _ _ _ _ _) rfl rfl rfl (Nat.le_of_ble_eq_true rfl) ⟨Nat.le_of_ble_eq_true rfl, Nat.le_of_ble_eq_true rfl⟩ ⟨Nat.le_of_ble_eq_true rfl, Nat.le_of_ble_eq_true rfl⟩ ?_
  refine xv_rs ?_
  refine xv_if_eq (tgt := 25) hC dX1_loadSection_9 (by decide) (fun h9 => ?_) (fun h9 => ?_)
  · try simp (disch := omega) only [nI_leI, nI_ltI, nI_eq, xz_eq, xz_le, xz_gt, cI_0, cI_n0, cI_inj, lg_cmp_ge, lg_cmp_le, lg_cmp_gt, lg_cmp_lt, lg_cmp_eq, Bool.not_eq_true, Bool.not_eq_false, Nat.not_le, Nat.not_lt] at h9
    refine xv_aload_n hC dX1_loadSection_25 rfl rfl ?_
    refine tg_X1_4 hC fl_X1_44 dX1_loadSection_26 ?_
    refine xv_iload_n hC dX1_loadSection_29 rfl rfl ?_
    refine xv_aload_n hC dX1_loadSection_30 rfl rfl ?_
    refine tg_X1_8 hC fl_X1_28 dX1_loadSection_31 ?_
    refine xv_callV hC Y_yX4_replace im_yX4_replace se_yX4_replace ml_X1_160 dX1_loadSection_34 (ev_replace l G h sz (lgE O X.1 ra p1) S O (oN on) (sec, lP X.2.1, re, cf, oN X.2.2.1, X.2.2.2.1, rf) X.2.2.2.2 (wX G h (oN ra) (lgR O X.1 ra p1) w1) (q := p1) (r := 25) hp1 (by omega) (lgE_ok hX.1)) (wl_Setter _ _ _ _ _ _ _ _ _) rfl rfl rfl (Nat.le_of_ble_eq_true rfl) ⟨Nat.le_of_ble_eq_true rfl, Nat.le_of_ble_eq_true rfl⟩ ⟨Nat.le_of_ble_eq_true rfl, Nat.le_of_ble_eq_true rfl⟩ ?_
    refine xv_rn ?_
    refine xv_iconst (v := nI 0) hC dX1_loadSection_37 (by decide) ?_
    exact xv_ireturn hC hr dX1_loadSection_38 (rI (by rw [lsM, h9]; rfl)) rfl (by rw [lsM, if_neg (by rw [h9]; decide)])
  · try simp (disch := omega) only [nI_leI, nI_ltI, nI_eq, xz_eq, xz_le, xz_gt, cI_0, cI_n0, cI_inj, lg_cmp_ge, lg_cmp_le, lg_cmp_gt, lg_cmp_lt, lg_cmp_eq, Bool.not_eq_true, Bool.not_eq_false, Nat.not_le, Nat.not_lt] at h9
    refine xv_aload_n hC dX1_loadSection_12 rfl rfl ?_
    refine tg_X1_4 hC fl_X1_44 dX1_loadSection_13 ?_
    refine xv_iload_n hC dX1_loadSection_16 rfl rfl ?_
    refine xv_aload_n hC dX1_loadSection_17 rfl rfl ?_
    refine tg_X1_8 hC fl_X1_28 dX1_loadSection_18 ?_
    refine xv_callV hC Y_yX4_merge im_yX4_merge se_yX4_merge ml_X1_156 dX1_loadSection_21 (ev_merge l G h sz (lgE O X.1 ra p1) S O (oN on) (sec, lP X.2.1, re, cf, oN X.2.2.1, X.2.2.2.1, rf) X.2.2.2.2 (wX G h (oN ra) (lgR O X.1 ra p1) w1) (q := p1) (r := 25) hp1 (by omega) (lgE_ok hX.1)) (wl_Setter _ _ _ _ _ _ _ _ _) rfl rfl rfl (Nat.le_of_ble_eq_true rfl) ⟨Nat.le_of_ble_eq_true rfl, Nat.le_of_ble_eq_true rfl⟩ ⟨Nat.le_of_ble_eq_true rfl, Nat.le_of_ble_eq_true rfl⟩ ?_
    refine xv_rs ?_
    exact xv_ireturn hC hr dX1_loadSection_24 (rI (by rw [lsM, if_pos h9])) rfl (by rw [lsM, if_pos h9])
set_option maxHeartbeats 1000000 in
set_option maxRecDepth 100000 in
theorem ev_becomeBase (l : Launch) (G : xD) (h sz : Nat) (X : cX) (S : cS) (O : cO) (on : Nat → Nat) (sec : Nat) (re cf : Nat → Int32) (rf : Int32) (ra : Nat → Nat) (Ra : cR) (w1 : xw) (hO : O.2.1 0 ≤ 8000) (hX : cOK X) (hA : ∀ j, ra j ≤ 8000) : xM l G yX1_becomeBase cX1_becomeBase 2 none 4 0 0 [.ref (h + 46)] sz (wC G h X.1 (S) O (oN on) (sec, lP X.2.1, re, cf, oN X.2.2.1, X.2.2.2.1, rf) X.2.2.2.2 (wX G h (oN ra) Ra w1)) (none) (sz) (wC G h (bnE O X.1 ra X.2.2.2.1 12) (bnS O X.1 S ra X.2.2.2.1 X.2.2.2.2 12) O (oN on) (sec, lP X.2.1, re, cf, oN X.2.2.1, X.2.2.2.1, rf) X.2.2.2.2 (wX G h (oN ra) (bnR O X.1 ra X.2.2.2.1 Ra 12) w1)) := by
  refine xM_of (by decide) (Nat.le_of_ble_eq_true rfl) ?_
  intro A p e s m args below meth c hC hr hname
  have hC : xC p s m args meth c cX1_becomeBase 2 RX1 G A := hC
  have hr : meth.sig.returnType = none := hr
  show xV p l e _ s m args below meth c G A 2 _ sz _ 0 0 0 [(0, .ref (h + 46))] []
  refine xv_aload_n hC dX1_becomeBase_0 rfl rfl ?_
  refine tg_X1_4 hC fl_X1_44 dX1_becomeBase_1 ?_
  refine xv_aload_n hC dX1_becomeBase_4 rfl rfl ?_
  refine tg_X1_5 hC fl_X1_48 dX1_becomeBase_5 ?_
  refine xv_iconst (v := nI 0) hC dX1_becomeBase_8 (by decide) ?_
  refine xv_aload_n hC dX1_becomeBase_9 rfl rfl ?_
  refine tg_X1_6 hC fl_X1_57 dX1_becomeBase_10 ?_
  refine tg_X3_0 hC fl_X1_112 dX1_becomeBase_13 ?_
  refine xv_cast (congrArg Value.int (show _ = nI (0 + X.2.2.2.2.1) by rw [Nat.zero_add])) ?_
  refine xv_callV hC Y_yX2_sumOf im_yX2_sumOf se_yX2_sumOf ml_X1_122 dX1_becomeBase_16 (ev_sumOf l G h sz X.1 S O (oN on) (sec, lP X.2.1, re, cf, oN X.2.2.1, X.2.2.2.1, rf) X.2.2.2.2 (wX G h (oN ra) Ra w1) (b := 0) (by omega) hO (a := 0) (n0 := X.2.2.2.2.1) (by have := hX.2.2.2; omega)) (wl_oA _ _ _ _ _ _ _ _ _ (by first | assumption | omega)) rfl rfl rfl (Nat.le_of_ble_eq_true rfl) ⟨Nat.le_of_ble_eq_true rfl, Nat.le_of_ble_eq_true rfl⟩ ⟨Nat.le_of_ble_eq_true rfl, Nat.le_of_ble_eq_true rfl⟩ ?_
  refine xv_rs ?_
  refine xv_callV hC Y_yX4_startFrom im_yX4_startFrom se_yX4_startFrom ml_X1_164 dX1_becomeBase_19 (ev_startFrom l G h sz X.1 S O (oN on) (sec, lP X.2.1, re, cf, oN X.2.2.1, X.2.2.2.1, rf) X.2.2.2.2 (wX G h (oN ra) Ra w1) (smF (oAt O 0) 0 X.2.2.2.2.1)) (wl_Setter _ _ _ _ _ _ _ _ _) rfl rfl rfl (Nat.le_of_ble_eq_true rfl) ⟨Nat.le_of_ble_eq_true rfl, Nat.le_of_ble_eq_true rfl⟩ ⟨Nat.le_of_ble_eq_true rfl, Nat.le_of_ble_eq_true rfl⟩ ?_
  refine xv_rn ?_
  refine xv_iconst (v := nI 0) hC dX1_becomeBase_22 (by decide) ?_
  refine xv_istore_n hC dX1_becomeBase_23 rfl (by decide) ?_
  have Lp24 : ∀ (n i : Nat), (i ≤ 12) → (12 < i + n) → xV p l e (xr 4 0 0) s m args below meth c G A 2 (MQ below (xQ G A (none) (sz) (wC G h (bnE O X.1 ra X.2.2.2.1 12) (bnS O X.1 S ra X.2.2.2.1 X.2.2.2.2 12) O (oN on) (sec, lP X.2.1, re, cf, oN X.2.2.1, X.2.2.2.1, rf) X.2.2.2.2 (wX G h (oN ra) (bnR O X.1 ra X.2.2.2.1 Ra 12) w1))) args s 0 0 A) sz (wC G h (bnE O X.1 ra X.2.2.2.1 i) (bnS O X.1 S ra X.2.2.2.1 X.2.2.2.2 i) O (oN on) (sec, lP X.2.1, re, cf, oN X.2.2.1, X.2.2.2.1, rf) X.2.2.2.2 (wX G h (oN ra) (bnR O X.1 ra X.2.2.2.1 Ra i) w1)) 0 0 24 [(1, .int (nI i)), (0, .ref (h + 46))] [] := by
    intro n
    induction n with
    | zero =>
      intro i hi hn
      omega
    | succ n ih24 =>
      intro i hi hn
      refine xv_iload_n hC dX1_becomeBase_24 rfl rfl ?_
      refine xv_bipush (v := nI 12) hC dX1_becomeBase_25 (by decide) ?_
      refine xv_icmp_ge (tgt := 96) hC dX1_becomeBase_27 (by decide) (fun h27 => ?_) (fun h27 => ?_)
      · try simp (disch := omega) only [nI_leI, nI_ltI, nI_eq, xz_eq, xz_le, xz_gt, cI_0, cI_n0, cI_inj, lg_cmp_ge, lg_cmp_le, lg_cmp_gt, lg_cmp_lt, lg_cmp_eq, Bool.not_eq_true, Bool.not_eq_false, Nat.not_le, Nat.not_lt] at h27
        exact xv_return hC hr dX1_becomeBase_96 rfl rfl (by rw [show i = 12 by omega])
      · try simp (disch := omega) only [nI_leI, nI_ltI, nI_eq, xz_eq, xz_le, xz_gt, cI_0, cI_n0, cI_inj, lg_cmp_ge, lg_cmp_le, lg_cmp_gt, lg_cmp_lt, lg_cmp_eq, Bool.not_eq_true, Bool.not_eq_false, Nat.not_le, Nat.not_lt] at h27
        have J56 : xV p l e (xr 4 0 0) s m args below meth c G A 2 (MQ below (xQ G A (none) (sz) (wC G h (bnE O X.1 ra X.2.2.2.1 12) (bnS O X.1 S ra X.2.2.2.1 X.2.2.2.2 12) O (oN on) (sec, lP X.2.1, re, cf, oN X.2.2.1, X.2.2.2.1, rf) X.2.2.2.2 (wX G h (oN ra) (bnR O X.1 ra X.2.2.2.1 Ra 12) w1))) args s 0 0 A) sz (wC G h (bnE O X.1 ra X.2.2.2.1 (i + 1)) (bnS O X.1 S ra X.2.2.2.1 X.2.2.2.2 i) O (oN on) (sec, lP X.2.1, re, cf, oN X.2.2.1, X.2.2.2.1, rf) X.2.2.2.2 (wX G h (oN ra) (bnR O X.1 ra X.2.2.2.1 Ra (i + 1)) w1)) 0 0 56 [(1, .int (nI i)), (0, .ref (h + 46))] [] := by
          have hEi := bnE_ok (O := O) (ra := ra) (seen := X.2.2.2.1) hX.1 (i + 1)
          have hE1 := hEi.lt (show i < 26 by omega)
          have hE2 := hEi.lt (show 25 < 26 by omega)
          refine xv_aload_n hC dX1_becomeBase_56 rfl rfl ?_
          refine tg_X1_4 hC fl_X1_44 dX1_becomeBase_57 ?_
          refine tg_X4_0 hC fl_X1_170 dX1_becomeBase_60 ?_
          refine xv_iload_n hC dX1_becomeBase_63 rfl rfl ?_
          refine al_parts hC dX1_becomeBase_64 rfl (by first | assumption | omega) ?_
          refine xv_aload_n hC dX1_becomeBase_65 rfl rfl ?_
          refine tg_X1_8 hC fl_X1_28 dX1_becomeBase_66 ?_
          refine xv_callV hC Y_yX0_isLike im_yX0_isLike se_yX0_isLike ml_X1_174 dX1_becomeBase_69 (ev_isLike l G h sz (bnE O X.1 ra X.2.2.2.1 (i + 1)) (bnS O X.1 S ra X.2.2.2.1 X.2.2.2.2 i) O (oN on) (sec, lP X.2.1, re, cf, oN X.2.2.1, X.2.2.2.1, rf) X.2.2.2.2 (wX G h (oN ra) (bnR O X.1 ra X.2.2.2.1 Ra (i + 1)) w1) (q := i) (q' := 25) (by omega) (by omega) (by omega) (by omega)) (wl_eA _ _ _ _ _ _ _ _ _ (by first | assumption | omega)) rfl rfl rfl (Nat.le_of_ble_eq_true rfl) ⟨Nat.le_of_ble_eq_true rfl, Nat.le_of_ble_eq_true rfl⟩ ⟨Nat.le_of_ble_eq_true rfl, Nat.le_of_ble_eq_true rfl⟩ ?_
          refine xv_rs ?_
          refine xv_if_ne (tgt := 90) hC dX1_becomeBase_72 (by decide) (fun h72 => ?_) (fun h72 => ?_)
          · try simp (disch := omega) only [nI_leI, nI_ltI, nI_eq, xz_eq, xz_le, xz_gt, cI_0, cI_n0, cI_inj, lg_cmp_ge, lg_cmp_le, lg_cmp_gt, lg_cmp_lt, lg_cmp_eq, Bool.not_eq_true, Bool.not_eq_false, Nat.not_le, Nat.not_lt] at h72
            refine xv_iinc hC dX1_becomeBase_90 rfl (xinc _) (by decide) ?_
            refine xv_goto (tgt := 24) hC dX1_becomeBase_93 (by decide) ?_
            refine xv_world (show _ = wC G h (bnE O X.1 ra X.2.2.2.1 (i + 1)) (bnS O X.1 S ra X.2.2.2.1 X.2.2.2.2 (i + 1)) O (oN on) (sec, lP X.2.1, re, cf, oN X.2.2.1, X.2.2.2.1, rf) X.2.2.2.2 (wX G h (oN ra) (bnR O X.1 ra X.2.2.2.1 Ra (i + 1)) w1) by rw [show bnS O X.1 S ra X.2.2.2.1 X.2.2.2.2 (i + 1) = (S.1, bnM O X.1 ra X.2.2.2.1 (i + 1), S.2.2.1, S.2.2.2.1, S.2.2.2.2.1, true, smF (oAt O 0) 0 X.2.2.2.2.1) from rfl, bnM]; first | (rw [if_pos h72]; rfl) | (rw [if_neg (by rw [h72]; decide)]; rfl)) ?_
            refine xV.to [(1, .int (nI (i + 1))), (0, .ref (h + 46))] ⟨rfl, rfl, trivial⟩ ?_
            exact ih24 (i + 1) (by omega) (by omega)
          · try simp (disch := omega) only [nI_leI, nI_ltI, nI_eq, xz_eq, xz_le, xz_gt, cI_0, cI_n0, cI_inj, lg_cmp_ge, lg_cmp_le, lg_cmp_gt, lg_cmp_lt, lg_cmp_eq, Bool.not_eq_true, Bool.not_eq_false, Nat.not_le, Nat.not_lt] at h72
            refine xv_aload_n hC dX1_becomeBase_75 rfl rfl ?_
            refine tg_X1_4 hC fl_X1_44 dX1_becomeBase_76 ?_
            refine xv_dup hC dX1_becomeBase_79 rfl ?_
            refine tg_X4_2 hC fl_X1_178 dX1_becomeBase_80 ?_
            refine xv_iconst (v := nI 1) hC dX1_becomeBase_83 (by decide) ?_
            refine xv_iload_n hC dX1_becomeBase_84 rfl rfl ?_
            refine xv_ishl hC dX1_becomeBase_85 ?_
            refine xv_ior hC dX1_becomeBase_86 ?_
            refine tp_X4_2 hC fl_X1_178 dX1_becomeBase_87 ?_
            refine xv_iinc hC dX1_becomeBase_90 rfl (xinc _) (by decide) ?_
            refine xv_goto (tgt := 24) hC dX1_becomeBase_93 (by decide) ?_
            refine xv_world (show _ = wC G h (bnE O X.1 ra X.2.2.2.1 (i + 1)) (bnS O X.1 S ra X.2.2.2.1 X.2.2.2.2 (i + 1)) O (oN on) (sec, lP X.2.1, re, cf, oN X.2.2.1, X.2.2.2.1, rf) X.2.2.2.2 (wX G h (oN ra) (bnR O X.1 ra X.2.2.2.1 Ra (i + 1)) w1) by rw [show bnS O X.1 S ra X.2.2.2.1 X.2.2.2.2 (i + 1) = (S.1, bnM O X.1 ra X.2.2.2.1 (i + 1), S.2.2.1, S.2.2.2.1, S.2.2.2.2.1, true, smF (oAt O 0) 0 X.2.2.2.2.1) from rfl, bnM]; first | (rw [if_pos h72]; rfl) | (rw [if_neg (by rw [h72]; decide)]; rfl)) ?_
            refine xV.to [(1, .int (nI (i + 1))), (0, .ref (h + 46))] ⟨rfl, rfl, trivial⟩ ?_
            exact ih24 (i + 1) (by omega) (by omega)
        refine xv_aload_n hC dX1_becomeBase_30 rfl rfl ?_
        refine tg_X1_11 hC fl_X1_38 dX1_becomeBase_31 ?_
        refine xv_iload_n hC dX1_becomeBase_34 rfl rfl ?_
        refine xv_callSN (host := "FormatFiles") hC Y_yX6_isIn sm_yX6_isIn (by decide) dX1_becomeBase_35 (ev_isIn l G sz _ X.2.2.2.1 (q := i) (by omega)) rfl rfl (Nat.le_of_ble_eq_true rfl) ⟨Nat.le_of_ble_eq_true rfl, Nat.le_of_ble_eq_true rfl⟩ ⟨Nat.le_of_ble_eq_true rfl, Nat.le_of_ble_eq_true rfl⟩ ?_
        refine xv_rs ?_
        refine xv_if_eq (tgt := 49) hC dX1_becomeBase_38 (by decide) (fun h38 => ?_) (fun h38 => ?_)
        · try simp (disch := omega) only [nI_leI, nI_ltI, nI_eq, xz_eq, xz_le, xz_gt, cI_0, cI_n0, cI_inj, lg_cmp_ge, lg_cmp_le, lg_cmp_gt, lg_cmp_lt, lg_cmp_eq, Bool.not_eq_true, Bool.not_eq_false, Nat.not_le, Nat.not_lt] at h38
          refine xv_aload_n hC dX1_becomeBase_49 rfl rfl ?_
          refine tg_X1_8 hC fl_X1_28 dX1_becomeBase_50 ?_
          refine xv_callV hC Y_yX0_clear im_yX0_clear se_yX0_clear ml_X1_167 dX1_becomeBase_53 (ev_clear l G h sz (bnE O X.1 ra X.2.2.2.1 i) (bnS O X.1 S ra X.2.2.2.1 X.2.2.2.2 i) O (oN on) (sec, lP X.2.1, re, cf, oN X.2.2.1, X.2.2.2.1, rf) X.2.2.2.2 (wX G h (oN ra) (bnR O X.1 ra X.2.2.2.1 Ra i) w1) (q := 25) (by omega)) (wl_eA _ _ _ _ _ _ _ _ _ (by first | assumption | omega)) rfl rfl rfl (Nat.le_of_ble_eq_true rfl) ⟨Nat.le_of_ble_eq_true rfl, Nat.le_of_ble_eq_true rfl⟩ ⟨Nat.le_of_ble_eq_true rfl, Nat.le_of_ble_eq_true rfl⟩ ?_
          refine xv_rn ?_
          refine xv_world (show _ = wC G h (bnE O X.1 ra X.2.2.2.1 (i + 1)) (bnS O X.1 S ra X.2.2.2.1 X.2.2.2.2 i) O (oN on) (sec, lP X.2.1, re, cf, oN X.2.2.1, X.2.2.2.1, rf) X.2.2.2.2 (wX G h (oN ra) (bnR O X.1 ra X.2.2.2.1 Ra (i + 1)) w1) by rw [bnE, bnR]; first | rw [if_pos h38, if_pos h38] | rw [if_neg (by rw [h38]; decide), if_neg (by rw [h38]; decide)]) ?_
          exact J56
        · try simp (disch := omega) only [nI_leI, nI_ltI, nI_eq, xz_eq, xz_le, xz_gt, cI_0, cI_n0, cI_inj, lg_cmp_ge, lg_cmp_le, lg_cmp_gt, lg_cmp_lt, lg_cmp_eq, Bool.not_eq_true, Bool.not_eq_false, Nat.not_le, Nat.not_lt] at h38
          refine xv_aload_n hC dX1_becomeBase_41 rfl rfl ?_
          refine xv_iload_n hC dX1_becomeBase_42 rfl rfl ?_
          refine xv_callV hC Y_yX1_readAgain im_yX1_readAgain se_yX1_readAgain ml_X1_153 dX1_becomeBase_43 (ev_readAgain l G h sz (bnE O X.1 ra X.2.2.2.1 i) (bnS O X.1 S ra X.2.2.2.1 X.2.2.2.2 i) O (oN on) (sec, lP X.2.1, re, cf, oN X.2.2.1, X.2.2.2.1, rf) X.2.2.2.2 ra (bnR O X.1 ra X.2.2.2.1 Ra i) w1 hO (p1 := i) (by omega) (hA i)) (wl_Loader _ _ _ _ _ _ _ _ _) rfl rfl rfl (Nat.le_of_ble_eq_true rfl) ⟨Nat.le_of_ble_eq_true rfl, Nat.le_of_ble_eq_true rfl⟩ ⟨Nat.le_of_ble_eq_true rfl, Nat.le_of_ble_eq_true rfl⟩ ?_
          refine xv_rn ?_
          refine xv_goto (tgt := 56) hC dX1_becomeBase_46 (by decide) ?_
          refine xv_world (show _ = wC G h (bnE O X.1 ra X.2.2.2.1 (i + 1)) (bnS O X.1 S ra X.2.2.2.1 X.2.2.2.2 i) O (oN on) (sec, lP X.2.1, re, cf, oN X.2.2.1, X.2.2.2.1, rf) X.2.2.2.2 (wX G h (oN ra) (bnR O X.1 ra X.2.2.2.1 Ra (i + 1)) w1) by rw [bnE, bnR]; first | rw [if_pos h38, if_pos h38] | rw [if_neg (by rw [h38]; decide), if_neg (by rw [h38]; decide)]) ?_
          exact J56
  refine xv_world (show _ = wC G h (bnE O X.1 ra X.2.2.2.1 0) (bnS O X.1 S ra X.2.2.2.1 X.2.2.2.2 0) O (oN on) (sec, lP X.2.1, re, cf, oN X.2.2.1, X.2.2.2.1, rf) X.2.2.2.2 (wX G h (oN ra) (bnR O X.1 ra X.2.2.2.1 Ra 0) w1) from rfl) ?_
  exact Lp24 13 0 (by omega) (by omega)
