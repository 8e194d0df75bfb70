set_option maxHeartbeats 1000000 in
set_option maxRecDepth 100000 in
theorem ev_startAt (l : Launch) (G : xD) (h sz : Nat) (E : cE) (S : cS) (O : cO) (od : Nat → Int32) (L : cL) (Rd : cR) (w0 : xw) (n : Nat) : xM l G yX3_startAt cX3_startAt 2 none 0 0 0 [.ref (h + 55), .int (nI n)] sz (wC G h (E) S O od L (Rd) w0) (none) (sz) (wC G h (E) S O od L ((n, nI 0)) w0) := by
  refine xM_of (by decide) (Nat.le_of_ble_eq_true rfl) ?_
  intro A p e s m args below meth c hC hr hname
  have hC : xC p s m args meth c cX3_startAt 2 RX3 G A := hC
  have hr : meth.sig.returnType = none := hr
  show xV p l e _ s m args below meth c G A 2 _ sz _ 0 0 0 [(0, .ref (h + 55)), (1, .int (nI n))] []
  refine xv_aload_n hC dX3_startAt_0 rfl rfl ?_
  refine xv_iload_n hC dX3_startAt_1 rfl rfl ?_
  refine tp_X3_0 hC fl_X3_9 dX3_startAt_2 rfl ?_
  refine xv_aload_n hC dX3_startAt_5 rfl rfl ?_
  refine xv_iconst (v := nI 0) hC dX3_startAt_6 (by decide) ?_
  refine tp_X3_1 hC fl_X3_15 dX3_startAt_7 ?_
  exact xv_return hC hr dX3_startAt_10 rfl rfl rfl
set_option maxHeartbeats 1000000 in
set_option maxRecDepth 100000 in
theorem ev_refuse (l : Launch) (G : xD) (h sz : Nat) (E : cE) (S : cS) (O : cO) (od : Nat → Int32) (L : cL) (Rd : cR) (w0 : xw) (x : Int32) : xM l G yX3_refuse cX3_refuse 2 none 0 0 0 [.ref (h + 55), .int x] sz (wC G h (E) S O od L (Rd) w0) (none) (sz) (wC G h (E) S O od L (rfR Rd x) w0) := by
  refine xM_of (by decide) (Nat.le_of_ble_eq_true rfl) ?_
  intro A p e s m args below meth c hC hr hname
  have hC : xC p s m args meth c cX3_refuse 2 RX3 G A := hC
  have hr : meth.sig.returnType = none := hr
  show xV p l e _ s m args below meth c G A 2 _ sz _ 0 0 0 [(0, .ref (h + 55)), (1, .int x)] []
  refine xv_aload_n hC dX3_refuse_0 rfl rfl ?_
  refine tg_X3_1 hC fl_X3_15 dX3_refuse_1 ?_
  refine xv_if_ne (tgt := 12) hC dX3_refuse_4 (by decide) (fun h4 => ?_) (fun h4 => ?_)
  · exact xv_return hC hr dX3_refuse_12 rfl rfl (by simp [rfR, h4])
  · refine xv_aload_n hC dX3_refuse_7 rfl rfl ?_
    refine xv_iload_n hC dX3_refuse_8 rfl rfl ?_
    refine tp_X3_1 hC fl_X3_15 dX3_refuse_9 ?_
    exact xv_return hC hr dX3_refuse_12 rfl rfl (by simp [rfR, h4])
set_option maxHeartbeats 1000000 in
set_option maxRecDepth 100000 in
theorem ev_next (l : Launch) (G : xD) (h sz : Nat) (E : cE) (S : cS) (O : cO) (od : Nat → Int32) (L : cL) (Rd : cR) (w0 : xw) (hO : O.2.1 0 ≤ 8000) (hp : Rd.1 ≤ 8000) : xM l G yX3_next cX3_next 2 (some .int) 0 0 0 [.ref (h + 55)] sz (wC G h (E) S O od L (Rd) w0) (some (.int (nxV O Rd))) (sz) (wC G h (E) S O od L (nxR O Rd) w0) := by
  refine xM_of (by decide) (Nat.le_of_ble_eq_true rfl) ?_
  intro A p e s m args below meth c hC hr hname
  have hC : xC p s m args meth c cX3_next 2 RX3 G A := hC
  have hr : meth.sig.returnType = (some .int) := hr
  show xV p l e _ s m args below meth c G A 2 _ sz _ 0 0 0 [(0, .ref (h + 55))] []
  refine xv_aload_n hC dX3_next_0 rfl rfl ?_
  refine tg_X3_1 hC fl_X3_15 dX3_next_1 ?_
  refine xv_if_eq (tgt := 9) hC dX3_next_4 (by decide) (fun h4 => ?_) (fun h4 => ?_)
  · refine xv_aload_n hC dX3_next_9 rfl rfl ?_
    refine tg_X3_0 hC fl_X3_9 dX3_next_10 ?_
    refine xv_if_lt (tgt := 45) hC dX3_next_13 (by decide) (fun h13 => ?_) (fun h13 => ?_)
    · exact absurd h13 (nI_pos (by omega))
    · refine xv_aload_n hC dX3_next_16 rfl rfl ?_
      refine tg_X3_0 hC fl_X3_9 dX3_next_17 ?_
      refine xv_aload_n hC dX3_next_20 rfl rfl ?_
      refine tg_X3_2 hC fl_X3_18 dX3_next_21 ?_
      refine tg_X2_1 hC (by first | assumption | omega) fl_X3_22 dX3_next_24 ?_
      refine xv_icmp_ge (tgt := 45) hC dX3_next_27 (by decide) (fun h27 => ?_) (fun h27 => ?_)
      · try simp (disch := omega) only [nI_leI, nI_ltI, nI_eq, xz_eq, xz_le, xz_gt, cI_0, cI_n0, cI_inj, lg_cmp_ge, lg_cmp_le, lg_cmp_gt, lg_cmp_lt, lg_cmp_eq, Bool.not_eq_true, Bool.not_eq_false, Nat.not_le, Nat.not_lt] at h27
        refine xv_aload_n hC dX3_next_45 rfl rfl ?_
        refine xv_iconst (v := nI 4) hC dX3_next_46 (by decide) ?_
        refine tp_X3_1 hC fl_X3_15 dX3_next_47 ?_
        refine xv_iconst (v := nI 0) hC dX3_next_50 (by decide) ?_
        exact xv_ireturn hC hr dX3_next_51 (by simp [nxV, h4, Nat.not_lt.mpr h27]) rfl (by simp [nxR, h4, Nat.not_lt.mpr h27])
      · try simp (disch := omega) only [nI_leI, nI_ltI, nI_eq, xz_eq, xz_le, xz_gt, cI_0, cI_n0, cI_inj, lg_cmp_ge, lg_cmp_le, lg_cmp_gt, lg_cmp_lt, lg_cmp_eq, Bool.not_eq_true, Bool.not_eq_false, Nat.not_le, Nat.not_lt] at h27
        refine xv_aload_n hC dX3_next_30 rfl rfl ?_
        refine tg_X3_0 hC fl_X3_9 dX3_next_31 ?_
        refine xv_aload_n hC dX3_next_34 rfl rfl ?_
        refine tg_X3_2 hC fl_X3_18 dX3_next_35 ?_
        refine tg_X2_0 hC (by first | assumption | omega) fl_X3_27 dX3_next_38 ?_
        refine tl_bytes hC (by first | assumption | omega) dX3_next_41 ?_
        refine xv_icmp_lt (tgt := 52) hC dX3_next_42 (by decide) (fun h42 => ?_) (fun h42 => ?_)
        · refine xv_aload_n hC dX3_next_52 rfl rfl ?_
          refine tg_X3_2 hC fl_X3_18 dX3_next_53 ?_
          refine tg_X2_0 hC (by first | assumption | omega) fl_X3_27 dX3_next_56 ?_
          refine xv_aload_n hC dX3_next_59 rfl rfl ?_
          refine tg_X3_0 hC fl_X3_9 dX3_next_60 ?_
          refine al_bytes hC (by first | assumption | omega) dX3_next_63 rfl (show Rd.1 < 8000 by omega) ?_
          refine xv_sipush (v := nI 255) hC dX3_next_64 (by decide) ?_
          refine xv_iand hC dX3_next_67 ?_
          refine xv_istore_n hC dX3_next_68 rfl (by decide) ?_
          refine xv_aload_n hC dX3_next_69 rfl rfl ?_
          refine xv_dup hC dX3_next_70 rfl ?_
          refine tg_X3_0 hC fl_X3_9 dX3_next_71 ?_
          refine xv_iconst (v := nI 1) hC dX3_next_74 (by decide) ?_
          refine xv_iadd hC dX3_next_75 ?_
          refine tp_X3_0 hC fl_X3_9 dX3_next_76 (nI_add _ _) ?_
          refine xv_iload_n hC dX3_next_79 rfl rfl ?_
          exact xv_ireturn hC hr dX3_next_80 (by simp [nxV, h4, h27]) rfl (by simp [nxR, h4, h27])
        · rw [show rm 0 = 8000 from rfl, nI_ltI (by omega) (by omega)] at h42
          omega
  · refine xv_iconst (v := nI 0) hC dX3_next_7 (by decide) ?_
    exact xv_ireturn hC hr dX3_next_8 (by simp [nxV, h4]) rfl (by simp [nxR, h4])
set_option maxHeartbeats 1000000 in
set_option maxRecDepth 100000 in
theorem ev_nextCount (l : Launch) (G : xD) (h sz : Nat) (E : cE) (S : cS) (O : cO) (od : Nat → Int32) (L : cL) (Rd : cR) (w0 : xw) (hO : O.2.1 0 ≤ 8000) (hp : Rd.1 ≤ 8000) : xM l G yX3_nextCount cX3_nextCount 7 (some .long) 1 0 0 [.ref (h + 55)] sz (wC G h (E) S O od L (Rd) w0) (some (.long (ncC O Rd))) (sz) (wC G h (E) S O od L (ncR O Rd) w0) := by
  refine xM_of (by decide) (Nat.le_of_ble_eq_true rfl) ?_
  intro A p e s m args below meth c hC hr hname
  have hC : xC p s m args meth c cX3_nextCount 7 RX3 G A := hC
  have hr : meth.sig.returnType = (some .long) := hr
  show xV p l e _ s m args below meth c G A 7 _ sz _ 0 0 0 [(0, .ref (h + 55))] []
  refine xv_lconst (v := 0) hC dX3_nextCount_0 (by decide) ?_
  refine xv_lstore_n hC dX3_nextCount_1 rfl (by decide) ?_
  have J104 : ∀ (v : Int64) (R1 : cR), (v, R1) = ncL O 10 0 0 Rd → xV p l e (xr 1 0 0) s m args below meth c G A 7 (MQ below (xQ G A (some (.long (ncC O Rd))) (sz) (wC G h (E) S O od L (ncR O Rd) w0)) args s 0 0 A) sz (wC G h (E) S O od L (R1) w0) 0 0 104 [(1, .long v), (0, .ref (h + 55))] [] := by
    intro v R1 hv
    refine xv_aload_n hC dX3_nextCount_104 rfl rfl ?_
    refine tg_X3_1 hC fl_X3_15 dX3_nextCount_105 ?_
    refine xv_if_ne (tgt := 115) hC dX3_nextCount_108 (by decide) (fun h108 => ?_) (fun h108 => ?_)
    · refine xv_lconst (v := 0) hC dX3_nextCount_115 (by decide) ?_
      exact xv_lreturn hC hr dX3_nextCount_116 (by simp [ncC, ncR, ← hv, h108]) rfl (by rw [show ncR O Rd = R1 from by rw [ncR, ← hv]])
    · refine xv_lload_n hC dX3_nextCount_111 rfl rfl ?_
      refine xv_goto (tgt := 116) hC dX3_nextCount_112 (by decide) ?_
      exact xv_lreturn hC hr dX3_nextCount_116 (by simp [ncC, ncR, ← hv, h108]) rfl (by rw [show ncR O Rd = R1 from by rw [ncR, ← hv]])
  refine xv_iconst (v := nI 0) hC dX3_nextCount_2 (by decide) ?_
  refine xv_istore_n hC dX3_nextCount_3 rfl (by decide) ?_
  have Lp4 : ∀ (n k : Nat) (v : Int64) (R1 : cR), (k ≤ 10) → (k + n = 11) → (R1.1 ≤ 8000) → (ncL O (n - 1) k v R1 = ncL O 10 0 0 Rd) → xV p l e (xr 1 0 0) s m args below meth c G A 7 (MQ below (xQ G A (some (.long (ncC O Rd))) (sz) (wC G h (E) S O od L (ncR O Rd) w0)) args s 0 0 A) sz (wC G h (E) S O od L (R1) w0) 0 0 4 [(3, .int (nI k)), (1, .long v), (0, .ref (h + 55))] [] := by
    intro n
    induction n with
    | zero =>
      intro k v R1 hk hn h1 hu
      omega
    | succ n ih4 =>
      intro k v R1 hk hn h1 hu
      refine xv_iload_n hC dX3_nextCount_4 rfl rfl ?_
      refine xv_bipush (v := nI 10) hC dX3_nextCount_5 (by decide) ?_
      refine xv_icmp_ge (tgt := 104) hC dX3_nextCount_7 (by decide) (fun h7 => ?_) (fun h7 => ?_)
      · try simp (disch := omega) only [nI_leI, nI_ltI, nI_eq, xz_eq, xz_le, xz_gt, cI_0, cI_n0, cI_inj, lg_cmp_ge, lg_cmp_le, lg_cmp_gt, lg_cmp_lt, lg_cmp_eq, Bool.not_eq_true, Bool.not_eq_false, Nat.not_le, Nat.not_lt] at h7
        refine xV.to [(1, _), (0, .ref (h + 55))] ⟨rfl, rfl, trivial⟩ ?_
        exact J104 _ _ (by first | (rw [← hu, show n + 1 - 1 = 0 by omega]; rfl) | (rw [← hu, ncL_ft _ _ _ _ h14]) | (rw [← hu]; obtain ⟨n', rfl⟩ : ∃ n', n = n' + 1 := ⟨n - 1, by omega⟩; show _ = ncL O (n' + 1) k v R1; rw [ncL, if_pos h14, if_neg h92]; rfl))
      · try simp (disch := omega) only [nI_leI, nI_ltI, nI_eq, xz_eq, xz_le, xz_gt, cI_0, cI_n0, cI_inj, lg_cmp_ge, lg_cmp_le, lg_cmp_gt, lg_cmp_lt, lg_cmp_eq, Bool.not_eq_true, Bool.not_eq_false, Nat.not_le, Nat.not_lt] at h7
        refine xv_aload_n hC dX3_nextCount_10 rfl rfl ?_
        refine tg_X3_1 hC fl_X3_15 dX3_nextCount_11 ?_
        refine xv_if_ne (tgt := 104) hC dX3_nextCount_14 (by decide) (fun h14 => ?_) (fun h14 => ?_)
        · refine xV.to [(1, _), (0, .ref (h + 55))] ⟨rfl, rfl, trivial⟩ ?_
          exact J104 _ _ (by first | (rw [← hu, show n + 1 - 1 = 0 by omega]; rfl) | (rw [← hu, ncL_ft _ _ _ _ h14]) | (rw [← hu]; obtain ⟨n', rfl⟩ : ∃ n', n = n' + 1 := ⟨n - 1, by omega⟩; show _ = ncL O (n' + 1) k v R1; rw [ncL, if_pos h14, if_neg h92]; rfl))
        · refine xv_aload_n hC dX3_nextCount_17 rfl rfl ?_
          refine xv_callV hC Y_yX3_next im_yX3_next se_yX3_next ml_X3_31 dX3_nextCount_18 (ev_next l G h sz E S O od L R1 w0 hO h1) (wl_Reader _ _ _ _ _ _ _ _ _) rfl rfl rfl (Nat.le_of_ble_eq_true rfl) ⟨Nat.le_of_ble_eq_true rfl, Nat.le_of_ble_eq_true rfl⟩ ⟨Nat.le_of_ble_eq_true rfl, Nat.le_of_ble_eq_true rfl⟩ ?_
          refine xv_rs ?_
          refine xv_istore hC dX3_nextCount_21 (by decide) ?_
          have J73 : xV p l e (xr 1 0 0) s m args below meth c G A 7 (MQ below (xQ G A (some (.long (ncC O Rd))) (sz) (wC G h (E) S O od L (ncR O Rd) w0)) args s 0 0 A) sz (wC G h (E) S O od L (ncS O k R1) w0) 0 0 73 [(4, .int (nxV O R1)), (3, .int (nI k)), (1, .long v), (0, .ref (h + 55))] [] := by
            refine xv_lload_n hC dX3_nextCount_73 rfl rfl ?_
            refine xv_iload hC dX3_nextCount_74 rfl ?_
            refine xv_bipush (v := nI 127) hC dX3_nextCount_76 (by decide) ?_
            refine xv_iand hC dX3_nextCount_78 ?_
            refine xv_i2l hC dX3_nextCount_79 ?_
            refine xv_bipush (v := nI 7) hC dX3_nextCount_80 (by decide) ?_
            refine xv_iload_n hC dX3_nextCount_82 rfl rfl ?_
            refine xv_imul hC dX3_nextCount_83 ?_
            refine xv_cast (congrArg Value.int (pk_mul _ _)) ?_
            refine xv_lshl hC dX3_nextCount_84 ?_
            refine xv_lor hC dX3_nextCount_85 ?_
            refine xv_lstore_n hC dX3_nextCount_86 rfl (by decide) ?_
            refine xv_iload hC dX3_nextCount_87 rfl ?_
            refine xv_sipush (v := nI 128) hC dX3_nextCount_89 (by decide) ?_
            refine xv_icmp_ge (tgt := 98) hC dX3_nextCount_92 (by decide) (fun h92 => ?_) (fun h92 => ?_)
            · refine xv_iinc hC dX3_nextCount_98 rfl (xinc _) (by decide) ?_
              refine xv_goto (tgt := 4) hC dX3_nextCount_101 (by decide) ?_
              refine xV.to [(3, .int (nI (k + 1))), (1, .long (ncV k v (nxV O R1))), (0, .ref (h + 55))] ⟨rfl, rfl, rfl, trivial⟩ ?_
              exact ih4 (k + 1) (ncV k v (nxV O R1)) (ncS O k R1) (by omega) (by omega) (ncS_le h1 hO) (by rw [← hu]; obtain ⟨n', rfl⟩ : ∃ n', n = n' + 1 := ⟨n - 1, by omega⟩; show _ = ncL O (n' + 1) k v R1; rw [ncL, if_pos h14, if_pos h92]; rfl)
            · refine xv_goto (tgt := 104) hC dX3_nextCount_95 (by decide) ?_
              refine xV.to [(1, _), (0, .ref (h + 55))] ⟨rfl, rfl, trivial⟩ ?_
              exact J104 _ _ (by first | (rw [← hu, show n + 1 - 1 = 0 by omega]; rfl) | (rw [← hu, ncL_ft _ _ _ _ h14]) | (rw [← hu]; obtain ⟨n', rfl⟩ : ∃ n', n = n' + 1 := ⟨n - 1, by omega⟩; show _ = ncL O (n' + 1) k v R1; rw [ncL, if_pos h14, if_neg h92]; rfl))
          refine xv_iload_n hC dX3_nextCount_23 rfl rfl ?_
          refine xv_if_le (tgt := 36) hC dX3_nextCount_24 (by decide) (fun h24 => ?_) (fun h24 => ?_)
          · rw [xz_le (by omega)] at h24
            refine xv_iconst (v := nI 0) hC dX3_nextCount_36 (by decide) ?_
            refine xv_istore hC dX3_nextCount_37 (by decide) ?_
            refine xv_iload_n hC dX3_nextCount_39 rfl rfl ?_
            refine xv_bipush (v := nI 9) hC dX3_nextCount_40 (by decide) ?_
            refine xv_icmp_ne (tgt := 55) hC dX3_nextCount_42 (by decide) (fun h42 => ?_) (fun h42 => ?_)
            · rw [nI_eq (by omega) (by omega)] at h42
              refine xv_iconst (v := nI 0) hC dX3_nextCount_55 (by decide) ?_
              refine xv_istore hC dX3_nextCount_56 (by decide) ?_
              refine xv_iload hC dX3_nextCount_58 rfl ?_
              refine xv_if_ne (tgt := 68) hC dX3_nextCount_60 (by decide) (fun h60 => ?_) (fun h60 => ?_)
              · exact absurd h60 (by decide)
              · refine xv_iload hC dX3_nextCount_63 rfl ?_
                refine xv_if_eq (tgt := 73) hC dX3_nextCount_65 (by decide) (fun h65 => ?_) (fun h65 => ?_)
                · refine xv_world (show _ = wC G h (E) S O od L (ncS O k R1) w0 by first | (exfalso; omega) | simp [ncS, nless, tomu, *]) ?_
                  refine xV.to [(4, .int (nxV O R1)), (3, .int (nI k)), (1, .long v), (0, .ref (h + 55))] ⟨rfl, rfl, rfl, rfl, trivial⟩ ?_
                  exact J73
                · exact absurd h65 (by decide)
            · rw [nI_eq (by omega) (by omega)] at h42
              refine xv_iload hC dX3_nextCount_45 rfl ?_
              refine xv_iconst (v := nI 1) hC dX3_nextCount_47 (by decide) ?_
              refine xv_icmp_le (tgt := 55) hC dX3_nextCount_48 (by decide) (fun h48 => ?_) (fun h48 => ?_)
              · have h48 : ¬ nI 1 < nxV O R1 := Int32.not_lt.mpr h48
                refine xv_iconst (v := nI 0) hC dX3_nextCount_55 (by decide) ?_
                refine xv_istore hC dX3_nextCount_56 (by decide) ?_
                refine xv_iload hC dX3_nextCount_58 rfl ?_
                refine xv_if_ne (tgt := 68) hC dX3_nextCount_60 (by decide) (fun h60 => ?_) (fun h60 => ?_)
                · exact absurd h60 (by decide)
                · refine xv_iload hC dX3_nextCount_63 rfl ?_
                  refine xv_if_eq (tgt := 73) hC dX3_nextCount_65 (by decide) (fun h65 => ?_) (fun h65 => ?_)
                  · refine xv_world (show _ = wC G h (E) S O od L (ncS O k R1) w0 by first | (exfalso; omega) | simp [ncS, nless, tomu, *]) ?_
                    refine xV.to [(4, .int (nxV O R1)), (3, .int (nI k)), (1, .long v), (0, .ref (h + 55))] ⟨rfl, rfl, rfl, rfl, trivial⟩ ?_
                    exact J73
                  · exact absurd h65 (by decide)
              · have h48 : nI 1 < nxV O R1 := Int32.not_le.mp h48
                refine xv_iconst (v := nI 1) hC dX3_nextCount_51 (by decide) ?_
                refine xv_goto (tgt := 56) hC dX3_nextCount_52 (by decide) ?_
                refine xv_istore hC dX3_nextCount_56 (by decide) ?_
                refine xv_iload hC dX3_nextCount_58 rfl ?_
                refine xv_if_ne (tgt := 68) hC dX3_nextCount_60 (by decide) (fun h60 => ?_) (fun h60 => ?_)
                · exact absurd h60 (by decide)
                · refine xv_iload hC dX3_nextCount_63 rfl ?_
                  refine xv_if_eq (tgt := 73) hC dX3_nextCount_65 (by decide) (fun h65 => ?_) (fun h65 => ?_)
                  · exact absurd h65 (by decide)
                  · refine xv_aload_n hC dX3_nextCount_68 rfl rfl ?_
                    refine xv_iconst (v := nI 5) hC dX3_nextCount_69 (by decide) ?_
                    refine xv_callV hC Y_yX3_refuse im_yX3_refuse se_yX3_refuse ml_X3_35 dX3_nextCount_70 (ev_refuse l G h sz E S O od L (nxR O R1) w0 (nI 5)) (wl_Reader _ _ _ _ _ _ _ _ _) rfl rfl rfl (Nat.le_of_ble_eq_true rfl) ⟨Nat.le_of_ble_eq_true rfl, Nat.le_of_ble_eq_true rfl⟩ ⟨Nat.le_of_ble_eq_true rfl, Nat.le_of_ble_eq_true rfl⟩ ?_
                    refine xv_rn ?_
                    refine xv_world (show _ = wC G h (E) S O od L (ncS O k R1) w0 by first | (exfalso; omega) | simp [ncS, nless, tomu, *]) ?_
                    refine xV.to [(4, .int (nxV O R1)), (3, .int (nI k)), (1, .long v), (0, .ref (h + 55))] ⟨rfl, rfl, rfl, rfl, trivial⟩ ?_
                    exact J73
          · rw [xz_le (by omega)] at h24
            have h24 : 0 < k := by omega
            refine xv_iload hC dX3_nextCount_27 rfl ?_
            refine xv_if_ne (tgt := 36) hC dX3_nextCount_29 (by decide) (fun h29 => ?_) (fun h29 => ?_)
            · refine xv_iconst (v := nI 0) hC dX3_nextCount_36 (by decide) ?_
              refine xv_istore hC dX3_nextCount_37 (by decide) ?_
              refine xv_iload_n hC dX3_nextCount_39 rfl rfl ?_
              refine xv_bipush (v := nI 9) hC dX3_nextCount_40 (by decide) ?_
              refine xv_icmp_ne (tgt := 55) hC dX3_nextCount_42 (by decide) (fun h42 => ?_) (fun h42 => ?_)
              · rw [nI_eq (by omega) (by omega)] at h42
                refine xv_iconst (v := nI 0) hC dX3_nextCount_55 (by decide) ?_
                refine xv_istore hC dX3_nextCount_56 (by decide) ?_
                refine xv_iload hC dX3_nextCount_58 rfl ?_
                refine xv_if_ne (tgt := 68) hC dX3_nextCount_60 (by decide) (fun h60 => ?_) (fun h60 => ?_)
                · exact absurd h60 (by decide)
                · refine xv_iload hC dX3_nextCount_63 rfl ?_
                  refine xv_if_eq (tgt := 73) hC dX3_nextCount_65 (by decide) (fun h65 => ?_) (fun h65 => ?_)
                  · refine xv_world (show _ = wC G h (E) S O od L (ncS O k R1) w0 by first | (exfalso; omega) | simp [ncS, nless, tomu, *]) ?_
                    refine xV.to [(4, .int (nxV O R1)), (3, .int (nI k)), (1, .long v), (0, .ref (h + 55))] ⟨rfl, rfl, rfl, rfl, trivial⟩ ?_
                    exact J73
                  · exact absurd h65 (by decide)
              · rw [nI_eq (by omega) (by omega)] at h42
                refine xv_iload hC dX3_nextCount_45 rfl ?_
                refine xv_iconst (v := nI 1) hC dX3_nextCount_47 (by decide) ?_
                refine xv_icmp_le (tgt := 55) hC dX3_nextCount_48 (by decide) (fun h48 => ?_) (fun h48 => ?_)
                · have h48 : ¬ nI 1 < nxV O R1 := Int32.not_lt.mpr h48
                  refine xv_iconst (v := nI 0) hC dX3_nextCount_55 (by decide) ?_
                  refine xv_istore hC dX3_nextCount_56 (by decide) ?_
                  refine xv_iload hC dX3_nextCount_58 rfl ?_
                  refine xv_if_ne (tgt := 68) hC dX3_nextCount_60 (by decide) (fun h60 => ?_) (fun h60 => ?_)
                  · exact absurd h60 (by decide)
                  · refine xv_iload hC dX3_nextCount_63 rfl ?_
                    refine xv_if_eq (tgt := 73) hC dX3_nextCount_65 (by decide) (fun h65 => ?_) (fun h65 => ?_)
                    · refine xv_world (show _ = wC G h (E) S O od L (ncS O k R1) w0 by first | (exfalso; omega) | simp [ncS, nless, tomu, *]) ?_
                      refine xV.to [(4, .int (nxV O R1)), (3, .int (nI k)), (1, .long v), (0, .ref (h + 55))] ⟨rfl, rfl, rfl, rfl, trivial⟩ ?_
                      exact J73
                    · exact absurd h65 (by decide)
                · have h48 : nI 1 < nxV O R1 := Int32.not_le.mp h48
                  refine xv_iconst (v := nI 1) hC dX3_nextCount_51 (by decide) ?_
                  refine xv_goto (tgt := 56) hC dX3_nextCount_52 (by decide) ?_
                  refine xv_istore hC dX3_nextCount_56 (by decide) ?_
                  refine xv_iload hC dX3_nextCount_58 rfl ?_
                  refine xv_if_ne (tgt := 68) hC dX3_nextCount_60 (by decide) (fun h60 => ?_) (fun h60 => ?_)
                  · exact absurd h60 (by decide)
                  · refine xv_iload hC dX3_nextCount_63 rfl ?_
                    refine xv_if_eq (tgt := 73) hC dX3_nextCount_65 (by decide) (fun h65 => ?_) (fun h65 => ?_)
                    · exact absurd h65 (by decide)
                    · refine xv_aload_n hC dX3_nextCount_68 rfl rfl ?_
                      refine xv_iconst (v := nI 5) hC dX3_nextCount_69 (by decide) ?_
                      refine xv_callV hC Y_yX3_refuse im_yX3_refuse se_yX3_refuse ml_X3_35 dX3_nextCount_70 (ev_refuse l G h sz E S O od L (nxR O R1) w0 (nI 5)) (wl_Reader _ _ _ _ _ _ _ _ _) rfl rfl rfl (Nat.le_of_ble_eq_true rfl) ⟨Nat.le_of_ble_eq_true rfl, Nat.le_of_ble_eq_true rfl⟩ ⟨Nat.le_of_ble_eq_true rfl, Nat.le_of_ble_eq_true rfl⟩ ?_
                      refine xv_rn ?_
                      refine xv_world (show _ = wC G h (E) S O od L (ncS O k R1) w0 by first | (exfalso; omega) | simp [ncS, nless, tomu, *]) ?_
                      refine xV.to [(4, .int (nxV O R1)), (3, .int (nI k)), (1, .long v), (0, .ref (h + 55))] ⟨rfl, rfl, rfl, rfl, trivial⟩ ?_
                      exact J73
            · refine xv_iconst (v := nI 1) hC dX3_nextCount_32 (by decide) ?_
              refine xv_goto (tgt := 37) hC dX3_nextCount_33 (by decide) ?_
              refine xv_istore hC dX3_nextCount_37 (by decide) ?_
              refine xv_iload_n hC dX3_nextCount_39 rfl rfl ?_
              refine xv_bipush (v := nI 9) hC dX3_nextCount_40 (by decide) ?_
              refine xv_icmp_ne (tgt := 55) hC dX3_nextCount_42 (by decide) (fun h42 => ?_) (fun h42 => ?_)
              · rw [nI_eq (by omega) (by omega)] at h42
                refine xv_iconst (v := nI 0) hC dX3_nextCount_55 (by decide) ?_
                refine xv_istore hC dX3_nextCount_56 (by decide) ?_
                refine xv_iload hC dX3_nextCount_58 rfl ?_
                refine xv_if_ne (tgt := 68) hC dX3_nextCount_60 (by decide) (fun h60 => ?_) (fun h60 => ?_)
                · refine xv_aload_n hC dX3_nextCount_68 rfl rfl ?_
                  refine xv_iconst (v := nI 5) hC dX3_nextCount_69 (by decide) ?_
                  refine xv_callV hC Y_yX3_refuse im_yX3_refuse se_yX3_refuse ml_X3_35 dX3_nextCount_70 (ev_refuse l G h sz E S O od L (nxR O R1) w0 (nI 5)) (wl_Reader _ _ _ _ _ _ _ _ _) rfl rfl rfl (Nat.le_of_ble_eq_true rfl) ⟨Nat.le_of_ble_eq_true rfl, Nat.le_of_ble_eq_true rfl⟩ ⟨Nat.le_of_ble_eq_true rfl, Nat.le_of_ble_eq_true rfl⟩ ?_
                  refine xv_rn ?_
                  refine xv_world (show _ = wC G h (E) S O od L (ncS O k R1) w0 by first | (exfalso; omega) | simp [ncS, nless, tomu, *]) ?_
                  refine xV.to [(4, .int (nxV O R1)), (3, .int (nI k)), (1, .long v), (0, .ref (h + 55))] ⟨rfl, rfl, rfl, rfl, trivial⟩ ?_
                  exact J73
                · exact absurd h60 (by decide)
              · rw [nI_eq (by omega) (by omega)] at h42
                refine xv_iload hC dX3_nextCount_45 rfl ?_
                refine xv_iconst (v := nI 1) hC dX3_nextCount_47 (by decide) ?_
                refine xv_icmp_le (tgt := 55) hC dX3_nextCount_48 (by decide) (fun h48 => ?_) (fun h48 => ?_)
                · have h48 : ¬ nI 1 < nxV O R1 := Int32.not_lt.mpr h48
                  refine xv_iconst (v := nI 0) hC dX3_nextCount_55 (by decide) ?_
                  refine xv_istore hC dX3_nextCount_56 (by decide) ?_
                  refine xv_iload hC dX3_nextCount_58 rfl ?_
                  refine xv_if_ne (tgt := 68) hC dX3_nextCount_60 (by decide) (fun h60 => ?_) (fun h60 => ?_)
                  · refine xv_aload_n hC dX3_nextCount_68 rfl rfl ?_
                    refine xv_iconst (v := nI 5) hC dX3_nextCount_69 (by decide) ?_
                    refine xv_callV hC Y_yX3_refuse im_yX3_refuse se_yX3_refuse ml_X3_35 dX3_nextCount_70 (ev_refuse l G h sz E S O od L (nxR O R1) w0 (nI 5)) (wl_Reader _ _ _ _ _ _ _ _ _) rfl rfl rfl (Nat.le_of_ble_eq_true rfl) ⟨Nat.le_of_ble_eq_true rfl, Nat.le_of_ble_eq_true rfl⟩ ⟨Nat.le_of_ble_eq_true rfl, Nat.le_of_ble_eq_true rfl⟩ ?_
                    refine xv_rn ?_
                    refine xv_world (show _ = wC G h (E) S O od L (ncS O k R1) w0 by first | (exfalso; omega) | simp [ncS, nless, tomu, *]) ?_
                    refine xV.to [(4, .int (nxV O R1)), (3, .int (nI k)), (1, .long v), (0, .ref (h + 55))] ⟨rfl, rfl, rfl, rfl, trivial⟩ ?_
                    exact J73
                  · exact absurd h60 (by decide)
                · have h48 : nI 1 < nxV O R1 := Int32.not_le.mp h48
                  refine xv_iconst (v := nI 1) hC dX3_nextCount_51 (by decide) ?_
                  refine xv_goto (tgt := 56) hC dX3_nextCount_52 (by decide) ?_
                  refine xv_istore hC dX3_nextCount_56 (by decide) ?_
                  refine xv_iload hC dX3_nextCount_58 rfl ?_
                  refine xv_if_ne (tgt := 68) hC dX3_nextCount_60 (by decide) (fun h60 => ?_) (fun h60 => ?_)
                  · refine xv_aload_n hC dX3_nextCount_68 rfl rfl ?_
                    refine xv_iconst (v := nI 5) hC dX3_nextCount_69 (by decide) ?_
                    refine xv_callV hC Y_yX3_refuse im_yX3_refuse se_yX3_refuse ml_X3_35 dX3_nextCount_70 (ev_refuse l G h sz E S O od L (nxR O R1) w0 (nI 5)) (wl_Reader _ _ _ _ _ _ _ _ _) rfl rfl rfl (Nat.le_of_ble_eq_true rfl) ⟨Nat.le_of_ble_eq_true rfl, Nat.le_of_ble_eq_true rfl⟩ ⟨Nat.le_of_ble_eq_true rfl, Nat.le_of_ble_eq_true rfl⟩ ?_
                    refine xv_rn ?_
                    refine xv_world (show _ = wC G h (E) S O od L (ncS O k R1) w0 by first | (exfalso; omega) | simp [ncS, nless, tomu, *]) ?_
                    refine xV.to [(4, .int (nxV O R1)), (3, .int (nI k)), (1, .long v), (0, .ref (h + 55))] ⟨rfl, rfl, rfl, rfl, trivial⟩ ?_
                    exact J73
                  · exact absurd h60 (by decide)
  exact Lp4 11 0 0 Rd (by omega) (by omega) hp rfl
set_option maxHeartbeats 1000000 in
set_option maxRecDepth 100000 in
theorem ev_nextFour (l : Launch) (G : xD) (h sz : Nat) (E : cE) (S : cS) (O : cO) (od : Nat → Int32) (L : cL) (Rd : cR) (w0 : xw) (hO : O.2.1 0 ≤ 8000) (hp : Rd.1 ≤ 8000) : xM l G yX3_nextFour cX3_nextFour 3 (some .int) 3 0 0 [.ref (h + 55)] sz (wC G h (E) S O od L (Rd) w0) (some (.int (n4V O Rd))) (sz) (wC G h (E) S O od L (n4R O Rd 4) w0) := by
  refine xM_of (by decide) (Nat.le_of_ble_eq_true rfl) ?_
  intro A p e s m args below meth c hC hr hname
  have hC : xC p s m args meth c cX3_nextFour 3 RX3 G A := hC
  have hr : meth.sig.returnType = (some .int) := hr
  show xV p l e _ s m args below meth c G A 3 _ sz _ 0 0 0 [(0, .ref (h + 55))] []
  refine xv_aload_n hC dX3_nextFour_0 rfl rfl ?_
  refine tg_X3_0 hC fl_X3_9 dX3_nextFour_1 ?_
  refine xv_istore_n hC dX3_nextFour_4 rfl (by decide) ?_
  refine xv_iconst (v := nI 0) hC dX3_nextFour_5 (by decide) ?_
  refine xv_istore_n hC dX3_nextFour_6 rfl (by decide) ?_
  have Lp7 : ∀ (n k : Nat), (k ≤ 4) → (4 < k + n) → xV p l e (xr 3 0 0) s m args below meth c G A 3 (MQ below (xQ G A (some (.int (n4V O Rd))) (sz) (wC G h (E) S O od L (n4R O Rd 4) w0)) args s 0 0 A) sz (wC G h (E) S O od L (n4R O Rd k) w0) 0 0 7 [(2, .int (nI k)), (1, .int (nI Rd.1)), (0, .ref (h + 55))] [] := by
    intro n
    induction n with
    | zero =>
      intro k hk hn
      omega
    | succ n ih7 =>
      intro k hk hn
      refine xv_iload_n hC dX3_nextFour_7 rfl rfl ?_
      refine xv_iconst (v := nI 4) hC dX3_nextFour_8 (by decide) ?_
      refine xv_icmp_ge (tgt := 23) hC dX3_nextFour_9 (by decide) (fun h9 => ?_) (fun h9 => ?_)
      · try simp (disch := omega) only [nI_leI, nI_ltI, nI_eq, xz_eq, xz_le, xz_gt, cI_0, cI_n0, cI_inj, lg_cmp_ge, lg_cmp_le, lg_cmp_gt, lg_cmp_lt, lg_cmp_eq, Bool.not_eq_true, Bool.not_eq_false, Nat.not_le, Nat.not_lt] at h9
        have hk4 : k = 4 := by omega
        subst hk4
        refine xv_aload_n hC dX3_nextFour_23 rfl rfl ?_
        refine tg_X3_1 hC fl_X3_15 dX3_nextFour_24 ?_
        refine xv_if_ne (tgt := 41) hC dX3_nextFour_27 (by decide) (fun h27 => ?_) (fun h27 => ?_)
        · refine xv_iconst (v := nI 0) hC dX3_nextFour_41 (by decide) ?_
          exact xv_ireturn hC hr dX3_nextFour_42 (by simp [n4V, h27]) rfl rfl
        · refine xv_aload_n hC dX3_nextFour_30 rfl rfl ?_
          refine tg_X3_2 hC fl_X3_18 dX3_nextFour_31 ?_
          refine xv_iload_n hC dX3_nextFour_34 rfl rfl ?_
          refine xv_callV hC Y_yX2_fourAt im_yX2_fourAt se_yX2_fourAt ml_X3_39 dX3_nextFour_35 (ev_fourAt l G h sz E S O od L (n4R O Rd 4) w0 (b := 0) (by omega) hO (i := Rd.1) (by omega)) (wl_oA _ _ _ _ _ _ _ _ _ (by first | assumption | omega)) rfl rfl rfl (Nat.le_of_ble_eq_true rfl) ⟨Nat.le_of_ble_eq_true rfl, Nat.le_of_ble_eq_true rfl⟩ ⟨Nat.le_of_ble_eq_true rfl, Nat.le_of_ble_eq_true rfl⟩ ?_
          refine xv_rs ?_
          refine xv_goto (tgt := 42) hC dX3_nextFour_38 (by decide) ?_
          exact xv_ireturn hC hr dX3_nextFour_42 (by simp [n4V, h27]) rfl rfl
      · try simp (disch := omega) only [nI_leI, nI_ltI, nI_eq, xz_eq, xz_le, xz_gt, cI_0, cI_n0, cI_inj, lg_cmp_ge, lg_cmp_le, lg_cmp_gt, lg_cmp_lt, lg_cmp_eq, Bool.not_eq_true, Bool.not_eq_false, Nat.not_le, Nat.not_lt] at h9
        refine xv_aload_n hC dX3_nextFour_12 rfl rfl ?_
        refine xv_callV hC Y_yX3_next im_yX3_next se_yX3_next ml_X3_31 dX3_nextFour_13 (ev_next l G h sz E S O od L (n4R O Rd k) w0 hO (n4R_le hp hO k)) (wl_Reader _ _ _ _ _ _ _ _ _) rfl rfl rfl (Nat.le_of_ble_eq_true rfl) ⟨Nat.le_of_ble_eq_true rfl, Nat.le_of_ble_eq_true rfl⟩ ⟨Nat.le_of_ble_eq_true rfl, Nat.le_of_ble_eq_true rfl⟩ ?_
        refine xv_rs ?_
        refine xv_pop hC dX3_nextFour_16 rfl ?_
        refine xv_iinc hC dX3_nextFour_17 rfl (xinc _) (by decide) ?_
        refine xv_goto (tgt := 7) hC dX3_nextFour_20 (by decide) ?_
        exact ih7 (k + 1) (by omega) (by omega)
  exact Lp7 5 0 (by omega) (by omega)
set_option maxHeartbeats 1000000 in
set_option maxRecDepth 100000 in
theorem ev_within (l : Launch) (G : xD) (h sz : Nat) (E : cE) (S : cS) (O : cO) (od : Nat → Int32) (L : cL) (Rd : cR) (w0 : xw) (x : Int64) (y : Int32) : xM l G yX3_within cX3_within 4 (some .int) 1 0 0 [.ref (h + 55), .long x, .int y] sz (wC G h (E) S O od L (Rd) w0) (some (.int (wiV Rd x y))) (sz) (wC G h (E) S O od L (wiR Rd x y) w0) := by
  refine xM_of (by decide) (Nat.le_of_ble_eq_true rfl) ?_
  intro A p e s m args below meth c hC hr hname
  have hC : xC p s m args meth c cX3_within 4 RX3 G A := hC
  have hr : meth.sig.returnType = (some .int) := hr
  show xV p l e _ s m args below meth c G A 4 _ sz _ 0 0 0 [(0, .ref (h + 55)), (1, .long x), (3, .int y)] []
  have J18 : xV p l e (xr 1 0 0) s m args below meth c G A 4 (MQ below (xQ G A (some (.int (wiV Rd x y))) (sz) (wC G h (E) S O od L (wiR Rd x y) w0)) args s 0 0 A) sz (wC G h (E) S O od L (wiR Rd x y) w0) 0 0 18 [(0, .ref (h + 55)), (1, .long x), (3, .int y)] [] := by
    refine xv_aload_n hC dX3_within_18 rfl rfl ?_
    refine tg_X3_1 hC fl_X3_15 dX3_within_19 ?_
    refine xv_if_ne (tgt := 30) hC dX3_within_22 (by decide) (fun h22 => ?_) (fun h22 => ?_)
    · refine xv_iconst (v := nI 0) hC dX3_within_30 (by decide) ?_
      exact xv_ireturn hC hr dX3_within_31 (by simp [wiV, h22]) rfl rfl
    · refine xv_lload_n hC dX3_within_25 rfl rfl ?_
      refine xv_l2i hC dX3_within_26 ?_
      refine xv_goto (tgt := 31) hC dX3_within_27 (by decide) ?_
      exact xv_ireturn hC hr dX3_within_31 (by simp [wiV, h22]) rfl rfl
  refine xv_lload_n hC dX3_within_0 rfl rfl ?_
  refine xv_lconst (v := 0) hC dX3_within_1 (by decide) ?_
  refine xv_lcmp hC dX3_within_2 ?_
  refine xv_if_lt (tgt := 13) hC dX3_within_3 (by decide) (fun h3 => ?_) (fun h3 => ?_)
  · try simp (disch := omega) only [nI_leI, nI_ltI, nI_eq, xz_eq, xz_le, xz_gt, cI_0, cI_n0, cI_inj, lg_cmp_ge, lg_cmp_le, lg_cmp_gt, lg_cmp_lt, lg_cmp_eq, Bool.not_eq_true, Bool.not_eq_false, Nat.not_le, Nat.not_lt] at h3
    refine xv_aload_n hC dX3_within_13 rfl rfl ?_
    refine xv_iconst (v := nI 5) hC dX3_within_14 (by decide) ?_
    refine xv_callV hC Y_yX3_refuse im_yX3_refuse se_yX3_refuse ml_X3_35 dX3_within_15 (ev_refuse l G h sz E S O od L Rd w0 (nI 5)) (wl_Reader _ _ _ _ _ _ _ _ _) rfl rfl rfl (Nat.le_of_ble_eq_true rfl) ⟨Nat.le_of_ble_eq_true rfl, Nat.le_of_ble_eq_true rfl⟩ ⟨Nat.le_of_ble_eq_true rfl, Nat.le_of_ble_eq_true rfl⟩ ?_
    refine xv_rn ?_
    refine xv_world (show _ = wC G h (E) S O od L (wiR Rd x y) w0 by simp [wiR, wiB, *]) ?_
    exact J18
  · try simp (disch := omega) only [nI_leI, nI_ltI, nI_eq, xz_eq, xz_le, xz_gt, cI_0, cI_n0, cI_inj, lg_cmp_ge, lg_cmp_le, lg_cmp_gt, lg_cmp_lt, lg_cmp_eq, Bool.not_eq_true, Bool.not_eq_false, Nat.not_le, Nat.not_lt] at h3
    refine xv_lload_n hC dX3_within_6 rfl rfl ?_
    refine xv_iload_n hC dX3_within_7 rfl rfl ?_
    refine xv_i2l hC dX3_within_8 ?_
    refine xv_lcmp hC dX3_within_9 ?_
    refine xv_if_le (tgt := 18) hC dX3_within_10 (by decide) (fun h10 => ?_) (fun h10 => ?_)
    · rw [lg_cmp_le] at h10
      have h10 : ¬ y.toInt64 < x := Int64.not_lt.mpr h10
      refine xv_world (show _ = wC G h (E) S O od L (wiR Rd x y) w0 by simp [wiR, wiB, *]) ?_
      exact J18
    · rw [lg_cmp_le] at h10
      have h10 : y.toInt64 < x := Int64.not_le.mp h10
      refine xv_aload_n hC dX3_within_13 rfl rfl ?_
      refine xv_iconst (v := nI 5) hC dX3_within_14 (by decide) ?_
      refine xv_callV hC Y_yX3_refuse im_yX3_refuse se_yX3_refuse ml_X3_35 dX3_within_15 (ev_refuse l G h sz E S O od L Rd w0 (nI 5)) (wl_Reader _ _ _ _ _ _ _ _ _) rfl rfl rfl (Nat.le_of_ble_eq_true rfl) ⟨Nat.le_of_ble_eq_true rfl, Nat.le_of_ble_eq_true rfl⟩ ⟨Nat.le_of_ble_eq_true rfl, Nat.le_of_ble_eq_true rfl⟩ ?_
      refine xv_rn ?_
      refine xv_world (show _ = wC G h (E) S O od L (wiR Rd x y) w0 by simp [wiR, wiB, *]) ?_
      exact J18
set_option maxHeartbeats 1000000 in
set_option maxRecDepth 100000 in
theorem ev_nextRows (l : Launch) (G : xD) (h sz : Nat) (E : cE) (S : cS) (O : cO) (od : Nat → Int32) (L : cL) (Rd : cR) (w0 : xw) (hO : O.2.1 0 ≤ 8000) (hp : Rd.1 ≤ 8000) {q : Nat} (hq : q < 12 ∨ q = 25) : xM l G yX3_nextRows cX3_nextRows 8 none 2 0 0 [.ref (h + 55), .ref (eA h q)] sz (wC G h (E) S O od L (Rd) w0) (none) (sz) (wC G h ((nrF O q E Rd).1) S O od L ((nrF O q E Rd).2) w0) := by
  refine xM_of (by decide) (Nat.le_of_ble_eq_true rfl) ?_
  intro A p e s m args below meth c hC hr hname
  have hC : xC p s m args meth c cX3_nextRows 8 RX3 G A := hC
  have hr : meth.sig.returnType = none := hr
  show xV p l e _ s m args below meth c G A 8 _ sz _ 0 0 0 [(0, .ref (h + 55)), (1, .ref (eA h q))] []
  refine xv_aload_n hC dX3_nextRows_0 rfl rfl ?_
  refine xv_callV hC Y_yX0_clear im_yX0_clear se_yX0_clear ml_X3_43 dX3_nextRows_1 (ev_clear l G h sz E S O od L Rd w0 hq) (wl_eA _ _ _ _ _ _ _ _ _ (by first | assumption | omega)) rfl rfl rfl (Nat.le_of_ble_eq_true rfl) ⟨Nat.le_of_ble_eq_true rfl, Nat.le_of_ble_eq_true rfl⟩ ⟨Nat.le_of_ble_eq_true rfl, Nat.le_of_ble_eq_true rfl⟩ ?_
  refine xv_rn ?_
  refine xv_aload_n hC dX3_nextRows_4 rfl rfl ?_
  refine xv_aload_n hC dX3_nextRows_5 rfl rfl ?_
  refine xv_callV hC Y_yX3_nextCount im_yX3_nextCount se_yX3_nextCount ml_X3_48 dX3_nextRows_6 (ev_nextCount l G h sz (eClr E q) S O od L Rd w0 hO hp) (wl_Reader _ _ _ _ _ _ _ _ _) rfl rfl rfl (Nat.le_of_ble_eq_true rfl) ⟨Nat.le_of_ble_eq_true rfl, Nat.le_of_ble_eq_true rfl⟩ ⟨Nat.le_of_ble_eq_true rfl, Nat.le_of_ble_eq_true rfl⟩ ?_
  refine xv_rs ?_
  refine xv_bipush (v := nI 100) hC dX3_nextRows_9 (by decide) ?_
  refine xv_callV hC Y_yX3_within im_yX3_within se_yX3_within ml_X3_52 dX3_nextRows_11 (ev_within l G h sz (eClr E q) S O od L (ncR O Rd) w0 (ncC O Rd) (nI 100)) (wl_Reader _ _ _ _ _ _ _ _ _) rfl rfl rfl (Nat.le_of_ble_eq_true rfl) ⟨Nat.le_of_ble_eq_true rfl, Nat.le_of_ble_eq_true rfl⟩ ⟨Nat.le_of_ble_eq_true rfl, Nat.le_of_ble_eq_true rfl⟩ ?_
  refine xv_rs ?_
  refine xv_cast (congrArg Value.int wi_nI) ?_
  refine xv_istore_n hC dX3_nextRows_14 rfl (by decide) ?_
  refine xv_iconst (v := nI 0) hC dX3_nextRows_15 (by decide) ?_
  refine xv_istore_n hC dX3_nextRows_16 rfl (by decide) ?_
  refine xv_iconst (v := nI 0) hC dX3_nextRows_17 (by decide) ?_
  refine xv_istore hC dX3_nextRows_18 (by decide) ?_
  have Lp20 : ∀ (n e1 least : Nat) (E1 : cE) (R1 : cR), (e1 + n = nrN O Rd + 1) → (e1 ≤ nrN O Rd) → (R1.1 ≤ 8000) → (least ≤ 101) → (R1.2 = 0 → least ≤ 100) → (nrL O q (n - 1) E1 R1 least = nrF O q E Rd) → xV p l e (xr 2 0 0) s m args below meth c G A 8 (MQ below (xQ G A (none) (sz) (wC G h ((nrF O q E Rd).1) S O od L ((nrF O q E Rd).2) w0)) args s 0 0 A) sz (wC G h (E1) S O od L (R1) w0) 0 0 20 [(4, .int (nI e1)), (3, .int (nI least)), (2, .int (nI (nrN O Rd))), (0, .ref (h + 55)), (1, .ref (eA h q))] [] := by
    intro n
    induction n with
    | zero =>
      intro e1 least E1 R1 he he2 h1 hl hl0 hu
      omega
    | succ n ih20 =>
      intro e1 least E1 R1 he he2 h1 hl hl0 hu
      have hnN : nrN O Rd ≤ 100 := wiN_le (by decide)
      refine xv_iload hC dX3_nextRows_20 rfl ?_
      refine xv_iload_n hC dX3_nextRows_22 rfl rfl ?_
      refine xv_icmp_ge (tgt := 103) hC dX3_nextRows_23 (by decide) (fun h23 => ?_) (fun h23 => ?_)
      · try simp (disch := omega) only [nI_leI, nI_ltI, nI_eq, xz_eq, xz_le, xz_gt, cI_0, cI_n0, cI_inj, lg_cmp_ge, lg_cmp_le, lg_cmp_gt, lg_cmp_lt, lg_cmp_eq, Bool.not_eq_true, Bool.not_eq_false, Nat.not_le, Nat.not_lt] at h23
        exact xv_return hC hr dX3_nextRows_103 rfl rfl (by rw [← hu, nrL_end (by first | exact Or.inl (by omega) | exact Or.inr h30)])
      · try simp (disch := omega) only [nI_leI, nI_ltI, nI_eq, xz_eq, xz_le, xz_gt, cI_0, cI_n0, cI_inj, lg_cmp_ge, lg_cmp_le, lg_cmp_gt, lg_cmp_lt, lg_cmp_eq, Bool.not_eq_true, Bool.not_eq_false, Nat.not_le, Nat.not_lt] at h23
        refine xv_aload_n hC dX3_nextRows_26 rfl rfl ?_
        refine tg_X3_1 hC fl_X3_15 dX3_nextRows_27 ?_
        refine xv_if_ne (tgt := 103) hC dX3_nextRows_30 (by decide) (fun h30 => ?_) (fun h30 => ?_)
        · exact xv_return hC hr dX3_nextRows_103 rfl rfl (by rw [← hu, nrL_end (by first | exact Or.inl (by omega) | exact Or.inr h30)])
        · refine xv_iload_n hC dX3_nextRows_33 rfl rfl ?_
          refine xv_aload_n hC dX3_nextRows_34 rfl rfl ?_
          refine xv_aload_n hC dX3_nextRows_35 rfl rfl ?_
          refine xv_callV hC Y_yX3_nextCount im_yX3_nextCount se_yX3_nextCount ml_X3_48 dX3_nextRows_36 (ev_nextCount l G h sz E1 S O od L R1 w0 hO h1) (wl_Reader _ _ _ _ _ _ _ _ _) rfl rfl rfl (Nat.le_of_ble_eq_true rfl) ⟨Nat.le_of_ble_eq_true rfl, Nat.le_of_ble_eq_true rfl⟩ ⟨Nat.le_of_ble_eq_true rfl, Nat.le_of_ble_eq_true rfl⟩ ?_
          refine xv_rs ?_
          refine xv_bipush (v := nI 99) hC dX3_nextRows_39 (by decide) ?_
          refine xv_iload_n hC dX3_nextRows_41 rfl rfl ?_
          refine xv_isub hC dX3_nextRows_42 ?_
          refine xv_callV hC Y_yX3_within im_yX3_within se_yX3_within ml_X3_52 dX3_nextRows_43 (ev_within l G h sz E1 S O od L (ncR O R1) w0 (ncC O R1) (nrM least)) (wl_Reader _ _ _ _ _ _ _ _ _) rfl rfl rfl (Nat.le_of_ble_eq_true rfl) ⟨Nat.le_of_ble_eq_true rfl, Nat.le_of_ble_eq_true rfl⟩ ⟨Nat.le_of_ble_eq_true rfl, Nat.le_of_ble_eq_true rfl⟩ ?_
          refine xv_rs ?_
          refine xv_cast (congrArg Value.int wi_nI) ?_
          refine xv_iadd hC dX3_nextRows_46 ?_
          refine xv_cast (congrArg Value.int (nI_add _ _)) ?_
          refine xv_istore hC dX3_nextRows_47 (by decide) ?_
          have J92 : xV p l e (xr 2 0 0) s m args below meth c G A 8 (MQ below (xQ G A (none) (sz) (wC G h ((nrF O q E Rd).1) S O od L ((nrF O q E Rd).2) w0)) args s 0 0 A) sz (wC G h (nrE O q E1 R1 least) S O od L (nrR O R1 least) w0) 0 0 92 [(5, .int (nI (nrP O R1 least))), (4, .int (nI e1)), (3, .int (nI least)), (2, .int (nI (nrN O Rd))), (0, .ref (h + 55)), (1, .ref (eA h q))] [] := by
            refine xv_iload hC dX3_nextRows_92 rfl ?_
            refine xv_iconst (v := nI 1) hC dX3_nextRows_94 (by decide) ?_
            refine xv_iadd hC dX3_nextRows_95 ?_
            refine xv_cast (congrArg Value.int (nI_add _ _)) ?_
            refine xv_istore_n hC dX3_nextRows_96 rfl (by decide) ?_
            refine xv_iinc hC dX3_nextRows_97 rfl (xinc _) (by decide) ?_
            refine xv_goto (tgt := 20) hC dX3_nextRows_100 (by decide) ?_
            refine xV.to [(4, .int (nI (e1 + 1))), (3, .int (nI (nrP O R1 least + 1))), (2, .int (nI (nrN O Rd))), (0, .ref (h + 55)), (1, .ref (eA h q))] ⟨rfl, rfl, rfl, rfl, rfl, trivial⟩ ?_
            exact ih20 (e1 + 1) (nrP O R1 least + 1) _ _ (by omega) (by omega) (nrR_le h1 hO) (by have := (nrP_le (O := O) (Rd := R1) (hl0 h30)).1; omega) (fun z => by have := (nrP_le (O := O) (Rd := R1) (hl0 h30)).2 z; omega) (by rw [← hu]; obtain ⟨n', rfl⟩ : ∃ n', n = n' + 1 := ⟨n - 1, by omega⟩; show _ = nrL O q (n' + 1) E1 R1 least; rw [nrL, if_pos h30]; rfl)
          refine xv_aload_n hC dX3_nextRows_49 rfl rfl ?_
          refine xv_callV hC Y_yX3_nextCount im_yX3_nextCount se_yX3_nextCount ml_X3_48 dX3_nextRows_50 (ev_nextCount l G h sz E1 S O od L (nrR1 O R1 least) w0 hO (nrR1_le h1 hO)) (wl_Reader _ _ _ _ _ _ _ _ _) rfl rfl rfl (Nat.le_of_ble_eq_true rfl) ⟨Nat.le_of_ble_eq_true rfl, Nat.le_of_ble_eq_true rfl⟩ ⟨Nat.le_of_ble_eq_true rfl, Nat.le_of_ble_eq_true rfl⟩ ?_
          refine xv_rs ?_
          refine xv_lstore hC dX3_nextRows_53 (by decide) ?_
          refine xv_aload_n hC dX3_nextRows_55 rfl rfl ?_
          refine tg_X3_1 hC fl_X3_15 dX3_nextRows_56 ?_
          refine xv_if_ne (tgt := 92) hC dX3_nextRows_59 (by decide) (fun h59 => ?_) (fun h59 => ?_)
          · refine xv_world (show _ = wC G h (nrE O q E1 R1 least) S O od L (nrR O R1 least) w0 by simp [nrE, nrR, h59]) ?_
            refine xV.to [(5, .int (nI (nrP O R1 least))), (4, .int (nI e1)), (3, .int (nI least)), (2, .int (nI (nrN O Rd))), (0, .ref (h + 55)), (1, .ref (eA h q))] ⟨rfl, rfl, rfl, rfl, rfl, rfl, trivial⟩ ?_
            exact J92
          · have hP : nrP O R1 least < 100 := (nrP_le (O := O) (Rd := R1) (hl0 h30)).2 h59
            refine xv_aload_n hC dX3_nextRows_62 rfl rfl ?_
            refine xv_iload hC dX3_nextRows_63 rfl ?_
            refine xv_lload hC dX3_nextRows_65 rfl ?_
            refine xv_lconst (v := 1) hC dX3_nextRows_67 (by decide) ?_
            refine xv_land hC dX3_nextRows_68 ?_
            refine xv_lconst (v := 0) hC dX3_nextRows_69 (by decide) ?_
            refine xv_lcmp hC dX3_nextRows_70 ?_
            refine xv_if_ne (tgt := 81) hC dX3_nextRows_71 (by decide) (fun h71 => ?_) (fun h71 => ?_)
            · rw [lg_cmp_eq] at h71
              refine xv_ldc2 hC dX3_nextRows_81 kn_X3_56 ?_
              refine xv_lload hC dX3_nextRows_84 rfl ?_
              refine xv_iconst (v := nI 1) hC dX3_nextRows_86 (by decide) ?_
              refine xv_lushr hC dX3_nextRows_87 ?_
              refine xv_lsub hC dX3_nextRows_88 ?_
              refine xv_cast (congrArg Value.long (show _ = zzD (ncC O (nrR1 O R1 least)) by rw [zzD, if_neg h71])) ?_
              refine xv_callV hC Y_yX0_set im_yX0_set se_yX0_set ml_X3_58 dX3_nextRows_89 (ev_set l G h sz E1 S O od L (nrR O R1 least) w0 (q := q) (i := nrP O R1 least) hq hP (zzD (ncC O (nrR1 O R1 least)))) (wl_eA _ _ _ _ _ _ _ _ _ (by first | assumption | omega)) rfl rfl rfl (Nat.le_of_ble_eq_true rfl) ⟨Nat.le_of_ble_eq_true rfl, Nat.le_of_ble_eq_true rfl⟩ ⟨Nat.le_of_ble_eq_true rfl, Nat.le_of_ble_eq_true rfl⟩ ?_
              refine xv_rn ?_
              refine xv_world (show _ = wC G h (nrE O q E1 R1 least) S O od L (nrR O R1 least) w0 by simp [nrE, nrR, h59]) ?_
              refine xV.to [(5, .int (nI (nrP O R1 least))), (4, .int (nI e1)), (3, .int (nI least)), (2, .int (nI (nrN O Rd))), (0, .ref (h + 55)), (1, .ref (eA h q))] ⟨rfl, rfl, rfl, rfl, rfl, rfl, trivial⟩ ?_
              exact J92
            · rw [lg_cmp_eq] at h71
              refine xv_lload hC dX3_nextRows_74 rfl ?_
              refine xv_iconst (v := nI 1) hC dX3_nextRows_76 (by decide) ?_
              refine xv_lushr hC dX3_nextRows_77 ?_
              refine xv_goto (tgt := 89) hC dX3_nextRows_78 (by decide) ?_
              refine xv_cast (congrArg Value.long (show _ = zzD (ncC O (nrR1 O R1 least)) by rw [zzD, if_pos h71])) ?_
              refine xv_callV hC Y_yX0_set im_yX0_set se_yX0_set ml_X3_58 dX3_nextRows_89 (ev_set l G h sz E1 S O od L (nrR O R1 least) w0 (q := q) (i := nrP O R1 least) hq hP (zzD (ncC O (nrR1 O R1 least)))) (wl_eA _ _ _ _ _ _ _ _ _ (by first | assumption | omega)) rfl rfl rfl (Nat.le_of_ble_eq_true rfl) ⟨Nat.le_of_ble_eq_true rfl, Nat.le_of_ble_eq_true rfl⟩ ⟨Nat.le_of_ble_eq_true rfl, Nat.le_of_ble_eq_true rfl⟩ ?_
              refine xv_rn ?_
              refine xv_world (show _ = wC G h (nrE O q E1 R1 least) S O od L (nrR O R1 least) w0 by simp [nrE, nrR, h59]) ?_
              refine xV.to [(5, .int (nI (nrP O R1 least))), (4, .int (nI e1)), (3, .int (nI least)), (2, .int (nI (nrN O Rd))), (0, .ref (h + 55)), (1, .ref (eA h q))] ⟨rfl, rfl, rfl, rfl, rfl, rfl, trivial⟩ ?_
              exact J92
  exact Lp20 (nrN O Rd + 1) 0 0 _ _ (by omega) (by omega) (by rw [wiR_1]; exact ncR_le hp hO) (by omega) (fun _ => by omega) rfl
set_option maxHeartbeats 1000000 in
set_option maxRecDepth 100000 in
theorem evb_startAt (l : Launch) (G : xD) (h sz : Nat) (E : cE) (S : cS) (O : cO) (od : Nat → Int32) (L : cL) (Rd0 : cR) (ra : Nat → Int32) (Rd : cR) (w1 : xw) (n : Nat) : xM l G yX3_startAt cX3_startAt 2 none 0 0 0 [.ref (h + 56), .int (nI n)] sz (wC G h (E) S O od L Rd0 (wX G h ra (Rd) w1)) (none) (sz) (wC G h (E) S O od L Rd0 (wX G h ra ((n, nI 0)) w1)) := by
  refine xM_of (by decide) (Nat.le_of_ble_eq_true rfl) ?_
  intro A p e s m args below meth c hC hr hname
  have hC : xC p s m args meth c cX3_startAt 2 RX3 G A := hC
  have hr : meth.sig.returnType = none := hr
  show xV p l e _ s m args below meth c G A 2 _ sz _ 0 0 0 [(0, .ref (h + 56)), (1, .int (nI n))] []
  refine xv_aload_n hC dX3_startAt_0 rfl rfl ?_
  refine xv_iload_n hC dX3_startAt_1 rfl rfl ?_
  refine tp_X3b_0 hC fl_X3_9 dX3_startAt_2 rfl ?_
  refine xv_aload_n hC dX3_startAt_5 rfl rfl ?_
  refine xv_iconst (v := nI 0) hC dX3_startAt_6 (by decide) ?_
  refine tp_X3b_1 hC fl_X3_15 dX3_startAt_7 ?_
  exact xv_return hC hr dX3_startAt_10 rfl rfl rfl
set_option maxHeartbeats 1000000 in
set_option maxRecDepth 100000 in
theorem evb_refuse (l : Launch) (G : xD) (h sz : Nat) (E : cE) (S : cS) (O : cO) (od : Nat → Int32) (L : cL) (Rd0 : cR) (ra : Nat → Int32) (Rd : cR) (w1 : xw) (x : Int32) : xM l G yX3_refuse cX3_refuse 2 none 0 0 0 [.ref (h + 56), .int x] sz (wC G h (E) S O od L Rd0 (wX G h ra (Rd) w1)) (none) (sz) (wC G h (E) S O od L Rd0 (wX G h ra (rfR Rd x) w1)) := by
  refine xM_of (by decide) (Nat.le_of_ble_eq_true rfl) ?_
  intro A p e s m args below meth c hC hr hname
  have hC : xC p s m args meth c cX3_refuse 2 RX3 G A := hC
  have hr : meth.sig.returnType = none := hr
  show xV p l e _ s m args below meth c G A 2 _ sz _ 0 0 0 [(0, .ref (h + 56)), (1, .int x)] []
  refine xv_aload_n hC dX3_refuse_0 rfl rfl ?_
  refine tg_X3b_1 hC fl_X3_15 dX3_refuse_1 ?_
  refine xv_if_ne (tgt := 12) hC dX3_refuse_4 (by decide) (fun h4 => ?_) (fun h4 => ?_)
  · exact xv_return hC hr dX3_refuse_12 rfl rfl (by simp [rfR, h4])
  · refine xv_aload_n hC dX3_refuse_7 rfl rfl ?_
    refine xv_iload_n hC dX3_refuse_8 rfl rfl ?_
    refine tp_X3b_1 hC fl_X3_15 dX3_refuse_9 ?_
    exact xv_return hC hr dX3_refuse_12 rfl rfl (by simp [rfR, h4])
set_option maxHeartbeats 1000000 in
set_option maxRecDepth 100000 in
theorem evb_next (l : Launch) (G : xD) (h sz : Nat) (E : cE) (S : cS) (O : cO) (od : Nat → Int32) (L : cL) (Rd0 : cR) (ra : Nat → Int32) (Rd : cR) (w1 : xw) (hO : O.2.1 0 ≤ 8000) (hp : Rd.1 ≤ 8000) : xM l G yX3_next cX3_next 2 (some .int) 0 0 0 [.ref (h + 56)] sz (wC G h (E) S O od L Rd0 (wX G h ra (Rd) w1)) (some (.int (nxV O Rd))) (sz) (wC G h (E) S O od L Rd0 (wX G h ra (nxR O Rd) w1)) := by
  refine xM_of (by decide) (Nat.le_of_ble_eq_true rfl) ?_
  intro A p e s m args below meth c hC hr hname
  have hC : xC p s m args meth c cX3_next 2 RX3 G A := hC
  have hr : meth.sig.returnType = (some .int) := hr
  show xV p l e _ s m args below meth c G A 2 _ sz _ 0 0 0 [(0, .ref (h + 56))] []
  refine xv_aload_n hC dX3_next_0 rfl rfl ?_
  refine tg_X3b_1 hC fl_X3_15 dX3_next_1 ?_
  refine xv_if_eq (tgt := 9) hC dX3_next_4 (by decide) (fun h4 => ?_) (fun h4 => ?_)
  · refine xv_aload_n hC dX3_next_9 rfl rfl ?_
    refine tg_X3b_0 hC fl_X3_9 dX3_next_10 ?_
    refine xv_if_lt (tgt := 45) hC dX3_next_13 (by decide) (fun h13 => ?_) (fun h13 => ?_)
    · exact absurd h13 (nI_pos (by omega))
    · refine xv_aload_n hC dX3_next_16 rfl rfl ?_
      refine tg_X3b_0 hC fl_X3_9 dX3_next_17 ?_
      refine xv_aload_n hC dX3_next_20 rfl rfl ?_
      refine tg_X3b_2 hC fl_X3_18 dX3_next_21 ?_
      refine tg_X2_1 hC (by first | assumption | omega) fl_X3_22 dX3_next_24 ?_
      refine xv_icmp_ge (tgt := 45) hC dX3_next_27 (by decide) (fun h27 => ?_) (fun h27 => ?_)
      · try simp (disch := omega) only [nI_leI, nI_ltI, nI_eq, xz_eq, xz_le, xz_gt, cI_0, cI_n0, cI_inj, lg_cmp_ge, lg_cmp_le, lg_cmp_gt, lg_cmp_lt, lg_cmp_eq, Bool.not_eq_true, Bool.not_eq_false, Nat.not_le, Nat.not_lt] at h27
        refine xv_aload_n hC dX3_next_45 rfl rfl ?_
        refine xv_iconst (v := nI 4) hC dX3_next_46 (by decide) ?_
        refine tp_X3b_1 hC fl_X3_15 dX3_next_47 ?_
        refine xv_iconst (v := nI 0) hC dX3_next_50 (by decide) ?_
        exact xv_ireturn hC hr dX3_next_51 (by simp [nxV, h4, Nat.not_lt.mpr h27]) rfl (by simp [nxR, h4, Nat.not_lt.mpr h27])
      · try simp (disch := omega) only [nI_leI, nI_ltI, nI_eq, xz_eq, xz_le, xz_gt, cI_0, cI_n0, cI_inj, lg_cmp_ge, lg_cmp_le, lg_cmp_gt, lg_cmp_lt, lg_cmp_eq, Bool.not_eq_true, Bool.not_eq_false, Nat.not_le, Nat.not_lt] at h27
        refine xv_aload_n hC dX3_next_30 rfl rfl ?_
        refine tg_X3b_0 hC fl_X3_9 dX3_next_31 ?_
        refine xv_aload_n hC dX3_next_34 rfl rfl ?_
        refine tg_X3b_2 hC fl_X3_18 dX3_next_35 ?_
        refine tg_X2_0 hC (by first | assumption | omega) fl_X3_27 dX3_next_38 ?_
        refine tl_bytes hC (by first | assumption | omega) dX3_next_41 ?_
        refine xv_icmp_lt (tgt := 52) hC dX3_next_42 (by decide) (fun h42 => ?_) (fun h42 => ?_)
        · refine xv_aload_n hC dX3_next_52 rfl rfl ?_
          refine tg_X3b_2 hC fl_X3_18 dX3_next_53 ?_
          refine tg_X2_0 hC (by first | assumption | omega) fl_X3_27 dX3_next_56 ?_
          refine xv_aload_n hC dX3_next_59 rfl rfl ?_
          refine tg_X3b_0 hC fl_X3_9 dX3_next_60 ?_
          refine al_bytes hC (by first | assumption | omega) dX3_next_63 rfl (show Rd.1 < 8000 by omega) ?_
          refine xv_sipush (v := nI 255) hC dX3_next_64 (by decide) ?_
          refine xv_iand hC dX3_next_67 ?_
          refine xv_istore_n hC dX3_next_68 rfl (by decide) ?_
          refine xv_aload_n hC dX3_next_69 rfl rfl ?_
          refine xv_dup hC dX3_next_70 rfl ?_
          refine tg_X3b_0 hC fl_X3_9 dX3_next_71 ?_
          refine xv_iconst (v := nI 1) hC dX3_next_74 (by decide) ?_
          refine xv_iadd hC dX3_next_75 ?_
          refine tp_X3b_0 hC fl_X3_9 dX3_next_76 (nI_add _ _) ?_
          refine xv_iload_n hC dX3_next_79 rfl rfl ?_
          exact xv_ireturn hC hr dX3_next_80 (by simp [nxV, h4, h27]) rfl (by simp [nxR, h4, h27])
        · rw [show rm 0 = 8000 from rfl, nI_ltI (by omega) (by omega)] at h42
          omega
  · refine xv_iconst (v := nI 0) hC dX3_next_7 (by decide) ?_
    exact xv_ireturn hC hr dX3_next_8 (by simp [nxV, h4]) rfl (by simp [nxR, h4])
set_option maxHeartbeats 1000000 in
set_option maxRecDepth 100000 in
theorem evb_nextCount (l : Launch) (G : xD) (h sz : Nat) (E : cE) (S : cS) (O : cO) (od : Nat → Int32) (L : cL) (Rd0 : cR) (ra : Nat → Int32) (Rd : cR) (w1 : xw) (hO : O.2.1 0 ≤ 8000) (hp : Rd.1 ≤ 8000) : xM l G yX3_nextCount cX3_nextCount 7 (some .long) 1 0 0 [.ref (h + 56)] sz (wC G h (E) S O od L Rd0 (wX G h ra (Rd) w1)) (some (.long (ncC O Rd))) (sz) (wC G h (E) S O od L Rd0 (wX G h ra (ncR O Rd) w1)) := by
  refine xM_of (by decide) (Nat.le_of_ble_eq_true rfl) ?_
  intro A p e s m args below meth c hC hr hname
  have hC : xC p s m args meth c cX3_nextCount 7 RX3 G A := hC
  have hr : meth.sig.returnType = (some .long) := hr
  show xV p l e _ s m args below meth c G A 7 _ sz _ 0 0 0 [(0, .ref (h + 56))] []
  refine xv_lconst (v := 0) hC dX3_nextCount_0 (by decide) ?_
  refine xv_lstore_n hC dX3_nextCount_1 rfl (by decide) ?_
  have J104 : ∀ (v : Int64) (R1 : cR), (v, R1) = ncL O 10 0 0 Rd → xV p l e (xr 1 0 0) s m args below meth c G A 7 (MQ below (xQ G A (some (.long (ncC O Rd))) (sz) (wC G h (E) S O od L Rd0 (wX G h ra (ncR O Rd) w1))) args s 0 0 A) sz (wC G h (E) S O od L Rd0 (wX G h ra (R1) w1)) 0 0 104 [(1, .long v), (0, .ref (h + 56))] [] := by
    intro v R1 hv
    refine xv_aload_n hC dX3_nextCount_104 rfl rfl ?_
    refine tg_X3b_1 hC fl_X3_15 dX3_nextCount_105 ?_
    refine xv_if_ne (tgt := 115) hC dX3_nextCount_108 (by decide) (fun h108 => ?_) (fun h108 => ?_)
    · refine xv_lconst (v := 0) hC dX3_nextCount_115 (by decide) ?_
      exact xv_lreturn hC hr dX3_nextCount_116 (by simp [ncC, ncR, ← hv, h108]) rfl (by rw [show ncR O Rd = R1 from by rw [ncR, ← hv]])
    · refine xv_lload_n hC dX3_nextCount_111 rfl rfl ?_
      refine xv_goto (tgt := 116) hC dX3_nextCount_112 (by decide) ?_
      exact xv_lreturn hC hr dX3_nextCount_116 (by simp [ncC, ncR, ← hv, h108]) rfl (by rw [show ncR O Rd = R1 from by rw [ncR, ← hv]])
  refine xv_iconst (v := nI 0) hC dX3_nextCount_2 (by decide) ?_
  refine xv_istore_n hC dX3_nextCount_3 rfl (by decide) ?_
  have Lp4 : ∀ (n k : Nat) (v : Int64) (R1 : cR), (k ≤ 10) → (k + n = 11) → (R1.1 ≤ 8000) → (ncL O (n - 1) k v R1 = ncL O 10 0 0 Rd) → xV p l e (xr 1 0 0) s m args below meth c G A 7 (MQ below (xQ G A (some (.long (ncC O Rd))) (sz) (wC G h (E) S O od L Rd0 (wX G h ra (ncR O Rd) w1))) args s 0 0 A) sz (wC G h (E) S O od L Rd0 (wX G h ra (R1) w1)) 0 0 4 [(3, .int (nI k)), (1, .long v), (0, .ref (h + 56))] [] := by
    intro n
    induction n with
    | zero =>
      intro k v R1 hk hn h1 hu
      omega
    | succ n ih4 =>
      intro k v R1 hk hn h1 hu
      refine xv_iload_n hC dX3_nextCount_4 rfl rfl ?_
      refine xv_bipush (v := nI 10) hC dX3_nextCount_5 (by decide) ?_
      refine xv_icmp_ge (tgt := 104) hC dX3_nextCount_7 (by decide) (fun h7 => ?_) (fun h7 => ?_)
      · try simp (disch := omega) only [nI_leI, nI_ltI, nI_eq, xz_eq, xz_le, xz_gt, cI_0, cI_n0, cI_inj, lg_cmp_ge, lg_cmp_le, lg_cmp_gt, lg_cmp_lt, lg_cmp_eq, Bool.not_eq_true, Bool.not_eq_false, Nat.not_le, Nat.not_lt] at h7
        refine xV.to [(1, _), (0, .ref (h + 56))] ⟨rfl, rfl, trivial⟩ ?_
        exact J104 _ _ (by first | (rw [← hu, show n + 1 - 1 = 0 by omega]; rfl) | (rw [← hu, ncL_ft _ _ _ _ h14]) | (rw [← hu]; obtain ⟨n', rfl⟩ : ∃ n', n = n' + 1 := ⟨n - 1, by omega⟩; show _ = ncL O (n' + 1) k v R1; rw [ncL, if_pos h14, if_neg h92]; rfl))
      · try simp (disch := omega) only [nI_leI, nI_ltI, nI_eq, xz_eq, xz_le, xz_gt, cI_0, cI_n0, cI_inj, lg_cmp_ge, lg_cmp_le, lg_cmp_gt, lg_cmp_lt, lg_cmp_eq, Bool.not_eq_true, Bool.not_eq_false, Nat.not_le, Nat.not_lt] at h7
        refine xv_aload_n hC dX3_nextCount_10 rfl rfl ?_
        refine tg_X3b_1 hC fl_X3_15 dX3_nextCount_11 ?_
        refine xv_if_ne (tgt := 104) hC dX3_nextCount_14 (by decide) (fun h14 => ?_) (fun h14 => ?_)
        · refine xV.to [(1, _), (0, .ref (h + 56))] ⟨rfl, rfl, trivial⟩ ?_
          exact J104 _ _ (by first | (rw [← hu, show n + 1 - 1 = 0 by omega]; rfl) | (rw [← hu, ncL_ft _ _ _ _ h14]) | (rw [← hu]; obtain ⟨n', rfl⟩ : ∃ n', n = n' + 1 := ⟨n - 1, by omega⟩; show _ = ncL O (n' + 1) k v R1; rw [ncL, if_pos h14, if_neg h92]; rfl))
        · refine xv_aload_n hC dX3_nextCount_17 rfl rfl ?_
          refine xv_callV hC Y_yX3_next im_yX3_next se_yX3_next ml_X3_31 dX3_nextCount_18 (evb_next l G h sz E S O od L Rd0 ra R1 w1 hO h1) (wl_Readerb _ _ _ _ _ _ _ _ _ _ _) rfl rfl rfl (Nat.le_of_ble_eq_true rfl) ⟨Nat.le_of_ble_eq_true rfl, Nat.le_of_ble_eq_true rfl⟩ ⟨Nat.le_of_ble_eq_true rfl, Nat.le_of_ble_eq_true rfl⟩ ?_
          refine xv_rs ?_
          refine xv_istore hC dX3_nextCount_21 (by decide) ?_
          have J73 : xV p l e (xr 1 0 0) s m args below meth c G A 7 (MQ below (xQ G A (some (.long (ncC O Rd))) (sz) (wC G h (E) S O od L Rd0 (wX G h ra (ncR O Rd) w1))) args s 0 0 A) sz (wC G h (E) S O od L Rd0 (wX G h ra (ncS O k R1) w1)) 0 0 73 [(4, .int (nxV O R1)), (3, .int (nI k)), (1, .long v), (0, .ref (h + 56))] [] := by
            refine xv_lload_n hC dX3_nextCount_73 rfl rfl ?_
            refine xv_iload hC dX3_nextCount_74 rfl ?_
            refine xv_bipush (v := nI 127) hC dX3_nextCount_76 (by decide) ?_
            refine xv_iand hC dX3_nextCount_78 ?_
            refine xv_i2l hC dX3_nextCount_79 ?_
            refine xv_bipush (v := nI 7) hC dX3_nextCount_80 (by decide) ?_
            refine xv_iload_n hC dX3_nextCount_82 rfl rfl ?_
            refine xv_imul hC dX3_nextCount_83 ?_
            refine xv_cast (congrArg Value.int (pk_mul _ _)) ?_
            refine xv_lshl hC dX3_nextCount_84 ?_
            refine xv_lor hC dX3_nextCount_85 ?_
            refine xv_lstore_n hC dX3_nextCount_86 rfl (by decide) ?_
            refine xv_iload hC dX3_nextCount_87 rfl ?_
            refine xv_sipush (v := nI 128) hC dX3_nextCount_89 (by decide) ?_
            refine xv_icmp_ge (tgt := 98) hC dX3_nextCount_92 (by decide) (fun h92 => ?_) (fun h92 => ?_)
            · refine xv_iinc hC dX3_nextCount_98 rfl (xinc _) (by decide) ?_
              refine xv_goto (tgt := 4) hC dX3_nextCount_101 (by decide) ?_
              refine xV.to [(3, .int (nI (k + 1))), (1, .long (ncV k v (nxV O R1))), (0, .ref (h + 56))] ⟨rfl, rfl, rfl, trivial⟩ ?_
              exact ih4 (k + 1) (ncV k v (nxV O R1)) (ncS O k R1) (by omega) (by omega) (ncS_le h1 hO) (by rw [← hu]; obtain ⟨n', rfl⟩ : ∃ n', n = n' + 1 := ⟨n - 1, by omega⟩; show _ = ncL O (n' + 1) k v R1; rw [ncL, if_pos h14, if_pos h92]; rfl)
            · refine xv_goto (tgt := 104) hC dX3_nextCount_95 (by decide) ?_
              refine xV.to [(1, _), (0, .ref (h + 56))] ⟨rfl, rfl, trivial⟩ ?_
              exact J104 _ _ (by first | (rw [← hu, show n + 1 - 1 = 0 by omega]; rfl) | (rw [← hu, ncL_ft _ _ _ _ h14]) | (rw [← hu]; obtain ⟨n', rfl⟩ : ∃ n', n = n' + 1 := ⟨n - 1, by omega⟩; show _ = ncL O (n' + 1) k v R1; rw [ncL, if_pos h14, if_neg h92]; rfl))
          refine xv_iload_n hC dX3_nextCount_23 rfl rfl ?_
          refine xv_if_le (tgt := 36) hC dX3_nextCount_24 (by decide) (fun h24 => ?_) (fun h24 => ?_)
          · rw [xz_le (by omega)] at h24
            refine xv_iconst (v := nI 0) hC dX3_nextCount_36 (by decide) ?_
            refine xv_istore hC dX3_nextCount_37 (by decide) ?_
            refine xv_iload_n hC dX3_nextCount_39 rfl rfl ?_
            refine xv_bipush (v := nI 9) hC dX3_nextCount_40 (by decide) ?_
            refine xv_icmp_ne (tgt := 55) hC dX3_nextCount_42 (by decide) (fun h42 => ?_) (fun h42 => ?_)
            · rw [nI_eq (by omega) (by omega)] at h42
              refine xv_iconst (v := nI 0) hC dX3_nextCount_55 (by decide) ?_
              refine xv_istore hC dX3_nextCount_56 (by decide) ?_
              refine xv_iload hC dX3_nextCount_58 rfl ?_
              refine xv_if_ne (tgt := 68) hC dX3_nextCount_60 (by decide) (fun h60 => ?_) (fun h60 => ?_)
              · exact absurd h60 (by decide)
              · refine xv_iload hC dX3_nextCount_63 rfl ?_
                refine xv_if_eq (tgt := 73) hC dX3_nextCount_65 (by decide) (fun h65 => ?_) (fun h65 => ?_)
                · refine xv_world (show _ = wC G h (E) S O od L Rd0 (wX G h ra (ncS O k R1) w1) by first | (exfalso; omega) | simp [ncS, nless, tomu, *]) ?_
                  refine xV.to [(4, .int (nxV O R1)), (3, .int (nI k)), (1, .long v), (0, .ref (h + 56))] ⟨rfl, rfl, rfl, rfl, trivial⟩ ?_
                  exact J73
                · exact absurd h65 (by decide)
            · rw [nI_eq (by omega) (by omega)] at h42
              refine xv_iload hC dX3_nextCount_45 rfl ?_
              refine xv_iconst (v := nI 1) hC dX3_nextCount_47 (by decide) ?_
              refine xv_icmp_le (tgt := 55) hC dX3_nextCount_48 (by decide) (fun h48 => ?_) (fun h48 => ?_)
              · have h48 : ¬ nI 1 < nxV O R1 := Int32.not_lt.mpr h48
                refine xv_iconst (v := nI 0) hC dX3_nextCount_55 (by decide) ?_
                refine xv_istore hC dX3_nextCount_56 (by decide) ?_
                refine xv_iload hC dX3_nextCount_58 rfl ?_
                refine xv_if_ne (tgt := 68) hC dX3_nextCount_60 (by decide) (fun h60 => ?_) (fun h60 => ?_)
                · exact absurd h60 (by decide)
                · refine xv_iload hC dX3_nextCount_63 rfl ?_
                  refine xv_if_eq (tgt := 73) hC dX3_nextCount_65 (by decide) (fun h65 => ?_) (fun h65 => ?_)
                  · refine xv_world (show _ = wC G h (E) S O od L Rd0 (wX G h ra (ncS O k R1) w1) by first | (exfalso; omega) | simp [ncS, nless, tomu, *]) ?_
                    refine xV.to [(4, .int (nxV O R1)), (3, .int (nI k)), (1, .long v), (0, .ref (h + 56))] ⟨rfl, rfl, rfl, rfl, trivial⟩ ?_
                    exact J73
                  · exact absurd h65 (by decide)
              · have h48 : nI 1 < nxV O R1 := Int32.not_le.mp h48
                refine xv_iconst (v := nI 1) hC dX3_nextCount_51 (by decide) ?_
                refine xv_goto (tgt := 56) hC dX3_nextCount_52 (by decide) ?_
                refine xv_istore hC dX3_nextCount_56 (by decide) ?_
                refine xv_iload hC dX3_nextCount_58 rfl ?_
                refine xv_if_ne (tgt := 68) hC dX3_nextCount_60 (by decide) (fun h60 => ?_) (fun h60 => ?_)
                · exact absurd h60 (by decide)
                · refine xv_iload hC dX3_nextCount_63 rfl ?_
                  refine xv_if_eq (tgt := 73) hC dX3_nextCount_65 (by decide) (fun h65 => ?_) (fun h65 => ?_)
                  · exact absurd h65 (by decide)
                  · refine xv_aload_n hC dX3_nextCount_68 rfl rfl ?_
                    refine xv_iconst (v := nI 5) hC dX3_nextCount_69 (by decide) ?_
                    refine xv_callV hC Y_yX3_refuse im_yX3_refuse se_yX3_refuse ml_X3_35 dX3_nextCount_70 (evb_refuse l G h sz E S O od L Rd0 ra (nxR O R1) w1 (nI 5)) (wl_Readerb _ _ _ _ _ _ _ _ _ _ _) rfl rfl rfl (Nat.le_of_ble_eq_true rfl) ⟨Nat.le_of_ble_eq_true rfl, Nat.le_of_ble_eq_true rfl⟩ ⟨Nat.le_of_ble_eq_true rfl, Nat.le_of_ble_eq_true rfl⟩ ?_
                    refine xv_rn ?_
                    refine xv_world (show _ = wC G h (E) S O od L Rd0 (wX G h ra (ncS O k R1) w1) by first | (exfalso; omega) | simp [ncS, nless, tomu, *]) ?_
                    refine xV.to [(4, .int (nxV O R1)), (3, .int (nI k)), (1, .long v), (0, .ref (h + 56))] ⟨rfl, rfl, rfl, rfl, trivial⟩ ?_
                    exact J73
          · rw [xz_le (by omega)] at h24
            have h24 : 0 < k := by omega
            refine xv_iload hC dX3_nextCount_27 rfl ?_
            refine xv_if_ne (tgt := 36) hC dX3_nextCount_29 (by decide) (fun h29 => ?_) (fun h29 => ?_)
            · refine xv_iconst (v := nI 0) hC dX3_nextCount_36 (by decide) ?_
              refine xv_istore hC dX3_nextCount_37 (by decide) ?_
              refine xv_iload_n hC dX3_nextCount_39 rfl rfl ?_
              refine xv_bipush (v := nI 9) hC dX3_nextCount_40 (by decide) ?_
              refine xv_icmp_ne (tgt := 55) hC dX3_nextCount_42 (by decide) (fun h42 => ?_) (fun h42 => ?_)
              · rw [nI_eq (by omega) (by omega)] at h42
                refine xv_iconst (v := nI 0) hC dX3_nextCount_55 (by decide) ?_
                refine xv_istore hC dX3_nextCount_56 (by decide) ?_
                refine xv_iload hC dX3_nextCount_58 rfl ?_
                refine xv_if_ne (tgt := 68) hC dX3_nextCount_60 (by decide) (fun h60 => ?_) (fun h60 => ?_)
                · exact absurd h60 (by decide)
                · refine xv_iload hC dX3_nextCount_63 rfl ?_
                  refine xv_if_eq (tgt := 73) hC dX3_nextCount_65 (by decide) (fun h65 => ?_) (fun h65 => ?_)
                  · refine xv_world (show _ = wC G h (E) S O od L Rd0 (wX G h ra (ncS O k R1) w1) by first | (exfalso; omega) | simp [ncS, nless, tomu, *]) ?_
                    refine xV.to [(4, .int (nxV O R1)), (3, .int (nI k)), (1, .long v), (0, .ref (h + 56))] ⟨rfl, rfl, rfl, rfl, trivial⟩ ?_
                    exact J73
                  · exact absurd h65 (by decide)
              · rw [nI_eq (by omega) (by omega)] at h42
                refine xv_iload hC dX3_nextCount_45 rfl ?_
                refine xv_iconst (v := nI 1) hC dX3_nextCount_47 (by decide) ?_
                refine xv_icmp_le (tgt := 55) hC dX3_nextCount_48 (by decide) (fun h48 => ?_) (fun h48 => ?_)
                · have h48 : ¬ nI 1 < nxV O R1 := Int32.not_lt.mpr h48
                  refine xv_iconst (v := nI 0) hC dX3_nextCount_55 (by decide) ?_
                  refine xv_istore hC dX3_nextCount_56 (by decide) ?_
                  refine xv_iload hC dX3_nextCount_58 rfl ?_
                  refine xv_if_ne (tgt := 68) hC dX3_nextCount_60 (by decide) (fun h60 => ?_) (fun h60 => ?_)
                  · exact absurd h60 (by decide)
                  · refine xv_iload hC dX3_nextCount_63 rfl ?_
                    refine xv_if_eq (tgt := 73) hC dX3_nextCount_65 (by decide) (fun h65 => ?_) (fun h65 => ?_)
                    · refine xv_world (show _ = wC G h (E) S O od L Rd0 (wX G h ra (ncS O k R1) w1) by first | (exfalso; omega) | simp [ncS, nless, tomu, *]) ?_
                      refine xV.to [(4, .int (nxV O R1)), (3, .int (nI k)), (1, .long v), (0, .ref (h + 56))] ⟨rfl, rfl, rfl, rfl, trivial⟩ ?_
                      exact J73
                    · exact absurd h65 (by decide)
                · have h48 : nI 1 < nxV O R1 := Int32.not_le.mp h48
                  refine xv_iconst (v := nI 1) hC dX3_nextCount_51 (by decide) ?_
                  refine xv_goto (tgt := 56) hC dX3_nextCount_52 (by decide) ?_
                  refine xv_istore hC dX3_nextCount_56 (by decide) ?_
                  refine xv_iload hC dX3_nextCount_58 rfl ?_
                  refine xv_if_ne (tgt := 68) hC dX3_nextCount_60 (by decide) (fun h60 => ?_) (fun h60 => ?_)
                  · exact absurd h60 (by decide)
                  · refine xv_iload hC dX3_nextCount_63 rfl ?_
                    refine xv_if_eq (tgt := 73) hC dX3_nextCount_65 (by decide) (fun h65 => ?_) (fun h65 => ?_)
                    · exact absurd h65 (by decide)
                    · refine xv_aload_n hC dX3_nextCount_68 rfl rfl ?_
                      refine xv_iconst (v := nI 5) hC dX3_nextCount_69 (by decide) ?_
                      refine xv_callV hC Y_yX3_refuse im_yX3_refuse se_yX3_refuse ml_X3_35 dX3_nextCount_70 (evb_refuse l G h sz E S O od L Rd0 ra (nxR O R1) w1 (nI 5)) (wl_Readerb _ _ _ _ _ _ _ _ _ _ _) rfl rfl rfl (Nat.le_of_ble_eq_true rfl) ⟨Nat.le_of_ble_eq_true rfl, Nat.le_of_ble_eq_true rfl⟩ ⟨Nat.le_of_ble_eq_true rfl, Nat.le_of_ble_eq_true rfl⟩ ?_
                      refine xv_rn ?_
                      refine xv_world (show _ = wC G h (E) S O od L Rd0 (wX G h ra (ncS O k R1) w1) by first | (exfalso; omega) | simp [ncS, nless, tomu, *]) ?_
                      refine xV.to [(4, .int (nxV O R1)), (3, .int (nI k)), (1, .long v), (0, .ref (h + 56))] ⟨rfl, rfl, rfl, rfl, trivial⟩ ?_
                      exact J73
            · refine xv_iconst (v := nI 1) hC dX3_nextCount_32 (by decide) ?_
              refine xv_goto (tgt := 37) hC dX3_nextCount_33 (by decide) ?_
              refine xv_istore hC dX3_nextCount_37 (by decide) ?_
              refine xv_iload_n hC dX3_nextCount_39 rfl rfl ?_
              refine xv_bipush (v := nI 9) hC dX3_nextCount_40 (by decide) ?_
              refine xv_icmp_ne (tgt := 55) hC dX3_nextCount_42 (by decide) (fun h42 => ?_) (fun h42 => ?_)
              · rw [nI_eq (by omega) (by omega)] at h42
                refine xv_iconst (v := nI 0) hC dX3_nextCount_55 (by decide) ?_
                refine xv_istore hC dX3_nextCount_56 (by decide) ?_
                refine xv_iload hC dX3_nextCount_58 rfl ?_
                refine xv_if_ne (tgt := 68) hC dX3_nextCount_60 (by decide) (fun h60 => ?_) (fun h60 => ?_)
                · refine xv_aload_n hC dX3_nextCount_68 rfl rfl ?_
                  refine xv_iconst (v := nI 5) hC dX3_nextCount_69 (by decide) ?_
                  refine xv_callV hC Y_yX3_refuse im_yX3_refuse se_yX3_refuse ml_X3_35 dX3_nextCount_70 (evb_refuse l G h sz E S O od L Rd0 ra (nxR O R1) w1 (nI 5)) (wl_Readerb _ _ _ _ _ _ _ _ _ _ _) rfl rfl rfl (Nat.le_of_ble_eq_true rfl) ⟨Nat.le_of_ble_eq_true rfl, Nat.le_of_ble_eq_true rfl⟩ ⟨Nat.le_of_ble_eq_true rfl, Nat.le_of_ble_eq_true rfl⟩ ?_
                  refine xv_rn ?_
                  refine xv_world (show _ = wC G h (E) S O od L Rd0 (wX G h ra (ncS O k R1) w1) by first | (exfalso; omega) | simp [ncS, nless, tomu, *]) ?_
                  refine xV.to [(4, .int (nxV O R1)), (3, .int (nI k)), (1, .long v), (0, .ref (h + 56))] ⟨rfl, rfl, rfl, rfl, trivial⟩ ?_
                  exact J73
                · exact absurd h60 (by decide)
              · rw [nI_eq (by omega) (by omega)] at h42
                refine xv_iload hC dX3_nextCount_45 rfl ?_
                refine xv_iconst (v := nI 1) hC dX3_nextCount_47 (by decide) ?_
                refine xv_icmp_le (tgt := 55) hC dX3_nextCount_48 (by decide) (fun h48 => ?_) (fun h48 => ?_)
                · have h48 : ¬ nI 1 < nxV O R1 := Int32.not_lt.mpr h48
                  refine xv_iconst (v := nI 0) hC dX3_nextCount_55 (by decide) ?_
                  refine xv_istore hC dX3_nextCount_56 (by decide) ?_
                  refine xv_iload hC dX3_nextCount_58 rfl ?_
                  refine xv_if_ne (tgt := 68) hC dX3_nextCount_60 (by decide) (fun h60 => ?_) (fun h60 => ?_)
                  · refine xv_aload_n hC dX3_nextCount_68 rfl rfl ?_
                    refine xv_iconst (v := nI 5) hC dX3_nextCount_69 (by decide) ?_
                    refine xv_callV hC Y_yX3_refuse im_yX3_refuse se_yX3_refuse ml_X3_35 dX3_nextCount_70 (evb_refuse l G h sz E S O od L Rd0 ra (nxR O R1) w1 (nI 5)) (wl_Readerb _ _ _ _ _ _ _ _ _ _ _) rfl rfl rfl (Nat.le_of_ble_eq_true rfl) ⟨Nat.le_of_ble_eq_true rfl, Nat.le_of_ble_eq_true rfl⟩ ⟨Nat.le_of_ble_eq_true rfl, Nat.le_of_ble_eq_true rfl⟩ ?_
                    refine xv_rn ?_
                    refine xv_world (show _ = wC G h (E) S O od L Rd0 (wX G h ra (ncS O k R1) w1) by first | (exfalso; omega) | simp [ncS, nless, tomu, *]) ?_
                    refine xV.to [(4, .int (nxV O R1)), (3, .int (nI k)), (1, .long v), (0, .ref (h + 56))] ⟨rfl, rfl, rfl, rfl, trivial⟩ ?_
                    exact J73
                  · exact absurd h60 (by decide)
                · have h48 : nI 1 < nxV O R1 := Int32.not_le.mp h48
                  refine xv_iconst (v := nI 1) hC dX3_nextCount_51 (by decide) ?_
                  refine xv_goto (tgt := 56) hC dX3_nextCount_52 (by decide) ?_
                  refine xv_istore hC dX3_nextCount_56 (by decide) ?_
                  refine xv_iload hC dX3_nextCount_58 rfl ?_
                  refine xv_if_ne (tgt := 68) hC dX3_nextCount_60 (by decide) (fun h60 => ?_) (fun h60 => ?_)
                  · refine xv_aload_n hC dX3_nextCount_68 rfl rfl ?_
                    refine xv_iconst (v := nI 5) hC dX3_nextCount_69 (by decide) ?_
                    refine xv_callV hC Y_yX3_refuse im_yX3_refuse se_yX3_refuse ml_X3_35 dX3_nextCount_70 (evb_refuse l G h sz E S O od L Rd0 ra (nxR O R1) w1 (nI 5)) (wl_Readerb _ _ _ _ _ _ _ _ _ _ _) rfl rfl rfl (Nat.le_of_ble_eq_true rfl) ⟨Nat.le_of_ble_eq_true rfl, Nat.le_of_ble_eq_true rfl⟩ ⟨Nat.le_of_ble_eq_true rfl, Nat.le_of_ble_eq_true rfl⟩ ?_
                    refine xv_rn ?_
                    refine xv_world (show _ = wC G h (E) S O od L Rd0 (wX G h ra (ncS O k R1) w1) by first | (exfalso; omega) | simp [ncS, nless, tomu, *]) ?_
                    refine xV.to [(4, .int (nxV O R1)), (3, .int (nI k)), (1, .long v), (0, .ref (h + 56))] ⟨rfl, rfl, rfl, rfl, trivial⟩ ?_
                    exact J73
                  · exact absurd h60 (by decide)
  exact Lp4 11 0 0 Rd (by omega) (by omega) hp rfl
set_option maxHeartbeats 1000000 in
set_option maxRecDepth 100000 in
theorem evb_within (l : Launch) (G : xD) (h sz : Nat) (E : cE) (S : cS) (O : cO) (od : Nat → Int32) (L : cL) (Rd0 : cR) (ra : Nat → Int32) (Rd : cR) (w1 : xw) (x : Int64) (y : Int32) : xM l G yX3_within cX3_within 4 (some .int) 1 0 0 [.ref (h + 56), .long x, .int y] sz (wC G h (E) S O od L Rd0 (wX G h ra (Rd) w1)) (some (.int (wiV Rd x y))) (sz) (wC G h (E) S O od L Rd0 (wX G h ra (wiR Rd x y) w1)) := by
  refine xM_of (by decide) (Nat.le_of_ble_eq_true rfl) ?_
  intro A p e s m args below meth c hC hr hname
  have hC : xC p s m args meth c cX3_within 4 RX3 G A := hC
  have hr : meth.sig.returnType = (some .int) := hr
  show xV p l e _ s m args below meth c G A 4 _ sz _ 0 0 0 [(0, .ref (h + 56)), (1, .long x), (3, .int y)] []
  have J18 : xV p l e (xr 1 0 0) s m args below meth c G A 4 (MQ below (xQ G A (some (.int (wiV Rd x y))) (sz) (wC G h (E) S O od L Rd0 (wX G h ra (wiR Rd x y) w1))) args s 0 0 A) sz (wC G h (E) S O od L Rd0 (wX G h ra (wiR Rd x y) w1)) 0 0 18 [(0, .ref (h + 56)), (1, .long x), (3, .int y)] [] := by
    refine xv_aload_n hC dX3_within_18 rfl rfl ?_
    refine tg_X3b_1 hC fl_X3_15 dX3_within_19 ?_
    refine xv_if_ne (tgt := 30) hC dX3_within_22 (by decide) (fun h22 => ?_) (fun h22 => ?_)
    · refine xv_iconst (v := nI 0) hC dX3_within_30 (by decide) ?_
      exact xv_ireturn hC hr dX3_within_31 (by simp [wiV, h22]) rfl rfl
    · refine xv_lload_n hC dX3_within_25 rfl rfl ?_
      refine xv_l2i hC dX3_within_26 ?_
      refine xv_goto (tgt := 31) hC dX3_within_27 (by decide) ?_
      exact xv_ireturn hC hr dX3_within_31 (by simp [wiV, h22]) rfl rfl
  refine xv_lload_n hC dX3_within_0 rfl rfl ?_
  refine xv_lconst (v := 0) hC dX3_within_1 (by decide) ?_
  refine xv_lcmp hC dX3_within_2 ?_
  refine xv_if_lt (tgt := 13) hC dX3_within_3 (by decide) (fun h3 => ?_) (fun h3 => ?_)
  · try simp (disch := omega) only [nI_leI, nI_ltI, nI_eq, xz_eq, xz_le, xz_gt, cI_0, cI_n0, cI_inj, lg_cmp_ge, lg_cmp_le, lg_cmp_gt, lg_cmp_lt, lg_cmp_eq, Bool.not_eq_true, Bool.not_eq_false, Nat.not_le, Nat.not_lt] at h3
    refine xv_aload_n hC dX3_within_13 rfl rfl ?_
    refine xv_iconst (v := nI 5) hC dX3_within_14 (by decide) ?_
    refine xv_callV hC Y_yX3_refuse im_yX3_refuse se_yX3_refuse ml_X3_35 dX3_within_15 (evb_refuse l G h sz E S O od L Rd0 ra Rd w1 (nI 5)) (wl_Readerb _ _ _ _ _ _ _ _ _ _ _) rfl rfl rfl (Nat.le_of_ble_eq_true rfl) ⟨Nat.le_of_ble_eq_true rfl, Nat.le_of_ble_eq_true rfl⟩ ⟨Nat.le_of_ble_eq_true rfl, Nat.le_of_ble_eq_true rfl⟩ ?_
    refine xv_rn ?_
    refine xv_world (show _ = wC G h (E) S O od L Rd0 (wX G h ra (wiR Rd x y) w1) by simp [wiR, wiB, *]) ?_
    exact J18
  · try simp (disch := omega) only [nI_leI, nI_ltI, nI_eq, xz_eq, xz_le, xz_gt, cI_0, cI_n0, cI_inj, lg_cmp_ge, lg_cmp_le, lg_cmp_gt, lg_cmp_lt, lg_cmp_eq, Bool.not_eq_true, Bool.not_eq_false, Nat.not_le, Nat.not_lt] at h3
    refine xv_lload_n hC dX3_within_6 rfl rfl ?_
    refine xv_iload_n hC dX3_within_7 rfl rfl ?_
    refine xv_i2l hC dX3_within_8 ?_
    refine xv_lcmp hC dX3_within_9 ?_
    refine xv_if_le (tgt := 18) hC dX3_within_10 (by decide) (fun h10 => ?_) (fun h10 => ?_)
    · rw [lg_cmp_le] at h10
      have h10 : ¬ y.toInt64 < x := Int64.not_lt.mpr h10
      refine xv_world (show _ = wC G h (E) S O od L Rd0 (wX G h ra (wiR Rd x y) w1) by simp [wiR, wiB, *]) ?_
      exact J18
    · rw [lg_cmp_le] at h10
      have h10 : y.toInt64 < x := Int64.not_le.mp h10
      refine xv_aload_n hC dX3_within_13 rfl rfl ?_
      refine xv_iconst (v := nI 5) hC dX3_within_14 (by decide) ?_
      refine xv_callV hC Y_yX3_refuse im_yX3_refuse se_yX3_refuse ml_X3_35 dX3_within_15 (evb_refuse l G h sz E S O od L Rd0 ra Rd w1 (nI 5)) (wl_Readerb _ _ _ _ _ _ _ _ _ _ _) rfl rfl rfl (Nat.le_of_ble_eq_true rfl) ⟨Nat.le_of_ble_eq_true rfl, Nat.le_of_ble_eq_true rfl⟩ ⟨Nat.le_of_ble_eq_true rfl, Nat.le_of_ble_eq_true rfl⟩ ?_
      refine xv_rn ?_
      refine xv_world (show _ = wC G h (E) S O od L Rd0 (wX G h ra (wiR Rd x y) w1) by simp [wiR, wiB, *]) ?_
      exact J18
set_option maxHeartbeats 1000000 in
set_option maxRecDepth 100000 in
theorem evb_nextRows (l : Launch) (G : xD) (h sz : Nat) (E : cE) (S : cS) (O : cO) (od : Nat → Int32) (L : cL) (Rd0 : cR) (ra : Nat → Int32) (Rd : cR) (w1 : xw) (hO : O.2.1 0 ≤ 8000) (hp : Rd.1 ≤ 8000) {q : Nat} (hq : q < 12 ∨ q = 25) : xM l G yX3_nextRows cX3_nextRows 8 none 2 0 0 [.ref (h + 56), .ref (eA h q)] sz (wC G h (E) S O od L Rd0 (wX G h ra (Rd) w1)) (none) (sz) (wC G h ((nrF O q E Rd).1) S O od L Rd0 (wX G h ra ((nrF O q E Rd).2) w1)) := by
  refine xM_of (by decide) (Nat.le_of_ble_eq_true rfl) ?_
  intro A p e s m args below meth c hC hr hname
  have hC : xC p s m args meth c cX3_nextRows 8 RX3 G A := hC
  have hr : meth.sig.returnType = none := hr
  show xV p l e _ s m args below meth c G A 8 _ sz _ 0 0 0 [(0, .ref (h + 56)), (1, .ref (eA h q))] []
  refine xv_aload_n hC dX3_nextRows_0 rfl rfl ?_
  refine xv_callV hC Y_yX0_clear im_yX0_clear se_yX0_clear ml_X3_43 dX3_nextRows_1 (ev_clear l G h sz E S O od L Rd0 (wX G h ra Rd w1) hq) (wl_eA _ _ _ _ _ _ _ _ _ (by first | assumption | omega)) rfl rfl rfl (Nat.le_of_ble_eq_true rfl) ⟨Nat.le_of_ble_eq_true rfl, Nat.le_of_ble_eq_true rfl⟩ ⟨Nat.le_of_ble_eq_true rfl, Nat.le_of_ble_eq_true rfl⟩ ?_
  refine xv_rn ?_
  refine xv_aload_n hC dX3_nextRows_4 rfl rfl ?_
  refine xv_aload_n hC dX3_nextRows_5 rfl rfl ?_
  refine xv_callV hC Y_yX3_nextCount im_yX3_nextCount se_yX3_nextCount ml_X3_48 dX3_nextRows_6 (evb_nextCount l G h sz (eClr E q) S O od L Rd0 ra Rd w1 hO hp) (wl_Readerb _ _ _ _ _ _ _ _ _ _ _) rfl rfl rfl (Nat.le_of_ble_eq_true rfl) ⟨Nat.le_of_ble_eq_true rfl, Nat.le_of_ble_eq_true rfl⟩ ⟨Nat.le_of_ble_eq_true rfl, Nat.le_of_ble_eq_true rfl⟩ ?_
  refine xv_rs ?_
  refine xv_bipush (v := nI 100) hC dX3_nextRows_9 (by decide) ?_
  refine xv_callV hC Y_yX3_within im_yX3_within se_yX3_within ml_X3_52 dX3_nextRows_11 (evb_within l G h sz (eClr E q) S O od L Rd0 ra (ncR O Rd) w1 (ncC O Rd) (nI 100)) (wl_Readerb _ _ _ _ _ _ _ _ _ _ _) rfl rfl rfl (Nat.le_of_ble_eq_true rfl) ⟨Nat.le_of_ble_eq_true rfl, Nat.le_of_ble_eq_true rfl⟩ ⟨Nat.le_of_ble_eq_true rfl, Nat.le_of_ble_eq_true rfl⟩ ?_
  refine xv_rs ?_
  refine xv_cast (congrArg Value.int wi_nI) ?_
  refine xv_istore_n hC dX3_nextRows_14 rfl (by decide) ?_
  refine xv_iconst (v := nI 0) hC dX3_nextRows_15 (by decide) ?_
  refine xv_istore_n hC dX3_nextRows_16 rfl (by decide) ?_
  refine xv_iconst (v := nI 0) hC dX3_nextRows_17 (by decide) ?_
  refine xv_istore hC dX3_nextRows_18 (by decide) ?_
  have Lp20 : ∀ (n e1 least : Nat) (E1 : cE) (R1 : cR), (e1 + n = nrN O Rd + 1) → (e1 ≤ nrN O Rd) → (R1.1 ≤ 8000) → (least ≤ 101) → (R1.2 = 0 → least ≤ 100) → (nrL O q (n - 1) E1 R1 least = nrF O q E Rd) → xV p l e (xr 2 0 0) s m args below meth c G A 8 (MQ below (xQ G A (none) (sz) (wC G h ((nrF O q E Rd).1) S O od L Rd0 (wX G h ra ((nrF O q E Rd).2) w1))) args s 0 0 A) sz (wC G h (E1) S O od L Rd0 (wX G h ra (R1) w1)) 0 0 20 [(4, .int (nI e1)), (3, .int (nI least)), (2, .int (nI (nrN O Rd))), (0, .ref (h + 56)), (1, .ref (eA h q))] [] := by
    intro n
    induction n with
    | zero =>
      intro e1 least E1 R1 he he2 h1 hl hl0 hu
      omega
    | succ n ih20 =>
      intro e1 least E1 R1 he he2 h1 hl hl0 hu
      have hnN : nrN O Rd ≤ 100 := wiN_le (by decide)
      refine xv_iload hC dX3_nextRows_20 rfl ?_
      refine xv_iload_n hC dX3_nextRows_22 rfl rfl ?_
      refine xv_icmp_ge (tgt := 103) hC dX3_nextRows_23 (by decide) (fun h23 => ?_) (fun h23 => ?_)
      · try simp (disch := omega) only [nI_leI, nI_ltI, nI_eq, xz_eq, xz_le, xz_gt, cI_0, cI_n0, cI_inj, lg_cmp_ge, lg_cmp_le, lg_cmp_gt, lg_cmp_lt, lg_cmp_eq, Bool.not_eq_true, Bool.not_eq_false, Nat.not_le, Nat.not_lt] at h23
        exact xv_return hC hr dX3_nextRows_103 rfl rfl (by rw [← hu, nrL_end (by first | exact Or.inl (by omega) | exact Or.inr h30)])
      · try simp (disch := omega) only [nI_leI, nI_ltI, nI_eq, xz_eq, xz_le, xz_gt, cI_0, cI_n0, cI_inj, lg_cmp_ge, lg_cmp_le, lg_cmp_gt, lg_cmp_lt, lg_cmp_eq, Bool.not_eq_true, Bool.not_eq_false, Nat.not_le, Nat.not_lt] at h23
        refine xv_aload_n hC dX3_nextRows_26 rfl rfl ?_
        refine tg_X3b_1 hC fl_X3_15 dX3_nextRows_27 ?_
        refine xv_if_ne (tgt := 103) hC dX3_nextRows_30 (by decide) (fun h30 => ?_) (fun h30 => ?_)
        · exact xv_return hC hr dX3_nextRows_103 rfl rfl (by rw [← hu, nrL_end (by first | exact Or.inl (by omega) | exact Or.inr h30)])
        · refine xv_iload_n hC dX3_nextRows_33 rfl rfl ?_
          refine xv_aload_n hC dX3_nextRows_34 rfl rfl ?_
          refine xv_aload_n hC dX3_nextRows_35 rfl rfl ?_
          refine xv_callV hC Y_yX3_nextCount im_yX3_nextCount se_yX3_nextCount ml_X3_48 dX3_nextRows_36 (evb_nextCount l G h sz E1 S O od L Rd0 ra R1 w1 hO h1) (wl_Readerb _ _ _ _ _ _ _ _ _ _ _) rfl rfl rfl (Nat.le_of_ble_eq_true rfl) ⟨Nat.le_of_ble_eq_true rfl, Nat.le_of_ble_eq_true rfl⟩ ⟨Nat.le_of_ble_eq_true rfl, Nat.le_of_ble_eq_true rfl⟩ ?_
          refine xv_rs ?_
          refine xv_bipush (v := nI 99) hC dX3_nextRows_39 (by decide) ?_
          refine xv_iload_n hC dX3_nextRows_41 rfl rfl ?_
          refine xv_isub hC dX3_nextRows_42 ?_
          refine xv_callV hC Y_yX3_within im_yX3_within se_yX3_within ml_X3_52 dX3_nextRows_43 (evb_within l G h sz E1 S O od L Rd0 ra (ncR O R1) w1 (ncC O R1) (nrM least)) (wl_Readerb _ _ _ _ _ _ _ _ _ _ _) rfl rfl rfl (Nat.le_of_ble_eq_true rfl) ⟨Nat.le_of_ble_eq_true rfl, Nat.le_of_ble_eq_true rfl⟩ ⟨Nat.le_of_ble_eq_true rfl, Nat.le_of_ble_eq_true rfl⟩ ?_
          refine xv_rs ?_
          refine xv_cast (congrArg Value.int wi_nI) ?_
          refine xv_iadd hC dX3_nextRows_46 ?_
          refine xv_cast (congrArg Value.int (nI_add _ _)) ?_
          refine xv_istore hC dX3_nextRows_47 (by decide) ?_
          have J92 : xV p l e (xr 2 0 0) s m args below meth c G A 8 (MQ below (xQ G A (none) (sz) (wC G h ((nrF O q E Rd).1) S O od L Rd0 (wX G h ra ((nrF O q E Rd).2) w1))) args s 0 0 A) sz (wC G h (nrE O q E1 R1 least) S O od L Rd0 (wX G h ra (nrR O R1 least) w1)) 0 0 92 [(5, .int (nI (nrP O R1 least))), (4, .int (nI e1)), (3, .int (nI least)), (2, .int (nI (nrN O Rd))), (0, .ref (h + 56)), (1, .ref (eA h q))] [] := by
            refine xv_iload hC dX3_nextRows_92 rfl ?_
            refine xv_iconst (v := nI 1) hC dX3_nextRows_94 (by decide) ?_
            refine xv_iadd hC dX3_nextRows_95 ?_
            refine xv_cast (congrArg Value.int (nI_add _ _)) ?_
            refine xv_istore_n hC dX3_nextRows_96 rfl (by decide) ?_
            refine xv_iinc hC dX3_nextRows_97 rfl (xinc _) (by decide) ?_
            refine xv_goto (tgt := 20) hC dX3_nextRows_100 (by decide) ?_
            refine xV.to [(4, .int (nI (e1 + 1))), (3, .int (nI (nrP O R1 least + 1))), (2, .int (nI (nrN O Rd))), (0, .ref (h + 56)), (1, .ref (eA h q))] ⟨rfl, rfl, rfl, rfl, rfl, trivial⟩ ?_
            exact ih20 (e1 + 1) (nrP O R1 least + 1) _ _ (by omega) (by omega) (nrR_le h1 hO) (by have := (nrP_le (O := O) (Rd := R1) (hl0 h30)).1; omega) (fun z => by have := (nrP_le (O := O) (Rd := R1) (hl0 h30)).2 z; omega) (by rw [← hu]; obtain ⟨n', rfl⟩ : ∃ n', n = n' + 1 := ⟨n - 1, by omega⟩; show _ = nrL O q (n' + 1) E1 R1 least; rw [nrL, if_pos h30]; rfl)
          refine xv_aload_n hC dX3_nextRows_49 rfl rfl ?_
          refine xv_callV hC Y_yX3_nextCount im_yX3_nextCount se_yX3_nextCount ml_X3_48 dX3_nextRows_50 (evb_nextCount l G h sz E1 S O od L Rd0 ra (nrR1 O R1 least) w1 hO (nrR1_le h1 hO)) (wl_Readerb _ _ _ _ _ _ _ _ _ _ _) rfl rfl rfl (Nat.le_of_ble_eq_true rfl) ⟨Nat.le_of_ble_eq_true rfl, Nat.le_of_ble_eq_true rfl⟩ ⟨Nat.le_of_ble_eq_true rfl, Nat.le_of_ble_eq_true rfl⟩ ?_
          refine xv_rs ?_
          refine xv_lstore hC dX3_nextRows_53 (by decide) ?_
          refine xv_aload_n hC dX3_nextRows_55 rfl rfl ?_
          refine tg_X3b_1 hC fl_X3_15 dX3_nextRows_56 ?_
          refine xv_if_ne (tgt := 92) hC dX3_nextRows_59 (by decide) (fun h59 => ?_) (fun h59 => ?_)
          · refine xv_world (show _ = wC G h (nrE O q E1 R1 least) S O od L Rd0 (wX G h ra (nrR O R1 least) w1) by simp [nrE, nrR, h59]) ?_
            refine xV.to [(5, .int (nI (nrP O R1 least))), (4, .int (nI e1)), (3, .int (nI least)), (2, .int (nI (nrN O Rd))), (0, .ref (h + 56)), (1, .ref (eA h q))] ⟨rfl, rfl, rfl, rfl, rfl, rfl, trivial⟩ ?_
            exact J92
          · have hP : nrP O R1 least < 100 := (nrP_le (O := O) (Rd := R1) (hl0 h30)).2 h59
            refine xv_aload_n hC dX3_nextRows_62 rfl rfl ?_
            refine xv_iload hC dX3_nextRows_63 rfl ?_
            refine xv_lload hC dX3_nextRows_65 rfl ?_
            refine xv_lconst (v := 1) hC dX3_nextRows_67 (by decide) ?_
            refine xv_land hC dX3_nextRows_68 ?_
            refine xv_lconst (v := 0) hC dX3_nextRows_69 (by decide) ?_
            refine xv_lcmp hC dX3_nextRows_70 ?_
            refine xv_if_ne (tgt := 81) hC dX3_nextRows_71 (by decide) (fun h71 => ?_) (fun h71 => ?_)
            · rw [lg_cmp_eq] at h71
              refine xv_ldc2 hC dX3_nextRows_81 kn_X3_56 ?_
              refine xv_lload hC dX3_nextRows_84 rfl ?_
              refine xv_iconst (v := nI 1) hC dX3_nextRows_86 (by decide) ?_
              refine xv_lushr hC dX3_nextRows_87 ?_
              refine xv_lsub hC dX3_nextRows_88 ?_
              refine xv_cast (congrArg Value.long (show _ = zzD (ncC O (nrR1 O R1 least)) by rw [zzD, if_neg h71])) ?_
              refine xv_callV hC Y_yX0_set im_yX0_set se_yX0_set ml_X3_58 dX3_nextRows_89 (ev_set l G h sz E1 S O od L Rd0 (wX G h ra (nrR O R1 least) w1) (q := q) (i := nrP O R1 least) hq hP (zzD (ncC O (nrR1 O R1 least)))) (wl_eA _ _ _ _ _ _ _ _ _ (by first | assumption | omega)) rfl rfl rfl (Nat.le_of_ble_eq_true rfl) ⟨Nat.le_of_ble_eq_true rfl, Nat.le_of_ble_eq_true rfl⟩ ⟨Nat.le_of_ble_eq_true rfl, Nat.le_of_ble_eq_true rfl⟩ ?_
              refine xv_rn ?_
              refine xv_world (show _ = wC G h (nrE O q E1 R1 least) S O od L Rd0 (wX G h ra (nrR O R1 least) w1) by simp [nrE, nrR, h59]) ?_
              refine xV.to [(5, .int (nI (nrP O R1 least))), (4, .int (nI e1)), (3, .int (nI least)), (2, .int (nI (nrN O Rd))), (0, .ref (h + 56)), (1, .ref (eA h q))] ⟨rfl, rfl, rfl, rfl, rfl, rfl, trivial⟩ ?_
              exact J92
            · rw [lg_cmp_eq] at h71
              refine xv_lload hC dX3_nextRows_74 rfl ?_
              refine xv_iconst (v := nI 1) hC dX3_nextRows_76 (by decide) ?_
              refine xv_lushr hC dX3_nextRows_77 ?_
              refine xv_goto (tgt := 89) hC dX3_nextRows_78 (by decide) ?_
              refine xv_cast (congrArg Value.long (show _ = zzD (ncC O (nrR1 O R1 least)) by rw [zzD, if_pos h71])) ?_
              refine xv_callV hC Y_yX0_set im_yX0_set se_yX0_set ml_X3_58 dX3_nextRows_89 (ev_set l G h sz E1 S O od L Rd0 (wX G h ra (nrR O R1 least) w1) (q := q) (i := nrP O R1 least) hq hP (zzD (ncC O (nrR1 O R1 least)))) (wl_eA _ _ _ _ _ _ _ _ _ (by first | assumption | omega)) rfl rfl rfl (Nat.le_of_ble_eq_true rfl) ⟨Nat.le_of_ble_eq_true rfl, Nat.le_of_ble_eq_true rfl⟩ ⟨Nat.le_of_ble_eq_true rfl, Nat.le_of_ble_eq_true rfl⟩ ?_
              refine xv_rn ?_
              refine xv_world (show _ = wC G h (nrE O q E1 R1 least) S O od L Rd0 (wX G h ra (nrR O R1 least) w1) by simp [nrE, nrR, h59]) ?_
              refine xV.to [(5, .int (nI (nrP O R1 least))), (4, .int (nI e1)), (3, .int (nI least)), (2, .int (nI (nrN O Rd))), (0, .ref (h + 56)), (1, .ref (eA h q))] ⟨rfl, rfl, rfl, rfl, rfl, rfl, trivial⟩ ?_
              exact J92
  exact Lp20 (nrN O Rd + 1) 0 0 _ _ (by omega) (by omega) (by rw [wiR_1]; exact ncR_le hp hO) (by omega) (fun _ => by omega) rfl
