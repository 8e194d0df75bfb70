set_option maxHeartbeats 1000000 in
set_option maxRecDepth 100000 in
theorem em_readCount (l : Launch) (G : xD) (g sz : Nat) (M : mT) (w0 : xw) (O : cO) (hMO : mBy M O) (hO : O.2.1 0 ≤ 8000) (hat : (mRd M).1 ≤ O.2.1 0) (hre : mRe (mRd M)) : xM l G yX7_readCount cX7_readCount 4 none 1 0 0 [.ref g] sz (wM G g (M) w0) (none) (sz) (wM G g (mK (mS M (ncR O (mRd M))) (ncL O 10 0 0 (mRd M)).1) w0) := by
  refine xM_of (by decide) (Nat.le_of_ble_eq_true rfl) ?_
  intro A p e s m args below meth c hC hr hname
  have hC : xC p s m args meth c cX7_readCount 4 RX7 G A := hC
  have hr : meth.sig.returnType = none := hr
  show xV p l e _ s m args below meth c G A 4 _ sz _ 0 0 0 [(0, .ref g)] []
  refine xv_aload_n hC dX7_readCount_0 rfl rfl ?_
  refine xv_lconst (v := 0) hC dX7_readCount_1 (by decide) ?_
  refine tp_X7_24 hC fl_X7_154 dX7_readCount_2 ?_
  refine xv_iconst (v := nI 1) hC dX7_readCount_5 (by decide) ?_
  refine xv_istore_n hC dX7_readCount_6 rfl (by decide) ?_
  refine xv_iconst (v := nI 0) hC dX7_readCount_7 (by decide) ?_
  refine xv_istore_n hC dX7_readCount_8 rfl (by decide) ?_
  have Lp9 : ∀ (n k : Nat) (r1 : cR) (v1 : Int64) (mo : Bool), (1 ≤ n) → (k + (n - 1) = 10) → (r1.1 ≤ O.2.1 0) → (mRe r1) → ((if mo = true then ncL O (n - 1) k v1 r1 else (v1, r1)) = ncL O 10 0 0 (mRd M)) → xV p l e (xr 1 0 0) s m args below meth c G A 4 (MQ below (xQ G A (none) (sz) (wM G g (mK (mS M (ncR O (mRd M))) (ncL O 10 0 0 (mRd M)).1) w0)) args s 0 0 A) sz (wM G g (mK (mS M r1) v1) w0) 0 0 9 [(2, .int (nI k)), (1, .int (cI mo)), (0, .ref g)] [] := by
    intro n
    induction n with
    | zero =>
      intro k r1 v1 mo hn1 hk hr1 he1 hu
      omega
    | succ n ih9 =>
      intro k r1 v1 mo hn1 hk hr1 he1 hu
      refine xv_iload_n hC dX7_readCount_9 rfl rfl ?_
      refine xv_bipush (v := nI 10) hC dX7_readCount_10 (by decide) ?_
      refine xv_icmp_ge (tgt := 103) hC dX7_readCount_12 (by decide) (fun h12 => ?_) (fun h12 => ?_)
      · try simp (disch := omega) only [nI_leI, nI_ltI, nI_eq, xz_eq, xz_le, xz_gt, cI_0, cI_n0, cI_inj, lg_cmp_ge, lg_cmp_le, lg_cmp_gt, lg_cmp_lt, lg_cmp_eq, Bool.not_eq_true, Bool.not_eq_false, Nat.not_le, Nat.not_lt] at h12
        exact xv_return hC hr dX7_readCount_103 rfl rfl (by first | rw [ncR, rc_end hu (Or.inl (show n + 1 - 1 = 0 by omega))] | rw [ncR, rc_end hu (Or.inr (Or.inl h16))] | rw [ncR, rc_end hu (Or.inr (Or.inr h23))])
      · try simp (disch := omega) only [nI_leI, nI_ltI, nI_eq, xz_eq, xz_le, xz_gt, cI_0, cI_n0, cI_inj, lg_cmp_ge, lg_cmp_le, lg_cmp_gt, lg_cmp_lt, lg_cmp_eq, Bool.not_eq_true, Bool.not_eq_false, Nat.not_le, Nat.not_lt] at h12
        refine xv_iload_n hC dX7_readCount_15 rfl rfl ?_
        refine xv_if_eq (tgt := 103) hC dX7_readCount_16 (by decide) (fun h16 => ?_) (fun h16 => ?_)
        · have h16 : mo = false := cI_0.mp h16
          exact xv_return hC hr dX7_readCount_103 rfl rfl (by first | rw [ncR, rc_end hu (Or.inl (show n + 1 - 1 = 0 by omega))] | rw [ncR, rc_end hu (Or.inr (Or.inl h16))] | rw [ncR, rc_end hu (Or.inr (Or.inr h23))])
        · have h16 : mo = true := cI_n0.mp h16
          refine xv_aload_n hC dX7_readCount_19 rfl rfl ?_
          refine tg_X7_23 hC fl_X7_148 dX7_readCount_20 ?_
          refine xv_if_ne (tgt := 103) hC dX7_readCount_23 (by decide) (fun h23 => ?_) (fun h23 => ?_)
          · have h23 : ¬ r1.2 = 0 := h23
            exact xv_return hC hr dX7_readCount_103 rfl rfl (by first | rw [ncR, rc_end hu (Or.inl (show n + 1 - 1 = 0 by omega))] | rw [ncR, rc_end hu (Or.inr (Or.inl h16))] | rw [ncR, rc_end hu (Or.inr (Or.inr h23))])
          · have h23 : r1.2 = 0 := h23
            refine xv_aload_n hC dX7_readCount_26 rfl rfl ?_
            refine xv_callV hC Y_yX7_next im_yX7_next se_yX7_next ml_X7_158 dX7_readCount_27 (em_next l G g sz (mK (mS M r1) v1) w0 O ⟨hMO.1, hMO.2⟩ hO hr1 he1) (ml_w_obj _ _ _ _) rfl rfl rfl (Nat.le_of_ble_eq_true rfl) ⟨Nat.le_of_ble_eq_true rfl, Nat.le_of_ble_eq_true rfl⟩ ⟨Nat.le_of_ble_eq_true rfl, Nat.le_of_ble_eq_true rfl⟩ ?_
            refine xv_rs ?_
            refine xv_cast (show _ = Value.int (nxV O r1) from rfl) ?_
            refine xv_world (show _ = wM G g (mK (mS M (nxR O r1)) v1) w0 from congrArg (fun z => wM G g z w0) (mS_K _ _ _ _)) ?_
            refine xv_istore_n hC dX7_readCount_30 rfl (by decide) ?_
            refine xv_aload_n hC dX7_readCount_31 rfl rfl ?_
            refine xv_iload_n hC dX7_readCount_32 rfl rfl ?_
            have J63 : xV p l e (xr 1 0 0) s m args below meth c G A 4 (MQ below (xQ G A (none) (sz) (wM G g (mK (mS M (ncR O (mRd M))) (ncL O 10 0 0 (mRd M)).1) w0)) args s 0 0 A) sz (wM G g (mK (mS M (nxR O r1)) v1) w0) 0 0 63 [(3, .int (nxV O r1)), (2, .int (nI k)), (1, .int (cI mo)), (0, .ref g)] [.int (cI (rcF k (nxV O r1) (nxR O r1))), .ref g] := by
              refine xv_callV hC Y_yX7_need im_yX7_need se_yX7_need ml_X7_161 dX7_readCount_63 (em_need l G g sz (mK (mS M (nxR O r1)) v1) w0 (rcF k (nxV O r1) (nxR O r1))) (ml_w_obj _ _ _ _) rfl rfl rfl (Nat.le_of_ble_eq_true rfl) ⟨Nat.le_of_ble_eq_true rfl, Nat.le_of_ble_eq_true rfl⟩ ⟨Nat.le_of_ble_eq_true rfl, Nat.le_of_ble_eq_true rfl⟩ ?_
              refine xv_rn ?_
              refine xv_world (show _ = wM G g (mK (mS M (ncS O k r1)) v1) w0 by rw [show mRd (mK (mS M (nxR O r1)) v1) = nxR O r1 from rfl, rcF_S, mS_K]) ?_
              refine xv_aload_n hC dX7_readCount_66 rfl rfl ?_
              refine xv_aload_n hC dX7_readCount_67 rfl rfl ?_
              refine tg_X7_24 hC fl_X7_154 dX7_readCount_68 ?_
              refine xv_iload_n hC dX7_readCount_71 rfl rfl ?_
              refine xv_bipush (v := nI 127) hC dX7_readCount_72 (by decide) ?_
              refine xv_iand hC dX7_readCount_74 ?_
              refine xv_i2l hC dX7_readCount_75 ?_
              refine xv_bipush (v := nI 7) hC dX7_readCount_76 (by decide) ?_
              refine xv_iload_n hC dX7_readCount_78 rfl rfl ?_
              refine xv_imul hC dX7_readCount_79 ?_
              refine xv_cast (congrArg Value.int (pk_mul _ _)) ?_
              refine xv_lshl hC dX7_readCount_80 ?_
              refine xv_lor hC dX7_readCount_81 ?_
              refine tp_X7_24 hC fl_X7_154 dX7_readCount_82 ?_
              refine xv_world (show _ = wM G g (mK (mS M (ncS O k r1)) (ncV k v1 (nxV O r1))) w0 from rfl) ?_
              refine xv_iload_n hC dX7_readCount_85 rfl rfl ?_
              refine xv_bipush (v := nI 127) hC dX7_readCount_86 (by decide) ?_
              refine xv_icmp_le (tgt := 95) hC dX7_readCount_88 (by decide) (fun h88 => ?_) (fun h88 => ?_)
              · have h88 : nxV O r1 ≤ nI 127 := h88
                refine xv_iconst (v := nI 0) hC dX7_readCount_95 (by decide) ?_
                refine xv_istore_n hC dX7_readCount_96 rfl (by decide) ?_
                refine xv_iinc hC dX7_readCount_97 rfl (xinc _) (by decide) ?_
                refine xv_goto (tgt := 9) hC dX7_readCount_100 (by decide) ?_
                obtain ⟨n', rfl⟩ : ∃ n', n = n' + 1 := ⟨n - 1, by omega⟩
                have hg := rc_go (n := n') hu h16 h23
                have hb := nxV_nI O r1
                refine xV.to [(2, .int (nI (k + 1))), (1, .int (cI (decide (nI 128 ≤ nxV O r1)))), (0, .ref g)] ⟨rfl, (by first | (apply Eq.symm; apply rN1; rw [decide_eq_true_eq, hb.1]; rw [hb.1] at h88; rw [nI_ltI (by omega) (by omega)] at h88; rw [nI_leI (by omega) (by omega)]; omega) | (apply Eq.symm; apply rN0; rw [decide_eq_false_iff_not, hb.1]; rw [hb.1] at h88; rw [nI_leI (by omega) (by omega)] at h88; rw [nI_leI (by omega) (by omega)]; omega)), rfl, trivial⟩ ?_
                exact ih9 (k + 1) (ncS O k r1) (ncV k v1 (nxV O r1)) _ (by omega) (by omega) (ncS_le hr1 (Nat.le_refl _)) (he1.nc O k) hg
              · have h88 : nI 127 < nxV O r1 := Int32.not_le.mp h88
                refine xv_iconst (v := nI 1) hC dX7_readCount_91 (by decide) ?_
                refine xv_goto (tgt := 96) hC dX7_readCount_92 (by decide) ?_
                refine xv_istore_n hC dX7_readCount_96 rfl (by decide) ?_
                refine xv_iinc hC dX7_readCount_97 rfl (xinc _) (by decide) ?_
                refine xv_goto (tgt := 9) hC dX7_readCount_100 (by decide) ?_
                obtain ⟨n', rfl⟩ : ∃ n', n = n' + 1 := ⟨n - 1, by omega⟩
                have hg := rc_go (n := n') hu h16 h23
                have hb := nxV_nI O r1
                refine xV.to [(2, .int (nI (k + 1))), (1, .int (cI (decide (nI 128 ≤ nxV O r1)))), (0, .ref g)] ⟨rfl, (by first | (apply Eq.symm; apply rN1; rw [decide_eq_true_eq, hb.1]; rw [hb.1] at h88; rw [nI_ltI (by omega) (by omega)] at h88; rw [nI_leI (by omega) (by omega)]; omega) | (apply Eq.symm; apply rN0; rw [decide_eq_false_iff_not, hb.1]; rw [hb.1] at h88; rw [nI_leI (by omega) (by omega)] at h88; rw [nI_leI (by omega) (by omega)]; omega)), rfl, trivial⟩ ?_
                exact ih9 (k + 1) (ncS O k r1) (ncV k v1 (nxV O r1)) _ (by omega) (by omega) (ncS_le hr1 (Nat.le_refl _)) (he1.nc O k) hg
            refine xv_if_le (tgt := 47) hC dX7_readCount_33 (by decide) (fun h33 => ?_) (fun h33 => ?_)
            · rw [xz_le (by omega)] at h33
              have hA : rcA k (nxV O r1) (nxR O r1) = false := by rw [rcA, h33]; rfl
              refine xv_iload_n hC dX7_readCount_47 rfl rfl ?_
              refine xv_bipush (v := nI 9) hC dX7_readCount_48 (by decide) ?_
              refine xv_icmp_ne (tgt := 58) hC dX7_readCount_50 (by decide) (fun h50 => ?_) (fun h50 => ?_)
              · have h50 : ¬ k = 9 := fun z => h50 (congrArg nI z)
                have hB : tomu k (nxV O r1) = false := by rw [tomu, decide_eq_false h50]; rfl
                refine xv_iconst (v := nI 1) hC dX7_readCount_58 (by decide) ?_
                refine xv_goto (tgt := 63) hC dX7_readCount_59 (by decide) ?_
                refine xv_cast (congrArg Value.int (show _ = cI (rcF k (nxV O r1) (nxR O r1)) by first | exact c1_of (rcF_1 hA hB) | exact c0_of (rcF_0a hA) | exact c0_of (rcF_0b hB))) ?_
                exact J63
              · have h50 : k = 9 := (nI_eq (by omega) (by omega)).mp h50
                refine xv_iload_n hC dX7_readCount_53 rfl rfl ?_
                refine xv_iconst (v := nI 1) hC dX7_readCount_54 (by decide) ?_
                refine xv_icmp_gt (tgt := 62) hC dX7_readCount_55 (by decide) (fun h55 => ?_) (fun h55 => ?_)
                · have hB : tomu k (nxV O r1) = true := by rw [tomu, decide_eq_true h50, decide_eq_true h55]; rfl
                  refine xv_iconst (v := nI 0) hC dX7_readCount_62 (by decide) ?_
                  refine xv_cast (congrArg Value.int (show _ = cI (rcF k (nxV O r1) (nxR O r1)) by first | exact c1_of (rcF_1 hA hB) | exact c0_of (rcF_0a hA) | exact c0_of (rcF_0b hB))) ?_
                  exact J63
                · have hB : tomu k (nxV O r1) = false := by rw [tomu, decide_eq_false h55, Bool.and_false]
                  refine xv_iconst (v := nI 1) hC dX7_readCount_58 (by decide) ?_
                  refine xv_goto (tgt := 63) hC dX7_readCount_59 (by decide) ?_
                  refine xv_cast (congrArg Value.int (show _ = cI (rcF k (nxV O r1) (nxR O r1)) by first | exact c1_of (rcF_1 hA hB) | exact c0_of (rcF_0a hA) | exact c0_of (rcF_0b hB))) ?_
                  exact J63
            · rw [xz_le (by omega)] at h33
              refine xv_iload_n hC dX7_readCount_36 rfl rfl ?_
              refine xv_if_ne (tgt := 47) hC dX7_readCount_37 (by decide) (fun h37 => ?_) (fun h37 => ?_)
              · have hA : rcA k (nxV O r1) (nxR O r1) = false := by rw [rcA, decide_eq_false h37, Bool.false_and, Bool.and_false]
                refine xv_iload_n hC dX7_readCount_47 rfl rfl ?_
                refine xv_bipush (v := nI 9) hC dX7_readCount_48 (by decide) ?_
                refine xv_icmp_ne (tgt := 58) hC dX7_readCount_50 (by decide) (fun h50 => ?_) (fun h50 => ?_)
                · have h50 : ¬ k = 9 := fun z => h50 (congrArg nI z)
                  have hB : tomu k (nxV O r1) = false := by rw [tomu, decide_eq_false h50]; rfl
                  refine xv_iconst (v := nI 1) hC dX7_readCount_58 (by decide) ?_
                  refine xv_goto (tgt := 63) hC dX7_readCount_59 (by decide) ?_
                  refine xv_cast (congrArg Value.int (show _ = cI (rcF k (nxV O r1) (nxR O r1)) by first | exact c1_of (rcF_1 hA hB) | exact c0_of (rcF_0a hA) | exact c0_of (rcF_0b hB))) ?_
                  exact J63
                · have h50 : k = 9 := (nI_eq (by omega) (by omega)).mp h50
                  refine xv_iload_n hC dX7_readCount_53 rfl rfl ?_
                  refine xv_iconst (v := nI 1) hC dX7_readCount_54 (by decide) ?_
                  refine xv_icmp_gt (tgt := 62) hC dX7_readCount_55 (by decide) (fun h55 => ?_) (fun h55 => ?_)
                  · have hB : tomu k (nxV O r1) = true := by rw [tomu, decide_eq_true h50, decide_eq_true h55]; rfl
                    refine xv_iconst (v := nI 0) hC dX7_readCount_62 (by decide) ?_
                    refine xv_cast (congrArg Value.int (show _ = cI (rcF k (nxV O r1) (nxR O r1)) by first | exact c1_of (rcF_1 hA hB) | exact c0_of (rcF_0a hA) | exact c0_of (rcF_0b hB))) ?_
                    exact J63
                  · have hB : tomu k (nxV O r1) = false := by rw [tomu, decide_eq_false h55, Bool.and_false]
                    refine xv_iconst (v := nI 1) hC dX7_readCount_58 (by decide) ?_
                    refine xv_goto (tgt := 63) hC dX7_readCount_59 (by decide) ?_
                    refine xv_cast (congrArg Value.int (show _ = cI (rcF k (nxV O r1) (nxR O r1)) by first | exact c1_of (rcF_1 hA hB) | exact c0_of (rcF_0a hA) | exact c0_of (rcF_0b hB))) ?_
                    exact J63
              · refine xv_aload_n hC dX7_readCount_40 rfl rfl ?_
                refine tg_X7_23 hC fl_X7_148 dX7_readCount_41 ?_
                refine xv_if_eq (tgt := 62) hC dX7_readCount_44 (by decide) (fun h44 => ?_) (fun h44 => ?_)
                · have h44 : (nxR O r1).2 = 0 := h44
                  have hA : rcA k (nxV O r1) (nxR O r1) = true := by rw [rcA, decide_eq_true (Nat.pos_of_ne_zero h33), decide_eq_true h37, decide_eq_true h44]; rfl
                  refine xv_iconst (v := nI 0) hC dX7_readCount_62 (by decide) ?_
                  refine xv_cast (congrArg Value.int (show _ = cI (rcF k (nxV O r1) (nxR O r1)) by first | exact c1_of (rcF_1 hA hB) | exact c0_of (rcF_0a hA) | exact c0_of (rcF_0b hB))) ?_
                  exact J63
                · have h44 : ¬ (nxR O r1).2 = 0 := h44
                  have hA : rcA k (nxV O r1) (nxR O r1) = false := by rw [rcA, decide_eq_false h44, Bool.and_false, Bool.and_false]
                  refine xv_iload_n hC dX7_readCount_47 rfl rfl ?_
                  refine xv_bipush (v := nI 9) hC dX7_readCount_48 (by decide) ?_
                  refine xv_icmp_ne (tgt := 58) hC dX7_readCount_50 (by decide) (fun h50 => ?_) (fun h50 => ?_)
                  · have h50 : ¬ k = 9 := fun z => h50 (congrArg nI z)
                    have hB : tomu k (nxV O r1) = false := by rw [tomu, decide_eq_false h50]; rfl
                    refine xv_iconst (v := nI 1) hC dX7_readCount_58 (by decide) ?_
                    refine xv_goto (tgt := 63) hC dX7_readCount_59 (by decide) ?_
                    refine xv_cast (congrArg Value.int (show _ = cI (rcF k (nxV O r1) (nxR O r1)) by first | exact c1_of (rcF_1 hA hB) | exact c0_of (rcF_0a hA) | exact c0_of (rcF_0b hB))) ?_
                    exact J63
                  · have h50 : k = 9 := (nI_eq (by omega) (by omega)).mp h50
                    refine xv_iload_n hC dX7_readCount_53 rfl rfl ?_
                    refine xv_iconst (v := nI 1) hC dX7_readCount_54 (by decide) ?_
                    refine xv_icmp_gt (tgt := 62) hC dX7_readCount_55 (by decide) (fun h55 => ?_) (fun h55 => ?_)
                    · have hB : tomu k (nxV O r1) = true := by rw [tomu, decide_eq_true h50, decide_eq_true h55]; rfl
                      refine xv_iconst (v := nI 0) hC dX7_readCount_62 (by decide) ?_
                      refine xv_cast (congrArg Value.int (show _ = cI (rcF k (nxV O r1) (nxR O r1)) by first | exact c1_of (rcF_1 hA hB) | exact c0_of (rcF_0a hA) | exact c0_of (rcF_0b hB))) ?_
                      exact J63
                    · have hB : tomu k (nxV O r1) = false := by rw [tomu, decide_eq_false h55, Bool.and_false]
                      refine xv_iconst (v := nI 1) hC dX7_readCount_58 (by decide) ?_
                      refine xv_goto (tgt := 63) hC dX7_readCount_59 (by decide) ?_
                      refine xv_cast (congrArg Value.int (show _ = cI (rcF k (nxV O r1) (nxR O r1)) by first | exact c1_of (rcF_1 hA hB) | exact c0_of (rcF_0a hA) | exact c0_of (rcF_0b hB))) ?_
                      exact J63
  refine xv_world (show _ = wM G g (mK (mS M (mRd M)) 0) w0 by rw [mS_id]) ?_
  refine xV.to [(2, .int (nI 0)), (1, .int (cI true)), (0, .ref g)] ⟨rfl, rfl, rfl, trivial⟩ ?_
  exact Lp9 11 0 (mRd M) 0 true (by omega) (by omega) hat hre rfl
theorem em_nextN (l : Launch) (G : xD) (g sz : Nat) (M : mT) (w0 : xw) (O : cO) (hMO : mBy M O) (hO : O.2.1 0 ≤ 8000) (r : cR) (hr : r.1 ≤ O.2.1 0) (he : mRe r) (c : Int64) : xM l G yX7_next cX7_next 1 (some .int) 0 0 0 [.ref g] sz (wM G g (mK (mS M r) c) w0) (some (.int (nxV O r))) sz (wM G g (mK (mS M (nxR O r)) c) w0) := by
  have h := em_next l G g sz (mK (mS M r) c) w0 O ⟨hMO.1, hMO.2⟩ hO hr he
  rw [mS_K] at h
  exact h
theorem em_needN (l : Launch) (G : xD) (g sz : Nat) (M : mT) (w0 : xw) (r : cR) (c : Int64) (b : Bool) : xM l G yX7_need cX7_need 2 none 0 0 0 [.ref g, .int (cI b)] sz (wM G g (mK (mS M r) c) w0) none sz (wM G g (mK (mS M (ndR r b)) c) w0) := by
  have h := em_need l G g sz (mK (mS M r) c) w0 b
  rw [mS_K] at h
  exact h
theorem em_countN (l : Launch) (G : xD) (g sz : Nat) (M : mT) (w0 : xw) (O : cO) (hMO : mBy M O) (hO : O.2.1 0 ≤ 8000) (r : cR) (hr : r.1 ≤ O.2.1 0) (he : mRe r) (c : Int64) : xM l G yX7_readCount cX7_readCount 4 none 1 0 0 [.ref g] sz (wM G g (mK (mS M r) c) w0) none sz (wM G g (mK (mS M (ncR O r)) (ncL O 10 0 0 r).1) w0) := by
  have h := em_readCount l G g sz (mK (mS M r) c) w0 O ⟨hMO.1, hMO.2⟩ hO hr he
  rw [show mRd (mK (mS M r) c) = r from rfl, mS_K, mK_K] at h
  exact h
set_option maxHeartbeats 1000000 in
set_option maxRecDepth 100000 in
theorem em_readRows (l : Launch) (G : xD) (g sz : Nat) (M : mT) (w0 : xw) (O : cO) (hMO : mBy M O) (hO : O.2.1 0 ≤ 8000) (hat : (mRd M).1 ≤ O.2.1 0) (hre : mRe (mRd M)) (E : cE) {p1 : Nat} (hp : p1 < 12) (hv : ∀ i, i < 100 → mj M 21 (100 * p1 + i) = E.2.1 (13 + p1) i) : xN l G yX7_readRows cX7_readRows 5 none 2 0 0 [.ref g, .int (nI p1)] sz (wM G g (M) w0) (fun r w => r = none ∧ ∃ (Z : Nat → Bool) (J : Nat → Int64) (c : Int64), w = wM G g (mK (mS (mJ (mZ M 20 Z) 21 J) (nrF O (13 + p1) E (mRd M)).2) c) w0 ∧ rwP M p1 (nrF O (13 + p1) E (mRd M)).1 (13 + p1) Z J) (sz) := by
  refine xN_of (by decide) (Nat.le_of_ble_eq_true rfl) ?_
  intro A p e s m args below meth c hC hr hname
  have hC : xC p s m args meth c cX7_readRows 5 RX7 G A := hC
  have hr : meth.sig.returnType = none := hr
  show xV p l e _ s m args below meth c G A 5 _ sz _ 0 0 0 [(0, .ref g), (1, .int (nI p1))] []
  refine xv_iconst (v := nI 0) hC dX7_readRows_0 (by decide) ?_
  refine xv_istore_n hC dX7_readRows_1 rfl (by decide) ?_
  have Lp2 : ∀ (n i : Nat), (i ≤ 100) → (100 < i + n) → xV p l e (xr 2 0 0) s m args below meth c G A 5 (MQ below (xQn G A (fun r w => r = none ∧ ∃ (Z : Nat → Bool) (J : Nat → Int64) (c : Int64), w = wM G g (mK (mS (mJ (mZ M 20 Z) 21 J) (nrF O (13 + p1) E (mRd M)).2) c) w0 ∧ rwP M p1 (nrF O (13 + p1) E (mRd M)).1 (13 + p1) Z J) (sz)) args s 0 0 A) sz (wM G g (mZ M 20 (clZ (M.2.2.2.1 20) (100 * p1) i)) w0) 0 0 2 [(2, .int (nI i)), (0, .ref g), (1, .int (nI p1))] [] := by
    intro n
    induction n with
    | zero =>
      intro i hi hn
      omega
    | succ n ih2 =>
      intro i hi hn
      refine xv_iload_n hC dX7_readRows_2 rfl rfl ?_
      refine xv_bipush (v := nI 100) hC dX7_readRows_3 (by decide) ?_
      refine xv_icmp_ge (tgt := 26) hC dX7_readRows_5 (by decide) (fun h5 => ?_) (fun h5 => ?_)
      · try simp (disch := omega) only [nI_leI, nI_ltI, nI_eq, xz_eq, xz_le, xz_gt, cI_0, cI_n0, cI_inj, lg_cmp_ge, lg_cmp_le, lg_cmp_gt, lg_cmp_lt, lg_cmp_eq, Bool.not_eq_true, Bool.not_eq_false, Nat.not_le, Nat.not_lt] at h5
        have hi100 : i = 100 := by omega
        subst hi100
        refine xv_world (show _ = wM G g (mK (mS (mJ (mZ M 20 (clZ (M.2.2.2.1 20) (100 * p1) 100)) 21 (M.2.2.2.2.2.1 21)) (mRd M)) (M.2.2.2.2.2.2)) w0 from congrArg (fun z => wM G g z w0) (rw_id M (clZ (M.2.2.2.1 20) (100 * p1) 100))) ?_
        refine xv_aload_n hC dX7_readRows_26 rfl rfl ?_
        refine xv_callV hC Y_yX7_readCount im_yX7_readCount se_yX7_readCount ml_X7_165 dX7_readRows_27 (em_countN l G g sz (mJ (mZ M 20 (clZ (M.2.2.2.1 20) (100 * p1) 100)) 21 (M.2.2.2.2.2.1 21)) w0 O ⟨hMO.1, hMO.2⟩ hO (mRd M) hat hre M.2.2.2.2.2.2) (ml_w_obj _ _ _ _) rfl rfl rfl (Nat.le_of_ble_eq_true rfl) ⟨Nat.le_of_ble_eq_true rfl, Nat.le_of_ble_eq_true rfl⟩ ⟨Nat.le_of_ble_eq_true rfl, Nat.le_of_ble_eq_true rfl⟩ ?_
        refine xv_rn ?_
        obtain ⟨c0, ra, hc0, hra⟩ := nc_pair O (mRd M)
        refine xv_world (show _ = wM G g (mK (mS (mJ (mZ M 20 (clZ (M.2.2.2.1 20) (100 * p1) 100)) 21 (M.2.2.2.2.2.1 21)) (ra)) (c0)) w0 by rw [hc0, hra]) ?_
        refine xv_aload_n hC dX7_readRows_30 rfl rfl ?_
        refine xv_aload_n hC dX7_readRows_31 rfl rfl ?_
        refine tg_X7_24 hC fl_X7_154 dX7_readRows_32 ?_
        refine xv_cast (show _ = Value.long c0 from rfl) ?_
        refine xv_lconst (v := 0) hC dX7_readRows_35 (by decide) ?_
        refine xv_lcmp hC dX7_readRows_36 ?_
        have J56 : xV p l e (xr 2 0 0) s m args below meth c G A 5 (MQ below (xQn G A (fun r w => r = none ∧ ∃ (Z : Nat → Bool) (J : Nat → Int64) (c : Int64), w = wM G g (mK (mS (mJ (mZ M 20 Z) 21 J) (nrF O (13 + p1) E (mRd M)).2) c) w0 ∧ rwP M p1 (nrF O (13 + p1) E (mRd M)).1 (13 + p1) Z J) (sz)) args s 0 0 A) sz (wM G g (mK (mS (mJ (mZ M 20 (clZ (M.2.2.2.1 20) (100 * p1) 100)) 21 (M.2.2.2.2.2.1 21)) (ra)) (c0)) w0) 0 0 56 [(0, .ref g), (1, .int (nI p1))] [.int (cI (!wiB c0 (nI 100))), .ref g] := by
          refine xv_callV hC Y_yX7_need im_yX7_need se_yX7_need ml_X7_161 dX7_readRows_56 (em_needN l G g sz (mJ (mZ M 20 (clZ (M.2.2.2.1 20) (100 * p1) 100)) 21 (M.2.2.2.2.2.1 21)) w0 ra c0 (!wiB c0 (nI 100))) (ml_w_obj _ _ _ _) rfl rfl rfl (Nat.le_of_ble_eq_true rfl) ⟨Nat.le_of_ble_eq_true rfl, Nat.le_of_ble_eq_true rfl⟩ ⟨Nat.le_of_ble_eq_true rfl, Nat.le_of_ble_eq_true rfl⟩ ?_
          refine xv_rn ?_
          obtain ⟨rb, hb⟩ := nd_ex ra (!wiB c0 (nI 100))
          refine xv_world (show _ = wM G g (mK (mS (mJ (mZ M 20 (clZ (M.2.2.2.1 20) (100 * p1) 100)) 21 (M.2.2.2.2.2.1 21)) (rb)) (c0)) w0 by rw [hb]) ?_
          have hb := rowB_of hc0 hra hb
          have hbl := rowB_le hb hat hre
          refine xv_aload_n hC dX7_readRows_59 rfl rfl ?_
          refine tg_X7_24 hC fl_X7_154 dX7_readRows_60 ?_
          refine xv_cast (show _ = Value.long c0 from rfl) ?_
          refine xv_l2i hC dX7_readRows_63 ?_
          refine xv_istore_n hC dX7_readRows_64 rfl (by decide) ?_
          refine xv_iconst (v := nI 0 - nI 1) hC dX7_readRows_65 (by decide) ?_
          refine xv_istore_n hC dX7_readRows_66 rfl (by decide) ?_
          refine xv_iconst (v := nI 0) hC dX7_readRows_67 (by decide) ?_
          refine xv_istore hC dX7_readRows_68 (by decide) ?_
          have Lp70 : ∀ (n k : Nat) (least : Nat) (E1 : cE) (r1 : cR) (Z : Nat → Bool) (J : Nat → Int64) (c1 : Int64) (X : Int32), (1 ≤ n) → (k + (n - 1) ≤ 100) → (r1.2 = 0 → X = nI (k + (n - 1))) → (r1.2 = 0 → least ≤ 100) → (r1.1 ≤ O.2.1 0) → (mRe r1) → (rwP M p1 E1 (13 + p1) Z J) → (nrL O (13 + p1) (n - 1) E1 r1 least = nrF O (13 + p1) E (mRd M)) → xV p l e (xr 2 0 0) s m args below meth c G A 5 (MQ below (xQn G A (fun r w => r = none ∧ ∃ (Z : Nat → Bool) (J : Nat → Int64) (c : Int64), w = wM G g (mK (mS (mJ (mZ M 20 Z) 21 J) (nrF O (13 + p1) E (mRd M)).2) c) w0 ∧ rwP M p1 (nrF O (13 + p1) E (mRd M)).1 (13 + p1) Z J) (sz)) args s 0 0 A) sz (wM G g (mK (mS (mJ (mZ M 20 (Z)) 21 (J)) (r1)) (c1)) w0) 0 0 70 [(4, .int (nI k)), (3, .int (nI least - nI 1)), (2, .int X), (0, .ref g), (1, .int (nI p1))] [] := by
            intro n
            induction n with
            | zero =>
              intro k least E1 r1 Z J c1 X hn1 hk hX hl hr1 he1 hw hu
              omega
            | succ n ih70 =>
              intro k least E1 r1 Z J c1 X hn1 hk hX hl hr1 he1 hw hu
              refine xv_iload hC dX7_readRows_70 rfl ?_
              refine xv_iload_n hC dX7_readRows_72 rfl rfl ?_
              refine xv_icmp_ge (tgt := 219) hC dX7_readRows_73 (by decide) (fun h73 => ?_) (fun h73 => ?_)
              · exact xn_return hC hr dX7_readRows_219 (by
    have hz : nrL O (13 + p1) (n + 1 - 1) E1 r1 least = (E1, r1) := by
      first
      | exact nrL_end (Or.inr h80)
      | (by_cases z : r1.2 = 0
         · have hx := hX z
           rw [hx, nI_leI (by omega) (by omega)] at h73
           exact nrL_end (Or.inl (by omega))
         · exact nrL_end (Or.inr z))
    rw [hz] at hu
    rw [← hu]
    exact ⟨rfl, Z, J, c1, rfl, hw⟩) rfl
              · refine xv_aload_n hC dX7_readRows_76 rfl rfl ?_
                refine tg_X7_23 hC fl_X7_148 dX7_readRows_77 ?_
                refine xv_if_ne (tgt := 219) hC dX7_readRows_80 (by decide) (fun h80 => ?_) (fun h80 => ?_)
                · have h80 : ¬ r1.2 = 0 := h80
                  exact xn_return hC hr dX7_readRows_219 (by
    have hz : nrL O (13 + p1) (n + 1 - 1) E1 r1 least = (E1, r1) := by
      first
      | exact nrL_end (Or.inr h80)
      | (by_cases z : r1.2 = 0
         · have hx := hX z
           rw [hx, nI_leI (by omega) (by omega)] at h73
           exact nrL_end (Or.inl (by omega))
         · exact nrL_end (Or.inr z))
    rw [hz] at hu
    rw [← hu]
    exact ⟨rfl, Z, J, c1, rfl, hw⟩) rfl
                · have h80 : r1.2 = 0 := h80
                  refine xv_aload_n hC dX7_readRows_83 rfl rfl ?_
                  refine xv_callV hC Y_yX7_readCount im_yX7_readCount se_yX7_readCount ml_X7_165 dX7_readRows_84 (em_countN l G g sz (mJ (mZ M 20 Z) 21 J) w0 O ⟨hMO.1, hMO.2⟩ hO r1 hr1 he1 c1) (ml_w_obj _ _ _ _) rfl rfl rfl (Nat.le_of_ble_eq_true rfl) ⟨Nat.le_of_ble_eq_true rfl, Nat.le_of_ble_eq_true rfl⟩ ⟨Nat.le_of_ble_eq_true rfl, Nat.le_of_ble_eq_true rfl⟩ ?_
                  refine xv_rn ?_
                  obtain ⟨c2, r2, hc2, hr2⟩ := nc_pair O r1
                  refine xv_world (show _ = wM G g (mK (mS (mJ (mZ M 20 (Z)) 21 (J)) (r2)) (c2)) w0 by rw [hc2, hr2]) ?_
                  refine xv_aload_n hC dX7_readRows_87 rfl rfl ?_
                  refine xv_aload_n hC dX7_readRows_88 rfl rfl ?_
                  refine tg_X7_24 hC fl_X7_154 dX7_readRows_89 ?_
                  refine xv_cast (show _ = Value.long c2 from rfl) ?_
                  refine xv_lconst (v := 0) hC dX7_readRows_92 (by decide) ?_
                  refine xv_lcmp hC dX7_readRows_93 ?_
                  have J129 : xV p l e (xr 2 0 0) s m args below meth c G A 5 (MQ below (xQn G A (fun r w => r = none ∧ ∃ (Z : Nat → Bool) (J : Nat → Int64) (c : Int64), w = wM G g (mK (mS (mJ (mZ M 20 Z) 21 J) (nrF O (13 + p1) E (mRd M)).2) c) w0 ∧ rwP M p1 (nrF O (13 + p1) E (mRd M)).1 (13 + p1) Z J) (sz)) args s 0 0 A) sz (wM G g (mK (mS (mJ (mZ M 20 (Z)) 21 (J)) (r2)) (c2)) w0) 0 0 129 [(4, .int (nI k)), (3, .int (nI least - nI 1)), (2, .int X), (0, .ref g), (1, .int (nI p1))] [.int (cI (!wiB c2 (nrM least))), .ref g] := by
                    refine xv_callV hC Y_yX7_need im_yX7_need se_yX7_need ml_X7_161 dX7_readRows_129 (em_needN l G g sz (mJ (mZ M 20 Z) 21 J) w0 r2 c2 (!wiB c2 (nrM least))) (ml_w_obj _ _ _ _) rfl rfl rfl (Nat.le_of_ble_eq_true rfl) ⟨Nat.le_of_ble_eq_true rfl, Nat.le_of_ble_eq_true rfl⟩ ⟨Nat.le_of_ble_eq_true rfl, Nat.le_of_ble_eq_true rfl⟩ ?_
                    refine xv_rn ?_
                    obtain ⟨r3, h3⟩ := nd_ex r2 (!wiB c2 (nrM least))
                    refine xv_world (show _ = wM G g (mK (mS (mJ (mZ M 20 (Z)) 21 (J)) (r3)) (c2)) w0 by rw [h3]) ?_
                    have h3 := rowS_of hc2 hr2 h3
                    have h3l := rowS_le h3 hr1 he1
                    refine xv_aload_n hC dX7_readRows_132 rfl rfl ?_
                    refine tg_X7_23 hC fl_X7_148 dX7_readRows_133 ?_
                    refine xv_if_ne (tgt := 213) hC dX7_readRows_136 (by decide) (fun h136 => ?_) (fun h136 => ?_)
                    · have h136 : ¬ r3.2 = 0 := h136
                      refine xv_iinc hC dX7_readRows_213 rfl (xinc _) (by decide) ?_
                      refine xv_goto (tgt := 70) hC dX7_readRows_216 (by decide) ?_
                      have hkX : k < k + n := by
                        have hx := hX h80
                        rw [hx] at h73
                        rw [nI_leI (by omega) (by omega)] at h73
                        omega
                      obtain ⟨n', rfl⟩ : ∃ n', n = n' + 1 := ⟨n - 1, by omega⟩
                      exact ih70 (k + 1) least E1 r3 Z J c2 X (by omega) (by omega) (fun z => absurd z h136) (fun z => absurd z h136) h3l.1 h3l.2 hw (rowS_bad (n := n') h3 h80 h136 hu)
                    · have h136 : r3.2 = 0 := h136
                      obtain ⟨P1, hPd⟩ := nP_ex O r1 least
                      have hP := rowS_plc h3 (hl h80) h136 hPd
                      refine xv_iload_n hC dX7_readRows_139 rfl rfl ?_
                      refine xv_iconst (v := nI 1) hC dX7_readRows_140 (by decide) ?_
                      refine xv_iadd hC dX7_readRows_141 ?_
                      refine xv_aload_n hC dX7_readRows_142 rfl rfl ?_
                      refine tg_X7_24 hC fl_X7_154 dX7_readRows_143 ?_
                      refine xv_cast (show _ = Value.long c2 from rfl) ?_
                      refine xv_l2i hC dX7_readRows_146 ?_
                      refine xv_iadd hC dX7_readRows_147 ?_
                      refine xv_cast (congrArg Value.int hP.1) ?_
                      refine xv_istore_n hC dX7_readRows_148 rfl (by decide) ?_
                      refine xv_aload_n hC dX7_readRows_149 rfl rfl ?_
                      refine xv_callV hC Y_yX7_readCount im_yX7_readCount se_yX7_readCount ml_X7_165 dX7_readRows_150 (em_countN l G g sz (mJ (mZ M 20 Z) 21 J) w0 O ⟨hMO.1, hMO.2⟩ hO r3 h3l.1 h3l.2 c2) (ml_w_obj _ _ _ _) rfl rfl rfl (Nat.le_of_ble_eq_true rfl) ⟨Nat.le_of_ble_eq_true rfl, Nat.le_of_ble_eq_true rfl⟩ ⟨Nat.le_of_ble_eq_true rfl, Nat.le_of_ble_eq_true rfl⟩ ?_
                      refine xv_rn ?_
                      obtain ⟨c4, r4, h4⟩ := nc_pair O r3
                      refine xv_world (show _ = wM G g (mK (mS (mJ (mZ M 20 (Z)) 21 (J)) (r4)) (c4)) w0 by rw [h4.1, h4.2]) ?_
                      have h4l : r4.1 ≤ O.2.1 0 ∧ mRe r4 := by rw [← h4.2]; exact ⟨ncR_le h3l.1 (Nat.le_refl _), h3l.2.ncR O⟩
                      refine xv_aload_n hC dX7_readRows_153 rfl rfl ?_
                      refine tg_X7_23 hC fl_X7_148 dX7_readRows_154 ?_
                      refine xv_if_ne (tgt := 213) hC dX7_readRows_157 (by decide) (fun h157 => ?_) (fun h157 => ?_)
                      · have h157 : ¬ r4.2 = 0 := h157
                        refine xv_iinc hC dX7_readRows_213 rfl (xinc _) (by decide) ?_
                        refine xv_goto (tgt := 70) hC dX7_readRows_216 (by decide) ?_
                        have hkX : k < k + n := by
                          have hx := hX h80
                          rw [hx] at h73
                          rw [nI_leI (by omega) (by omega)] at h73
                          omega
                        obtain ⟨n', rfl⟩ : ∃ n', n = n' + 1 := ⟨n - 1, by omega⟩
                        refine xV.to [(4, .int (nI (k + 1))), (3, .int (nI (P1 + 1) - nI 1)), (2, .int X), (0, .ref g), (1, .int (nI p1))] ⟨rfl, congrArg (fun z => some (Value.int z)) (pk_sub (a := P1 + 1) (b := 1) (by omega)).symm, rfl, rfl, rfl, trivial⟩ ?_
                        exact ih70 (k + 1) (P1 + 1) E1 r4 Z J c4 X (by omega) (by omega) (fun z => absurd z h157) (fun z => absurd z h157) h4l.1 h4l.2 hw (rowS_bad2 (n := n') h3 h4.2 hPd h80 h157 hu)
                      · have h157 : r4.2 = 0 := h157
                        refine xv_aload_n hC dX7_readRows_160 rfl rfl ?_
                        refine tg_X7_20 hC fl_X7_49 dX7_readRows_161 ?_
                        refine xv_bipush (v := nI 100) hC dX7_readRows_164 (by decide) ?_
                        refine xv_iload_n hC dX7_readRows_166 rfl rfl ?_
                        refine xv_imul hC dX7_readRows_167 ?_
                        refine xv_iload_n hC dX7_readRows_168 rfl rfl ?_
                        refine xv_iadd hC dX7_readRows_169 ?_
                        refine xv_cast (congrArg Value.int (ixm _ _ _)) ?_
                        refine xv_iconst (v := nI 1) hC dX7_readRows_170 (by decide) ?_
                        refine as_m_rowHas hC dX7_readRows_171 rfl (show 100 * p1 + P1 < 1200 by have := hP.2; omega) (by first | exact cI_c1 | exact cI_c0 | rfl) ?_
                        refine xv_aload_n hC dX7_readRows_172 rfl rfl ?_
                        refine tg_X7_21 hC fl_X7_52 dX7_readRows_173 ?_
                        refine xv_bipush (v := nI 100) hC dX7_readRows_176 (by decide) ?_
                        refine xv_iload_n hC dX7_readRows_178 rfl rfl ?_
                        refine xv_imul hC dX7_readRows_179 ?_
                        refine xv_iload_n hC dX7_readRows_180 rfl rfl ?_
                        refine xv_iadd hC dX7_readRows_181 ?_
                        refine xv_cast (congrArg Value.int (ixm _ _ _)) ?_
                        refine xv_aload_n hC dX7_readRows_182 rfl rfl ?_
                        refine tg_X7_24 hC fl_X7_154 dX7_readRows_183 ?_
                        refine xv_cast (show _ = Value.long c4 from rfl) ?_
                        refine xv_lconst (v := 1) hC dX7_readRows_186 (by decide) ?_
                        refine xv_land hC dX7_readRows_187 ?_
                        refine xv_lconst (v := 0) hC dX7_readRows_188 (by decide) ?_
                        refine xv_lcmp hC dX7_readRows_189 ?_
                        refine xv_if_ne (tgt := 202) hC dX7_readRows_190 (by decide) (fun h190 => ?_) (fun h190 => ?_)
                        · rw [lg_cmp_eq] at h190
                          refine xv_ldc2 hC dX7_readRows_202 kn_X7_118 ?_
                          refine xv_aload_n hC dX7_readRows_205 rfl rfl ?_
                          refine tg_X7_24 hC fl_X7_154 dX7_readRows_206 ?_
                          refine xv_cast (show _ = Value.long c4 from rfl) ?_
                          refine xv_iconst (v := nI 1) hC dX7_readRows_209 (by decide) ?_
                          refine xv_lushr hC dX7_readRows_210 ?_
                          refine xv_lsub hC dX7_readRows_211 ?_
                          refine xv_cast (congrArg Value.long (show _ = zzD c4 by rw [zzD, if_neg h190])) ?_
                          refine as_m_rowValues hC dX7_readRows_212 rfl (show 100 * p1 + P1 < 1200 by have := hP.2; omega) ?_
                          refine xv_world (show _ = wM G g (mK (mS (mJ (mZ M 20 (va_up Z (100 * p1 + P1) true)) 21 (va_up J (100 * p1 + P1) (zzD c4))) (r4)) (c4)) w0 from congrArg (fun z => wM G g z w0) (mRw_set _ _ _ _ _ _ _)) ?_
                          refine xv_iinc hC dX7_readRows_213 rfl (xinc _) (by decide) ?_
                          refine xv_goto (tgt := 70) hC dX7_readRows_216 (by decide) ?_
                          have hkX : k < k + n := by
                            have hx := hX h80
                            rw [hx] at h73
                            rw [nI_leI (by omega) (by omega)] at h73
                            omega
                          obtain ⟨n', rfl⟩ : ∃ n', n = n' + 1 := ⟨n - 1, by omega⟩
                          refine xV.to [(4, .int (nI (k + 1))), (3, .int (nI (P1 + 1) - nI 1)), (2, .int X), (0, .ref g), (1, .int (nI p1))] ⟨rfl, congrArg (fun z => some (Value.int z)) (pk_sub (a := P1 + 1) (b := 1) (by omega)).symm, rfl, rfl, rfl, trivial⟩ ?_
                          exact ih70 (k + 1) (P1 + 1) (eSet E1 (13 + p1) P1 (zzD c4)) r4 _ _ c4 X (by omega) (by omega) (fun _ => (hX h80).trans (congrArg nI (by omega))) (fun _ => hP.2) h4l.1 h4l.2 (rwP_set hw hP.2 _) (rowS_good (n := n') h3 h4.2 h4.1 hPd h80 h157 hu)
                        · rw [lg_cmp_eq] at h190
                          refine xv_aload_n hC dX7_readRows_193 rfl rfl ?_
                          refine tg_X7_24 hC fl_X7_154 dX7_readRows_194 ?_
                          refine xv_cast (show _ = Value.long c4 from rfl) ?_
                          refine xv_iconst (v := nI 1) hC dX7_readRows_197 (by decide) ?_
                          refine xv_lushr hC dX7_readRows_198 ?_
                          refine xv_cast (congrArg Value.long (show _ = zzD c4 by rw [zzD, if_pos h190])) ?_
                          refine xv_goto (tgt := 212) hC dX7_readRows_199 (by decide) ?_
                          refine as_m_rowValues hC dX7_readRows_212 rfl (show 100 * p1 + P1 < 1200 by have := hP.2; omega) ?_
                          refine xv_world (show _ = wM G g (mK (mS (mJ (mZ M 20 (va_up Z (100 * p1 + P1) true)) 21 (va_up J (100 * p1 + P1) (zzD c4))) (r4)) (c4)) w0 from congrArg (fun z => wM G g z w0) (mRw_set _ _ _ _ _ _ _)) ?_
                          refine xv_iinc hC dX7_readRows_213 rfl (xinc _) (by decide) ?_
                          refine xv_goto (tgt := 70) hC dX7_readRows_216 (by decide) ?_
                          have hkX : k < k + n := by
                            have hx := hX h80
                            rw [hx] at h73
                            rw [nI_leI (by omega) (by omega)] at h73
                            omega
                          obtain ⟨n', rfl⟩ : ∃ n', n = n' + 1 := ⟨n - 1, by omega⟩
                          refine xV.to [(4, .int (nI (k + 1))), (3, .int (nI (P1 + 1) - nI 1)), (2, .int X), (0, .ref g), (1, .int (nI p1))] ⟨rfl, congrArg (fun z => some (Value.int z)) (pk_sub (a := P1 + 1) (b := 1) (by omega)).symm, rfl, rfl, rfl, trivial⟩ ?_
                          exact ih70 (k + 1) (P1 + 1) (eSet E1 (13 + p1) P1 (zzD c4)) r4 _ _ c4 X (by omega) (by omega) (fun _ => (hX h80).trans (congrArg nI (by omega))) (fun _ => hP.2) h4l.1 h4l.2 (rwP_set hw hP.2 _) (rowS_good (n := n') h3 h4.2 h4.1 hPd h80 h157 hu)
                  refine xv_if_lt (tgt := 128) hC dX7_readRows_94 (by decide) (fun h94 => ?_) (fun h94 => ?_)
                  · rw [lg_cmp_lt] at h94
                    refine xv_iconst (v := nI 0) hC dX7_readRows_128 (by decide) ?_
                    refine xv_cast (congrArg Value.int (show _ = cI (!wiB c2 (nrM least)) by first | (apply c1_of; rw [(wi3 (hl h80)).mpr ⟨h94, h110, h121⟩]; rfl) | (apply c0_of; rw [wi_no (hl h80) (Or.inl h94)]; rfl) | (apply c0_of; rw [wi_no (hl h80) (Or.inr (Or.inl h110))]; rfl) | (apply c0_of; rw [wi_no (hl h80) (Or.inr (Or.inr h121))]; rfl))) ?_
                    exact J129
                  · rw [lg_cmp_lt] at h94
                    refine xv_aload_n hC dX7_readRows_97 rfl rfl ?_
                    refine tg_X7_24 hC fl_X7_154 dX7_readRows_98 ?_
                    refine xv_cast (show _ = Value.long c2 from rfl) ?_
                    refine xv_iload_n hC dX7_readRows_101 rfl rfl ?_
                    refine xv_i2l hC dX7_readRows_102 ?_
                    refine xv_ladd hC dX7_readRows_103 ?_
                    refine xv_lconst (v := 1) hC dX7_readRows_104 (by decide) ?_
                    refine xv_ladd hC dX7_readRows_105 ?_
                    refine xv_ldc2 hC dX7_readRows_106 kn_X7_71 ?_
                    refine xv_lcmp hC dX7_readRows_109 ?_
                    refine xv_if_gt (tgt := 128) hC dX7_readRows_110 (by decide) (fun h110 => ?_) (fun h110 => ?_)
                    · rw [lg_cmp_gt] at h110
                      refine xv_iconst (v := nI 0) hC dX7_readRows_128 (by decide) ?_
                      refine xv_cast (congrArg Value.int (show _ = cI (!wiB c2 (nrM least)) by first | (apply c1_of; rw [(wi3 (hl h80)).mpr ⟨h94, h110, h121⟩]; rfl) | (apply c0_of; rw [wi_no (hl h80) (Or.inl h94)]; rfl) | (apply c0_of; rw [wi_no (hl h80) (Or.inr (Or.inl h110))]; rfl) | (apply c0_of; rw [wi_no (hl h80) (Or.inr (Or.inr h121))]; rfl))) ?_
                      exact J129
                    · rw [lg_cmp_gt] at h110
                      refine xv_aload_n hC dX7_readRows_113 rfl rfl ?_
                      refine tg_X7_24 hC fl_X7_154 dX7_readRows_114 ?_
                      refine xv_cast (show _ = Value.long c2 from rfl) ?_
                      refine xv_ldc2 hC dX7_readRows_117 kn_X7_168 ?_
                      refine xv_lcmp hC dX7_readRows_120 ?_
                      refine xv_if_ge (tgt := 128) hC dX7_readRows_121 (by decide) (fun h121 => ?_) (fun h121 => ?_)
                      · rw [lg_cmp_ge] at h121
                        refine xv_iconst (v := nI 0) hC dX7_readRows_128 (by decide) ?_
                        refine xv_cast (congrArg Value.int (show _ = cI (!wiB c2 (nrM least)) by first | (apply c1_of; rw [(wi3 (hl h80)).mpr ⟨h94, h110, h121⟩]; rfl) | (apply c0_of; rw [wi_no (hl h80) (Or.inl h94)]; rfl) | (apply c0_of; rw [wi_no (hl h80) (Or.inr (Or.inl h110))]; rfl) | (apply c0_of; rw [wi_no (hl h80) (Or.inr (Or.inr h121))]; rfl))) ?_
                        exact J129
                      · rw [lg_cmp_ge] at h121
                        refine xv_iconst (v := nI 1) hC dX7_readRows_124 (by decide) ?_
                        refine xv_goto (tgt := 129) hC dX7_readRows_125 (by decide) ?_
                        refine xv_cast (congrArg Value.int (show _ = cI (!wiB c2 (nrM least)) by first | (apply c1_of; rw [(wi3 (hl h80)).mpr ⟨h94, h110, h121⟩]; rfl) | (apply c0_of; rw [wi_no (hl h80) (Or.inl h94)]; rfl) | (apply c0_of; rw [wi_no (hl h80) (Or.inr (Or.inl h110))]; rfl) | (apply c0_of; rw [wi_no (hl h80) (Or.inr (Or.inr h121))]; rfl))) ?_
                        exact J129
          obtain ⟨N, hN, hN1, hN2⟩ := rowB_n hb
          refine xV.to [(4, .int (nI 0)), (3, .int (nI 0 - nI 1)), (2, .int c0.toInt32), (0, .ref g), (1, .int (nI p1))] ⟨rfl, rfl, rfl, rfl, rfl, trivial⟩ ?_
          exact Lp70 (N + 1) 0 0 (eClr E (13 + p1)) rb (clZ (M.2.2.2.1 20) (100 * p1) 100) (M.2.2.2.2.2.1 21) c0 c0.toInt32 (by omega) (by omega) (fun z => (hN2 z).trans (congrArg nI (by omega))) (fun _ => by omega) hbl.1 hbl.2 (rwP_clr hv) (rowB_u hb hN)
        refine xv_if_lt (tgt := 55) hC dX7_readRows_37 (by decide) (fun h37 => ?_) (fun h37 => ?_)
        · rw [lg_cmp_lt] at h37
          refine xv_iconst (v := nI 0) hC dX7_readRows_55 (by decide) ?_
          refine xv_cast (congrArg Value.int (show _ = cI (!wiB c0 (nI 100)) by first | (apply c1_of; rw [wi100.mpr ⟨h37, h48⟩]; rfl) | (apply c0_of; unfold wiB; rw [decide_eq_true h37]; rfl) | (apply c0_of; unfold wiB; rw [show (nI 100).toInt64 = (100 : Int64) by decide, decide_eq_true h48, Bool.or_true]; rfl))) ?_
          refine xV.to [(0, .ref g), (1, .int (nI p1))] ⟨rfl, rfl, trivial⟩ ?_
          exact J56
        · rw [lg_cmp_lt] at h37
          refine xv_aload_n hC dX7_readRows_40 rfl rfl ?_
          refine tg_X7_24 hC fl_X7_154 dX7_readRows_41 ?_
          refine xv_cast (show _ = Value.long c0 from rfl) ?_
          refine xv_ldc2 hC dX7_readRows_44 kn_X7_168 ?_
          refine xv_lcmp hC dX7_readRows_47 ?_
          refine xv_if_gt (tgt := 55) hC dX7_readRows_48 (by decide) (fun h48 => ?_) (fun h48 => ?_)
          · rw [lg_cmp_gt] at h48
            refine xv_iconst (v := nI 0) hC dX7_readRows_55 (by decide) ?_
            refine xv_cast (congrArg Value.int (show _ = cI (!wiB c0 (nI 100)) by first | (apply c1_of; rw [wi100.mpr ⟨h37, h48⟩]; rfl) | (apply c0_of; unfold wiB; rw [decide_eq_true h37]; rfl) | (apply c0_of; unfold wiB; rw [show (nI 100).toInt64 = (100 : Int64) by decide, decide_eq_true h48, Bool.or_true]; rfl))) ?_
            refine xV.to [(0, .ref g), (1, .int (nI p1))] ⟨rfl, rfl, trivial⟩ ?_
            exact J56
          · rw [lg_cmp_gt] at h48
            refine xv_iconst (v := nI 1) hC dX7_readRows_51 (by decide) ?_
            refine xv_goto (tgt := 56) hC dX7_readRows_52 (by decide) ?_
            refine xv_cast (congrArg Value.int (show _ = cI (!wiB c0 (nI 100)) by first | (apply c1_of; rw [wi100.mpr ⟨h37, h48⟩]; rfl) | (apply c0_of; unfold wiB; rw [decide_eq_true h37]; rfl) | (apply c0_of; unfold wiB; rw [show (nI 100).toInt64 = (100 : Int64) by decide, decide_eq_true h48, Bool.or_true]; rfl))) ?_
            refine xV.to [(0, .ref g), (1, .int (nI p1))] ⟨rfl, rfl, trivial⟩ ?_
            exact J56
      · try simp (disch := omega) only [nI_leI, nI_ltI, nI_eq, xz_eq, xz_le, xz_gt, cI_0, cI_n0, cI_inj, lg_cmp_ge, lg_cmp_le, lg_cmp_gt, lg_cmp_lt, lg_cmp_eq, Bool.not_eq_true, Bool.not_eq_false, Nat.not_le, Nat.not_lt] at h5
        refine xv_aload_n hC dX7_readRows_8 rfl rfl ?_
        refine tg_X7_20 hC fl_X7_49 dX7_readRows_9 ?_
        refine xv_bipush (v := nI 100) hC dX7_readRows_12 (by decide) ?_
        refine xv_iload_n hC dX7_readRows_14 rfl rfl ?_
        refine xv_imul hC dX7_readRows_15 ?_
        refine xv_iload_n hC dX7_readRows_16 rfl rfl ?_
        refine xv_iadd hC dX7_readRows_17 ?_
        refine xv_cast (congrArg Value.int (ixm _ _ _)) ?_
        refine xv_iconst (v := nI 0) hC dX7_readRows_18 (by decide) ?_
        refine as_m_rowHas hC dX7_readRows_19 rfl (by first | assumption | omega) (by first | exact cI_c1 | exact cI_c0 | rfl) ?_
        refine xv_iinc hC dX7_readRows_20 rfl (xinc _) (by decide) ?_
        refine xv_goto (tgt := 2) hC dX7_readRows_23 (by decide) ?_
        refine xv_world (show _ = wM G g (mZ M 20 (clZ (M.2.2.2.1 20) (100 * p1) (i + 1))) w0 by rw [mZ_i, clZ_s]) ?_
        exact ih2 (i + 1) (by omega) (by omega)
  refine xv_world (show _ = wM G g (mZ M 20 (clZ (M.2.2.2.1 20) (100 * p1) 0)) w0 by rw [clZ_0, mZ_id]) ?_
  exact Lp2 101 0 (by omega) (by omega)
