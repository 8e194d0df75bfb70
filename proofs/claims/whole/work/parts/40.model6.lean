set_option maxHeartbeats 6000000 in
set_option maxRecDepth 100000 in
theorem em_readSection (l : Launch) (G : xD) (g sz : Nat) (M : mT) (w0 : xw) (O : cO) (X : cX) (nd : Nat → Int32) (re : Nat → Int32) (rf : Int32) {s1 : Nat} (hs1 : s1 < 255) (hMO : mBy M O) (hO : O.2.1 0 ≤ 8000) (hat : M.2.2.1 22 = X.2.2.2.2.1) (hat2 : X.2.2.2.2.1 ≤ O.2.1 0) (h00 : X.2.2.2.2.2 = 0) (hPa : ∀ j, j < s1 → my M 15 j = lP X.2.1 j) (hRe : ∀ j, j < s1 → my M 16 j = re j) (hv : rvP M X.1) (hLC : lrC X s1 M) (hF : lrF X re rf s1) (hN : lrN nd M) (hpo : ∀ j q, X.2.1 j = some q → q < 12) (hsn : X.2.1 s1 = none) : xN l G yX7_readSection cX7_readSection 9 none 3 0 0 [.ref g, .int (nI s1)] sz (wM G g (M) w0) (fun r w => r = none ∧ ∃ (f15 f19 : Nat → Int32) (z18 z20 : Nat → Bool) (j21 : Nat → Int64) (r' : cR) (c' : Int64), w = wM G g (mK (mS (mLb M f15 (va_up (M.2.2.2.2.1 17) s1 (nI 0)) f19 z18 z20 j21) r') c') w0 ∧ secPost O X nd rf s1 (mK (mS (mLb M f15 (va_up (M.2.2.2.2.1 17) s1 (nI 0)) f19 z18 z20 j21) r') c')) (sz) := by
  refine xN_of (by decide) (Nat.le_of_ble_eq_true rfl) ?_
  intro A p e s m args below meth c hC hr hname
  have hC : xC p s m args meth c cX7_readSection 9 RX7 G A := hC
  have hr : meth.sig.returnType = none := hr
  show xV p l e _ s m args below meth c G A 9 _ sz _ 0 0 0 [(0, .ref g), (1, .int (nI s1))] []
  refine xv_aload_n hC dX7_readSection_0 rfl rfl ?_
  refine xv_iconst (v := nI 0) hC dX7_readSection_1 (by decide) ?_
  refine tp_X7_23 hC fl_X7_148 dX7_readSection_2 ?_
  obtain ⟨P1, hP1⟩ : ∃ p, rsP O s1 X = p := ⟨_, rfl⟩
  have hb := nxV_nI O X.2.2.2.2
  rw [show nxN O X.2.2.2.2 = P1 from hP1] at hb
  have hb256 := hb.2
  refine xv_world (show _ = wM G g (mK (mS (mLb M (M.2.2.2.2.1 15) (M.2.2.2.2.1 17) (M.2.2.2.2.1 19) (M.2.2.2.1 18) (M.2.2.2.1 20) (M.2.2.2.2.2.1 21)) X.2.2.2.2) M.2.2.2.2.2.2) w0 from congrArg (fun z => wM G g z w0) (lb_start M X.2.2.2.2 hat h00)) ?_
  refine xv_aload_n hC dX7_readSection_5 rfl rfl ?_
  refine tg_X7_15 hC fl_X7_34 dX7_readSection_6 ?_
  refine xv_iload_n hC dX7_readSection_9 rfl rfl ?_
  refine xv_iconst (v := -1) hC dX7_readSection_10 (by decide) ?_
  refine as_m_parts hC dX7_readSection_11 rfl (by first | assumption | (first | ((try clear hP1); (try clear hK1); (try clear hn2); (try clear hb); (try clear hk); (try clear hn3); (try clear hr2); (try clear hr3); (try clear hr4); (try clear hr5); (try clear hr6); (try clear hr7); (try clear hr8); omega) | omega)) ?_
  refine xv_world (show _ = wM G g (mK (mS (mLb M (va_up (M.2.2.2.2.1 15) s1 (-1)) (M.2.2.2.2.1 17) (M.2.2.2.2.1 19) (M.2.2.2.1 18) (M.2.2.2.1 20) (M.2.2.2.2.2.1 21)) X.2.2.2.2) M.2.2.2.2.2.2) w0 from congrArg (fun z => wM G g z w0) (lb_15 _ _ _ _ _ _ _ _ _ _ _)) ?_
  refine xv_aload_n hC dX7_readSection_12 rfl rfl ?_
  refine tg_X7_17 hC fl_X7_40 dX7_readSection_13 ?_
  refine xv_iload_n hC dX7_readSection_16 rfl rfl ?_
  refine xv_iconst (v := nI 0) hC dX7_readSection_17 (by decide) ?_
  refine as_m_conflicts hC dX7_readSection_18 rfl (by first | assumption | (first | ((try clear hP1); (try clear hK1); (try clear hn2); (try clear hb); (try clear hk); (try clear hn3); (try clear hr2); (try clear hr3); (try clear hr4); (try clear hr5); (try clear hr6); (try clear hr7); (try clear hr8); omega) | omega)) ?_
  refine xv_world (show _ = wM G g (mK (mS (mLb M (va_up (M.2.2.2.2.1 15) s1 (-1)) (va_up (M.2.2.2.2.1 17) s1 (nI 0)) (M.2.2.2.2.1 19) (M.2.2.2.1 18) (M.2.2.2.1 20) (M.2.2.2.2.2.1 21)) X.2.2.2.2) M.2.2.2.2.2.2) w0 from congrArg (fun z => wM G g z w0) (lb_17 _ _ _ _ _ _ _ _ _ _ _)) ?_
  refine xv_aload_n hC dX7_readSection_19 rfl rfl ?_
  refine tg_X7_22 hC fl_X7_151 dX7_readSection_20 ?_
  refine xv_cast (show _ = Value.int (nI X.2.2.2.2.1) from rfl) ?_
  refine xv_istore_n hC dX7_readSection_23 rfl (by decide) ?_
  refine xv_aload_n hC dX7_readSection_24 rfl rfl ?_
  refine xv_callV hC Y_yX7_next im_yX7_next se_yX7_next ml_X7_158 dX7_readSection_25 (em_nextN l G g sz (mLb M (va_up (M.2.2.2.2.1 15) s1 (-1)) (va_up (M.2.2.2.2.1 17) s1 (nI 0)) (M.2.2.2.2.1 19) (M.2.2.2.1 18) (M.2.2.2.1 20) (M.2.2.2.2.2.1 21)) w0 O ⟨hMO.1, hMO.2⟩ hO X.2.2.2.2 hat2 (Or.inl h00) M.2.2.2.2.2.2) (ml_w_obj _ _ _ _) rfl rfl rfl (Nat.le_of_ble_eq_true rfl) ⟨Nat.le_of_ble_eq_true rfl, Nat.le_of_ble_eq_true rfl⟩ ⟨Nat.le_of_ble_eq_true rfl, Nat.le_of_ble_eq_true rfl⟩ ?_
  refine xv_rs ?_
  refine xv_cast (congrArg Value.int hb.1) ?_
  refine xv_istore_n hC dX7_readSection_28 rfl (by decide) ?_
  refine xv_aload_n hC dX7_readSection_29 rfl rfl ?_
  refine xv_iload_n hC dX7_readSection_30 rfl rfl ?_
  refine xv_bipush (v := nI 12) hC dX7_readSection_31 (by decide) ?_
  have J50 : xV p l e (xr 3 0 0) s m args below meth c G A 9 (MQ below (xQn G A (fun r w => r = none ∧ ∃ (f15 f19 : Nat → Int32) (z18 z20 : Nat → Bool) (j21 : Nat → Int64) (r' : cR) (c' : Int64), w = wM G g (mK (mS (mLb M f15 (va_up (M.2.2.2.2.1 17) s1 (nI 0)) f19 z18 z20 j21) r') c') w0 ∧ secPost O X nd rf s1 (mK (mS (mLb M f15 (va_up (M.2.2.2.2.1 17) s1 (nI 0)) f19 z18 z20 j21) r') c')) (sz)) args s 0 0 A) sz (wM G g (mK (mS (mLb M (va_up (M.2.2.2.2.1 15) s1 (-1)) (va_up (M.2.2.2.2.1 17) s1 (nI 0)) (M.2.2.2.2.1 19) (M.2.2.2.1 18) (M.2.2.2.1 20) (M.2.2.2.2.2.1 21)) (nxR O X.2.2.2.2)) M.2.2.2.2.2.2) w0) 0 0 50 [(3, .int (nI P1)), (2, .int (nI X.2.2.2.2.1)), (0, .ref g), (1, .int (nI s1))] [.int (cI (npOk O X.2.2.2.2 X.2.2.2.1)), .ref g] := by
    refine xv_callV hC Y_yX7_need im_yX7_need se_yX7_need ml_X7_161 dX7_readSection_50 (em_needN l G g sz (mLb M (va_up (M.2.2.2.2.1 15) s1 (-1)) (va_up (M.2.2.2.2.1 17) s1 (nI 0)) (M.2.2.2.2.1 19) (M.2.2.2.1 18) (M.2.2.2.1 20) (M.2.2.2.2.2.1 21)) w0 (nxR O X.2.2.2.2) M.2.2.2.2.2.2 (npOk O X.2.2.2.2 X.2.2.2.1)) (ml_w_obj _ _ _ _) rfl rfl rfl (Nat.le_of_ble_eq_true rfl) ⟨Nat.le_of_ble_eq_true rfl, Nat.le_of_ble_eq_true rfl⟩ ⟨Nat.le_of_ble_eq_true rfl, Nat.le_of_ble_eq_true rfl⟩ ?_
    refine xv_rn ?_
    obtain ⟨r2, hr2⟩ : ∃ r, rsR1 O X = r := ⟨_, rfl⟩
    refine xv_world (show _ = wM G g (mK (mS (mLb M (va_up (M.2.2.2.2.1 15) s1 (-1)) (va_up (M.2.2.2.2.1 17) s1 (nI 0)) (M.2.2.2.2.1 19) (M.2.2.2.1 18) (M.2.2.2.1 20) (M.2.2.2.2.2.1 21)) r2) M.2.2.2.2.2.2) w0 by rw [← hr2]; rfl) ?_
    have he2 : mRe r2 := by rw [← hr2]; exact mRe.np (Or.inl h00) O _
    have hr2l : r2.1 ≤ O.2.1 0 := by rw [← hr2]; exact npR_le hat2 (Nat.le_refl _)
    refine xv_aload_n hC dX7_readSection_53 rfl rfl ?_
    refine tg_X7_23 hC fl_X7_148 dX7_readSection_54 ?_
    refine xv_if_le (tgt := 61) hC dX7_readSection_57 (by decide) (fun h57 => ?_) (fun h57 => ?_)
    · have h57 : r2.2 = 0 := he2.elim id (fun z => absurd z (Int32.not_lt.mpr h57))
      have hn1 : (rsR1 O X).2 = 0 := by rw [hr2]; exact h57
      have hns := np_ns hLC hn1 (s := s1)
      have hp12 : rsP O s1 X < 12 := npR_0 hn1
      rw [hP1] at hp12
      have J207 : ∀ (f19 : Nat → Int32) (z18 z20 : Nat → Bool) (j21 : Nat → Int64) (r7 : cR) (c7 : Int64) (nm : Nat), s207 O s1 X M f19 z18 z20 j21 r7 nm → r7.1 ≤ O.2.1 0 → mRe r7 → nm < 256 → xV p l e (xr 3 0 0) s m args below meth c G A 9 (MQ below (xQn G A (fun r w => r = none ∧ ∃ (f15 f19 : Nat → Int32) (z18 z20 : Nat → Bool) (j21 : Nat → Int64) (r' : cR) (c' : Int64), w = wM G g (mK (mS (mLb M f15 (va_up (M.2.2.2.2.1 17) s1 (nI 0)) f19 z18 z20 j21) r') c') w0 ∧ secPost O X nd rf s1 (mK (mS (mLb M f15 (va_up (M.2.2.2.2.1 17) s1 (nI 0)) f19 z18 z20 j21) r') c')) (sz)) args s 0 0 A) sz (wM G g (mK (mS (mLb M (va_up (va_up (M.2.2.2.2.1 15) s1 (-1)) s1 (nI P1)) (va_up (M.2.2.2.2.1 17) s1 (nI 0)) f19 z18 z20 j21) r7) c7) w0) 0 0 207 [(5, .int (nI nm)), (3, .int (nI P1)), (2, .int (nI X.2.2.2.2.1)), (0, .ref g), (1, .int (nI s1))] [] := by
        intro f19 z18 z20 j21 r7 c7 nm h7 hr7 he7 hnm
        refine xv_aload_n hC dX7_readSection_207 rfl rfl ?_
        refine tg_X7_22 hC fl_X7_151 dX7_readSection_208 ?_
        refine xv_cast (show _ = Value.int (nI r7.1) from rfl) ?_
        refine xv_istore hC dX7_readSection_211 (by decide) ?_
        refine xv_iconst (v := nI 0) hC dX7_readSection_213 (by decide) ?_
        refine xv_istore hC dX7_readSection_214 (by decide) ?_
        have Lp216 : ∀ (n e1 : Nat), (e1 ≤ 4) → (4 < e1 + n) → xV p l e (xr 3 0 0) s m args below meth c G A 9 (MQ below (xQn G A (fun r w => r = none ∧ ∃ (f15 f19 : Nat → Int32) (z18 z20 : Nat → Bool) (j21 : Nat → Int64) (r' : cR) (c' : Int64), w = wM G g (mK (mS (mLb M f15 (va_up (M.2.2.2.2.1 17) s1 (nI 0)) f19 z18 z20 j21) r') c') w0 ∧ secPost O X nd rf s1 (mK (mS (mLb M f15 (va_up (M.2.2.2.2.1 17) s1 (nI 0)) f19 z18 z20 j21) r') c')) (sz)) args s 0 0 A) sz (wM G g (mK (mS (mLb M (va_up (va_up (M.2.2.2.2.1 15) s1 (-1)) s1 (nI P1)) (va_up (M.2.2.2.2.1 17) s1 (nI 0)) f19 z18 z20 j21) (n4R O r7 e1)) c7) w0) 0 0 216 [(7, .int (nI e1)), (6, .int (nI r7.1)), (5, .int (nI nm)), (3, .int (nI P1)), (2, .int (nI X.2.2.2.2.1)), (0, .ref g), (1, .int (nI s1))] [] := by
          intro n
          induction n with
          | zero =>
            intro e1 he hne
            (first | ((try clear hP1); (try clear hK1); (try clear hn2); (try clear hb); (try clear hk); (try clear hn3); (try clear hr2); (try clear hr3); (try clear hr4); (try clear hr5); (try clear hr6); (try clear hr7); (try clear hr8); omega) | omega)
          | succ n ih216 =>
            intro e1 he hne
            refine xv_iload hC dX7_readSection_216 rfl ?_
            refine xv_iconst (v := nI 4) hC dX7_readSection_218 (by decide) ?_
            refine xv_icmp_ge (tgt := 234) hC dX7_readSection_219 (by decide) (fun h219 => ?_) (fun h219 => ?_)
            · try simp (disch := (first | ((try clear hP1); (try clear hK1); (try clear hn2); (try clear hb); (try clear hk); (try clear hn3); (try clear hr2); (try clear hr3); (try clear hr4); (try clear hr5); (try clear hr6); (try clear hr7); (try clear hr8); omega) | omega)) only [nI_leI, nI_ltI, nI_eq, xz_eq, xz_le, xz_gt, cI_0, cI_n0, cI_inj, lg_cmp_ge, lg_cmp_le, lg_cmp_gt, lg_cmp_lt, lg_cmp_eq, Bool.not_eq_true, Bool.not_eq_false, Nat.not_le, Nat.not_lt] at h219
              have he4 : e1 = 4 := by (first | ((try clear hP1); (try clear hK1); (try clear hn2); (try clear hb); (try clear hk); (try clear hn3); (try clear hr2); (try clear hr3); (try clear hr4); (try clear hr5); (try clear hr6); (try clear hr7); (try clear hr8); omega) | omega)
              subst he4
              obtain ⟨r8, hr8⟩ : ∃ r, n4R O r7 4 = r := ⟨_, rfl⟩
              refine xv_world (show _ = wM G g (mK (mS (mLb M (va_up (va_up (M.2.2.2.2.1 15) s1 (-1)) s1 (nI P1)) (va_up (M.2.2.2.2.1 17) s1 (nI 0)) f19 z18 z20 j21) r8) c7) w0 by rw [hr8]) ?_
              have hR3 : rsR3 O s1 X = r8 := by rw [rsR3, h7.1, hr8]
              have he8 : mRe r8 := by rw [← hr8]; exact he7.n4 O 4
              refine xv_aload_n hC dX7_readSection_234 rfl rfl ?_
              refine tg_X7_23 hC fl_X7_148 dX7_readSection_235 ?_
              refine xv_if_le (tgt := 242) hC dX7_readSection_238 (by decide) (fun h238 => ?_) (fun h238 => ?_)
              · have h80 : r8.2 = 0 := he8.elim id (fun z => absurd z (Int32.not_lt.mpr h238))
                have hR30 : (rsR3 O s1 X).2 = 0 := by rw [hR3]; exact h80
                have h74 : r7.2 = 0 ∧ r7.1 + 4 ≤ O.2.1 0 := n4_ok (by rw [hr8]; exact h80)
                have h7c := (h7.2.2 h74.1).2.2.2.2.2
                obtain ⟨v4, hv4⟩ : ∃ v, n4V O (rsT O s1 X).2.2 = v := ⟨_, rfl⟩
                obtain ⟨vs, hvs⟩ : ∃ v, rsSum O s1 X = v := ⟨_, rfl⟩
                have hmo : X.2.2.2.2.1 ≤ r7.1 := by rw [← h7.1]; exact rsT_mono
                refine xv_aload_n hC dX7_readSection_242 rfl rfl ?_
                refine xv_iload hC dX7_readSection_243 rfl ?_
                refine xv_callV hC Y_yX7_fourAt im_yX7_fourAt se_yX7_fourAt ml_X7_176 dX7_readSection_245 (em_fourAt l G g sz (mK (mS (mLb M (va_up (va_up (M.2.2.2.2.1 15) s1 (-1)) s1 (nI P1)) (va_up (M.2.2.2.2.1 17) s1 (nI 0)) f19 z18 z20 j21) r8) c7) w0 (i := r7.1) (by (first | ((try clear hP1); (try clear hK1); (try clear hn2); (try clear hb); (try clear hk); (try clear hn3); (try clear hr2); (try clear hr3); (try clear hr4); (try clear hr5); (try clear hr6); (try clear hr7); (try clear hr8); omega) | omega))) (ml_w_obj _ _ _ _) rfl rfl rfl (Nat.le_of_ble_eq_true rfl) ⟨Nat.le_of_ble_eq_true rfl, Nat.le_of_ble_eq_true rfl⟩ ⟨Nat.le_of_ble_eq_true rfl, Nat.le_of_ble_eq_true rfl⟩ ?_
                refine xv_rs ?_
                refine xv_cast (congrArg Value.int (show _ = v4 by rw [← hv4, ← sec_four hMO hR30, h7.1]; rfl)) ?_
                refine xv_aload_n hC dX7_readSection_248 rfl rfl ?_
                refine tg_X7_10 hC fl_X7_27 dX7_readSection_249 ?_
                refine xv_iload_n hC dX7_readSection_252 rfl rfl ?_
                refine xv_iload hC dX7_readSection_253 rfl ?_
                refine xv_cast (congrArg Value.int (congrArg nI (show r7.1 = X.2.2.2.2.1 + (r7.1 - X.2.2.2.2.1) by (first | ((try clear hP1); (try clear hK1); (try clear hn2); (try clear hb); (try clear hk); (try clear hn3); (try clear hr2); (try clear hr3); (try clear hr4); (try clear hr5); (try clear hr6); (try clear hr7); (try clear hr8); omega) | omega)))) ?_
                refine xv_callS hC Y_yX7_sumOf sm_yX7_sumOf ml_X7_139 dX7_readSection_255 (em_sumB l G g sz (mK (mS (mLb M (va_up (va_up (M.2.2.2.2.1 15) s1 (-1)) s1 (nI P1)) (va_up (M.2.2.2.2.1 17) s1 (nI 0)) f19 z18 z20 j21) r8) c7) w0 (a := X.2.2.2.2.1) (n0 := r7.1 - X.2.2.2.2.1) (by (first | ((try clear hP1); (try clear hK1); (try clear hn2); (try clear hb); (try clear hk); (try clear hn3); (try clear hr2); (try clear hr3); (try clear hr4); (try clear hr5); (try clear hr6); (try clear hr7); (try clear hr8); omega) | omega))) rfl rfl (Nat.le_of_ble_eq_true rfl) ⟨Nat.le_of_ble_eq_true rfl, Nat.le_of_ble_eq_true rfl⟩ ⟨Nat.le_of_ble_eq_true rfl, Nat.le_of_ble_eq_true rfl⟩ ?_
                refine xv_rs ?_
                refine xv_cast (congrArg Value.int (show _ = vs by rw [← hvs, ← sec_sum hMO hat2, h7.1]; rfl)) ?_
                refine xv_icmp_eq (tgt := 270) hC dX7_readSection_258 (by decide) (fun h258 => ?_) (fun h258 => ?_)
                · refine xv_iload hC dX7_readSection_270 rfl ?_
                  refine xv_iload_n hC dX7_readSection_272 rfl rfl ?_
                  refine xv_icmp_ge (tgt := 295) hC dX7_readSection_273 (by decide) (fun h273 => ?_) (fun h273 => ?_)
                  · have h273 : s1 ≤ nm := (nI_leI (by (first | ((try clear hP1); (try clear hK1); (try clear hn2); (try clear hb); (try clear hk); (try clear hn3); (try clear hr2); (try clear hr3); (try clear hr4); (try clear hr5); (try clear hr6); (try clear hr7); (try clear hr8); omega) | omega)) (by (first | ((try clear hP1); (try clear hK1); (try clear hn2); (try clear hb); (try clear hk); (try clear hn3); (try clear hr2); (try clear hr3); (try clear hr4); (try clear hr5); (try clear hr6); (try clear hr7); (try clear hr8); omega) | omega))).mp h273
                    have hB7 : bt rf ((rsT O s1 X).2.1 (rsP O s1 X)) = false := by
                      rcases h7c with ⟨_, z⟩ | ⟨z, _⟩
                      · rw [z]; exact src_own hF (by rw [hP1]; exact hp12) hns
                      · (first | ((try clear hP1); (try clear hK1); (try clear hn2); (try clear hb); (try clear hk); (try clear hn3); (try clear hr2); (try clear hr3); (try clear hr4); (try clear hr5); (try clear hr6); (try clear hr7); (try clear hr8); omega) | omega)
                    refine xv_aload_n hC dX7_readSection_295 rfl rfl ?_
                    refine xv_iload_n hC dX7_readSection_296 rfl rfl ?_
                    refine xv_iload_n hC dX7_readSection_297 rfl rfl ?_
                    refine xv_callV hC Y_yX7_lacks im_yX7_lacks se_yX7_lacks ml_X7_179 dX7_readSection_298 (em_lacks l G g sz (mK (mS (mLb M (va_up (va_up (M.2.2.2.2.1 15) s1 (-1)) s1 (nI P1)) (va_up (M.2.2.2.2.1 17) s1 (nI 0)) f19 z18 z20 j21) r8) c7) w0 X.2.1 hpo (k1 := s1) (q1 := P1) (by (first | ((try clear hP1); (try clear hK1); (try clear hn2); (try clear hb); (try clear hk); (try clear hn3); (try clear hr2); (try clear hr3); (try clear hr4); (try clear hr5); (try clear hr6); (try clear hr7); (try clear hr8); omega) | omega)) hp12 (fun j hj => by show (va_up (va_up (M.2.2.2.2.1 15) s1 (-1)) s1 (nI P1)) j = _; rw [va_up_ne _ _ (by (first | ((try clear hP1); (try clear hK1); (try clear hn2); (try clear hb); (try clear hk); (try clear hn3); (try clear hr2); (try clear hr3); (try clear hr4); (try clear hr5); (try clear hr6); (try clear hr7); (try clear hr8); omega) | omega)), va_up_ne _ _ (by (first | ((try clear hP1); (try clear hK1); (try clear hn2); (try clear hb); (try clear hk); (try clear hn3); (try clear hr2); (try clear hr3); (try clear hr4); (try clear hr5); (try clear hr6); (try clear hr7); (try clear hr8); omega) | omega))]; exact hPa j hj)) (ml_w_obj _ _ _ _) rfl rfl rfl (Nat.le_of_ble_eq_true rfl) ⟨Nat.le_of_ble_eq_true rfl, Nat.le_of_ble_eq_true rfl⟩ ⟨Nat.le_of_ble_eq_true rfl, Nat.le_of_ble_eq_true rfl⟩ ?_
                    refine xv_rs ?_
                    refine xv_cast (show _ = Value.int (cI (mLk X.2.1 (M.2.2.2.2.1 16) (M.2.2.2.1 3) P1 s1)) from rfl) ?_
                    refine xv_if_eq (tgt := 310) hC dX7_readSection_301 (by decide) (fun h301 => ?_) (fun h301 => ?_)
                    · have h301 : mLk X.2.1 (M.2.2.2.2.1 16) (M.2.2.2.1 3) P1 s1 = false := cI_0.mp h301
                      exact xn_return hC hr dX7_readSection_310 ⟨rfl, _, f19, z18, z20, j21, r8, c7, rfl, by rw [← hP1]; exact sec_post hPa hLC hn1 hns h7 (by rw [hR3]) (h80.trans (rsV_00 hn1 hR30 (by rw [hvs, hv4]; exact h258.symm) hB7 (by rw [hP1]; exact Classical.byContradiction (fun z => by rw [(lk_rf hRe hF hN hp12 hpo).mpr z] at h301; cases h301))).symm)⟩ rfl
                    · have h301 : mLk X.2.1 (M.2.2.2.2.1 16) (M.2.2.2.1 3) P1 s1 = true := cI_n0.mp h301
                      refine xv_aload_n hC dX7_readSection_304 rfl rfl ?_
                      refine xv_bipush (v := nI 8) hC dX7_readSection_305 (by decide) ?_
                      refine tp_X7_23 hC fl_X7_148 dX7_readSection_307 ?_
                      refine xv_world (show _ = wM G g (mK (mS (mLb M (va_up (va_up (M.2.2.2.2.1 15) s1 (-1)) s1 (nI P1)) (va_up (M.2.2.2.2.1 17) s1 (nI 0)) f19 z18 z20 j21) (r8.1, nI 8)) c7) w0 from congrArg (fun z => wM G g z w0) (lb_re _ _ _ _ _ _ _ _ _ _)) ?_
                      exact xn_return hC hr dX7_readSection_310 ⟨rfl, _, f19, z18, z20, j21, (r8.1, nI 8), c7, rfl, by rw [← hP1]; exact sec_post hPa hLC hn1 hns h7 (by rw [hR3]) ((rsV_8 hn1 hR30 (by rw [hvs, hv4]; exact h258.symm) hB7 (by rw [hP1]; exact (lk_rf hRe hF hN hp12 hpo).mp h301)).symm)⟩ rfl
                  · have h273 : nm < s1 := Nat.lt_of_not_le (fun z => h273 ((nI_leI (by (first | ((try clear hP1); (try clear hK1); (try clear hn2); (try clear hb); (try clear hk); (try clear hn3); (try clear hr2); (try clear hr3); (try clear hr4); (try clear hr5); (try clear hr6); (try clear hr7); (try clear hr8); omega) | omega)) (by (first | ((try clear hP1); (try clear hK1); (try clear hn2); (try clear hb); (try clear hk); (try clear hn3); (try clear hr2); (try clear hr3); (try clear hr4); (try clear hr5); (try clear hr6); (try clear hr7); (try clear hr8); omega) | omega))).mpr z))
                    refine xv_aload_n hC dX7_readSection_276 rfl rfl ?_
                    refine tg_X7_16 hC fl_X7_37 dX7_readSection_277 ?_
                    refine xv_iload hC dX7_readSection_280 rfl ?_
                    refine al_m_reasons hC dX7_readSection_282 rfl (by first | assumption | (first | ((try clear hP1); (try clear hK1); (try clear hn2); (try clear hb); (try clear hk); (try clear hn3); (try clear hr2); (try clear hr3); (try clear hr4); (try clear hr5); (try clear hr6); (try clear hr7); (try clear hr8); omega) | omega)) ?_
                    refine xv_cast (show _ = Value.int (M.2.2.2.2.1 16 nm) from rfl) ?_
                    refine xv_if_le (tgt := 295) hC dX7_readSection_283 (by decide) (fun h283 => ?_) (fun h283 => ?_)
                    · have hB7 : bt rf ((rsT O s1 X).2.1 (rsP O s1 X)) = false := by
                        rcases h7c with ⟨z, _⟩ | ⟨z, z2⟩
                        · (first | ((try clear hP1); (try clear hK1); (try clear hn2); (try clear hb); (try clear hk); (try clear hn3); (try clear hr2); (try clear hr3); (try clear hr4); (try clear hr5); (try clear hr6); (try clear hr7); (try clear hr8); omega) | omega)
                        · cases hb7 : bt rf ((rsT O s1 X).2.1 (rsP O s1 X)) with
                          | false => rfl
                          | true =>
                            have := (src_oth hF hLC z z2 (hpo _ _ z2)).mp hb7
                            rw [← hRe nm z] at this
                            exact absurd this (Int32.not_lt.mpr h283)
                      refine xv_aload_n hC dX7_readSection_295 rfl rfl ?_
                      refine xv_iload_n hC dX7_readSection_296 rfl rfl ?_
                      refine xv_iload_n hC dX7_readSection_297 rfl rfl ?_
                      refine xv_callV hC Y_yX7_lacks im_yX7_lacks se_yX7_lacks ml_X7_179 dX7_readSection_298 (em_lacks l G g sz (mK (mS (mLb M (va_up (va_up (M.2.2.2.2.1 15) s1 (-1)) s1 (nI P1)) (va_up (M.2.2.2.2.1 17) s1 (nI 0)) f19 z18 z20 j21) r8) c7) w0 X.2.1 hpo (k1 := s1) (q1 := P1) (by (first | ((try clear hP1); (try clear hK1); (try clear hn2); (try clear hb); (try clear hk); (try clear hn3); (try clear hr2); (try clear hr3); (try clear hr4); (try clear hr5); (try clear hr6); (try clear hr7); (try clear hr8); omega) | omega)) hp12 (fun j hj => by show (va_up (va_up (M.2.2.2.2.1 15) s1 (-1)) s1 (nI P1)) j = _; rw [va_up_ne _ _ (by (first | ((try clear hP1); (try clear hK1); (try clear hn2); (try clear hb); (try clear hk); (try clear hn3); (try clear hr2); (try clear hr3); (try clear hr4); (try clear hr5); (try clear hr6); (try clear hr7); (try clear hr8); omega) | omega)), va_up_ne _ _ (by (first | ((try clear hP1); (try clear hK1); (try clear hn2); (try clear hb); (try clear hk); (try clear hn3); (try clear hr2); (try clear hr3); (try clear hr4); (try clear hr5); (try clear hr6); (try clear hr7); (try clear hr8); omega) | omega))]; exact hPa j hj)) (ml_w_obj _ _ _ _) rfl rfl rfl (Nat.le_of_ble_eq_true rfl) ⟨Nat.le_of_ble_eq_true rfl, Nat.le_of_ble_eq_true rfl⟩ ⟨Nat.le_of_ble_eq_true rfl, Nat.le_of_ble_eq_true rfl⟩ ?_
                      refine xv_rs ?_
                      refine xv_cast (show _ = Value.int (cI (mLk X.2.1 (M.2.2.2.2.1 16) (M.2.2.2.1 3) P1 s1)) from rfl) ?_
                      refine xv_if_eq (tgt := 310) hC dX7_readSection_301 (by decide) (fun h301 => ?_) (fun h301 => ?_)
                      · have h301 : mLk X.2.1 (M.2.2.2.2.1 16) (M.2.2.2.1 3) P1 s1 = false := cI_0.mp h301
                        exact xn_return hC hr dX7_readSection_310 ⟨rfl, _, f19, z18, z20, j21, r8, c7, rfl, by rw [← hP1]; exact sec_post hPa hLC hn1 hns h7 (by rw [hR3]) (h80.trans (rsV_00 hn1 hR30 (by rw [hvs, hv4]; exact h258.symm) hB7 (by rw [hP1]; exact Classical.byContradiction (fun z => by rw [(lk_rf hRe hF hN hp12 hpo).mpr z] at h301; cases h301))).symm)⟩ rfl
                      · have h301 : mLk X.2.1 (M.2.2.2.2.1 16) (M.2.2.2.1 3) P1 s1 = true := cI_n0.mp h301
                        refine xv_aload_n hC dX7_readSection_304 rfl rfl ?_
                        refine xv_bipush (v := nI 8) hC dX7_readSection_305 (by decide) ?_
                        refine tp_X7_23 hC fl_X7_148 dX7_readSection_307 ?_
                        refine xv_world (show _ = wM G g (mK (mS (mLb M (va_up (va_up (M.2.2.2.2.1 15) s1 (-1)) s1 (nI P1)) (va_up (M.2.2.2.2.1 17) s1 (nI 0)) f19 z18 z20 j21) (r8.1, nI 8)) c7) w0 from congrArg (fun z => wM G g z w0) (lb_re _ _ _ _ _ _ _ _ _ _)) ?_
                        exact xn_return hC hr dX7_readSection_310 ⟨rfl, _, f19, z18, z20, j21, (r8.1, nI 8), c7, rfl, by rw [← hP1]; exact sec_post hPa hLC hn1 hns h7 (by rw [hR3]) ((rsV_8 hn1 hR30 (by rw [hvs, hv4]; exact h258.symm) hB7 (by rw [hP1]; exact (lk_rf hRe hF hN hp12 hpo).mp h301)).symm)⟩ rfl
                    · have hB7 : bt rf ((rsT O s1 X).2.1 (rsP O s1 X)) = true := by
                        rcases h7c with ⟨z, _⟩ | ⟨z, z2⟩
                        · (first | ((try clear hP1); (try clear hK1); (try clear hn2); (try clear hb); (try clear hk); (try clear hn3); (try clear hr2); (try clear hr3); (try clear hr4); (try clear hr5); (try clear hr6); (try clear hr7); (try clear hr8); omega) | omega)
                        · refine (src_oth hF hLC z z2 (hpo _ _ z2)).mpr ?_
                          rw [← hRe nm z]
                          exact Int32.not_le.mp h283
                      refine xv_aload_n hC dX7_readSection_286 rfl rfl ?_
                      refine xv_bipush (v := nI 7) hC dX7_readSection_287 (by decide) ?_
                      refine tp_X7_23 hC fl_X7_148 dX7_readSection_289 ?_
                      refine xv_world (show _ = wM G g (mK (mS (mLb M (va_up (va_up (M.2.2.2.2.1 15) s1 (-1)) s1 (nI P1)) (va_up (M.2.2.2.2.1 17) s1 (nI 0)) f19 z18 z20 j21) (r8.1, nI 7)) c7) w0 from congrArg (fun z => wM G g z w0) (lb_re _ _ _ _ _ _ _ _ _ _)) ?_
                      refine xv_goto (tgt := 310) hC dX7_readSection_292 (by decide) ?_
                      exact xn_return hC hr dX7_readSection_310 ⟨rfl, _, f19, z18, z20, j21, (r8.1, nI 7), c7, rfl, by rw [← hP1]; exact sec_post hPa hLC hn1 hns h7 (by rw [hR3]) ((rsV_7 hn1 hR30 (by rw [hvs, hv4]; exact h258.symm) hB7).symm)⟩ rfl
                · refine xv_aload_n hC dX7_readSection_261 rfl rfl ?_
                  refine xv_bipush (v := nI 6) hC dX7_readSection_262 (by decide) ?_
                  refine tp_X7_23 hC fl_X7_148 dX7_readSection_264 ?_
                  refine xv_world (show _ = wM G g (mK (mS (mLb M (va_up (va_up (M.2.2.2.2.1 15) s1 (-1)) s1 (nI P1)) (va_up (M.2.2.2.2.1 17) s1 (nI 0)) f19 z18 z20 j21) (r8.1, nI 6)) c7) w0 from congrArg (fun z => wM G g z w0) (lb_re _ _ _ _ _ _ _ _ _ _)) ?_
                  refine xv_goto (tgt := 310) hC dX7_readSection_267 (by decide) ?_
                  exact xn_return hC hr dX7_readSection_310 ⟨rfl, _, f19, z18, z20, j21, (r8.1, nI 6), c7, rfl, by rw [← hP1]; exact sec_post hPa hLC hn1 hns h7 (by rw [hR3]) ((rsV_6 hn1 hR30 (by rw [hvs, hv4]; exact fun z => h258 z.symm)).symm)⟩ rfl
              · have h80 : ¬ r8.2 = 0 := fun z => h238 (by rw [show (mK (mS (mLb M _ _ _ _ _ _) r8) _).1 23 = r8.2 from rfl, z]; decide)
                exact xn_return hC hr dX7_readSection_241 ⟨rfl, _, f19, z18, z20, j21, r8, c7, rfl, by rw [← hP1]; exact sec_post hPa hLC hn1 hns h7 (by rw [hR3]) (by rw [rsV_f hn1 (by rw [hR3]; exact h80), hR3])⟩ rfl
            · try simp (disch := (first | ((try clear hP1); (try clear hK1); (try clear hn2); (try clear hb); (try clear hk); (try clear hn3); (try clear hr2); (try clear hr3); (try clear hr4); (try clear hr5); (try clear hr6); (try clear hr7); (try clear hr8); omega) | omega)) only [nI_leI, nI_ltI, nI_eq, xz_eq, xz_le, xz_gt, cI_0, cI_n0, cI_inj, lg_cmp_ge, lg_cmp_le, lg_cmp_gt, lg_cmp_lt, lg_cmp_eq, Bool.not_eq_true, Bool.not_eq_false, Nat.not_le, Nat.not_lt] at h219
              refine xv_aload_n hC dX7_readSection_222 rfl rfl ?_
              refine xv_callV hC Y_yX7_next im_yX7_next se_yX7_next ml_X7_158 dX7_readSection_223 (em_nextN l G g sz (mLb M (va_up (va_up (M.2.2.2.2.1 15) s1 (-1)) s1 (nI P1)) (va_up (M.2.2.2.2.1 17) s1 (nI 0)) f19 z18 z20 j21) w0 O ⟨hMO.1, hMO.2⟩ hO (n4R O r7 e1) (n4R_le hr7 (Nat.le_refl _) e1) (he7.n4 O e1) c7) (ml_w_obj _ _ _ _) rfl rfl rfl (Nat.le_of_ble_eq_true rfl) ⟨Nat.le_of_ble_eq_true rfl, Nat.le_of_ble_eq_true rfl⟩ ⟨Nat.le_of_ble_eq_true rfl, Nat.le_of_ble_eq_true rfl⟩ ?_
              refine xv_rs ?_
              refine xv_world (show _ = wM G g (mK (mS (mLb M (va_up (va_up (M.2.2.2.2.1 15) s1 (-1)) s1 (nI P1)) (va_up (M.2.2.2.2.1 17) s1 (nI 0)) f19 z18 z20 j21) (n4R O r7 (e1 + 1))) c7) w0 from rfl) ?_
              refine xv_istore hC dX7_readSection_226 (by decide) ?_
              refine xv_iinc hC dX7_readSection_228 rfl (xinc _) (by decide) ?_
              refine xv_goto (tgt := 216) hC dX7_readSection_231 (by decide) ?_
              refine xV.to [(7, .int (nI (e1 + 1))), (6, .int (nI r7.1)), (5, .int (nI nm)), (3, .int (nI P1)), (2, .int (nI X.2.2.2.2.1)), (0, .ref g), (1, .int (nI s1))] ⟨rfl, rfl, rfl, rfl, rfl, rfl, rfl, trivial⟩ ?_
              exact ih216 (e1 + 1) (by (first | ((try clear hP1); (try clear hK1); (try clear hn2); (try clear hb); (try clear hk); (try clear hn3); (try clear hr2); (try clear hr3); (try clear hr4); (try clear hr5); (try clear hr6); (try clear hr7); (try clear hr8); omega) | omega)) (by (first | ((try clear hP1); (try clear hK1); (try clear hn2); (try clear hb); (try clear hk); (try clear hn3); (try clear hr2); (try clear hr3); (try clear hr4); (try clear hr5); (try clear hr6); (try clear hr7); (try clear hr8); omega) | omega))
        refine xV.to [(7, .int (nI 0)), (6, .int (nI r7.1)), (5, .int (nI nm)), (3, .int (nI P1)), (2, .int (nI X.2.2.2.2.1)), (0, .ref g), (1, .int (nI s1))] ⟨rfl, rfl, rfl, rfl, rfl, rfl, rfl, trivial⟩ ?_
        exact Lp216 5 0 (by (first | ((try clear hP1); (try clear hK1); (try clear hn2); (try clear hb); (try clear hk); (try clear hn3); (try clear hr2); (try clear hr3); (try clear hr4); (try clear hr5); (try clear hr6); (try clear hr7); (try clear hr8); omega) | omega)) (by (first | ((try clear hP1); (try clear hK1); (try clear hn2); (try clear hb); (try clear hk); (try clear hn3); (try clear hr2); (try clear hr3); (try clear hr4); (try clear hr5); (try clear hr6); (try clear hr7); (try clear hr8); omega) | omega))
      refine xv_aload_n hC dX7_readSection_61 rfl rfl ?_
      refine tg_X7_15 hC fl_X7_34 dX7_readSection_62 ?_
      refine xv_iload_n hC dX7_readSection_65 rfl rfl ?_
      refine xv_iload_n hC dX7_readSection_66 rfl rfl ?_
      refine as_m_parts hC dX7_readSection_67 rfl (by first | assumption | (first | ((try clear hP1); (try clear hK1); (try clear hn2); (try clear hb); (try clear hk); (try clear hn3); (try clear hr2); (try clear hr3); (try clear hr4); (try clear hr5); (try clear hr6); (try clear hr7); (try clear hr8); omega) | omega)) ?_
      refine xv_world (show _ = wM G g (mK (mS (mLb M (va_up (va_up (M.2.2.2.2.1 15) s1 (-1)) s1 (nI P1)) (va_up (M.2.2.2.2.1 17) s1 (nI 0)) (M.2.2.2.2.1 19) (M.2.2.2.1 18) (M.2.2.2.1 20) (M.2.2.2.2.2.1 21)) r2) M.2.2.2.2.2.2) w0 from congrArg (fun z => wM G g z w0) (lb_15 _ _ _ _ _ _ _ _ _ _ _)) ?_
      refine xv_aload_n hC dX7_readSection_68 rfl rfl ?_
      refine xv_callV hC Y_yX7_next im_yX7_next se_yX7_next ml_X7_158 dX7_readSection_69 (em_nextN l G g sz (mLb M (va_up (va_up (M.2.2.2.2.1 15) s1 (-1)) s1 (nI P1)) (va_up (M.2.2.2.2.1 17) s1 (nI 0)) (M.2.2.2.2.1 19) (M.2.2.2.1 18) (M.2.2.2.1 20) (M.2.2.2.2.2.1 21)) w0 O ⟨hMO.1, hMO.2⟩ hO r2 hr2l he2 M.2.2.2.2.2.2) (ml_w_obj _ _ _ _) rfl rfl rfl (Nat.le_of_ble_eq_true rfl) ⟨Nat.le_of_ble_eq_true rfl, Nat.le_of_ble_eq_true rfl⟩ ⟨Nat.le_of_ble_eq_true rfl, Nat.le_of_ble_eq_true rfl⟩ ?_
      refine xv_rs ?_
      obtain ⟨K1, hK1⟩ : ∃ k, nxN O r2 = k := ⟨_, rfl⟩
      have hk := nxV_nI O r2
      rw [hK1] at hk
      have hk256 := hk.2
      obtain ⟨r3, hr3⟩ : ∃ r, nxR O r2 = r := ⟨_, rfl⟩
      refine xv_world (show _ = wM G g (mK (mS (mLb M (va_up (va_up (M.2.2.2.2.1 15) s1 (-1)) s1 (nI P1)) (va_up (M.2.2.2.2.1 17) s1 (nI 0)) (M.2.2.2.2.1 19) (M.2.2.2.1 18) (M.2.2.2.1 20) (M.2.2.2.2.2.1 21)) r3) M.2.2.2.2.2.2) w0 by rw [hr3]) ?_
      refine xv_cast (congrArg Value.int hk.1) ?_
      have he3 : mRe r3 := by rw [← hr3]; exact he2.nx O
      have hr3l : r3.1 ≤ O.2.1 0 := by rw [← hr3]; exact nxR_le hr2l (Nat.le_refl _)
      refine xv_istore hC dX7_readSection_72 (by decide) ?_
      refine xv_aload_n hC dX7_readSection_74 rfl rfl ?_
      refine xv_iload hC dX7_readSection_75 rfl ?_
      refine xv_iconst (v := nI 2) hC dX7_readSection_77 (by decide) ?_
      have J86 : xV p l e (xr 3 0 0) s m args below meth c G A 9 (MQ below (xQn G A (fun r w => r = none ∧ ∃ (f15 f19 : Nat → Int32) (z18 z20 : Nat → Bool) (j21 : Nat → Int64) (r' : cR) (c' : Int64), w = wM G g (mK (mS (mLb M f15 (va_up (M.2.2.2.2.1 17) s1 (nI 0)) f19 z18 z20 j21) r') c') w0 ∧ secPost O X nd rf s1 (mK (mS (mLb M f15 (va_up (M.2.2.2.2.1 17) s1 (nI 0)) f19 z18 z20 j21) r') c')) (sz)) args s 0 0 A) sz (wM G g (mK (mS (mLb M (va_up (va_up (M.2.2.2.2.1 15) s1 (-1)) s1 (nI P1)) (va_up (M.2.2.2.2.1 17) s1 (nI 0)) (M.2.2.2.2.1 19) (M.2.2.2.1 18) (M.2.2.2.1 20) (M.2.2.2.2.2.1 21)) r3) M.2.2.2.2.2.2) w0) 0 0 86 [(4, .int (nI K1)), (3, .int (nI P1)), (2, .int (nI X.2.2.2.2.1)), (0, .ref g), (1, .int (nI s1))] [.int (cI (decide (K1 < 2))), .ref g] := by
        refine xv_callV hC Y_yX7_need im_yX7_need se_yX7_need ml_X7_161 dX7_readSection_86 (em_needN l G g sz (mLb M (va_up (va_up (M.2.2.2.2.1 15) s1 (-1)) s1 (nI P1)) (va_up (M.2.2.2.2.1 17) s1 (nI 0)) (M.2.2.2.2.1 19) (M.2.2.2.1 18) (M.2.2.2.1 20) (M.2.2.2.2.2.1 21)) w0 r3 M.2.2.2.2.2.2 (decide (K1 < 2))) (ml_w_obj _ _ _ _) rfl rfl rfl (Nat.le_of_ble_eq_true rfl) ⟨Nat.le_of_ble_eq_true rfl, Nat.le_of_ble_eq_true rfl⟩ ⟨Nat.le_of_ble_eq_true rfl, Nat.le_of_ble_eq_true rfl⟩ ?_
        refine xv_rn ?_
        obtain ⟨r4, hr4⟩ : ∃ r, ndR r3 (decide (K1 < 2)) = r := ⟨_, rfl⟩
        refine xv_world (show _ = wM G g (mK (mS (mLb M (va_up (va_up (M.2.2.2.2.1 15) s1 (-1)) s1 (nI P1)) (va_up (M.2.2.2.2.1 17) s1 (nI 0)) (M.2.2.2.2.1 19) (M.2.2.2.1 18) (M.2.2.2.1 20) (M.2.2.2.2.2.1 21)) r4) M.2.2.2.2.2.2) w0 by rw [hr4]) ?_
        have h4e : mRe r4 := by rw [← hr4]; exact he3.nd _
        have h4l : r4.1 ≤ O.2.1 0 := by rw [← hr4]; exact nd_le hr3l
        refine xv_aload_n hC dX7_readSection_89 rfl rfl ?_
        refine tg_X7_18 hC fl_X7_43 dX7_readSection_90 ?_
        refine xv_iload_n hC dX7_readSection_93 rfl rfl ?_
        refine xv_iload hC dX7_readSection_94 rfl ?_
        have J105 : xV p l e (xr 3 0 0) s m args below meth c G A 9 (MQ below (xQn G A (fun r w => r = none ∧ ∃ (f15 f19 : Nat → Int32) (z18 z20 : Nat → Bool) (j21 : Nat → Int64) (r' : cR) (c' : Int64), w = wM G g (mK (mS (mLb M f15 (va_up (M.2.2.2.2.1 17) s1 (nI 0)) f19 z18 z20 j21) r') c') w0 ∧ secPost O X nd rf s1 (mK (mS (mLb M f15 (va_up (M.2.2.2.2.1 17) s1 (nI 0)) f19 z18 z20 j21) r') c')) (sz)) args s 0 0 A) sz (wM G g (mK (mS (mLb M (va_up (va_up (M.2.2.2.2.1 15) s1 (-1)) s1 (nI P1)) (va_up (M.2.2.2.2.1 17) s1 (nI 0)) (M.2.2.2.2.1 19) (va_up (M.2.2.2.1 18) s1 (decide (K1 = 0))) (M.2.2.2.1 20) (M.2.2.2.2.2.1 21)) r4) M.2.2.2.2.2.2) w0) 0 0 105 [(4, .int (nI K1)), (3, .int (nI P1)), (2, .int (nI X.2.2.2.2.1)), (0, .ref g), (1, .int (nI s1))] [] := by
          refine xv_aload_n hC dX7_readSection_105 rfl rfl ?_
          refine tg_X7_19 hC fl_X7_46 dX7_readSection_106 ?_
          refine xv_iload_n hC dX7_readSection_109 rfl rfl ?_
          refine xv_iload_n hC dX7_readSection_110 rfl rfl ?_
          refine as_m_rowsOf hC dX7_readSection_111 rfl (by first | assumption | (first | ((try clear hP1); (try clear hK1); (try clear hn2); (try clear hb); (try clear hk); (try clear hn3); (try clear hr2); (try clear hr3); (try clear hr4); (try clear hr5); (try clear hr6); (try clear hr7); (try clear hr8); omega) | omega)) ?_
          refine xv_world (show _ = wM G g (mK (mS (mLb M (va_up (va_up (M.2.2.2.2.1 15) s1 (-1)) s1 (nI P1)) (va_up (M.2.2.2.2.1 17) s1 (nI 0)) (va_up (M.2.2.2.2.1 19) s1 (nI P1)) (va_up (M.2.2.2.1 18) s1 (decide (K1 = 0))) (M.2.2.2.1 20) (M.2.2.2.2.2.1 21)) r4) M.2.2.2.2.2.2) w0 from congrArg (fun z => wM G g z w0) (lb_19 _ _ _ _ _ _ _ _ _ _ _)) ?_
          refine xv_iload_n hC dX7_readSection_112 rfl rfl ?_
          refine xv_istore hC dX7_readSection_113 (by decide) ?_
          refine xv_aload_n hC dX7_readSection_115 rfl rfl ?_
          refine tg_X7_23 hC fl_X7_148 dX7_readSection_116 ?_
          refine xv_if_ne (tgt := 135) hC dX7_readSection_119 (by decide) (fun h119 => ?_) (fun h119 => ?_)
          · have h119 : ¬ r4.2 = 0 := h119
            refine xv_aload_n hC dX7_readSection_135 rfl rfl ?_
            refine tg_X7_23 hC fl_X7_148 dX7_readSection_136 ?_
            refine xv_if_ne (tgt := 207) hC dX7_readSection_139 (by decide) (fun h139 => ?_) (fun h139 => ?_)
            · have h139 : ¬ r4.2 = 0 := h139
              by_cases hr30 : r3.2 = 0
              · have hk2 : ¬ K1 < 2 := fun z => h119 (by rw [← hr4, decide_eq_true z, nd_same (Or.inr rfl)]; exact hr30)
                have e4 : r4 = rfR (nxR O (rsR1 O X)) (nI 5) := by rw [← hr4, decide_eq_false hk2, hr2, hr3]; rfl
                refine xV.to [(5, .int (nI s1)), (3, .int (nI P1)), (2, .int (nI X.2.2.2.2.1)), (0, .ref g), (1, .int (nI s1))] ⟨rfl, rfl, rfl, rfl, rfl, trivial⟩ ?_
                exact J207 (va_up (M.2.2.2.2.1 19) s1 (nI P1)) (va_up (M.2.2.2.1 18) s1 (decide (K1 = 0))) (M.2.2.2.1 20) (M.2.2.2.2.2.1 21) r4 M.2.2.2.2.2.2 s1 (by rw [e4]; exact s207_A2 _ _ _ _ hv (by rw [hr2, hk.1]; exact fun z => hk2 (by rw [(xz_eq (by (first | ((try clear hP1); (try clear hK1); (try clear hn2); (try clear hb); (try clear hk); (try clear hn3); (try clear hr2); (try clear hr3); (try clear hr4); (try clear hr5); (try clear hr6); (try clear hr7); (try clear hr8); omega) | omega))).mp z]; (first | ((try clear hP1); (try clear hK1); (try clear hn2); (try clear hb); (try clear hk); (try clear hn3); (try clear hr2); (try clear hr3); (try clear hr4); (try clear hr5); (try clear hr6); (try clear hr7); (try clear hr8); omega) | omega))) (by rw [hr2, hk.1]; exact fun z => hk2 (by rw [(nI_eq (by (first | ((try clear hP1); (try clear hK1); (try clear hn2); (try clear hb); (try clear hk); (try clear hn3); (try clear hr2); (try clear hr3); (try clear hr4); (try clear hr5); (try clear hr6); (try clear hr7); (try clear hr8); omega) | omega)) (by (first | ((try clear hP1); (try clear hK1); (try clear hn2); (try clear hb); (try clear hk); (try clear hn3); (try clear hr2); (try clear hr3); (try clear hr4); (try clear hr5); (try clear hr6); (try clear hr7); (try clear hr8); omega) | omega))).mp z]; (first | ((try clear hP1); (try clear hK1); (try clear hn2); (try clear hb); (try clear hk); (try clear hn3); (try clear hr2); (try clear hr3); (try clear hr4); (try clear hr5); (try clear hr6); (try clear hr7); (try clear hr8); omega) | omega)))) (by rw [← hr4]; exact nd_le hr3l) h4e (by (first | ((try clear hP1); (try clear hK1); (try clear hn2); (try clear hb); (try clear hk); (try clear hn3); (try clear hr2); (try clear hr3); (try clear hr4); (try clear hr5); (try clear hr6); (try clear hr7); (try clear hr8); omega) | omega))
              · have e4 : r4 = nxR O (rsR1 O X) := by rw [← hr4, ndR_ft hr30, hr2, hr3]
                refine xV.to [(5, .int (nI s1)), (3, .int (nI P1)), (2, .int (nI X.2.2.2.2.1)), (0, .ref g), (1, .int (nI s1))] ⟨rfl, rfl, rfl, rfl, rfl, trivial⟩ ?_
                exact J207 (va_up (M.2.2.2.2.1 19) s1 (nI P1)) (va_up (M.2.2.2.1 18) s1 (decide (K1 = 0))) (M.2.2.2.1 20) (M.2.2.2.2.2.1 21) r4 M.2.2.2.2.2.2 s1 (by rw [e4]; exact s207_A _ _ _ _ hv (by rw [hr2, hr3]; exact hr30)) (by rw [← hr4]; exact nd_le hr3l) h4e (by (first | ((try clear hP1); (try clear hK1); (try clear hn2); (try clear hb); (try clear hk); (try clear hn3); (try clear hr2); (try clear hr3); (try clear hr4); (try clear hr5); (try clear hr6); (try clear hr7); (try clear hr8); omega) | omega))
            · exact absurd (show r4.2 = 0 from h139) h119
          · have h119 : r4.2 = 0 := h119
            have h34 := nd_ok (r := r3) (b := decide (K1 < 2)) (by rw [hr4]; exact h119)
            have hK2 : K1 < 2 := of_decide_eq_true h34.2
            have e43 : r4 = r3 := by rw [← hr4, h34.2, nd_same (Or.inr rfl)]
            refine xv_iload hC dX7_readSection_122 rfl ?_
            refine xv_if_ne (tgt := 135) hC dX7_readSection_124 (by decide) (fun h124 => ?_) (fun h124 => ?_)
            · have h124 : ¬ K1 = 0 := fun z => h124 (congrArg nI z)
              refine xv_aload_n hC dX7_readSection_135 rfl rfl ?_
              refine tg_X7_23 hC fl_X7_148 dX7_readSection_136 ?_
              refine xv_if_ne (tgt := 207) hC dX7_readSection_139 (by decide) (fun h139 => ?_) (fun h139 => ?_)
              · exact absurd h119 h139
              · have h139 : r4.2 = 0 := h139
                refine xv_aload_n hC dX7_readSection_142 rfl rfl ?_
                refine xv_callV hC Y_yX7_next im_yX7_next se_yX7_next ml_X7_158 dX7_readSection_143 (em_nextN l G g sz (mLb M (va_up (va_up (M.2.2.2.2.1 15) s1 (-1)) s1 (nI P1)) (va_up (M.2.2.2.2.1 17) s1 (nI 0)) (va_up (M.2.2.2.2.1 19) s1 (nI P1)) (va_up (M.2.2.2.1 18) s1 (decide (K1 = 0))) (M.2.2.2.1 20) (M.2.2.2.2.2.1 21)) w0 O ⟨hMO.1, hMO.2⟩ hO r4 h4l h4e M.2.2.2.2.2.2) (ml_w_obj _ _ _ _) rfl rfl rfl (Nat.le_of_ble_eq_true rfl) ⟨Nat.le_of_ble_eq_true rfl, Nat.le_of_ble_eq_true rfl⟩ ⟨Nat.le_of_ble_eq_true rfl, Nat.le_of_ble_eq_true rfl⟩ ?_
                refine xv_rs ?_
                obtain ⟨N1, hn2⟩ : ∃ k, nxN O r4 = k := ⟨_, rfl⟩
                have hn3 := nxV_nI O r4
                rw [hn2] at hn3
                have hn256 := hn3.2
                have hk1 : nI K1 = nI 1 := congrArg nI (by (first | ((try clear hP1); (try clear hK1); (try clear hn2); (try clear hb); (try clear hk); (try clear hn3); (try clear hr2); (try clear hr3); (try clear hr4); (try clear hr5); (try clear hr6); (try clear hr7); (try clear hr8); omega) | omega))
                obtain ⟨r5, hr5⟩ : ∃ r, nxR O r4 = r := ⟨_, rfl⟩
                refine xv_world (show _ = wM G g (mK (mS (mLb M (va_up (va_up (M.2.2.2.2.1 15) s1 (-1)) s1 (nI P1)) (va_up (M.2.2.2.2.1 17) s1 (nI 0)) (va_up (M.2.2.2.2.1 19) s1 (nI P1)) (va_up (M.2.2.2.1 18) s1 (decide (K1 = 0))) (M.2.2.2.1 20) (M.2.2.2.2.2.1 21)) r5) M.2.2.2.2.2.2) w0 by rw [hr5]) ?_
                refine xv_cast (congrArg Value.int hn3.1) ?_
                have he5 : mRe r5 := by rw [← hr5]; exact h4e.nx O
                have hr5l : r5.1 ≤ O.2.1 0 := by rw [← hr5]; exact nxR_le h4l (Nat.le_refl _)
                refine xv_istore hC dX7_readSection_146 (by decide) ?_
                refine xv_aload_n hC dX7_readSection_148 rfl rfl ?_
                refine xv_iload hC dX7_readSection_149 rfl ?_
                refine xv_iload_n hC dX7_readSection_151 rfl rfl ?_
                have J180 : xV p l e (xr 3 0 0) s m args below meth c G A 9 (MQ below (xQn G A (fun r w => r = none ∧ ∃ (f15 f19 : Nat → Int32) (z18 z20 : Nat → Bool) (j21 : Nat → Int64) (r' : cR) (c' : Int64), w = wM G g (mK (mS (mLb M f15 (va_up (M.2.2.2.2.1 17) s1 (nI 0)) f19 z18 z20 j21) r') c') w0 ∧ secPost O X nd rf s1 (mK (mS (mLb M f15 (va_up (M.2.2.2.2.1 17) s1 (nI 0)) f19 z18 z20 j21) r') c')) (sz)) args s 0 0 A) sz (wM G g (mK (mS (mLb M (va_up (va_up (M.2.2.2.2.1 15) s1 (-1)) s1 (nI P1)) (va_up (M.2.2.2.2.1 17) s1 (nI 0)) (va_up (M.2.2.2.2.1 19) s1 (nI P1)) (va_up (M.2.2.2.1 18) s1 (decide (K1 = 0))) (M.2.2.2.1 20) (M.2.2.2.2.2.1 21)) r5) M.2.2.2.2.2.2) w0) 0 0 180 [(5, .int (nI N1)), (4, .int (nI K1)), (3, .int (nI P1)), (2, .int (nI X.2.2.2.2.1)), (0, .ref g), (1, .int (nI s1))] [.int (cI (decide (N1 < s1) && (M.2.2.2.1 18) N1)), .ref g] := by
                  refine xv_callV hC Y_yX7_need im_yX7_need se_yX7_need ml_X7_161 dX7_readSection_180 (em_needN l G g sz (mLb M (va_up (va_up (M.2.2.2.2.1 15) s1 (-1)) s1 (nI P1)) (va_up (M.2.2.2.2.1 17) s1 (nI 0)) (va_up (M.2.2.2.2.1 19) s1 (nI P1)) (va_up (M.2.2.2.1 18) s1 (decide (K1 = 0))) (M.2.2.2.1 20) (M.2.2.2.2.2.1 21)) w0 r5 M.2.2.2.2.2.2 (decide (N1 < s1) && (M.2.2.2.1 18) N1)) (ml_w_obj _ _ _ _) rfl rfl rfl (Nat.le_of_ble_eq_true rfl) ⟨Nat.le_of_ble_eq_true rfl, Nat.le_of_ble_eq_true rfl⟩ ⟨Nat.le_of_ble_eq_true rfl, Nat.le_of_ble_eq_true rfl⟩ ?_
                  refine xv_rn ?_
                  obtain ⟨r6, hr6⟩ : ∃ r, ndR r5 (decide (N1 < s1) && (M.2.2.2.1 18) N1) = r := ⟨_, rfl⟩
                  refine xv_world (show _ = wM G g (mK (mS (mLb M (va_up (va_up (M.2.2.2.2.1 15) s1 (-1)) s1 (nI P1)) (va_up (M.2.2.2.2.1 17) s1 (nI 0)) (va_up (M.2.2.2.2.1 19) s1 (nI P1)) (va_up (M.2.2.2.1 18) s1 (decide (K1 = 0))) (M.2.2.2.1 20) (M.2.2.2.2.2.1 21)) r6) M.2.2.2.2.2.2) w0 by rw [hr6]) ?_
                  have he6 : mRe r6 := by rw [← hr6]; exact he5.nd _
                  have hr6l : r6.1 ≤ O.2.1 0 := by rw [← hr6]; exact nd_le hr5l
                  refine xv_aload_n hC dX7_readSection_183 rfl rfl ?_
                  refine tg_X7_19 hC fl_X7_46 dX7_readSection_184 ?_
                  refine xv_iload_n hC dX7_readSection_187 rfl rfl ?_
                  refine xv_aload_n hC dX7_readSection_188 rfl rfl ?_
                  refine tg_X7_23 hC fl_X7_148 dX7_readSection_189 ?_
                  refine xv_if_ne (tgt := 205) hC dX7_readSection_192 (by decide) (fun h192 => ?_) (fun h192 => ?_)
                  · have h192 : ¬ r6.2 = 0 := h192
                    refine xv_iload_n hC dX7_readSection_205 rfl rfl ?_
                    refine as_m_rowsOf hC dX7_readSection_206 rfl (by first | assumption | (first | ((try clear hP1); (try clear hK1); (try clear hn2); (try clear hb); (try clear hk); (try clear hn3); (try clear hr2); (try clear hr3); (try clear hr4); (try clear hr5); (try clear hr6); (try clear hr7); (try clear hr8); omega) | omega)) ?_
                    first
                    | refine xv_world (show _ = wM G g (mK (mS (mLb M (va_up (va_up (M.2.2.2.2.1 15) s1 (-1)) s1 (nI P1)) (va_up (M.2.2.2.2.1 17) s1 (nI 0)) (va_up (va_up (M.2.2.2.2.1 19) s1 (nI P1)) s1 ((M.2.2.2.2.1 19) N1)) (va_up (M.2.2.2.1 18) s1 (decide (K1 = 0))) (M.2.2.2.1 20) (M.2.2.2.2.2.1 21)) r6) M.2.2.2.2.2.2) w0 from congrArg (fun z => wM G g z w0) (lb_19 _ _ _ _ _ _ _ _ _ _ _)) ?_
                    | refine xv_world (show _ = wM G g (mK (mS (mLb M (va_up (va_up (M.2.2.2.2.1 15) s1 (-1)) s1 (nI P1)) (va_up (M.2.2.2.2.1 17) s1 (nI 0)) (va_up (va_up (M.2.2.2.2.1 19) s1 (nI P1)) s1 (nI P1)) (va_up (M.2.2.2.1 18) s1 (decide (K1 = 0))) (M.2.2.2.1 20) (M.2.2.2.2.2.1 21)) r6) M.2.2.2.2.2.2) w0 from congrArg (fun z => wM G g z w0) (lb_19 _ _ _ _ _ _ _ _ _ _ _)) ?_
                    cases hokn : (decide (N1 < s1) && (M.2.2.2.1 18) N1) with
                    | true =>
                      have e65 : r6 = r5 := by rw [← hr6, hokn, nd_same (Or.inr rfl)]
                      have hr50 : ¬ r5.2 = 0 := by rw [← e65]; exact h192
                      refine xV.to [(5, .int (nI N1)), (3, .int (nI P1)), (2, .int (nI X.2.2.2.2.1)), (0, .ref g), (1, .int (nI s1))] ⟨rfl, rfl, rfl, rfl, rfl, trivial⟩ ?_
                      exact J207 (va_up (va_up (M.2.2.2.2.1 19) s1 (nI P1)) s1 (nI P1)) (va_up (M.2.2.2.1 18) s1 (decide (K1 = 0))) (M.2.2.2.1 20) (M.2.2.2.2.2.1 21) r6 M.2.2.2.2.2.2 N1 (by rw [e65]; exact s207_C1' hv hLC hns (by rw [hr2, hk.1]; exact fun z => h124 ((xz_eq (by (first | ((try clear hP1); (try clear hK1); (try clear hn2); (try clear hb); (try clear hk); (try clear hn3); (try clear hr2); (try clear hr3); (try clear hr4); (try clear hr5); (try clear hr6); (try clear hr7); (try clear hr8); omega) | omega))).mp z)) (by rw [hr2, hk.1, hk1]) (by rw [hr2, hr3, ← e43]; exact hn2) (by rw [hr2, hr3, ← e43]; exact hr5) (of_decide_eq_true (Bool.and_eq_true_iff.mp hokn).1) (Bool.and_eq_true_iff.mp hokn).2 h124 (fun j hj => by rw [va_up_ne _ _ (by (first | ((try clear hP1); (try clear hK1); (try clear hn2); (try clear hb); (try clear hk); (try clear hn3); (try clear hr2); (try clear hr3); (try clear hr4); (try clear hr5); (try clear hr6); (try clear hr7); (try clear hr8); omega) | omega)), va_up_ne _ _ (by (first | ((try clear hP1); (try clear hK1); (try clear hn2); (try clear hb); (try clear hk); (try clear hn3); (try clear hr2); (try clear hr3); (try clear hr4); (try clear hr5); (try clear hr6); (try clear hr7); (try clear hr8); omega) | omega))]) (fun z => absurd z hr50)) hr6l he6 hn256
                    | false =>
                      have e65 : r6 = rfR r5 (nI 5) := by rw [← hr6, hokn]; rfl
                      refine xV.to [(5, .int (nI N1)), (3, .int (nI P1)), (2, .int (nI X.2.2.2.2.1)), (0, .ref g), (1, .int (nI s1))] ⟨rfl, rfl, rfl, rfl, rfl, trivial⟩ ?_
                      exact J207 (va_up (va_up (M.2.2.2.2.1 19) s1 (nI P1)) s1 (nI P1)) (va_up (M.2.2.2.1 18) s1 (decide (K1 = 0))) (M.2.2.2.1 20) (M.2.2.2.2.2.1 21) r6 M.2.2.2.2.2.2 N1 (by rw [e65]; exact s207_C2' _ _ _ _ hv hLC hns (by rw [hr2, hk.1]; exact fun z => h124 ((xz_eq (by (first | ((try clear hP1); (try clear hK1); (try clear hn2); (try clear hb); (try clear hk); (try clear hn3); (try clear hr2); (try clear hr3); (try clear hr4); (try clear hr5); (try clear hr6); (try clear hr7); (try clear hr8); omega) | omega))).mp z)) (by rw [hr2, hk.1, hk1]) (by rw [hr2, hr3, ← e43]; exact hn2) (by rw [hr2, hr3, ← e43]; exact hr5) hokn) hr6l he6 hn256
                  · have h192 : r6.2 = 0 := h192
                    have h65 := nd_ok (r := r5) (b := (decide (N1 < s1) && (M.2.2.2.1 18) N1)) (by rw [hr6]; exact h192)
                    have hokn := h65.2
                    have e65 : r6 = r5 := by rw [← hr6, hokn, nd_same (Or.inr rfl)]
                    have hokn : (decide (N1 < s1) && (M.2.2.2.1 18) N1) = true := hokn
                    have hN1s : N1 < s1 := of_decide_eq_true (Bool.and_eq_true_iff.mp hokn).1
                    refine xv_aload_n hC dX7_readSection_195 rfl rfl ?_
                    refine tg_X7_19 hC fl_X7_46 dX7_readSection_196 ?_
                    refine xv_iload hC dX7_readSection_199 rfl ?_
                    refine al_m_rowsOf hC dX7_readSection_201 rfl (by first | assumption | (first | ((try clear hP1); (try clear hK1); (try clear hn2); (try clear hb); (try clear hk); (try clear hn3); (try clear hr2); (try clear hr3); (try clear hr4); (try clear hr5); (try clear hr6); (try clear hr7); (try clear hr8); omega) | omega)) ?_
                    refine xv_cast (show _ = Value.int ((M.2.2.2.2.1 19) N1) by show Value.int ((va_up (M.2.2.2.2.1 19) s1 (nI P1)) N1) = _; rw [va_up_ne _ _ (by (first | ((try clear hP1); (try clear hK1); (try clear hn2); (try clear hb); (try clear hk); (try clear hn3); (try clear hr2); (try clear hr3); (try clear hr4); (try clear hr5); (try clear hr6); (try clear hr7); (try clear hr8); omega) | omega))]) ?_
                    refine xv_goto (tgt := 206) hC dX7_readSection_202 (by decide) ?_
                    refine as_m_rowsOf hC dX7_readSection_206 rfl (by first | assumption | (first | ((try clear hP1); (try clear hK1); (try clear hn2); (try clear hb); (try clear hk); (try clear hn3); (try clear hr2); (try clear hr3); (try clear hr4); (try clear hr5); (try clear hr6); (try clear hr7); (try clear hr8); omega) | omega)) ?_
                    first
                    | refine xv_world (show _ = wM G g (mK (mS (mLb M (va_up (va_up (M.2.2.2.2.1 15) s1 (-1)) s1 (nI P1)) (va_up (M.2.2.2.2.1 17) s1 (nI 0)) (va_up (va_up (M.2.2.2.2.1 19) s1 (nI P1)) s1 ((M.2.2.2.2.1 19) N1)) (va_up (M.2.2.2.1 18) s1 (decide (K1 = 0))) (M.2.2.2.1 20) (M.2.2.2.2.2.1 21)) r6) M.2.2.2.2.2.2) w0 from congrArg (fun z => wM G g z w0) (lb_19 _ _ _ _ _ _ _ _ _ _ _)) ?_
                    | refine xv_world (show _ = wM G g (mK (mS (mLb M (va_up (va_up (M.2.2.2.2.1 15) s1 (-1)) s1 (nI P1)) (va_up (M.2.2.2.2.1 17) s1 (nI 0)) (va_up (va_up (M.2.2.2.2.1 19) s1 (nI P1)) s1 (nI P1)) (va_up (M.2.2.2.1 18) s1 (decide (K1 = 0))) (M.2.2.2.1 20) (M.2.2.2.2.2.1 21)) r6) M.2.2.2.2.2.2) w0 from congrArg (fun z => wM G g z w0) (lb_19 _ _ _ _ _ _ _ _ _ _ _)) ?_
                    refine xV.to [(5, .int (nI N1)), (3, .int (nI P1)), (2, .int (nI X.2.2.2.2.1)), (0, .ref g), (1, .int (nI s1))] ⟨rfl, rfl, rfl, rfl, rfl, trivial⟩ ?_
                    exact J207 (va_up (va_up (M.2.2.2.2.1 19) s1 (nI P1)) s1 ((M.2.2.2.2.1 19) N1)) (va_up (M.2.2.2.1 18) s1 (decide (K1 = 0))) (M.2.2.2.1 20) (M.2.2.2.2.2.1 21) r6 M.2.2.2.2.2.2 N1 (by rw [e65]; exact s207_C1' hv hLC hns (by rw [hr2, hk.1]; exact fun z => h124 ((xz_eq (by (first | ((try clear hP1); (try clear hK1); (try clear hn2); (try clear hb); (try clear hk); (try clear hn3); (try clear hr2); (try clear hr3); (try clear hr4); (try clear hr5); (try clear hr6); (try clear hr7); (try clear hr8); omega) | omega))).mp z)) (by rw [hr2, hk.1, hk1]) (by rw [hr2, hr3, ← e43]; exact hn2) (by rw [hr2, hr3, ← e43]; exact hr5) (of_decide_eq_true (Bool.and_eq_true_iff.mp hokn).1) (Bool.and_eq_true_iff.mp hokn).2 h124 (fun j hj => by rw [va_up_ne _ _ (by (first | ((try clear hP1); (try clear hK1); (try clear hn2); (try clear hb); (try clear hk); (try clear hn3); (try clear hr2); (try clear hr3); (try clear hr4); (try clear hr5); (try clear hr6); (try clear hr7); (try clear hr8); omega) | omega)), va_up_ne _ _ (by (first | ((try clear hP1); (try clear hK1); (try clear hn2); (try clear hb); (try clear hk); (try clear hn3); (try clear hr2); (try clear hr3); (try clear hr4); (try clear hr5); (try clear hr6); (try clear hr7); (try clear hr8); omega) | omega))]) (fun _ => va_up_self _ _ _)) hr6l he6 hn256
                refine xv_icmp_ge (tgt := 179) hC dX7_readSection_152 (by decide) (fun h152 => ?_) (fun h152 => ?_)
                · have h152 : ¬ N1 < s1 := Nat.not_lt.mpr ((nI_leI (by (first | ((try clear hP1); (try clear hK1); (try clear hn2); (try clear hb); (try clear hk); (try clear hn3); (try clear hr2); (try clear hr3); (try clear hr4); (try clear hr5); (try clear hr6); (try clear hr7); (try clear hr8); omega) | omega)) (by (first | ((try clear hP1); (try clear hK1); (try clear hn2); (try clear hb); (try clear hk); (try clear hn3); (try clear hr2); (try clear hr3); (try clear hr4); (try clear hr5); (try clear hr6); (try clear hr7); (try clear hr8); omega) | omega))).mp h152)
                  refine xv_iconst (v := nI 0) hC dX7_readSection_179 (by decide) ?_
                  refine xv_cast (congrArg Value.int (show _ = cI (decide (N1 < s1) && (M.2.2.2.1 18) N1) by first | exact c1_of (on_1 h152 h172) | exact c0_of (on_0b h172) | exact c0_of (on_0a h152))) ?_
                  exact J180
                · have h152 : N1 < s1 := Nat.lt_of_not_le (fun z => h152 ((nI_leI (by (first | ((try clear hP1); (try clear hK1); (try clear hn2); (try clear hb); (try clear hk); (try clear hn3); (try clear hr2); (try clear hr3); (try clear hr4); (try clear hr5); (try clear hr6); (try clear hr7); (try clear hr8); omega) | omega)) (by (first | ((try clear hP1); (try clear hK1); (try clear hn2); (try clear hb); (try clear hk); (try clear hn3); (try clear hr2); (try clear hr3); (try clear hr4); (try clear hr5); (try clear hr6); (try clear hr7); (try clear hr8); omega) | omega))).mpr z))
                  refine xv_aload_n hC dX7_readSection_155 rfl rfl ?_
                  refine tg_X7_18 hC fl_X7_43 dX7_readSection_156 ?_
                  refine xv_iload hC dX7_readSection_159 rfl ?_
                  refine xv_iload_n hC dX7_readSection_161 rfl rfl ?_
                  refine xv_icmp_ge (tgt := 170) hC dX7_readSection_162 (by decide) (fun h162 => ?_) (fun h162 => ?_)
                  · exact absurd ((nI_leI (by (first | ((try clear hP1); (try clear hK1); (try clear hn2); (try clear hb); (try clear hk); (try clear hn3); (try clear hr2); (try clear hr3); (try clear hr4); (try clear hr5); (try clear hr6); (try clear hr7); (try clear hr8); omega) | omega)) (by (first | ((try clear hP1); (try clear hK1); (try clear hn2); (try clear hb); (try clear hk); (try clear hn3); (try clear hr2); (try clear hr3); (try clear hr4); (try clear hr5); (try clear hr6); (try clear hr7); (try clear hr8); omega) | omega))).mp h162) (by (first | ((try clear hP1); (try clear hK1); (try clear hn2); (try clear hb); (try clear hk); (try clear hn3); (try clear hr2); (try clear hr3); (try clear hr4); (try clear hr5); (try clear hr6); (try clear hr7); (try clear hr8); omega) | omega))
                  · refine xv_iload hC dX7_readSection_165 rfl ?_
                    refine xv_goto (tgt := 171) hC dX7_readSection_167 (by decide) ?_
                    refine al_m_own hC dX7_readSection_171 rfl (by first | assumption | (first | ((try clear hP1); (try clear hK1); (try clear hn2); (try clear hb); (try clear hk); (try clear hn3); (try clear hr2); (try clear hr3); (try clear hr4); (try clear hr5); (try clear hr6); (try clear hr7); (try clear hr8); omega) | omega)) ?_
                    refine xv_cast (show _ = Value.int (cI ((M.2.2.2.1 18) N1)) by show Value.int (cI ((va_up (M.2.2.2.1 18) s1 (decide (K1 = 0))) N1)) = _; rw [va_up_ne _ _ (by (first | ((try clear hP1); (try clear hK1); (try clear hn2); (try clear hb); (try clear hk); (try clear hn3); (try clear hr2); (try clear hr3); (try clear hr4); (try clear hr5); (try clear hr6); (try clear hr7); (try clear hr8); omega) | omega))]) ?_
                    refine xv_if_eq (tgt := 179) hC dX7_readSection_172 (by decide) (fun h172 => ?_) (fun h172 => ?_)
                    · have h172 : M.2.2.2.1 18 N1 = false := cI_0.mp h172
                      refine xv_iconst (v := nI 0) hC dX7_readSection_179 (by decide) ?_
                      refine xv_cast (congrArg Value.int (show _ = cI (decide (N1 < s1) && (M.2.2.2.1 18) N1) by first | exact c1_of (on_1 h152 h172) | exact c0_of (on_0b h172) | exact c0_of (on_0a h152))) ?_
                      exact J180
                    · have h172 : M.2.2.2.1 18 N1 = true := cI_n0.mp h172
                      refine xv_iconst (v := nI 1) hC dX7_readSection_175 (by decide) ?_
                      refine xv_goto (tgt := 180) hC dX7_readSection_176 (by decide) ?_
                      refine xv_cast (congrArg Value.int (show _ = cI (decide (N1 < s1) && (M.2.2.2.1 18) N1) by first | exact c1_of (on_1 h152 h172) | exact c0_of (on_0b h172) | exact c0_of (on_0a h152))) ?_
                      exact J180
            · have h124 : K1 = 0 := (xz_eq (by (first | ((try clear hP1); (try clear hK1); (try clear hn2); (try clear hb); (try clear hk); (try clear hn3); (try clear hr2); (try clear hr3); (try clear hr4); (try clear hr5); (try clear hr6); (try clear hr7); (try clear hr8); omega) | omega))).mp h124
              refine xv_aload_n hC dX7_readSection_127 rfl rfl ?_
              refine xv_iload_n hC dX7_readSection_128 rfl rfl ?_
              refine xn_callV hC Y_yX7_readRows im_yX7_readRows se_yX7_readRows ml_X7_173 dX7_readSection_129 (em_readRows l G g sz (mK (mS (mLb M (va_up (va_up (M.2.2.2.2.1 15) s1 (-1)) s1 (nI P1)) (va_up (M.2.2.2.2.1 17) s1 (nI 0)) (va_up (M.2.2.2.2.1 19) s1 (nI P1)) (va_up (M.2.2.2.1 18) s1 (decide (K1 = 0))) (M.2.2.2.1 20) (M.2.2.2.2.2.1 21)) r4) M.2.2.2.2.2.2) w0 O ⟨hMO.1, hMO.2⟩ hO h4l h4e X.1 (p1 := P1) hp12 (fun i hi => hv P1 i hp12 hi)) (ml_w_obj _ _ _ _) rfl rfl rfl (Nat.le_of_ble_eq_true rfl) ⟨Nat.le_of_ble_eq_true rfl, Nat.le_of_ble_eq_true rfl⟩ ⟨Nat.le_of_ble_eq_true rfl, Nat.le_of_ble_eq_true rfl⟩ (fun r129 w129 hP129 => ?_)
              obtain ⟨rfl, Z, J, c', rfl, hw⟩ := hP129
              refine xv_rn ?_
              obtain ⟨r7, hr7⟩ : ∃ r, (nrF O (13 + P1) X.1 r4).2 = r := ⟨_, rfl⟩
              refine xv_world (show _ = wM G g (mK (mS (mLb M (va_up (va_up (M.2.2.2.2.1 15) s1 (-1)) s1 (nI P1)) (va_up (M.2.2.2.2.1 17) s1 (nI 0)) (va_up (M.2.2.2.2.1 19) s1 (nI P1)) (va_up (M.2.2.2.1 18) s1 (decide (K1 = 0))) Z J) r7) c') w0 by rw [lb_rows, show mRd (mK (mS (mLb M (va_up (va_up (M.2.2.2.2.1 15) s1 (-1)) s1 (nI P1)) (va_up (M.2.2.2.2.1 17) s1 (nI 0)) (va_up (M.2.2.2.2.1 19) s1 (nI P1)) (va_up (M.2.2.2.1 18) s1 (decide (K1 = 0))) (M.2.2.2.1 20) (M.2.2.2.2.2.1 21)) r4) M.2.2.2.2.2.2) = r4 from rfl, hr7]) ?_
              have hr7l : r7.1 ≤ O.2.1 0 := by rw [← hr7]; exact nrF_le (Nat.le_refl _) _ _ h4l
              have he7 : mRe r7 := by rw [← hr7]; exact h4e.nrF O _ _
              have hw : rwP M P1 (nrF O (13 + P1) X.1 r4).1 (13 + P1) Z J := hw
              refine xv_goto (tgt := 207) hC dX7_readSection_132 (by decide) ?_
              refine xV.to [(5, .int (nI s1)), (3, .int (nI P1)), (2, .int (nI X.2.2.2.2.1)), (0, .ref g), (1, .int (nI s1))] ⟨rfl, rfl, rfl, rfl, rfl, trivial⟩ ?_
              exact J207 (va_up (M.2.2.2.2.1 19) s1 (nI P1)) (va_up (M.2.2.2.1 18) s1 (decide (K1 = 0))) Z J r7 c' s1 (s207_B' hv (by rw [hr2, hk.1, h124]; rfl) hP1 (by rw [hr2, hr3, e43]) h124 hw hr7) hr7l he7 (by (first | ((try clear hP1); (try clear hK1); (try clear hn2); (try clear hb); (try clear hk); (try clear hn3); (try clear hr2); (try clear hr3); (try clear hr4); (try clear hr5); (try clear hr6); (try clear hr7); (try clear hr8); omega) | omega))
        refine xv_if_ne (tgt := 103) hC dX7_readSection_96 (by decide) (fun h96 => ?_) (fun h96 => ?_)
        · have h96 : ¬ K1 = 0 := fun z => h96 (congrArg nI z)
          refine xv_iconst (v := nI 0) hC dX7_readSection_103 (by decide) ?_
          refine as_m_own hC dX7_readSection_104 rfl (by first | assumption | (first | ((try clear hP1); (try clear hK1); (try clear hn2); (try clear hb); (try clear hk); (try clear hn3); (try clear hr2); (try clear hr3); (try clear hr4); (try clear hr5); (try clear hr6); (try clear hr7); (try clear hr8); omega) | omega)) (by first | exact cI_c1 | exact cI_c0 | rfl) ?_
          first
          | refine xv_world (show _ = wM G g (mK (mS (mLb M (va_up (va_up (M.2.2.2.2.1 15) s1 (-1)) s1 (nI P1)) (va_up (M.2.2.2.2.1 17) s1 (nI 0)) (M.2.2.2.2.1 19) (va_up (M.2.2.2.1 18) s1 (decide (K1 = 0))) (M.2.2.2.1 20) (M.2.2.2.2.2.1 21)) r4) M.2.2.2.2.2.2) w0 by rw [lb_18, decide_eq_true h96]) ?_
          | refine xv_world (show _ = wM G g (mK (mS (mLb M (va_up (va_up (M.2.2.2.2.1 15) s1 (-1)) s1 (nI P1)) (va_up (M.2.2.2.2.1 17) s1 (nI 0)) (M.2.2.2.2.1 19) (va_up (M.2.2.2.1 18) s1 (decide (K1 = 0))) (M.2.2.2.1 20) (M.2.2.2.2.2.1 21)) r4) M.2.2.2.2.2.2) w0 by rw [lb_18, decide_eq_false h96]) ?_
          refine xV.to [(4, .int (nI K1)), (3, .int (nI P1)), (2, .int (nI X.2.2.2.2.1)), (0, .ref g), (1, .int (nI s1))] ⟨rfl, rfl, rfl, rfl, rfl, trivial⟩ ?_
          exact J105
        · have h96 : K1 = 0 := (xz_eq (by (first | ((try clear hP1); (try clear hK1); (try clear hn2); (try clear hb); (try clear hk); (try clear hn3); (try clear hr2); (try clear hr3); (try clear hr4); (try clear hr5); (try clear hr6); (try clear hr7); (try clear hr8); omega) | omega))).mp h96
          refine xv_iconst (v := nI 1) hC dX7_readSection_99 (by decide) ?_
          refine xv_goto (tgt := 104) hC dX7_readSection_100 (by decide) ?_
          refine as_m_own hC dX7_readSection_104 rfl (by first | assumption | (first | ((try clear hP1); (try clear hK1); (try clear hn2); (try clear hb); (try clear hk); (try clear hn3); (try clear hr2); (try clear hr3); (try clear hr4); (try clear hr5); (try clear hr6); (try clear hr7); (try clear hr8); omega) | omega)) (by first | exact cI_c1 | exact cI_c0 | rfl) ?_
          first
          | refine xv_world (show _ = wM G g (mK (mS (mLb M (va_up (va_up (M.2.2.2.2.1 15) s1 (-1)) s1 (nI P1)) (va_up (M.2.2.2.2.1 17) s1 (nI 0)) (M.2.2.2.2.1 19) (va_up (M.2.2.2.1 18) s1 (decide (K1 = 0))) (M.2.2.2.1 20) (M.2.2.2.2.2.1 21)) r4) M.2.2.2.2.2.2) w0 by rw [lb_18, decide_eq_true h96]) ?_
          | refine xv_world (show _ = wM G g (mK (mS (mLb M (va_up (va_up (M.2.2.2.2.1 15) s1 (-1)) s1 (nI P1)) (va_up (M.2.2.2.2.1 17) s1 (nI 0)) (M.2.2.2.2.1 19) (va_up (M.2.2.2.1 18) s1 (decide (K1 = 0))) (M.2.2.2.1 20) (M.2.2.2.2.2.1 21)) r4) M.2.2.2.2.2.2) w0 by rw [lb_18, decide_eq_false h96]) ?_
          refine xV.to [(4, .int (nI K1)), (3, .int (nI P1)), (2, .int (nI X.2.2.2.2.1)), (0, .ref g), (1, .int (nI s1))] ⟨rfl, rfl, rfl, rfl, rfl, trivial⟩ ?_
          exact J105
      refine xv_icmp_ge (tgt := 85) hC dX7_readSection_78 (by decide) (fun h78 => ?_) (fun h78 => ?_)
      · try simp (disch := (first | ((try clear hP1); (try clear hK1); (try clear hn2); (try clear hb); (try clear hk); (try clear hn3); (try clear hr2); (try clear hr3); (try clear hr4); (try clear hr5); (try clear hr6); (try clear hr7); (try clear hr8); omega) | omega)) only [nI_leI, nI_ltI, nI_eq, xz_eq, xz_le, xz_gt, cI_0, cI_n0, cI_inj, lg_cmp_ge, lg_cmp_le, lg_cmp_gt, lg_cmp_lt, lg_cmp_eq, Bool.not_eq_true, Bool.not_eq_false, Nat.not_le, Nat.not_lt] at h78
        refine xv_iconst (v := nI 0) hC dX7_readSection_85 (by decide) ?_
        refine xv_cast (congrArg Value.int (show _ = cI (decide (K1 < 2)) by first | exact c1_of (decide_eq_true (show K1 < 2 by (first | ((try clear hP1); (try clear hK1); (try clear hn2); (try clear hb); (try clear hk); (try clear hn3); (try clear hr2); (try clear hr3); (try clear hr4); (try clear hr5); (try clear hr6); (try clear hr7); (try clear hr8); omega) | omega))) | exact c0_of (decide_eq_false (show ¬ K1 < 2 by (first | ((try clear hP1); (try clear hK1); (try clear hn2); (try clear hb); (try clear hk); (try clear hn3); (try clear hr2); (try clear hr3); (try clear hr4); (try clear hr5); (try clear hr6); (try clear hr7); (try clear hr8); omega) | omega))))) ?_
        exact J86
      · try simp (disch := (first | ((try clear hP1); (try clear hK1); (try clear hn2); (try clear hb); (try clear hk); (try clear hn3); (try clear hr2); (try clear hr3); (try clear hr4); (try clear hr5); (try clear hr6); (try clear hr7); (try clear hr8); omega) | omega)) only [nI_leI, nI_ltI, nI_eq, xz_eq, xz_le, xz_gt, cI_0, cI_n0, cI_inj, lg_cmp_ge, lg_cmp_le, lg_cmp_gt, lg_cmp_lt, lg_cmp_eq, Bool.not_eq_true, Bool.not_eq_false, Nat.not_le, Nat.not_lt] at h78
        refine xv_iconst (v := nI 1) hC dX7_readSection_81 (by decide) ?_
        refine xv_goto (tgt := 86) hC dX7_readSection_82 (by decide) ?_
        refine xv_cast (congrArg Value.int (show _ = cI (decide (K1 < 2)) by first | exact c1_of (decide_eq_true (show K1 < 2 by (first | ((try clear hP1); (try clear hK1); (try clear hn2); (try clear hb); (try clear hk); (try clear hn3); (try clear hr2); (try clear hr3); (try clear hr4); (try clear hr5); (try clear hr6); (try clear hr7); (try clear hr8); omega) | omega))) | exact c0_of (decide_eq_false (show ¬ K1 < 2 by (first | ((try clear hP1); (try clear hK1); (try clear hn2); (try clear hb); (try clear hk); (try clear hn3); (try clear hr2); (try clear hr3); (try clear hr4); (try clear hr5); (try clear hr6); (try clear hr7); (try clear hr8); omega) | omega))))) ?_
        exact J86
    · have h57 : ¬ r2.2 = 0 := fun z => h57 (by rw [show (mK (mS (mLb M _ _ _ _ _ _) r2) _).1 23 = r2.2 from rfl, z]; decide)
      exact xn_return hC hr dX7_readSection_60 ⟨rfl, _, _, _, _, _, r2, _, rfl, by rw [← hr2]; exact sec_fail hPa hsn hv (by rw [hr2]; exact h57)⟩ rfl
  refine xv_icmp_ge (tgt := 49) hC dX7_readSection_33 (by decide) (fun h33 => ?_) (fun h33 => ?_)
  · have h33 : 12 ≤ P1 := (nI_leI (by (first | ((try clear hP1); (try clear hK1); (try clear hn2); (try clear hb); (try clear hk); (try clear hn3); (try clear hr2); (try clear hr3); (try clear hr4); (try clear hr5); (try clear hr6); (try clear hr7); (try clear hr8); omega) | omega)) (by (first | ((try clear hP1); (try clear hK1); (try clear hn2); (try clear hb); (try clear hk); (try clear hn3); (try clear hr2); (try clear hr3); (try clear hr4); (try clear hr5); (try clear hr6); (try clear hr7); (try clear hr8); omega) | omega))).mp h33
    refine xv_iconst (v := nI 0) hC dX7_readSection_49 (by decide) ?_
    refine xv_cast (congrArg Value.int (show _ = cI (npOk O X.2.2.2.2 X.2.2.2.1) by first | exact c1_of (np_1 hb h33 h42) | exact c0_of (np_0b hb h42) | exact c0_of (np_0a hb h33))) ?_
    exact J50
  · have h33 : P1 < 12 := Nat.lt_of_not_le (fun z => h33 ((nI_leI (by (first | ((try clear hP1); (try clear hK1); (try clear hn2); (try clear hb); (try clear hk); (try clear hn3); (try clear hr2); (try clear hr3); (try clear hr4); (try clear hr5); (try clear hr6); (try clear hr7); (try clear hr8); omega) | omega)) (by (first | ((try clear hP1); (try clear hK1); (try clear hn2); (try clear hb); (try clear hk); (try clear hn3); (try clear hr2); (try clear hr3); (try clear hr4); (try clear hr5); (try clear hr6); (try clear hr7); (try clear hr8); omega) | omega))).mpr z))
    have hEa : mEa (va_up (M.2.2.2.2.1 15) s1 (-1)) (nI P1) s1 = bt X.2.2.2.1 P1 := by
      rw [mEa_cong (g := (M.2.2.2.2.1 15)) (fun j hj => va_up_ne _ _ (by (first | ((try clear hP1); (try clear hK1); (try clear hn2); (try clear hb); (try clear hk); (try clear hn3); (try clear hr2); (try clear hr3); (try clear hr4); (try clear hr5); (try clear hr6); (try clear hr7); (try clear hr8); omega) | omega)))]
      have := np_ok (O := O) hLC hPa hpo (by rw [hP1]; exact h33)
      rw [hP1] at this
      exact this
    refine xv_aload_n hC dX7_readSection_36 rfl rfl ?_
    refine xv_iload_n hC dX7_readSection_37 rfl rfl ?_
    refine xv_iload_n hC dX7_readSection_38 rfl rfl ?_
    refine xv_callV hC Y_yX7_isEarlier im_yX7_isEarlier se_yX7_isEarlier ml_X7_170 dX7_readSection_39 (em_isEarlier l G g sz (mK (mS (mLb M (va_up (M.2.2.2.2.1 15) s1 (-1)) (va_up (M.2.2.2.2.1 17) s1 (nI 0)) (M.2.2.2.2.1 19) (M.2.2.2.1 18) (M.2.2.2.1 20) (M.2.2.2.2.2.1 21)) (nxR O X.2.2.2.2)) M.2.2.2.2.2.2) w0 (k1 := s1) (by (first | ((try clear hP1); (try clear hK1); (try clear hn2); (try clear hb); (try clear hk); (try clear hn3); (try clear hr2); (try clear hr3); (try clear hr4); (try clear hr5); (try clear hr6); (try clear hr7); (try clear hr8); omega) | omega)) (nI P1)) (ml_w_obj _ _ _ _) rfl rfl rfl (Nat.le_of_ble_eq_true rfl) ⟨Nat.le_of_ble_eq_true rfl, Nat.le_of_ble_eq_true rfl⟩ ⟨Nat.le_of_ble_eq_true rfl, Nat.le_of_ble_eq_true rfl⟩ ?_
    refine xv_rs ?_
    refine xv_cast (congrArg Value.int (congrArg cI (show _ = bt X.2.2.2.1 P1 from hEa))) ?_
    refine xv_if_ne (tgt := 49) hC dX7_readSection_42 (by decide) (fun h42 => ?_) (fun h42 => ?_)
    · have h42 : bt X.2.2.2.1 P1 = true := cI_n0.mp h42
      refine xv_iconst (v := nI 0) hC dX7_readSection_49 (by decide) ?_
      refine xv_cast (congrArg Value.int (show _ = cI (npOk O X.2.2.2.2 X.2.2.2.1) by first | exact c1_of (np_1 hb h33 h42) | exact c0_of (np_0b hb h42) | exact c0_of (np_0a hb h33))) ?_
      exact J50
    · have h42 : bt X.2.2.2.1 P1 = false := cI_0.mp h42
      refine xv_iconst (v := nI 1) hC dX7_readSection_45 (by decide) ?_
      refine xv_goto (tgt := 50) hC dX7_readSection_46 (by decide) ?_
      refine xv_cast (congrArg Value.int (show _ = cI (npOk O X.2.2.2.2 X.2.2.2.1) by first | exact c1_of (np_1 hb h33 h42) | exact c0_of (np_0b hb h42) | exact c0_of (np_0a hb h33))) ?_
      exact J50
