set_option maxHeartbeats 4000000 in
set_option maxRecDepth 100000 in
theorem em_load (l : Launch) (G : xD) (g sz : Nat) (M : mT) (w0 : xw) (E : cE) (S : cS) (O : cO) (po : Nat → Option Nat) (re cf : Nat → Int32) (so : Nat → Nat) (hO : O.2.1 0 ≤ 8000) (hB : RB M E S O) (hv : rvP M E) (hE : eOK E) (hso : ∀ j, so j < 12) (hpo : ∀ j q, po j = some q → q < 12) (hno : ∀ i, i < 100 → E.1 12 i = false) : xN l G yX7_load cX7_load 8 (some .int) 4 0 0 [.ref g] sz (wM G g (M) w0) (fun r w => r = some (.int (flV E S O po re cf so)) ∧ ∃ M', w = wM G g (M') w0 ∧ loadP M E S O po re cf so M') (sz) := by
  refine xN_of (by decide) (Nat.le_of_ble_eq_true rfl) ?_
  intro A p e s m args below meth c hC hr hname
  have hC : xC p s m args meth c cX7_load 8 RX7 G A := hC
  have hr : meth.sig.returnType = (some .int) := hr
  show xV p l e _ s m args below meth c G A 8 _ sz _ 0 0 0 [(0, .ref g)] []
  refine xv_aload_n hC dX7_load_0 rfl rfl ?_
  refine xv_iconst (v := nI 0) hC dX7_load_1 (by decide) ?_
  refine tp_X7_0 hC fl_X7_64 dX7_load_2 ?_
  refine xv_aload_n hC dX7_load_5 rfl rfl ?_
  refine tg_X7_7 hC fl_X7_77 dX7_load_6 ?_
  refine xv_if_eq (tgt := 15) hC dX7_load_9 (by decide) (fun h9 => ?_) (fun h9 => ?_)
  · have hb : S.2.2.2.2.1 = false := hB.2.2.2.2.2.2.1.symm.trans (cI_0.mp h9)
    refine xv_aload_n hC dX7_load_15 rfl rfl ?_
    refine xv_iconst (v := nI 0) hC dX7_load_16 (by decide) ?_
    refine tp_X7_14 hC fl_X7_182 dX7_load_17 rfl ?_
    refine xv_aload_n hC dX7_load_20 rfl rfl ?_
    refine tg_X7_11 hC fl_X7_143 dX7_load_21 ?_
    refine xv_cast (show _ = Value.int (nI (O.2.1 0)) from congrArg (fun z => Value.int (nI z)) hB.1.2) ?_
    refine xv_if_ne (tgt := 29) hC dX7_load_24 (by decide) (fun h24 => ?_) (fun h24 => ?_)
    · have h0L : ¬ O.2.1 0 = 0 := fun z => h24 (by rw [z]; rfl)
      have J73 : raW S O = nI 1 → xV p l e (xr 4 0 0) s m args below meth c G A 8 (MQ below (xQn G A (fun r w => r = some (.int (flV E S O po re cf so)) ∧ ∃ M', w = wM G g (M') w0 ∧ loadP M E S O po re cf so M') (sz)) args s 0 0 A) sz (wM G g (mN (mT0 M) 14 0) w0) 0 0 73 [(0, .ref g)] [] := by
        intro hr1
        refine xv_iconst (v := nI 0) hC dX7_load_73 (by decide) ?_
        refine xv_istore_n hC dX7_load_74 rfl (by decide) ?_
        refine xv_iload_n hC dX7_load_75 rfl rfl ?_
        refine xv_if_eq (tgt := 92) hC dX7_load_76 (by decide) (fun h76 => ?_) (fun h76 => ?_)
        · refine xv_iconst (v := nI 0) hC dX7_load_92 (by decide) ?_
          refine xv_istore_n hC dX7_load_93 rfl (by decide) ?_
          refine xv_iload_n hC dX7_load_94 rfl rfl ?_
          refine xv_if_eq (tgt := 102) hC dX7_load_95 (by decide) (fun h95 => ?_) (fun h95 => ?_)
          · refine xv_bipush (v := nI 9) hC dX7_load_102 (by decide) ?_
            refine xv_istore_n hC dX7_load_104 rfl (by decide) ?_
            refine xv_iload_n hC dX7_load_105 rfl rfl ?_
            refine xv_if_eq (tgt := 117) hC dX7_load_106 (by decide) (fun h106 => ?_) (fun h106 => ?_)
            · refine xv_bipush (v := -11) hC dX7_load_117 (by decide) ?_
              exact xn_ireturn hC hr dX7_load_119 ⟨congrArg (fun z => some (Value.int z)) ((load_ref (M0 := M) hb h0L hr1 (by decide)).1.trans (show _ = (-11 : Int32) by decide)).symm, _, rfl, (load_ref hb h0L hr1 (by decide)).2⟩ rfl
            · exact absurd h106 (by decide)
          · exact absurd h95 (by decide)
        · exact absurd h76 (by decide)
      refine xv_aload_n hC dX7_load_29 rfl rfl ?_
      refine tg_X7_11 hC fl_X7_143 dX7_load_30 ?_
      refine xv_cast (show _ = Value.int (nI (O.2.1 0)) from congrArg (fun z => Value.int (nI z)) hB.1.2) ?_
      refine xv_iconst (v := nI 2) hC dX7_load_33 (by decide) ?_
      refine xv_icmp_le (tgt := 73) hC dX7_load_34 (by decide) (fun h34 => ?_) (fun h34 => ?_)
      · have h34 : O.2.1 0 ≤ 2 := (nI_leI (by omega) (by omega)).mp h34
        exact J73 (raW_1' (by first | exact Or.inl h45 | exact Or.inr (Or.inl h56) | exact Or.inr (Or.inr (Or.inl h66)) | exact Or.inr (Or.inr (Or.inr (hdL_2 h34)))))
      · have h34 : 2 < O.2.1 0 := Nat.lt_of_not_le (fun z => h34 ((nI_leI (by omega) (by omega)).mpr z))
        refine xv_aload_n hC dX7_load_37 rfl rfl ?_
        refine tg_X7_10 hC fl_X7_27 dX7_load_38 ?_
        refine xv_iconst (v := nI 0) hC dX7_load_41 (by decide) ?_
        refine al_m_bytes hC dX7_load_42 rfl (by omega) ?_
        refine xv_cast (show _ = Value.int (oAt O 0 0) from congrArg Value.int (hB.1.at (i := 0) (by omega))) ?_
        refine xv_bipush (v := nI 70) hC dX7_load_43 (by decide) ?_
        refine xv_icmp_ne (tgt := 73) hC dX7_load_45 (by decide) (fun h45 => ?_) (fun h45 => ?_)
        · exact J73 (raW_1' (by first | exact Or.inl h45 | exact Or.inr (Or.inl h56) | exact Or.inr (Or.inr (Or.inl h66)) | exact Or.inr (Or.inr (Or.inr (hdL_2 h34)))))
        · have h45 : oAt O 0 0 = nI 70 := h45
          refine xv_aload_n hC dX7_load_48 rfl rfl ?_
          refine tg_X7_10 hC fl_X7_27 dX7_load_49 ?_
          refine xv_iconst (v := nI 1) hC dX7_load_52 (by decide) ?_
          refine al_m_bytes hC dX7_load_53 rfl (by omega) ?_
          refine xv_cast (show _ = Value.int (oAt O 0 1) from congrArg Value.int (hB.1.at (i := 1) (by omega))) ?_
          refine xv_bipush (v := nI 77) hC dX7_load_54 (by decide) ?_
          refine xv_icmp_ne (tgt := 73) hC dX7_load_56 (by decide) (fun h56 => ?_) (fun h56 => ?_)
          · exact J73 (raW_1' (by first | exact Or.inl h45 | exact Or.inr (Or.inl h56) | exact Or.inr (Or.inr (Or.inl h66)) | exact Or.inr (Or.inr (Or.inr (hdL_2 h34)))))
          · have h56 : oAt O 0 1 = nI 77 := h56
            refine xv_aload_n hC dX7_load_59 rfl rfl ?_
            refine tg_X7_10 hC fl_X7_27 dX7_load_60 ?_
            refine xv_iconst (v := nI 2) hC dX7_load_63 (by decide) ?_
            refine al_m_bytes hC dX7_load_64 rfl (by omega) ?_
            refine xv_cast (show _ = Value.int (oAt O 0 2) from congrArg Value.int (hB.1.at (i := 2) (by omega))) ?_
            refine xv_iconst (v := nI 2) hC dX7_load_65 (by decide) ?_
            refine xv_icmp_ge (tgt := 73) hC dX7_load_66 (by decide) (fun h66 => ?_) (fun h66 => ?_)
            · have h66 : nI 1 < oAt O 0 2 := i1_lt h66
              exact J73 (raW_1' (by first | exact Or.inl h45 | exact Or.inr (Or.inl h56) | exact Or.inr (Or.inr (Or.inl h66)) | exact Or.inr (Or.inr (Or.inr (hdL_2 h34)))))
            · have h66 : ¬ nI 1 < oAt O 0 2 := fun z => h66 (i1_le z)
              refine xv_iconst (v := nI 1) hC dX7_load_69 (by decide) ?_
              refine xv_goto (tgt := 74) hC dX7_load_70 (by decide) ?_
              refine xv_istore_n hC dX7_load_74 rfl (by decide) ?_
              refine xv_iload_n hC dX7_load_75 rfl rfl ?_
              refine xv_if_eq (tgt := 92) hC dX7_load_76 (by decide) (fun h76 => ?_) (fun h76 => ?_)
              · exact absurd h76 (by decide)
              · have J162 : raW S O = 0 → hdL O ≤ O.2.1 0 → xV p l e (xr 4 0 0) s m args below meth c G A 8 (MQ below (xQn G A (fun r w => r = some (.int (flV E S O po re cf so)) ∧ ∃ M', w = wM G g (M') w0 ∧ loadP M E S O po re cf so M') (sz)) args s 0 0 A) sz (wM G g (mN (mT0 M) 14 0) w0) 0 0 162 [(3, .int (nI (hdL O))), (2, .int (cI (isW O))), (1, .int (nI 1)), (0, .ref g)] [] := by
                  intro hr0 hhd
                  have h59 := hdL_59 O
                  refine xv_aload_n hC dX7_load_162 rfl rfl ?_
                  refine tg_X7_10 hC fl_X7_27 dX7_load_163 ?_
                  refine xv_iload_n hC dX7_load_166 rfl rfl ?_
                  refine xv_iconst (v := nI 1) hC dX7_load_167 (by decide) ?_
                  refine xv_isub hC dX7_load_168 ?_
                  refine xv_cast (congrArg Value.int (pk_sub (show 1 ≤ hdL O by omega))) ?_
                  refine al_m_bytes hC dX7_load_169 rfl (by omega) ?_
                  refine xv_cast (show _ = Value.int (nI (lsSec O)) from congrArg Value.int ((hB.1.at (i := hdL O - 1) (by omega)).trans (oAt_nI O 0 (hdL O - 1)).1)) ?_
                  have hsec : lsSec O < 256 := (oAt_nI O 0 (hdL O - 1)).2
                  refine xv_istore hC dX7_load_170 (by decide) ?_
                  refine xv_aload_n hC dX7_load_172 rfl rfl ?_
                  refine xv_iload_n hC dX7_load_173 rfl rfl ?_
                  refine tp_X7_22 hC fl_X7_151 dX7_load_174 rfl ?_
                  refine xv_iconst (v := nI 0) hC dX7_load_177 (by decide) ?_
                  refine xv_istore hC dX7_load_178 (by decide) ?_
                  refine xv_iconst (v := nI 1) hC dX7_load_180 (by decide) ?_
                  refine xv_istore hC dX7_load_181 (by decide) ?_
                  refine xv_iconst (v := nI 0) hC dX7_load_183 (by decide) ?_
                  refine xv_istore hC dX7_load_184 (by decide) ?_
                  have Lp186 : ∀ (n k1 : Nat) (Mk : mT) (T : cT) (b1 : Bool), (k1 ≤ lsSec O) → (lsSec O < k1 + n) → (lsL O (isW O) (lsT0 E S O po re cf so) k1 = T) → (LI O T k1 Mk) → (b1 = decide (T.1.2.2.2.2.2 = 0)) → xV p l e (xr 4 0 0) s m args below meth c G A 8 (MQ below (xQn G A (fun r w => r = some (.int (flV E S O po re cf so)) ∧ ∃ M', w = wM G g (M') w0 ∧ loadP M E S O po re cf so M') (sz)) args s 0 0 A) sz (wM G g (Mk) w0) 0 0 186 [(7, .int (nI (k1))), (6, .int (cI b1)), (5, .int (nI (T.2.2.2.2.2))), (4, .int (nI (lsSec O))), (3, .int (nI (hdL O))), (2, .int (cI (isW O))), (1, .int (nI 1)), (0, .ref g)] [] := by
                    intro n
                    induction n with
                    | zero =>
                      intro k1 Mk T b1 hk hn hT hI hb1
                      omega
                    | succ n ih186 =>
                      intro k1 Mk T b1 hk hn hT hI hb1
                      have hld := hI.2.2.2.2.2.1
                      refine xv_iload hC dX7_load_186 rfl ?_
                      refine xv_iload hC dX7_load_188 rfl ?_
                      refine xv_icmp_ge (tgt := 291) hC dX7_load_190 (by decide) (fun h190 => ?_) (fun h190 => ?_)
                      · have h190 : k1 = lsSec O := by
                          have := (nI_leI (by omega) (by omega)).mp h190
                          omega
                        subst h190
                        refine xv_aload_n hC dX7_load_291 rfl rfl ?_
                        refine xv_iload hC dX7_load_292 rfl ?_
                        refine tp_X7_14 hC fl_X7_182 dX7_load_294 rfl ?_
                        refine xv_iload_n hC dX7_load_297 rfl rfl ?_
                        refine xv_if_eq (tgt := 333) hC dX7_load_298 (by decide) (fun h298 => ?_) (fun h298 => ?_)
                        · have h298 : isW O = false := cI_0.mp h298
                          refine xv_iload hC dX7_load_333 rfl ?_
                          exact xn_ireturn hC hr dX7_load_335 ⟨congrArg (fun z => some (Value.int z)) (load_V hb h0L hr0 hT).symm, _, rfl, load_go1 hb h0L hr0 hT hI (by first | exact Or.inl h298 | exact Or.inr h305)⟩ rfl
                        · have h298 : isW O = true := cI_n0.mp h298
                          refine xv_iload hC dX7_load_301 rfl ?_
                          refine xv_iload hC dX7_load_303 rfl ?_
                          refine xv_icmp_ne (tgt := 333) hC dX7_load_305 (by decide) (fun h305 => ?_) (fun h305 => ?_)
                          · have h305 : ¬ T.2.2.2.2.2 = lsSec O := fun z => h305 (congrArg nI z)
                            refine xv_iload hC dX7_load_333 rfl ?_
                            exact xn_ireturn hC hr dX7_load_335 ⟨congrArg (fun z => some (Value.int z)) (load_V hb h0L hr0 hT).symm, _, rfl, load_go1 hb h0L hr0 hT hI (by first | exact Or.inl h298 | exact Or.inr h305)⟩ rfl
                          · have h305 : T.2.2.2.2.2 = lsSec O := (nI_eq (by omega) (by omega)).mp h305
                            refine xv_aload_n hC dX7_load_308 rfl rfl ?_
                            refine xv_iconst (v := nI 1) hC dX7_load_309 (by decide) ?_
                            refine tp_X7_8 hC fl_X7_120 dX7_load_310 (by first | exact cI_c1 | exact cI_c0 | rfl) ?_
                            refine xv_aload_n hC dX7_load_313 rfl rfl ?_
                            refine xv_aload_n hC dX7_load_314 rfl rfl ?_
                            refine tg_X7_10 hC fl_X7_27 dX7_load_315 ?_
                            refine xv_iconst (v := nI 0) hC dX7_load_318 (by decide) ?_
                            refine xv_aload_n hC dX7_load_319 rfl rfl ?_
                            refine tg_X7_22 hC fl_X7_151 dX7_load_320 ?_
                            refine xv_cast (show _ = Value.int (nI (0 + Mk.2.2.1 22)) from congrArg Value.int (congrArg nI (Nat.zero_add _).symm)) ?_
                            refine xv_callS hC Y_yX7_sumOf sm_yX7_sumOf ml_X7_139 dX7_load_323 (em_sumB l G g sz (mB (mN Mk 14 (lsSec O)) 8 true) w0 (a := 0) (n0 := Mk.2.2.1 22) (by have := hI.2.2.2.1; have := hI.2.2.2.2.2.2.2.2.1; omega)) rfl rfl (Nat.le_of_ble_eq_true rfl) ⟨Nat.le_of_ble_eq_true rfl, Nat.le_of_ble_eq_true rfl⟩ ⟨Nat.le_of_ble_eq_true rfl, Nat.le_of_ble_eq_true rfl⟩ ?_
                            refine xv_rs ?_
                            refine tp_X7_9 hC fl_X7_123 dX7_load_326 ?_
                            refine xv_aload_n hC dX7_load_329 rfl rfl ?_
                            refine xv_callV hC Y_yX7_compareAll im_yX7_compareAll se_yX7_compareAll ml_X7_192 dX7_load_330 (em_compareAll l G g sz (mI (mB (mN Mk 14 (lsSec O)) 8 true) 9 (smF (Mk.2.2.2.2.1 10) 0 (Mk.2.2.1 22))) w0 (by show lsSec O ≤ 255; omega) (fun k hk => LI_19 hI h305 k hk)) (ml_w_obj _ _ _ _) rfl rfl rfl (Nat.le_of_ble_eq_true rfl) ⟨Nat.le_of_ble_eq_true rfl, Nat.le_of_ble_eq_true rfl⟩ ⟨Nat.le_of_ble_eq_true rfl, Nat.le_of_ble_eq_true rfl⟩ ?_
                            refine xv_rn ?_
                            refine xv_iload hC dX7_load_333 rfl ?_
                            exact xn_ireturn hC hr dX7_load_335 ⟨congrArg (fun z => some (Value.int z)) (load_V hb h0L hr0 hT).symm, _, rfl, load_go2 hb h0L hr0 hT hI h298 h305 rfl⟩ rfl
                      · have h190 : k1 < lsSec O := Nat.lt_of_not_le (fun z => h190 ((nI_leI (by omega) (by omega)).mpr z))
                        have J265 : ∀ (M2 : mT) (b2 : Bool), LJ O T k1 M2 → b2 = decide ((lsX O k1 T).2.2.2.2.2 = 0) → xV p l e (xr 4 0 0) s m args below meth c G A 8 (MQ below (xQn G A (fun r w => r = some (.int (flV E S O po re cf so)) ∧ ∃ M', w = wM G g (M') w0 ∧ loadP M E S O po re cf so M') (sz)) args s 0 0 A) sz (wM G g (M2) w0) 0 0 265 [(7, .int (nI (k1))), (6, .int (cI b2)), (5, .int (nI (T.2.2.2.2.2))), (4, .int (nI (lsSec O))), (3, .int (nI (hdL O))), (2, .int (cI (isW O))), (1, .int (nI 1)), (0, .ref g)] [] := by
                          intro M2 b2 hJ hb2
                          have h16 : my M2 16 k1 = lsR O k1 T := (hJ.2.2.1 k1 (by omega)).2.1.trans (va_up_self _ _ _)
                          refine xv_aload_n hC dX7_load_265 rfl rfl ?_
                          refine tg_X7_16 hC fl_X7_37 dX7_load_266 ?_
                          refine xv_iload hC dX7_load_269 rfl ?_
                          refine al_m_reasons hC dX7_load_271 rfl (by first | assumption | omega) ?_
                          refine xv_cast (congrArg Value.int h16) ?_
                          refine xv_if_ne (tgt := 285) hC dX7_load_272 (by decide) (fun h272 => ?_) (fun h272 => ?_)
                          · have h272 : ¬ lsR O k1 T = 0 := h272
                            refine xv_iinc hC dX7_load_285 rfl (xinc _) (by decide) ?_
                            refine xv_goto (tgt := 186) hC dX7_load_288 (by decide) ?_
                            refine xV.to [(7, .int (nI (k1 + 1))), (6, .int (cI b2)), (5, .int (nI ((lsS O (isW O) k1 T).2.2.2.2.2))), (4, .int (nI (lsSec O))), (3, .int (nI (hdL O))), (2, .int (cI (isW O))), (1, .int (nI 1)), (0, .ref g)] ⟨rfl, rfl, congrArg (fun z => some (Value.int (nI z))) (lsS_n h272).symm, rfl, rfl, rfl, rfl, rfl, trivial⟩ ?_
                            exact ih186 (k1 + 1) M2 (lsS O (isW O) k1 T) b2 (by omega) (by omega) (by rw [lsL, hT]) (LI_no hO hJ h272) (by rw [hb2, lsS_f])
                          · have h272 : lsR O k1 T = 0 := h272
                            have hcm := LJ_come hO hJ h272
                            refine xv_aload_n hC dX7_load_275 rfl rfl ?_
                            refine xv_iload hC dX7_load_276 rfl ?_
                            refine xv_iload_n hC dX7_load_278 rfl rfl ?_
                            refine xv_callV hC Y_yX7_come im_yX7_come se_yX7_come ml_X7_188 dX7_load_279 (em_come l G g sz (M2) w0 (k1 := k1) (p1 := (lsP O k1 T)) (q1 := ((lsX O k1 T).2.2.1 (lsP O k1 T))) (by omega) hcm.2.2.1 hcm.2.2.2 (isW O) hcm.1 hcm.2.1) (ml_w_obj _ _ _ _) rfl rfl rfl (Nat.le_of_ble_eq_true rfl) ⟨Nat.le_of_ble_eq_true rfl, Nat.le_of_ble_eq_true rfl⟩ ⟨Nat.le_of_ble_eq_true rfl, Nat.le_of_ble_eq_true rfl⟩ ?_
                            refine xv_rn ?_
                            refine xv_iinc hC dX7_load_282 rfl (xinc _) (by decide) ?_
                            refine xv_iinc hC dX7_load_285 rfl (xinc _) (by decide) ?_
                            refine xv_goto (tgt := 186) hC dX7_load_288 (by decide) ?_
                            refine xV.to [(7, .int (nI (k1 + 1))), (6, .int (cI b2)), (5, .int (nI ((lsS O (isW O) k1 T).2.2.2.2.2))), (4, .int (nI (lsSec O))), (3, .int (nI (hdL O))), (2, .int (cI (isW O))), (1, .int (nI 1)), (0, .ref g)] ⟨rfl, rfl, congrArg (fun z => some (Value.int (nI z))) (lsS_y h272).symm, rfl, rfl, rfl, rfl, rfl, trivial⟩ ?_
                            exact ih186 (k1 + 1) (coL M2 (isW O) k1 (lsP O k1 T) ((lsX O k1 T).2.2.1 (lsP O k1 T)) 100) (lsS O (isW O) k1 T) b2 (by omega) (by omega) (by rw [lsL, hT]) (LI_yes hO hJ h272) (by rw [hb2, lsS_f])
                        refine xv_iload hC dX7_load_193 rfl ?_
                        refine xv_if_eq (tgt := 241) hC dX7_load_195 (by decide) (fun h195 => ?_) (fun h195 => ?_)
                        · have hb0 : b1 = false := cI_0.mp h195
                          have h0 : ¬ T.1.2.2.2.2.2 = 0 := fun z => by rw [hb1, decide_eq_true z] at hb0; cases hb0
                          refine xv_aload_n hC dX7_load_241 rfl rfl ?_
                          refine tg_X7_15 hC fl_X7_34 dX7_load_242 ?_
                          refine xv_iload hC dX7_load_245 rfl ?_
                          refine xv_iconst (v := -1) hC dX7_load_247 (by decide) ?_
                          refine as_m_parts hC dX7_load_248 rfl (by first | assumption | omega) ?_
                          refine xv_aload_n hC dX7_load_249 rfl rfl ?_
                          refine tg_X7_16 hC fl_X7_37 dX7_load_250 ?_
                          refine xv_iload hC dX7_load_253 rfl ?_
                          refine xv_iconst (v := nI 4) hC dX7_load_255 (by decide) ?_
                          refine as_m_reasons hC dX7_load_256 rfl (by first | assumption | omega) ?_
                          refine xv_aload_n hC dX7_load_257 rfl rfl ?_
                          refine tg_X7_17 hC fl_X7_40 dX7_load_258 ?_
                          refine xv_iload hC dX7_load_261 rfl ?_
                          refine xv_iconst (v := nI 0) hC dX7_load_263 (by decide) ?_
                          refine as_m_conflicts hC dX7_load_264 rfl (by first | assumption | omega) ?_
                          have hJ2 := LJ_not hI h0
                          obtain ⟨M2, hM2⟩ : ∃ m, mYi (mYi (mYi Mk 15 k1 (-1)) 16 k1 (nI 4)) 17 k1 (nI 0) = m := ⟨_, rfl⟩
                          rw [hM2] at hJ2
                          refine xv_world (show _ = wM G g (M2) w0 by rw [← hM2]) ?_
                          refine xV.to [(7, .int (nI (k1))), (6, .int (cI false)), (5, .int (nI (T.2.2.2.2.2))), (4, .int (nI (lsSec O))), (3, .int (nI (hdL O))), (2, .int (cI (isW O))), (1, .int (nI 1)), (0, .ref g)] ⟨rfl, congrArg (fun z => some (Value.int (cI z))) hb0, rfl, rfl, rfl, rfl, rfl, rfl, trivial⟩ ?_
                          exact J265 M2 false hJ2 (rd_n h0)
                        · have h0 : T.1.2.2.2.2.2 = 0 := of_decide_eq_true (hb1.symm.trans (cI_n0.mp h195))
                          have h45 := hI.2.2.2.2.2.2.2.2.2.1
                          refine xv_aload_n hC dX7_load_198 rfl rfl ?_
                          refine xv_iload hC dX7_load_199 rfl ?_
                          refine xn_callV hC Y_yX7_readSection im_yX7_readSection se_yX7_readSection ml_X7_185 dX7_load_201 (em_readSection l G g sz (Mk) w0 O (lsX0 k1 T.1) T.2.1.1 T.2.2.1 T.2.2.2.2.1 (s1 := k1) (by omega) hI.1.1 hO hI.2.2.2.1 hI.2.2.2.2.2.2.2.2.1 h0 (fun j hj => (hI.2.2.1 j hj).1.trans (lP_up (by omega)).symm) (fun j hj => (hI.2.2.1 j hj).2.1) hI.2.1 (lrC_0 (hI.2.2.2.2.1 h0).1) (lrF_0 (hI.2.2.2.2.1 h0).2) hI.1.2.2.2.1 (up_no hI.2.2.2.2.2.2.2.1.2.2.1) (va_up_self _ _ _)) (ml_w_obj _ _ _ _) rfl rfl rfl (Nat.le_of_ble_eq_true rfl) ⟨Nat.le_of_ble_eq_true rfl, Nat.le_of_ble_eq_true rfl⟩ ⟨Nat.le_of_ble_eq_true rfl, Nat.le_of_ble_eq_true rfl⟩ (fun r201 w201 hP201 => ?_)
                          obtain ⟨rfl, f15, f19, z18, z20, j21, r', c', rfl, hs⟩ := hP201
                          refine xv_rn ?_
                          have hJ2 := LJ_read hI h0 hs
                          have hrv : r'.2 = lsR O k1 T := hs.2.2.1.trans (by unfold lsR; rw [if_pos h0])
                          obtain ⟨M2, hM2⟩ : ∃ m, mYi (mK (mS (mLb Mk f15 (va_up (Mk.2.2.2.2.1 17) k1 (nI 0)) f19 z18 z20 j21) r') c') 16 k1 r'.2 = m := ⟨_, rfl⟩
                          rw [hM2] at hJ2
                          have h23 : M2.1 23 = lsR O k1 T := by rw [← hM2]; exact hrv
                          refine xv_aload_n hC dX7_load_204 rfl rfl ?_
                          refine tg_X7_16 hC fl_X7_37 dX7_load_205 ?_
                          refine xv_iload hC dX7_load_208 rfl ?_
                          refine xv_aload_n hC dX7_load_210 rfl rfl ?_
                          refine tg_X7_23 hC fl_X7_148 dX7_load_211 ?_
                          refine as_m_reasons hC dX7_load_214 rfl (by first | assumption | omega) ?_
                          refine xv_world (show _ = wM G g (M2) w0 by rw [← hM2]; rfl) ?_
                          refine xv_aload_n hC dX7_load_215 rfl rfl ?_
                          refine tg_X7_23 hC fl_X7_148 dX7_load_216 ?_
                          refine xv_cast (congrArg Value.int h23) ?_
                          refine xv_iconst (v := nI 4) hC dX7_load_219 (by decide) ?_
                          refine xv_icmp_eq (tgt := 235) hC dX7_load_220 (by decide) (fun h220 => ?_) (fun h220 => ?_)
                          · have h220 : lsR O k1 T = nI 4 := h220
                            refine xv_iconst (v := nI 0) hC dX7_load_235 (by decide) ?_
                            refine xv_istore hC dX7_load_236 (by decide) ?_
                            refine xv_goto (tgt := 265) hC dX7_load_238 (by decide) ?_
                            refine xV.to [(7, .int (nI (k1))), (6, .int (cI false)), (5, .int (nI (T.2.2.2.2.2))), (4, .int (nI (lsSec O))), (3, .int (nI (hdL O))), (2, .int (cI (isW O))), (1, .int (nI 1)), (0, .ref g)] ⟨rfl, rfl, rfl, rfl, rfl, rfl, rfl, rfl, trivial⟩ ?_
                            exact J265 M2 false hJ2 (rd_0 h45 h0 (Or.inl h220))
                          · have h220 : ¬ lsR O k1 T = nI 4 := h220
                            refine xv_aload_n hC dX7_load_223 rfl rfl ?_
                            refine tg_X7_23 hC fl_X7_148 dX7_load_224 ?_
                            refine xv_cast (congrArg Value.int h23) ?_
                            refine xv_iconst (v := nI 5) hC dX7_load_227 (by decide) ?_
                            refine xv_icmp_eq (tgt := 235) hC dX7_load_228 (by decide) (fun h228 => ?_) (fun h228 => ?_)
                            · have h228 : lsR O k1 T = nI 5 := h228
                              refine xv_iconst (v := nI 0) hC dX7_load_235 (by decide) ?_
                              refine xv_istore hC dX7_load_236 (by decide) ?_
                              refine xv_goto (tgt := 265) hC dX7_load_238 (by decide) ?_
                              refine xV.to [(7, .int (nI (k1))), (6, .int (cI false)), (5, .int (nI (T.2.2.2.2.2))), (4, .int (nI (lsSec O))), (3, .int (nI (hdL O))), (2, .int (cI (isW O))), (1, .int (nI 1)), (0, .ref g)] ⟨rfl, rfl, rfl, rfl, rfl, rfl, rfl, rfl, trivial⟩ ?_
                              exact J265 M2 false hJ2 (rd_0 h45 h0 (Or.inr h228))
                            · have h228 : ¬ lsR O k1 T = nI 5 := h228
                              refine xv_iconst (v := nI 1) hC dX7_load_231 (by decide) ?_
                              refine xv_goto (tgt := 236) hC dX7_load_232 (by decide) ?_
                              refine xv_istore hC dX7_load_236 (by decide) ?_
                              refine xv_goto (tgt := 265) hC dX7_load_238 (by decide) ?_
                              refine xV.to [(7, .int (nI (k1))), (6, .int (cI true)), (5, .int (nI (T.2.2.2.2.2))), (4, .int (nI (lsSec O))), (3, .int (nI (hdL O))), (2, .int (cI (isW O))), (1, .int (nI 1)), (0, .ref g)] ⟨rfl, rfl, rfl, rfl, rfl, rfl, rfl, rfl, trivial⟩ ?_
                              exact J265 M2 true hJ2 (rd_1 h45 h0 h220 h228)
                  refine xV.to [(7, .int (nI (0))), (6, .int (cI true)), (5, .int (nI (0))), (4, .int (nI (lsSec O))), (3, .int (nI (hdL O))), (2, .int (cI (isW O))), (1, .int (nI 1)), (0, .ref g)] ⟨rfl, rfl, rfl, rfl, rfl, rfl, rfl, rfl, trivial⟩ ?_
                  exact Lp186 (lsSec O + 1) 0 (mN (mN (mT0 M) 14 0) 22 (hdL O)) (lsT0 E S O po re cf so) true (by omega) (by omega) rfl (LI_0 hO (RB_fr hB rfl rfl rfl rfl rfl rfl rfl rfl rfl rfl rfl) hv hE hso hpo hno rfl hhd) rfl
                refine xv_aload_n hC dX7_load_79 rfl rfl ?_
                refine tg_X7_10 hC fl_X7_27 dX7_load_80 ?_
                refine xv_iconst (v := nI 2) hC dX7_load_83 (by decide) ?_
                refine al_m_bytes hC dX7_load_84 rfl (by omega) ?_
                refine xv_cast (show _ = Value.int (oAt O 0 2) from congrArg Value.int (hB.1.at (i := 2) (by omega))) ?_
                refine xv_if_ne (tgt := 92) hC dX7_load_85 (by decide) (fun h85 => ?_) (fun h85 => ?_)
                · have hw : isW O = false := decide_eq_false h85
                  have hh : hdL O = 9 := by unfold hdL; rw [hw]; rfl
                  refine xv_iconst (v := nI 0) hC dX7_load_92 (by decide) ?_
                  refine xv_istore_n hC dX7_load_93 rfl (by decide) ?_
                  refine xv_iload_n hC dX7_load_94 rfl rfl ?_
                  refine xv_if_eq (tgt := 102) hC dX7_load_95 (by decide) (fun h95 => ?_) (fun h95 => ?_)
                  · refine xv_bipush (v := nI 9) hC dX7_load_102 (by decide) ?_
                    refine xv_istore_n hC dX7_load_104 rfl (by decide) ?_
                    refine xv_iload_n hC dX7_load_105 rfl rfl ?_
                    refine xv_if_eq (tgt := 117) hC dX7_load_106 (by decide) (fun h106 => ?_) (fun h106 => ?_)
                    · exact absurd h106 (by decide)
                    · refine xv_aload_n hC dX7_load_109 rfl rfl ?_
                      refine tg_X7_11 hC fl_X7_143 dX7_load_110 ?_
                      refine xv_cast (show _ = Value.int (nI (O.2.1 0)) from congrArg (fun z => Value.int (nI z)) hB.1.2) ?_
                      refine xv_iload_n hC dX7_load_113 rfl rfl ?_
                      refine xv_icmp_ge (tgt := 120) hC dX7_load_114 (by decide) (fun h114 => ?_) (fun h114 => ?_)
                      · have hlen : hdL O ≤ O.2.1 0 := by
                          rw [hh]
                          exact (nI_leI (by omega) (by omega)).mp h114
                        refine xv_aload_n hC dX7_load_120 rfl rfl ?_
                        refine tg_X7_10 hC fl_X7_27 dX7_load_121 ?_
                        refine xv_iconst (v := nI 3) hC dX7_load_124 (by decide) ?_
                        refine al_m_bytes hC dX7_load_125 rfl (by omega) ?_
                        refine xv_cast (show _ = Value.int (oAt O 0 3) from congrArg Value.int (hB.1.at (i := 3) (by omega))) ?_
                        refine xv_aload_n hC dX7_load_126 rfl rfl ?_
                        refine tg_X7_5 hC fl_X7_23 dX7_load_127 ?_
                        refine xv_icmp_le (tgt := 136) hC dX7_load_130 (by decide) (fun h130 => ?_) (fun h130 => ?_)
                        · have h130 : oAt O 0 3 ≤ S.2.2.1 := by rw [← hB.2.2.2.2.1]; exact h130
                          refine xv_iload_n hC dX7_load_136 rfl rfl ?_
                          refine xv_if_ne (tgt := 162) hC dX7_load_137 (by decide) (fun h137 => ?_) (fun h137 => ?_)
                          · exact absurd h137 (by decide)
                          · refine xv_aload_n hC dX7_load_140 rfl rfl ?_
                            refine tg_X7_8 hC fl_X7_120 dX7_load_141 ?_
                            refine xv_if_eq (tgt := 159) hC dX7_load_144 (by decide) (fun h144 => ?_) (fun h144 => ?_)
                            · have h144 : S.2.2.2.2.2.1 = false := hB.2.2.2.2.2.2.2.1.symm.trans (cI_0.mp h144)
                              refine xv_bipush (v := -13) hC dX7_load_159 (by decide) ?_
                              exact xn_ireturn hC hr dX7_load_161 ⟨congrArg (fun z => some (Value.int z)) ((load_ref (M0 := M) hb h0L (raW_3 h45 h56 h66 hlen h130 hw (by first | exact Or.inl h144 | exact Or.inr h156)) (by decide)).1.trans (show _ = (-13 : Int32) by decide)).symm, _, rfl, (load_ref hb h0L (raW_3 h45 h56 h66 hlen h130 hw (by first | exact Or.inl h144 | exact Or.inr h156)) (by decide)).2⟩ rfl
                            · have h144 : S.2.2.2.2.2.1 = true := hB.2.2.2.2.2.2.2.1.symm.trans (cI_n0.mp h144)
                              refine xv_aload_n hC dX7_load_147 rfl rfl ?_
                              refine xv_iconst (v := nI 4) hC dX7_load_148 (by decide) ?_
                              refine xv_callV hC Y_yX7_fourAt im_yX7_fourAt se_yX7_fourAt ml_X7_176 dX7_load_149 (em_fourAt l G g sz (mN (mT0 M) 14 0) w0 (i := 4) (by omega)) (ml_w_obj _ _ _ _) rfl rfl rfl (Nat.le_of_ble_eq_true rfl) ⟨Nat.le_of_ble_eq_true rfl, Nat.le_of_ble_eq_true rfl⟩ ⟨Nat.le_of_ble_eq_true rfl, Nat.le_of_ble_eq_true rfl⟩ ?_
                              refine xv_rs ?_
                              refine xv_cast (show _ = Value.int (four (oAt O 0) 4) from congrArg Value.int (four_cong (fun i _ hi => hB.1.at (by omega)))) ?_
                              refine xv_aload_n hC dX7_load_152 rfl rfl ?_
                              refine tg_X7_9 hC fl_X7_123 dX7_load_153 ?_
                              refine xv_icmp_eq (tgt := 162) hC dX7_load_156 (by decide) (fun h156 => ?_) (fun h156 => ?_)
                              · have h156 : S.2.2.2.2.2.2 = four (oAt O 0) 4 := hB.2.2.2.2.2.2.2.2.symm.trans h156.symm
                                refine xV.to [(3, .int (nI (hdL O))), (2, .int (cI (isW O))), (1, .int (nI 1)), (0, .ref g)] ⟨congrArg (fun z => some (Value.int (nI z))) hh.symm, congrArg (fun z => some (Value.int (cI z))) hw.symm, rfl, rfl, trivial⟩ ?_
                                exact J162 (by first | exact raW_ok h45 h56 h66 hlen h130 (Or.inl hw) | exact raW_ok h45 h56 h66 hlen h130 (Or.inr ⟨h144, h156⟩)) hlen
                              · have h156 : ¬ S.2.2.2.2.2.2 = four (oAt O 0) 4 := fun z => h156 ((hB.2.2.2.2.2.2.2.2.trans z).symm)
                                refine xv_bipush (v := -13) hC dX7_load_159 (by decide) ?_
                                exact xn_ireturn hC hr dX7_load_161 ⟨congrArg (fun z => some (Value.int z)) ((load_ref (M0 := M) hb h0L (raW_3 h45 h56 h66 hlen h130 hw (by first | exact Or.inl h144 | exact Or.inr h156)) (by decide)).1.trans (show _ = (-13 : Int32) by decide)).symm, _, rfl, (load_ref hb h0L (raW_3 h45 h56 h66 hlen h130 hw (by first | exact Or.inl h144 | exact Or.inr h156)) (by decide)).2⟩ rfl
                        · have h130 : S.2.2.1 < oAt O 0 3 := by rw [← hB.2.2.2.2.1]; exact Int32.not_le.mp h130
                          refine xv_bipush (v := -12) hC dX7_load_133 (by decide) ?_
                          exact xn_ireturn hC hr dX7_load_135 ⟨congrArg (fun z => some (Value.int z)) ((load_ref (M0 := M) hb h0L (raW_2' h45 h56 h66 hlen h130) (by decide)).1.trans (show _ = (-12 : Int32) by decide)).symm, _, rfl, (load_ref hb h0L (raW_2' h45 h56 h66 hlen h130) (by decide)).2⟩ rfl
                      · have hlen : O.2.1 0 < hdL O := Nat.lt_of_not_le (fun z => h114 ((nI_leI (by omega) (by omega)).mpr (by rw [← hh]; exact z)))
                        have hr1 : raW S O = nI 1 := raW_1' (Or.inr (Or.inr (Or.inr hlen)))
                        refine xv_bipush (v := -11) hC dX7_load_117 (by decide) ?_
                        exact xn_ireturn hC hr dX7_load_119 ⟨congrArg (fun z => some (Value.int z)) ((load_ref (M0 := M) hb h0L hr1 (by decide)).1.trans (show _ = (-11 : Int32) by decide)).symm, _, rfl, (load_ref hb h0L hr1 (by decide)).2⟩ rfl
                  · exact absurd h95 (by decide)
                · have h85 : oAt O 0 2 = 0 := h85
                  have hw : isW O = true := decide_eq_true h85
                  have hh : hdL O = 5 := by unfold hdL; rw [hw]; rfl
                  refine xv_iconst (v := nI 1) hC dX7_load_88 (by decide) ?_
                  refine xv_goto (tgt := 93) hC dX7_load_89 (by decide) ?_
                  refine xv_istore_n hC dX7_load_93 rfl (by decide) ?_
                  refine xv_iload_n hC dX7_load_94 rfl rfl ?_
                  refine xv_if_eq (tgt := 102) hC dX7_load_95 (by decide) (fun h95 => ?_) (fun h95 => ?_)
                  · exact absurd h95 (by decide)
                  · refine xv_iconst (v := nI 5) hC dX7_load_98 (by decide) ?_
                    refine xv_goto (tgt := 104) hC dX7_load_99 (by decide) ?_
                    refine xv_istore_n hC dX7_load_104 rfl (by decide) ?_
                    refine xv_iload_n hC dX7_load_105 rfl rfl ?_
                    refine xv_if_eq (tgt := 117) hC dX7_load_106 (by decide) (fun h106 => ?_) (fun h106 => ?_)
                    · exact absurd h106 (by decide)
                    · refine xv_aload_n hC dX7_load_109 rfl rfl ?_
                      refine tg_X7_11 hC fl_X7_143 dX7_load_110 ?_
                      refine xv_cast (show _ = Value.int (nI (O.2.1 0)) from congrArg (fun z => Value.int (nI z)) hB.1.2) ?_
                      refine xv_iload_n hC dX7_load_113 rfl rfl ?_
                      refine xv_icmp_ge (tgt := 120) hC dX7_load_114 (by decide) (fun h114 => ?_) (fun h114 => ?_)
                      · have hlen : hdL O ≤ O.2.1 0 := by
                          rw [hh]
                          exact (nI_leI (by omega) (by omega)).mp h114
                        refine xv_aload_n hC dX7_load_120 rfl rfl ?_
                        refine tg_X7_10 hC fl_X7_27 dX7_load_121 ?_
                        refine xv_iconst (v := nI 3) hC dX7_load_124 (by decide) ?_
                        refine al_m_bytes hC dX7_load_125 rfl (by omega) ?_
                        refine xv_cast (show _ = Value.int (oAt O 0 3) from congrArg Value.int (hB.1.at (i := 3) (by omega))) ?_
                        refine xv_aload_n hC dX7_load_126 rfl rfl ?_
                        refine tg_X7_5 hC fl_X7_23 dX7_load_127 ?_
                        refine xv_icmp_le (tgt := 136) hC dX7_load_130 (by decide) (fun h130 => ?_) (fun h130 => ?_)
                        · have h130 : oAt O 0 3 ≤ S.2.2.1 := by rw [← hB.2.2.2.2.1]; exact h130
                          refine xv_iload_n hC dX7_load_136 rfl rfl ?_
                          refine xv_if_ne (tgt := 162) hC dX7_load_137 (by decide) (fun h137 => ?_) (fun h137 => ?_)
                          · refine xV.to [(3, .int (nI (hdL O))), (2, .int (cI (isW O))), (1, .int (nI 1)), (0, .ref g)] ⟨congrArg (fun z => some (Value.int (nI z))) hh.symm, congrArg (fun z => some (Value.int (cI z))) hw.symm, rfl, rfl, trivial⟩ ?_
                            exact J162 (by first | exact raW_ok h45 h56 h66 hlen h130 (Or.inl hw) | exact raW_ok h45 h56 h66 hlen h130 (Or.inr ⟨h144, h156⟩)) hlen
                          · exact absurd h137 (by decide)
                        · have h130 : S.2.2.1 < oAt O 0 3 := by rw [← hB.2.2.2.2.1]; exact Int32.not_le.mp h130
                          refine xv_bipush (v := -12) hC dX7_load_133 (by decide) ?_
                          exact xn_ireturn hC hr dX7_load_135 ⟨congrArg (fun z => some (Value.int z)) ((load_ref (M0 := M) hb h0L (raW_2' h45 h56 h66 hlen h130) (by decide)).1.trans (show _ = (-12 : Int32) by decide)).symm, _, rfl, (load_ref hb h0L (raW_2' h45 h56 h66 hlen h130) (by decide)).2⟩ rfl
                      · have hlen : O.2.1 0 < hdL O := Nat.lt_of_not_le (fun z => h114 ((nI_leI (by omega) (by omega)).mpr (by rw [← hh]; exact z)))
                        have hr1 : raW S O = nI 1 := raW_1' (Or.inr (Or.inr (Or.inr hlen)))
                        refine xv_bipush (v := -11) hC dX7_load_117 (by decide) ?_
                        exact xn_ireturn hC hr dX7_load_119 ⟨congrArg (fun z => some (Value.int z)) ((load_ref (M0 := M) hb h0L hr1 (by decide)).1.trans (show _ = (-11 : Int32) by decide)).symm, _, rfl, (load_ref hb h0L hr1 (by decide)).2⟩ rfl
    · have h0L : O.2.1 0 = 0 := (xz_eq (by omega)).mp h24
      refine xv_iconst (v := nI 0) hC dX7_load_27 (by decide) ?_
      exact xn_ireturn hC hr dX7_load_28 ⟨congrArg (fun z => some (Value.int z)) (load_0 (M0 := M) hb h0L).1.symm, _, rfl, (load_0 hb h0L).2⟩ rfl
  · have hb : S.2.2.2.2.1 = true := hB.2.2.2.2.2.2.1.symm.trans (cI_n0.mp h9)
    refine xv_bipush (v := -3) hC dX7_load_12 (by decide) ?_
    exact xn_ireturn hC hr dX7_load_14 ⟨congrArg (fun z => some (Value.int z)) (load_b (M0 := M) hb).1.symm, _, rfl, (load_b hb).2⟩ rfl
