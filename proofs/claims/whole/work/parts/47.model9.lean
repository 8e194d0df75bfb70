set_option maxHeartbeats 1000000 in
set_option maxRecDepth 100000 in
theorem em_save_true (l : Launch) (G : xD) (g sz : Nat) (M : mT) (w0 : xw) (E : cE) (S : cS) (O : cO) (on : Nat → Nat) (hB : RB M E S O) (hE : eOK E) (hA : AC S.1) (hv : fvB S.2.2.1 = true) : xN l G yX7_save cX7_save 8 (some .int) 3 0 0 [.ref g, .int (cI true)] sz (wM G g (M) w0) (fun r w => r = some (.int (fsV E S O on true)) ∧ ∃ M', w = wM G g (M') w0 ∧ saveP M E S O on true M') (sz) := by
  refine xN_of (by decide) (Nat.le_of_ble_eq_true rfl) ?_
  intro A p e s m args below meth c hC hr hname
  have hC : xC p s m args meth c cX7_save 8 RX7 G A := hC
  have hr : meth.sig.returnType = (some .int) := hr
  show xV p l e _ s m args below meth c G A 8 _ sz _ 0 0 0 [(0, .ref g), (1, .int (cI true))] []
  refine xv_aload_n hC dX7_save_0 rfl rfl ?_
  refine xv_iconst (v := nI 0) hC dX7_save_1 (by decide) ?_
  refine tp_X7_0 hC fl_X7_64 dX7_save_2 ?_
  refine xv_iload_n hC dX7_save_5 rfl rfl ?_
  refine xv_if_ne (tgt := 19) hC dX7_save_6 (by decide) (fun h6 => ?_) (fun h6 => ?_)
  · refine xv_iconst (v := nI 0) hC dX7_save_19 (by decide) ?_
    refine xv_istore_n hC dX7_save_20 rfl (by decide) ?_
    refine xv_iconst (v := nI 0) hC dX7_save_21 (by decide) ?_
    refine xv_istore_n hC dX7_save_22 rfl (by decide) ?_
    have Lp23 : ∀ (n i : Nat), (i ≤ 12) → (12 < i + n) → xV p l e (xr 3 0 0) s m args below meth c G A 8 (MQ below (xQn G A (fun r w => r = some (.int (fsV E S O on true)) ∧ ∃ M', w = wM G g (M') w0 ∧ saveP M E S O on true M') (sz)) args s 0 0 A) sz (wM G g (mZ (mT0 M) 26 (wtZ (mT0 M) true i)) w0) 0 0 23 [(3, .int (nI i)), (2, .int (nI (cnt (wtB (mT0 M) true) i))), (1, .int (cI true)), (0, .ref g)] [] := by
      intro n
      induction n with
      | zero =>
        intro i hi hn
        omega
      | succ n ih23 =>
        intro i hi hn
        refine xv_iload_n hC dX7_save_23 rfl rfl ?_
        refine xv_bipush (v := nI 12) hC dX7_save_24 (by decide) ?_
        refine xv_icmp_ge (tgt := 84) hC dX7_save_26 (by decide) (fun h26 => ?_) (fun h26 => ?_)
        · have hi12 : i = 12 := by
            have := (nI_leI (by omega) (by omega)).mp h26
            omega
          subst hi12
          obtain ⟨many, hmany⟩ : ∃ n, cnt (wtB (mT0 M) true) 12 = n := ⟨_, rfl⟩
          have hmc : many ≤ 12 := by rw [← hmany]; exact cnt_le _ _
          refine xV.to [(2, .int (nI many)), (1, .int (cI true)), (0, .ref g)] ⟨congrArg (fun z => some (Value.int (nI z))) hmany, rfl, rfl, trivial⟩ ?_
          refine xv_aload_n hC dX7_save_84 rfl rfl ?_
          refine xv_iconst (v := nI 0) hC dX7_save_85 (by decide) ?_
          refine tp_X7_13 hC fl_X7_101 dX7_save_86 rfl ?_
          refine xv_world (show _ = wM G g (mWs (mN (mZ (mT0 M) 26 (wtZ (mT0 M) true 12)) 13 0) []) w0 from rfl) ?_
          refine xv_aload_n hC dX7_save_89 rfl rfl ?_
          refine xv_bipush (v := nI 70) hC dX7_save_90 (by decide) ?_
          refine xv_callV hC Y_yX7_write im_yX7_write se_yX7_write ml_X7_104 dX7_save_92 (em_write l G g sz (mWs (mN (mZ (mT0 M) 26 (wtZ (mT0 M) true 12)) 13 0) []) w0 (by rw [mWs_n]; show 0 + _ < 17000; decide) (nI 70)) (ml_w_obj _ _ _ _) rfl rfl rfl (Nat.le_of_ble_eq_true rfl) ⟨Nat.le_of_ble_eq_true rfl, Nat.le_of_ble_eq_true rfl⟩ ⟨Nat.le_of_ble_eq_true rfl, Nat.le_of_ble_eq_true rfl⟩ ?_
          refine xv_rn ?_
          refine xv_world (show _ = wM G g (mWs (mN (mZ (mT0 M) 26 (wtZ (mT0 M) true 12)) 13 0) [nI 70]) w0 from rfl) ?_
          refine xv_aload_n hC dX7_save_95 rfl rfl ?_
          refine xv_bipush (v := nI 77) hC dX7_save_96 (by decide) ?_
          refine xv_callV hC Y_yX7_write im_yX7_write se_yX7_write ml_X7_104 dX7_save_98 (em_write l G g sz (mWs (mN (mZ (mT0 M) 26 (wtZ (mT0 M) true 12)) 13 0) [nI 70]) w0 (by rw [mWs_n]; show 0 + _ < 17000; decide) (nI 77)) (ml_w_obj _ _ _ _) rfl rfl rfl (Nat.le_of_ble_eq_true rfl) ⟨Nat.le_of_ble_eq_true rfl, Nat.le_of_ble_eq_true rfl⟩ ⟨Nat.le_of_ble_eq_true rfl, Nat.le_of_ble_eq_true rfl⟩ ?_
          refine xv_rn ?_
          refine xv_world (show _ = wM G g (mWs (mN (mZ (mT0 M) 26 (wtZ (mT0 M) true 12)) 13 0) [nI 70, nI 77]) w0 from rfl) ?_
          refine xv_aload_n hC dX7_save_101 rfl rfl ?_
          refine xv_iload_n hC dX7_save_102 rfl rfl ?_
          refine xv_if_eq (tgt := 110) hC dX7_save_103 (by decide) (fun h103 => ?_) (fun h103 => ?_)
          · exact absurd h103 (by decide)
          · refine xv_iconst (v := nI 0) hC dX7_save_106 (by decide) ?_
            refine xv_goto (tgt := 111) hC dX7_save_107 (by decide) ?_
            refine xv_callV hC Y_yX7_write im_yX7_write se_yX7_write ml_X7_104 dX7_save_111 (em_write l G g sz (mWs (mN (mZ (mT0 M) 26 (wtZ (mT0 M) true 12)) 13 0) [nI 70, nI 77]) w0 (by rw [mWs_n]; show 0 + _ < 17000; decide) (nI 0)) (ml_w_obj _ _ _ _) rfl rfl rfl (Nat.le_of_ble_eq_true rfl) ⟨Nat.le_of_ble_eq_true rfl, Nat.le_of_ble_eq_true rfl⟩ ⟨Nat.le_of_ble_eq_true rfl, Nat.le_of_ble_eq_true rfl⟩ ?_
            refine xv_rn ?_
            refine xv_world (show _ = wM G g (mWs (mN (mZ (mT0 M) 26 (wtZ (mT0 M) true 12)) 13 0) [nI 70, nI 77, nI 0]) w0 from rfl) ?_
            refine xv_aload_n hC dX7_save_114 rfl rfl ?_
            refine xv_aload_n hC dX7_save_115 rfl rfl ?_
            refine tg_X7_5 hC fl_X7_23 dX7_save_116 ?_
            refine xv_cast (show _ = Value.int S.2.2.1 from congrArg Value.int hB.2.2.2.2.1) ?_
            refine xv_callV hC Y_yX7_write im_yX7_write se_yX7_write ml_X7_104 dX7_save_119 (em_write l G g sz (mWs (mN (mZ (mT0 M) 26 (wtZ (mT0 M) true 12)) 13 0) [nI 70, nI 77, nI 0]) w0 (by rw [mWs_n]; show 0 + _ < 17000; decide) S.2.2.1) (ml_w_obj _ _ _ _) rfl rfl rfl (Nat.le_of_ble_eq_true rfl) ⟨Nat.le_of_ble_eq_true rfl, Nat.le_of_ble_eq_true rfl⟩ ⟨Nat.le_of_ble_eq_true rfl, Nat.le_of_ble_eq_true rfl⟩ ?_
            refine xv_rn ?_
            refine xv_world (show _ = wM G g (mWs (mN (mZ (mT0 M) 26 (wtZ (mT0 M) true 12)) 13 0) [nI 70, nI 77, nI 0, S.2.2.1]) w0 from rfl) ?_
            refine xv_iload_n hC dX7_save_122 rfl rfl ?_
            refine xv_if_ne (tgt := 134) hC dX7_save_123 (by decide) (fun h123 => ?_) (fun h123 => ?_)
            · refine xv_world (show _ = wM G g (mWs (mN (mZ (mT0 M) 26 (wtZ (mT0 M) true 12)) 13 0) (headB S true)) w0 from rfl) ?_
              refine xv_aload_n hC dX7_save_134 rfl rfl ?_
              refine xv_iload_n hC dX7_save_135 rfl rfl ?_
              refine xv_callV hC Y_yX7_write im_yX7_write se_yX7_write ml_X7_104 dX7_save_136 (em_write l G g sz (mWs (mN (mZ (mT0 M) 26 (wtZ (mT0 M) true 12)) 13 0) (headB S true)) w0 (by rw [mWs_n]; have := headB_len S true; show 0 + _ < 17000; omega) (nI many)) (ml_w_obj _ _ _ _) rfl rfl rfl (Nat.le_of_ble_eq_true rfl) ⟨Nat.le_of_ble_eq_true rfl, Nat.le_of_ble_eq_true rfl⟩ ⟨Nat.le_of_ble_eq_true rfl, Nat.le_of_ble_eq_true rfl⟩ ?_
              refine xv_rn ?_
              refine xv_world (show _ = wM G g (svH M S true many) w0 by rw [svH, mWs_s]) ?_
              refine xv_iconst (v := nI 0) hC dX7_save_139 (by decide) ?_
              refine xv_istore_n hC dX7_save_140 rfl (by decide) ?_
              have Lp141 : ∀ (n k1 : Nat) (Mk : mT) (O1 : cO) (on1 : Nat → Nat) (w1 : Int32), (k1 ≤ many) → (many < k1 + n) → (SI M Mk E S O O1 on1 k1 w1 many (wfF E S O on true)) → xV p l e (xr 3 0 0) s m args below meth c G A 8 (MQ below (xQn G A (fun r w => r = some (.int (fsV E S O on true)) ∧ ∃ M', w = wM G g (M') w0 ∧ saveP M E S O on true M') (sz)) args s 0 0 A) sz (wM G g (Mk) w0) 0 0 141 [(3, .int (nI k1)), (2, .int (nI many)), (1, .int (cI true)), (0, .ref g)] [] := by
                intro n
                induction n with
                | zero =>
                  intro k1 Mk O1 on1 w1 hk hn hS
                  omega
                | succ n ih141 =>
                  intro k1 Mk O1 on1 w1 hk hn hS
                  have h13k := hS.2.2.2.2.2.2.1
                  refine xv_iload_n hC dX7_save_141 rfl rfl ?_
                  refine xv_iload_n hC dX7_save_142 rfl rfl ?_
                  refine xv_icmp_ge (tgt := 283) hC dX7_save_143 (by decide) (fun h143 => ?_) (fun h143 => ?_)
                  · have h143 : many ≤ k1 := (nI_leI (by omega) (by omega)).mp h143
                    have hF := SI_end hS h143
                    refine xv_aload_n hC dX7_save_283 rfl rfl ?_
                    refine tg_X7_13 hC fl_X7_101 dX7_save_284 ?_
                    refine xv_sipush (v := nI 8000) hC dX7_save_287 (by decide) ?_
                    refine xv_icmp_le (tgt := 296) hC dX7_save_290 (by decide) (fun h290 => ?_) (fun h290 => ?_)
                    · have h290 : Mk.2.2.1 13 ≤ 8000 := (nI_leI (by omega) (by omega)).mp h290
                      refine xv_iconst (v := nI 0) hC dX7_save_296 (by decide) ?_
                      refine xv_istore_n hC dX7_save_297 rfl (by decide) ?_
                      have Lp298 : ∀ (n i : Nat), (i ≤ Mk.2.2.1 13) → (Mk.2.2.1 13 < i + n) → xV p l e (xr 3 0 0) s m args below meth c G A 8 (MQ below (xQn G A (fun r w => r = some (.int (fsV E S O on true)) ∧ ∃ M', w = wM G g (M') w0 ∧ saveP M E S O on true M') (sz)) args s 0 0 A) sz (wM G g (mY Mk 10 (cpF Mk i)) w0) 0 0 298 [(3, .int (nI i)), (2, .int (nI many)), (1, .int (cI true)), (0, .ref g)] [] := by
                        intro n
                        induction n with
                        | zero =>
                          intro i hi hn3
                          omega
                        | succ n ih298 =>
                          intro i hi hn3
                          refine xv_iload_n hC dX7_save_298 rfl rfl ?_
                          refine xv_aload_n hC dX7_save_299 rfl rfl ?_
                          refine tg_X7_13 hC fl_X7_101 dX7_save_300 ?_
                          refine xv_cast (show _ = Value.int (nI (Mk.2.2.1 13)) from rfl) ?_
                          refine xv_icmp_ge (tgt := 324) hC dX7_save_303 (by decide) (fun h303 => ?_) (fun h303 => ?_)
                          · have h303 : i = Mk.2.2.1 13 := by
                              have := (nI_leI (by omega) (by omega)).mp h303
                              omega
                            subst h303
                            refine xv_aload_n hC dX7_save_324 rfl rfl ?_
                            refine xv_aload_n hC dX7_save_325 rfl rfl ?_
                            refine tg_X7_13 hC fl_X7_101 dX7_save_326 ?_
                            refine tp_X7_11 hC fl_X7_143 dX7_save_329 rfl ?_
                            refine xv_world (show _ = wM G g (cpM Mk) w0 from rfl) ?_
                            refine xv_iload_n hC dX7_save_332 rfl rfl ?_
                            refine xv_if_eq (tgt := 378) hC dX7_save_333 (by decide) (fun h333 => ?_) (fun h333 => ?_)
                            · exact absurd h333 (by decide)
                            · refine xv_aload_n hC dX7_save_336 rfl rfl ?_
                              refine xv_iconst (v := nI 1) hC dX7_save_337 (by decide) ?_
                              refine tp_X7_8 hC fl_X7_120 dX7_save_338 (by first | exact cI_c1 | exact cI_c0 | rfl) ?_
                              refine xv_aload_n hC dX7_save_341 rfl rfl ?_
                              refine xv_aload_n hC dX7_save_342 rfl rfl ?_
                              refine tg_X7_10 hC fl_X7_27 dX7_save_343 ?_
                              refine xv_iconst (v := nI 0) hC dX7_save_346 (by decide) ?_
                              refine xv_aload_n hC dX7_save_347 rfl rfl ?_
                              refine tg_X7_11 hC fl_X7_143 dX7_save_348 ?_
                              refine xv_cast (show _ = Value.int (nI (0 + (cpM Mk).2.2.1 11)) from congrArg (fun z => Value.int (nI z)) (Nat.zero_add _).symm) ?_
                              refine xv_callS hC Y_yX7_sumOf sm_yX7_sumOf ml_X7_139 dX7_save_351 (em_sumB l G g sz (mB (cpM Mk) 8 true) w0 (a := 0) (n0 := (cpM Mk).2.2.1 11) (by show 0 + Mk.2.2.1 13 ≤ 8000; omega)) rfl rfl (Nat.le_of_ble_eq_true rfl) ⟨Nat.le_of_ble_eq_true rfl, Nat.le_of_ble_eq_true rfl⟩ ⟨Nat.le_of_ble_eq_true rfl, Nat.le_of_ble_eq_true rfl⟩ ?_
                              refine xv_rs ?_
                              refine tp_X7_9 hC fl_X7_123 dX7_save_354 ?_
                              refine xv_iconst (v := nI 0) hC dX7_save_357 (by decide) ?_
                              refine xv_istore_n hC dX7_save_358 rfl (by decide) ?_
                              have Lp359 : ∀ (n i2 : Nat), (i2 ≤ 12) → (12 < i2 + n) → xV p l e (xr 3 0 0) s m args below meth c G A 8 (MQ below (xQn G A (fun r w => r = some (.int (fsV E S O on true)) ∧ ∃ M', w = wM G g (M') w0 ∧ saveP M E S O on true M') (sz)) args s 0 0 A) sz (wM G g (mZ (mI (mB (cpM Mk) 8 true) 9 (smF ((cpM Mk).2.2.2.2.1 10) 0 ((cpM Mk).2.2.1 11))) 4 (fzZ ((mI (mB (cpM Mk) 8 true) 9 (smF ((cpM Mk).2.2.2.2.1 10) 0 ((cpM Mk).2.2.1 11))).2.2.2.1 4) i2)) w0) 0 0 359 [(3, .int (nI i2)), (2, .int (nI many)), (1, .int (cI true)), (0, .ref g)] [] := by
                                intro n
                                induction n with
                                | zero =>
                                  intro i2 hi2 hn4
                                  omega
                                | succ n ih359 =>
                                  intro i2 hi2 hn4
                                  refine xv_iload_n hC dX7_save_359 rfl rfl ?_
                                  refine xv_bipush (v := nI 12) hC dX7_save_360 (by decide) ?_
                                  refine xv_icmp_ge (tgt := 378) hC dX7_save_362 (by decide) (fun h362 => ?_) (fun h362 => ?_)
                                  · have h362 : i2 = 12 := by
                                      have := (nI_leI (by omega) (by omega)).mp h362
                                      omega
                                    subst h362
                                    refine xv_aload_n hC dX7_save_378 rfl rfl ?_
                                    refine tg_X7_11 hC fl_X7_143 dX7_save_379 ?_
                                    refine xv_cast (show _ = Value.int (nI (Mk.2.2.1 13)) from rfl) ?_
                                    exact xn_ireturn hC hr dX7_save_382 ⟨congrArg (fun z => some (Value.int z)) (save_t hB hF hS.1 hS.2.1 hS.2.2.2.2.2.2.2.2.1 hS.2.2.2.2.2.2.2.2.2 h290).1.symm, _, rfl, (save_t hB hF hS.1 hS.2.1 hS.2.2.2.2.2.2.2.2.1 hS.2.2.2.2.2.2.2.2.2 h290).2⟩ rfl
                                  · have h362 : i2 < 12 := Nat.lt_of_not_le (fun z => h362 ((nI_leI (by omega) (by omega)).mpr z))
                                    refine xv_aload_n hC dX7_save_365 rfl rfl ?_
                                    refine tg_X7_4 hC fl_X7_20 dX7_save_366 ?_
                                    refine xv_iload_n hC dX7_save_369 rfl rfl ?_
                                    refine xv_iconst (v := nI 0) hC dX7_save_370 (by decide) ?_
                                    refine as_m_changed hC dX7_save_371 rfl (by first | assumption | omega) (by first | exact cI_c1 | exact cI_c0 | rfl) ?_
                                    refine xv_iinc hC dX7_save_372 rfl (xinc _) (by decide) ?_
                                    refine xv_goto (tgt := 359) hC dX7_save_375 (by decide) ?_
                                    refine xv_world (show _ = wM G g (mZ (mI (mB (cpM Mk) 8 true) 9 (smF ((cpM Mk).2.2.2.2.1 10) 0 ((cpM Mk).2.2.1 11))) 4 (fzZ ((mI (mB (cpM Mk) 8 true) 9 (smF ((cpM Mk).2.2.2.2.1 10) 0 ((cpM Mk).2.2.1 11))).2.2.2.1 4) (i2 + 1))) w0 by rw [← fzZ_s, ← mZ_i]) ?_
                                    refine xV.to [(3, .int (nI (i2 + 1))), (2, .int (nI many)), (1, .int (cI true)), (0, .ref g)] ⟨rfl, rfl, rfl, rfl, trivial⟩ ?_
                                    exact ih359 (i2 + 1) (by omega) (by omega)
                              refine xv_world (show _ = wM G g (mZ (mI (mB (cpM Mk) 8 true) 9 (smF ((cpM Mk).2.2.2.2.1 10) 0 ((cpM Mk).2.2.1 11))) 4 (fzZ ((mI (mB (cpM Mk) 8 true) 9 (smF ((cpM Mk).2.2.2.2.1 10) 0 ((cpM Mk).2.2.1 11))).2.2.2.1 4) 0)) w0 by rw [fzZ_0, mZ_id]; rfl) ?_
                              refine xV.to [(3, .int (nI 0)), (2, .int (nI many)), (1, .int (cI true)), (0, .ref g)] ⟨rfl, rfl, rfl, rfl, trivial⟩ ?_
                              exact Lp359 13 0 (by omega) (by omega)
                          · have h303 : i < Mk.2.2.1 13 := Nat.lt_of_not_le (fun z => h303 ((nI_leI (by omega) (by omega)).mpr z))
                            refine xv_aload_n hC dX7_save_306 rfl rfl ?_
                            refine tg_X7_10 hC fl_X7_27 dX7_save_307 ?_
                            refine xv_iload_n hC dX7_save_310 rfl rfl ?_
                            refine xv_aload_n hC dX7_save_311 rfl rfl ?_
                            refine tg_X7_12 hC fl_X7_31 dX7_save_312 ?_
                            refine xv_iload_n hC dX7_save_315 rfl rfl ?_
                            refine al_m_draft hC dX7_save_316 rfl (by first | assumption | omega) ?_
                            refine as_m_bytes hC dX7_save_317 rfl (by first | assumption | omega) ?_
                            refine xv_iinc hC dX7_save_318 rfl (xinc _) (by decide) ?_
                            refine xv_goto (tgt := 298) hC dX7_save_321 (by decide) ?_
                            refine xv_world (show _ = wM G g (mY Mk 10 (cpF Mk (i + 1))) w0 by rw [← cpF_s, ← mY_i]; rfl) ?_
                            refine xV.to [(3, .int (nI (i + 1))), (2, .int (nI many)), (1, .int (cI true)), (0, .ref g)] ⟨rfl, rfl, rfl, rfl, trivial⟩ ?_
                            exact ih298 (i + 1) (by omega) (by omega)
                      refine xv_world (show _ = wM G g (mY Mk 10 (cpF Mk 0)) w0 by rw [cpF_0, mY_id]) ?_
                      refine xV.to [(3, .int (nI 0)), (2, .int (nI many)), (1, .int (cI true)), (0, .ref g)] ⟨rfl, rfl, rfl, rfl, trivial⟩ ?_
                      exact Lp298 (Mk.2.2.1 13 + 1) 0 (by omega) (by omega)
                    · have h290 : 8000 < Mk.2.2.1 13 := Nat.lt_of_not_le (fun z => h290 ((nI_leI (by omega) (by omega)).mpr z))
                      refine xv_bipush (v := -4) hC dX7_save_293 (by decide) ?_
                      exact xn_ireturn hC hr dX7_save_295 ⟨congrArg (fun z => some (Value.int z)) (save_ov hB rfl hF hS.1 hS.2.1 hS.2.2.2.2.2.2.2.2.1 hS.2.2.2.2.2.2.2.2.2 h290).1.symm, _, rfl, (save_ov hB rfl hF hS.1 hS.2.1 hS.2.2.2.2.2.2.2.2.1 hS.2.2.2.2.2.2.2.2.2 h290).2⟩ rfl
                  · have h143 : k1 < many := Nat.lt_of_not_le (fun z => h143 ((nI_leI (by omega) (by omega)).mpr z))
                    obtain ⟨p1, hp, hnp, hf, hw0, hbp⟩ := SI_pick hS h143 hB hA
                    refine xv_aload_n hC dX7_save_146 rfl rfl ?_
                    refine xv_callV hC Y_yX7_nextPart im_yX7_nextPart se_yX7_nextPart ml_X7_129 dX7_save_147 (em_nextPart l G g sz (Mk) w0) (ml_w_obj _ _ _ _) rfl rfl rfl (Nat.le_of_ble_eq_true rfl) ⟨Nat.le_of_ble_eq_true rfl, Nat.le_of_ble_eq_true rfl⟩ ⟨Nat.le_of_ble_eq_true rfl, Nat.le_of_ble_eq_true rfl⟩ ?_
                    refine xv_rs ?_
                    refine xv_cast (congrArg Value.int hnp) ?_
                    refine xv_istore hC dX7_save_150 (by decide) ?_
                    refine xv_aload_n hC dX7_save_152 rfl rfl ?_
                    refine tg_X7_26 hC fl_X7_58 dX7_save_153 ?_
                    refine xv_iload hC dX7_save_156 rfl ?_
                    refine xv_iconst (v := nI 0) hC dX7_save_158 (by decide) ?_
                    refine as_m_wanted hC dX7_save_159 rfl (by first | assumption | omega) (by first | exact cI_c1 | exact cI_c0 | rfl) ?_
                    refine xv_aload_n hC dX7_save_160 rfl rfl ?_
                    refine tg_X7_27 hC fl_X7_61 dX7_save_161 ?_
                    refine xv_iload_n hC dX7_save_164 rfl rfl ?_
                    refine xv_iload hC dX7_save_165 rfl ?_
                    refine as_m_written hC dX7_save_167 rfl (by first | assumption | omega) ?_
                    refine xv_world (show _ = wM G g (svP Mk k1 p1) w0 from rfl) ?_
                    have hon := hS.2.2.2.2.2.1
                    obtain ⟨M1, hM1⟩ : ∃ m, svP Mk k1 p1 = m := ⟨_, rfl⟩
                    obtain ⟨on2, hon2⟩ : ∃ o, va_up on1 k1 p1 = o := ⟨_, rfl⟩
                    have hk1p : on2 k1 = p1 := by rw [← hon2, va_up_self]
                    have h27 : ∀ j, j < k1 → my M1 27 j = nI (on2 j) ∧ on2 j < 12 := fun j hj => by
                      rw [← hM1, ← hon2, va_up_ne _ _ (by omega)]
                      show va_up (Mk.2.2.2.2.1 27) k1 (nI p1) j = _ ∧ _
                      rw [va_up_ne _ _ (by omega)]
                      exact hon j hj
                    have hB1 : RB M1 E S O := by rw [← hM1]; exact (svP_SF hS.1 k1 p1).RB hB
                    have h13 : M1.2.2.1 13 ≤ 9 + 1210 * k1 := by rw [← hM1]; exact h13k
                    have hsl := secB_len hE hB1.2.1 (on := on2) (s := k1) (by omega)
                    refine xv_world (show _ = wM G g (M1) w0 by rw [hM1]) ?_
                    refine xv_aload_n hC dX7_save_168 rfl rfl ?_
                    refine tg_X7_13 hC fl_X7_101 dX7_save_169 ?_
                    refine xv_istore hC dX7_save_172 (by decide) ?_
                    refine xv_iload_n hC dX7_save_174 rfl rfl ?_
                    refine xv_istore hC dX7_save_175 (by decide) ?_
                    refine xv_iload_n hC dX7_save_177 rfl rfl ?_
                    refine xv_iconst (v := nI 1) hC dX7_save_178 (by decide) ?_
                    refine xv_isub hC dX7_save_179 ?_
                    refine xv_istore hC dX7_save_180 (by decide) ?_
                    have Lp182 : ∀ (n t1 : Nat), (t1 ≤ k1) → (k1 < t1 + n) → xV p l e (xr 3 0 0) s m args below meth c G A 8 (MQ below (xQn G A (fun r w => r = some (.int (fsV E S O on true)) ∧ ∃ M', w = wM G g (M') w0 ∧ saveP M E S O on true M') (sz)) args s 0 0 A) sz (wM G g (M1) w0) 0 0 182 [(7, .int (nI k1 - nI (t1 + 1))), (6, .int (nI (mFi (fun e => eLike E (on2 e) (on2 k1)) k1 t1))), (5, .int (nI (M1.2.2.1 13))), (4, .int (nI p1)), (3, .int (nI k1)), (2, .int (nI many)), (1, .int (cI true)), (0, .ref g)] [] := by
                      intro n
                      induction n with
                      | zero =>
                        intro t1 ht hn2
                        omega
                      | succ n ih182 =>
                        intro t1 ht hn2
                        refine xv_iload hC dX7_save_182 rfl ?_
                        refine xv_if_lt (tgt := 218) hC dX7_save_184 (by decide) (fun h184 => ?_) (fun h184 => ?_)
                        · have ht1 : t1 = k1 := by
                            rcases Nat.lt_or_ge t1 k1 with z | z
                            · rw [pk_sub (by omega)] at h184
                              exact absurd h184 (nI_pos (by omega))
                            · omega
                          obtain ⟨fi, hfi⟩ : ∃ f, faN E on2 k1 = f := ⟨_, rfl⟩
                          have hfile : fi ≤ k1 := by rw [← hfi]; exact faN_le E on2 k1
                          refine xV.to [(6, .int (nI fi)), (5, .int (nI (M1.2.2.1 13))), (4, .int (nI p1)), (3, .int (nI k1)), (2, .int (nI many)), (1, .int (cI true)), (0, .ref g)] ⟨congrArg (fun z => some (Value.int (nI z))) (show _ = fi by rw [ht1, ← hfi, mFi_k]; rfl), rfl, rfl, rfl, rfl, rfl, rfl, trivial⟩ ?_
                          have J260 : xV p l e (xr 3 0 0) s m args below meth c G A 8 (MQ below (xQn G A (fun r w => r = some (.int (fsV E S O on true)) ∧ ∃ M', w = wM G g (M') w0 ∧ saveP M E S O on true M') (sz)) args s 0 0 A) sz (wM G g (mWs M1 (secB E on2 k1)) w0) 0 0 260 [(5, .int (nI (M1.2.2.1 13))), (4, .int (nI p1)), (3, .int (nI k1)), (2, .int (nI many)), (1, .int (cI true)), (0, .ref g)] [] := by
                            have hl2 := mWs_n (secB E on2 k1) M1
                            obtain ⟨M2, hM2⟩ : ∃ m, mWs M1 (secB E on2 k1) = m := ⟨_, rfl⟩
                            rw [hM2] at hl2
                            refine xv_world (show _ = wM G g (M2) w0 by rw [hM2]) ?_
                            refine xv_aload_n hC dX7_save_260 rfl rfl ?_
                            refine xv_aload_n hC dX7_save_261 rfl rfl ?_
                            refine tg_X7_12 hC fl_X7_31 dX7_save_262 ?_
                            refine xv_iload hC dX7_save_265 rfl ?_
                            refine xv_aload_n hC dX7_save_267 rfl rfl ?_
                            refine tg_X7_13 hC fl_X7_101 dX7_save_268 ?_
                            refine xv_cast (congrArg Value.int (congrArg nI (show M2.2.2.1 13 = M1.2.2.1 13 + (M2.2.2.1 13 - M1.2.2.1 13) by omega))) ?_
                            refine xv_callS hC Y_yX7_sumOf sm_yX7_sumOf ml_X7_139 dX7_save_271 (em_sumD l G g sz (M2) w0 (a := M1.2.2.1 13) (n0 := M2.2.2.1 13 - M1.2.2.1 13) (by omega)) rfl rfl (Nat.le_of_ble_eq_true rfl) ⟨Nat.le_of_ble_eq_true rfl, Nat.le_of_ble_eq_true rfl⟩ ⟨Nat.le_of_ble_eq_true rfl, Nat.le_of_ble_eq_true rfl⟩ ?_
                            refine xv_rs ?_
                            refine xv_callV hC Y_yX7_writeFour im_yX7_writeFour se_yX7_writeFour ml_X7_126 dX7_save_274 (em_writeFour l G g sz (M2) w0 (by omega) (smF (M2.2.2.2.2.1 12) (M1.2.2.1 13) (M2.2.2.1 13 - M1.2.2.1 13))) (ml_w_obj _ _ _ _) rfl rfl rfl (Nat.le_of_ble_eq_true rfl) ⟨Nat.le_of_ble_eq_true rfl, Nat.le_of_ble_eq_true rfl⟩ ⟨Nat.le_of_ble_eq_true rfl, Nat.le_of_ble_eq_true rfl⟩ ?_
                            refine xv_rn ?_
                            refine xv_world (show _ = wM G g (svS E on2 k1 M1) w0 by rw [svS, hM2]) ?_
                            refine xv_iinc hC dX7_save_277 rfl (xinc _) (by decide) ?_
                            refine xv_goto (tgt := 141) hC dX7_save_280 (by decide) ?_
                            refine xV.to [(3, .int (nI (k1 + 1))), (2, .int (nI many)), (1, .int (cI true)), (0, .ref g)] ⟨rfl, rfl, rfl, rfl, trivial⟩ ?_
                            exact ih141 (k1 + 1) (svS E on2 k1 M1) (wsO E on2 O1 k1) on2 (w1 &&& (bitI p1 ^^^ (-1))) (by omega) (by omega) (by rw [← hM1, ← hon2]; exact SI_step hS h143 hmc hB hE hp hf hw0 hbp)
                          refine xv_aload_n hC dX7_save_218 rfl rfl ?_
                          refine xv_iload hC dX7_save_219 rfl ?_
                          refine xv_callV hC Y_yX7_write im_yX7_write se_yX7_write ml_X7_104 dX7_save_221 (em_write l G g sz (M1) w0 (by omega) (nI p1)) (ml_w_obj _ _ _ _) rfl rfl rfl (Nat.le_of_ble_eq_true rfl) ⟨Nat.le_of_ble_eq_true rfl, Nat.le_of_ble_eq_true rfl⟩ ⟨Nat.le_of_ble_eq_true rfl, Nat.le_of_ble_eq_true rfl⟩ ?_
                          refine xv_rn ?_
                          refine xv_aload_n hC dX7_save_224 rfl rfl ?_
                          refine xv_iload hC dX7_save_225 rfl ?_
                          refine xv_iload_n hC dX7_save_227 rfl rfl ?_
                          refine xv_icmp_ge (tgt := 235) hC dX7_save_228 (by decide) (fun h228 => ?_) (fun h228 => ?_)
                          · have h228 : k1 ≤ fi := (nI_leI (by omega) (by omega)).mp h228
                            refine xv_iconst (v := nI 0) hC dX7_save_235 (by decide) ?_
                            refine xv_callV hC Y_yX7_write im_yX7_write se_yX7_write ml_X7_104 dX7_save_236 (em_write l G g sz (mWr M1 (nI p1)) w0 (by rw [mWr_n]; omega) _) (ml_w_obj _ _ _ _) rfl rfl rfl (Nat.le_of_ble_eq_true rfl) ⟨Nat.le_of_ble_eq_true rfl, Nat.le_of_ble_eq_true rfl⟩ ⟨Nat.le_of_ble_eq_true rfl, Nat.le_of_ble_eq_true rfl⟩ ?_
                            refine xv_rn ?_
                            refine xv_iload hC dX7_save_239 rfl ?_
                            refine xv_iload_n hC dX7_save_241 rfl rfl ?_
                            refine xv_icmp_ge (tgt := 254) hC dX7_save_242 (by decide) (fun h242 => ?_) (fun h242 => ?_)
                            · refine xv_aload_n hC dX7_save_254 rfl rfl ?_
                              refine xv_iload hC dX7_save_255 rfl ?_
                              refine xv_callV hC Y_yX7_writeRows im_yX7_writeRows se_yX7_writeRows ml_X7_136 dX7_save_257 (em_writeRows l G g sz (mWr (mWr M1 (nI p1)) (nI 0)) w0 (by rw [mWr_n, mWr_n]; omega) (p1 := p1) hp) (ml_w_obj _ _ _ _) rfl rfl rfl (Nat.le_of_ble_eq_true rfl) ⟨Nat.le_of_ble_eq_true rfl, Nat.le_of_ble_eq_true rfl⟩ ⟨Nat.le_of_ble_eq_true rfl, Nat.le_of_ble_eq_true rfl⟩ ?_
                              refine xv_rn ?_
                              refine xv_world (show _ = wM G g (mWs M1 (secB E on2 k1)) w0 by rw [← sec_2 (M1 := M1) hE hB1.2.1 hp hk1p hfi (by omega)]) ?_
                              refine xV.to [(5, .int (nI (M1.2.2.1 13))), (4, .int (nI p1)), (3, .int (nI k1)), (2, .int (nI many)), (1, .int (cI true)), (0, .ref g)] ⟨rfl, rfl, rfl, rfl, rfl, rfl, trivial⟩ ?_
                              exact J260
                            · exact absurd ((nI_leI (by omega) (by omega)).mpr h228) h242
                          · have h228 : fi < k1 := Nat.lt_of_not_le (fun z => h228 ((nI_leI (by omega) (by omega)).mpr z))
                            refine xv_iconst (v := nI 1) hC dX7_save_231 (by decide) ?_
                            refine xv_goto (tgt := 236) hC dX7_save_232 (by decide) ?_
                            refine xv_callV hC Y_yX7_write im_yX7_write se_yX7_write ml_X7_104 dX7_save_236 (em_write l G g sz (mWr M1 (nI p1)) w0 (by rw [mWr_n]; omega) _) (ml_w_obj _ _ _ _) rfl rfl rfl (Nat.le_of_ble_eq_true rfl) ⟨Nat.le_of_ble_eq_true rfl, Nat.le_of_ble_eq_true rfl⟩ ⟨Nat.le_of_ble_eq_true rfl, Nat.le_of_ble_eq_true rfl⟩ ?_
                            refine xv_rn ?_
                            refine xv_iload hC dX7_save_239 rfl ?_
                            refine xv_iload_n hC dX7_save_241 rfl rfl ?_
                            refine xv_icmp_ge (tgt := 254) hC dX7_save_242 (by decide) (fun h242 => ?_) (fun h242 => ?_)
                            · exact absurd ((nI_leI (by omega) (by omega)).mp h242) (by omega)
                            · refine xv_aload_n hC dX7_save_245 rfl rfl ?_
                              refine xv_iload hC dX7_save_246 rfl ?_
                              refine xv_callV hC Y_yX7_write im_yX7_write se_yX7_write ml_X7_104 dX7_save_248 (em_write l G g sz (mWr (mWr M1 (nI p1)) (nI 1)) w0 (by rw [mWr_n, mWr_n]; omega) (nI fi)) (ml_w_obj _ _ _ _) rfl rfl rfl (Nat.le_of_ble_eq_true rfl) ⟨Nat.le_of_ble_eq_true rfl, Nat.le_of_ble_eq_true rfl⟩ ⟨Nat.le_of_ble_eq_true rfl, Nat.le_of_ble_eq_true rfl⟩ ?_
                              refine xv_rn ?_
                              refine xv_goto (tgt := 260) hC dX7_save_251 (by decide) ?_
                              refine xv_world (show _ = wM G g (mWs M1 (secB E on2 k1)) w0 by rw [← sec_1 (M1 := M1) hk1p hfi h228]) ?_
                              refine xV.to [(5, .int (nI (M1.2.2.1 13))), (4, .int (nI p1)), (3, .int (nI k1)), (2, .int (nI many)), (1, .int (cI true)), (0, .ref g)] ⟨rfl, rfl, rfl, rfl, rfl, rfl, trivial⟩ ?_
                              exact J260
                        · have ht1 : t1 < k1 := by
                            rcases Nat.lt_or_ge t1 k1 with z | z
                            · exact z
                            · rw [show t1 = k1 by omega, subm1] at h184
                              exact absurd (by decide) h184
                          refine xV.to [(7, .int (nI (k1 - (t1 + 1)))), (6, .int (nI (mFi (fun e => eLike E (on2 e) (on2 k1)) k1 t1))), (5, .int (nI (M1.2.2.1 13))), (4, .int (nI p1)), (3, .int (nI k1)), (2, .int (nI many)), (1, .int (cI true)), (0, .ref g)] ⟨congrArg (fun z => some (Value.int z)) (pk_sub (by omega)), rfl, rfl, rfl, rfl, rfl, rfl, rfl, trivial⟩ ?_
                          refine xv_aload_n hC dX7_save_187 rfl rfl ?_
                          refine xv_aload_n hC dX7_save_188 rfl rfl ?_
                          refine tg_X7_27 hC fl_X7_61 dX7_save_189 ?_
                          refine xv_iload hC dX7_save_192 rfl ?_
                          refine al_m_written hC dX7_save_194 rfl (by first | assumption | omega) ?_
                          refine xv_cast (congrArg Value.int (h27 _ (by omega)).1) ?_
                          refine xv_iload hC dX7_save_195 rfl ?_
                          refine xv_callV hC Y_yX7_areSame im_yX7_areSame se_yX7_areSame ml_X7_133 dX7_save_197 (em_areSame l G g sz (M1) w0 (p1 := on2 (k1 - (t1 + 1))) (q1 := p1) (h27 _ (by omega)).2 hp) (ml_w_obj _ _ _ _) rfl rfl rfl (Nat.le_of_ble_eq_true rfl) ⟨Nat.le_of_ble_eq_true rfl, Nat.le_of_ble_eq_true rfl⟩ ⟨Nat.le_of_ble_eq_true rfl, Nat.le_of_ble_eq_true rfl⟩ ?_
                          refine xv_rs ?_
                          refine xv_cast (congrArg Value.int (congrArg cI (show _ = (fun e => eLike E (on2 e) (on2 k1)) (k1 - (t1 + 1)) by rw [same_like hE hB1.2.1 (h27 _ (by omega)).2 hp, ← hk1p]))) ?_
                          refine xv_if_eq (tgt := 208) hC dX7_save_200 (by decide) (fun h200 => ?_) (fun h200 => ?_)
                          · have h200 : (fun e => eLike E (on2 e) (on2 k1)) (k1 - (t1 + 1)) = false := cI_0.mp h200
                            refine xv_iload hC dX7_save_208 rfl ?_
                            refine xv_istore hC dX7_save_210 (by decide) ?_
                            refine xv_iinc hC dX7_save_212 rfl rfl (by decide) ?_
                            refine xv_goto (tgt := 182) hC dX7_save_215 (by decide) ?_
                            refine xV.to [(7, .int (nI k1 - nI (t1 + 1 + 1))), (6, .int (nI (mFi (fun e => eLike E (on2 e) (on2 k1)) k1 (t1 + 1)))), (5, .int (nI (M1.2.2.1 13))), (4, .int (nI p1)), (3, .int (nI k1)), (2, .int (nI many)), (1, .int (cI true)), (0, .ref g)] ⟨congrArg (fun z => some (Value.int z)) (subs1 (by omega)), congrArg (fun z => some (Value.int (nI z))) (show _ = mFi (fun e => eLike E (on2 e) (on2 k1)) k1 (t1 + 1) by first | exact mFi_y h200 | exact mFi_n h200), rfl, rfl, rfl, rfl, rfl, rfl, trivial⟩ ?_
                            exact ih182 (t1 + 1) (by omega) (by omega)
                          · have h200 : (fun e => eLike E (on2 e) (on2 k1)) (k1 - (t1 + 1)) = true := cI_n0.mp h200
                            refine xv_iload hC dX7_save_203 rfl ?_
                            refine xv_goto (tgt := 210) hC dX7_save_205 (by decide) ?_
                            refine xv_istore hC dX7_save_210 (by decide) ?_
                            refine xv_iinc hC dX7_save_212 rfl rfl (by decide) ?_
                            refine xv_goto (tgt := 182) hC dX7_save_215 (by decide) ?_
                            refine xV.to [(7, .int (nI k1 - nI (t1 + 1 + 1))), (6, .int (nI (mFi (fun e => eLike E (on2 e) (on2 k1)) k1 (t1 + 1)))), (5, .int (nI (M1.2.2.1 13))), (4, .int (nI p1)), (3, .int (nI k1)), (2, .int (nI many)), (1, .int (cI true)), (0, .ref g)] ⟨congrArg (fun z => some (Value.int z)) (subs1 (by omega)), congrArg (fun z => some (Value.int (nI z))) (show _ = mFi (fun e => eLike E (on2 e) (on2 k1)) k1 (t1 + 1) by first | exact mFi_y h200 | exact mFi_n h200), rfl, rfl, rfl, rfl, rfl, rfl, trivial⟩ ?_
                            exact ih182 (t1 + 1) (by omega) (by omega)
                    refine xV.to [(7, .int (nI k1 - nI (0 + 1))), (6, .int (nI (mFi (fun e => eLike E (on2 e) (on2 k1)) k1 0))), (5, .int (nI (M1.2.2.1 13))), (4, .int (nI p1)), (3, .int (nI k1)), (2, .int (nI many)), (1, .int (cI true)), (0, .ref g)] ⟨rfl, rfl, rfl, rfl, rfl, rfl, rfl, rfl, trivial⟩ ?_
                    exact Lp182 (k1 + 1) 0 (by omega) (by omega)
              refine xV.to [(3, .int (nI 0)), (2, .int (nI many)), (1, .int (cI true)), (0, .ref g)] ⟨rfl, rfl, rfl, rfl, trivial⟩ ?_
              exact Lp141 (many + 1) 0 (svH M S true many) (wfO0 S O true (wfW E S true)) on (wfW E S true) (by omega) (by omega) (SI_0 hB hE hv hmany.symm)
            · exact absurd h123 (by decide)
        · have hi12 : i < 12 := Nat.lt_of_not_le (fun z => h26 ((nI_leI (by omega) (by omega)).mpr z))
          refine xv_aload_n hC dX7_save_29 rfl rfl ?_
          refine tg_X7_26 hC fl_X7_58 dX7_save_30 ?_
          refine xv_iload_n hC dX7_save_33 rfl rfl ?_
          refine xv_iload_n hC dX7_save_34 rfl rfl ?_
          refine xv_if_eq (tgt := 54) hC dX7_save_35 (by decide) (fun h35 => ?_) (fun h35 => ?_)
          · exact absurd h35 (by decide)
          · refine xv_aload_n hC dX7_save_38 rfl rfl ?_
            refine xv_iload_n hC dX7_save_39 rfl rfl ?_
            refine xv_callV hC Y_yX7_entries im_yX7_entries se_yX7_entries ml_X7_85 dX7_save_40 (em_entries l G g sz (mZ (mT0 M) 26 (wtZ (mT0 M) true i)) w0 (p1 := i) hi12) (ml_w_obj _ _ _ _) rfl rfl rfl (Nat.le_of_ble_eq_true rfl) ⟨Nat.le_of_ble_eq_true rfl, Nat.le_of_ble_eq_true rfl⟩ ⟨Nat.le_of_ble_eq_true rfl, Nat.le_of_ble_eq_true rfl⟩ ?_
            refine xv_rs ?_
            refine xv_cast (show _ = Value.int (nI (mEnt (mT0 M) i)) from rfl) ?_
            refine xv_if_le (tgt := 50) hC dX7_save_43 (by decide) (fun h43 => ?_) (fun h43 => ?_)
            · have hwt : wtB (mT0 M) true i = false := decide_eq_false (by rw [(xz_le (by have := cnt_le (mHas (mT0 M) i) 100; unfold mEnt; omega)).mp h43]; decide)
              refine xv_iconst (v := nI 0) hC dX7_save_50 (by decide) ?_
              refine xv_goto (tgt := 60) hC dX7_save_51 (by decide) ?_
              refine as_m_wanted hC dX7_save_60 rfl (by first | assumption | omega) (by first | exact cI_c1 | exact cI_c0 | rfl) ?_
              refine xv_world (show _ = wM G g (mZ (mT0 M) 26 (wtZ (mT0 M) true (i + 1))) w0 by rw [mZ_i, ← wtZ_s, hwt]) ?_
              refine xv_aload_n hC dX7_save_61 rfl rfl ?_
              refine tg_X7_26 hC fl_X7_58 dX7_save_62 ?_
              refine xv_iload_n hC dX7_save_65 rfl rfl ?_
              refine al_m_wanted hC dX7_save_66 rfl (by first | assumption | omega) ?_
              refine xv_cast (show _ = Value.int (cI (wtB (mT0 M) true i)) from congrArg (fun z => Value.int (cI z)) (wtZ_at (mT0 M) true i)) ?_
              refine xv_if_eq (tgt := 76) hC dX7_save_67 (by decide) (fun h67 => ?_) (fun h67 => ?_)
              · have h67 : wtB (mT0 M) true i = false := cI_0.mp h67
                refine xv_iload_n hC dX7_save_76 rfl rfl ?_
                refine xv_istore_n hC dX7_save_77 rfl (by decide) ?_
                refine xv_iinc hC dX7_save_78 rfl (xinc _) (by decide) ?_
                refine xv_goto (tgt := 23) hC dX7_save_81 (by decide) ?_
                refine xV.to [(3, .int (nI (i + 1))), (2, .int (nI (cnt (wtB (mT0 M) true) (i + 1)))), (1, .int (cI true)), (0, .ref g)] ⟨rfl, congrArg (fun z => some (Value.int (nI z))) (show _ = cnt (wtB (mT0 M) true) (i + 1) by simp [cnt, h67]), rfl, rfl, trivial⟩ ?_
                exact ih23 (i + 1) (by omega) (by omega)
              · have h67 : wtB (mT0 M) true i = true := cI_n0.mp h67
                refine xv_iload_n hC dX7_save_70 rfl rfl ?_
                refine xv_iconst (v := nI 1) hC dX7_save_71 (by decide) ?_
                refine xv_iadd hC dX7_save_72 ?_
                refine xv_cast (congrArg Value.int (nI_add _ _)) ?_
                refine xv_goto (tgt := 77) hC dX7_save_73 (by decide) ?_
                refine xv_istore_n hC dX7_save_77 rfl (by decide) ?_
                refine xv_iinc hC dX7_save_78 rfl (xinc _) (by decide) ?_
                refine xv_goto (tgt := 23) hC dX7_save_81 (by decide) ?_
                refine xV.to [(3, .int (nI (i + 1))), (2, .int (nI (cnt (wtB (mT0 M) true) (i + 1)))), (1, .int (cI true)), (0, .ref g)] ⟨rfl, congrArg (fun z => some (Value.int (nI z))) (show _ = cnt (wtB (mT0 M) true) (i + 1) by simp [cnt, h67]), rfl, rfl, trivial⟩ ?_
                exact ih23 (i + 1) (by omega) (by omega)
            · have hwt : wtB (mT0 M) true i = true := decide_eq_true (Nat.pos_of_ne_zero (fun z => h43 (by rw [z]; decide)))
              refine xv_iconst (v := nI 1) hC dX7_save_46 (by decide) ?_
              refine xv_goto (tgt := 60) hC dX7_save_47 (by decide) ?_
              refine as_m_wanted hC dX7_save_60 rfl (by first | assumption | omega) (by first | exact cI_c1 | exact cI_c0 | rfl) ?_
              refine xv_world (show _ = wM G g (mZ (mT0 M) 26 (wtZ (mT0 M) true (i + 1))) w0 by rw [mZ_i, ← wtZ_s, hwt]) ?_
              refine xv_aload_n hC dX7_save_61 rfl rfl ?_
              refine tg_X7_26 hC fl_X7_58 dX7_save_62 ?_
              refine xv_iload_n hC dX7_save_65 rfl rfl ?_
              refine al_m_wanted hC dX7_save_66 rfl (by first | assumption | omega) ?_
              refine xv_cast (show _ = Value.int (cI (wtB (mT0 M) true i)) from congrArg (fun z => Value.int (cI z)) (wtZ_at (mT0 M) true i)) ?_
              refine xv_if_eq (tgt := 76) hC dX7_save_67 (by decide) (fun h67 => ?_) (fun h67 => ?_)
              · have h67 : wtB (mT0 M) true i = false := cI_0.mp h67
                refine xv_iload_n hC dX7_save_76 rfl rfl ?_
                refine xv_istore_n hC dX7_save_77 rfl (by decide) ?_
                refine xv_iinc hC dX7_save_78 rfl (xinc _) (by decide) ?_
                refine xv_goto (tgt := 23) hC dX7_save_81 (by decide) ?_
                refine xV.to [(3, .int (nI (i + 1))), (2, .int (nI (cnt (wtB (mT0 M) true) (i + 1)))), (1, .int (cI true)), (0, .ref g)] ⟨rfl, congrArg (fun z => some (Value.int (nI z))) (show _ = cnt (wtB (mT0 M) true) (i + 1) by simp [cnt, h67]), rfl, rfl, trivial⟩ ?_
                exact ih23 (i + 1) (by omega) (by omega)
              · have h67 : wtB (mT0 M) true i = true := cI_n0.mp h67
                refine xv_iload_n hC dX7_save_70 rfl rfl ?_
                refine xv_iconst (v := nI 1) hC dX7_save_71 (by decide) ?_
                refine xv_iadd hC dX7_save_72 ?_
                refine xv_cast (congrArg Value.int (nI_add _ _)) ?_
                refine xv_goto (tgt := 77) hC dX7_save_73 (by decide) ?_
                refine xv_istore_n hC dX7_save_77 rfl (by decide) ?_
                refine xv_iinc hC dX7_save_78 rfl (xinc _) (by decide) ?_
                refine xv_goto (tgt := 23) hC dX7_save_81 (by decide) ?_
                refine xV.to [(3, .int (nI (i + 1))), (2, .int (nI (cnt (wtB (mT0 M) true) (i + 1)))), (1, .int (cI true)), (0, .ref g)] ⟨rfl, congrArg (fun z => some (Value.int (nI z))) (show _ = cnt (wtB (mT0 M) true) (i + 1) by simp [cnt, h67]), rfl, rfl, trivial⟩ ?_
                exact ih23 (i + 1) (by omega) (by omega)
    refine xv_world (show _ = wM G g (mZ (mT0 M) 26 (wtZ (mT0 M) true 0)) w0 by rw [wtZ_0, mZ_id]; rfl) ?_
    refine xV.to [(3, .int (nI 0)), (2, .int (nI (cnt (wtB (mT0 M) true) 0))), (1, .int (cI true)), (0, .ref g)] ⟨rfl, rfl, rfl, rfl, trivial⟩ ?_
    exact Lp23 13 0 (by omega) (by omega)
  · exact absurd h6 (by decide)
