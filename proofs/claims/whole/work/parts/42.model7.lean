set_option maxHeartbeats 1000000 in
set_option maxRecDepth 100000 in
theorem em_come (l : Launch) (G : xD) (g sz : Nat) (M : mT) (w0 : xw) {k1 p1 q1 : Nat} (hk : k1 < 255) (hp : p1 < 12) (hq : q1 < 12) (d : Bool) (h15 : my M 15 k1 = nI p1) (h19 : my M 19 k1 = nI q1) : xM l G yX7_come cX7_come 8 none 1 0 0 [.ref g, .int (nI k1), .int (cI d)] sz (wM G g (M) w0) (none) (sz) (wM G g (coL M d k1 p1 q1 100) w0) := by
  refine xM_of (by decide) (Nat.le_of_ble_eq_true rfl) ?_
  intro A p e s m args below meth c hC hr hname
  have hC : xC p s m args meth c cX7_come 8 RX7 G A := hC
  have hr : meth.sig.returnType = none := hr
  show xV p l e _ s m args below meth c G A 8 _ sz _ 0 0 0 [(0, .ref g), (1, .int (nI k1)), (2, .int (cI d))] []
  refine xv_aload_n hC dX7_come_0 rfl rfl ?_
  refine tg_X7_15 hC fl_X7_34 dX7_come_1 ?_
  refine xv_iload_n hC dX7_come_4 rfl rfl ?_
  refine al_m_parts hC dX7_come_5 rfl (by first | assumption | omega) ?_
  refine xv_cast (congrArg Value.int h15) ?_
  refine xv_istore_n hC dX7_come_6 rfl (by decide) ?_
  refine xv_iconst (v := nI 0) hC dX7_come_7 (by decide) ?_
  refine xv_istore hC dX7_come_8 (by decide) ?_
  have Lp10 : ∀ (n i : Nat), (i ≤ 100) → (100 < i + n) → xV p l e (xr 1 0 0) s m args below meth c G A 8 (MQ below (xQ G A (none) (sz) (wM G g (coL M d k1 p1 q1 100) w0)) args s 0 0 A) sz (wM G g (coL M d k1 p1 q1 i) w0) 0 0 10 [(4, .int (nI (i))), (3, .int (nI p1)), (0, .ref g), (1, .int (nI k1)), (2, .int (cI d))] [] := by
    intro n
    induction n with
    | zero =>
      intro i hi hn
      omega
    | succ n ih10 =>
      intro i hi hn
      obtain ⟨Mi, hMi⟩ : ∃ m, coL M d k1 p1 q1 i = m := ⟨_, rfl⟩
      have h19i : my Mi 19 k1 = nI q1 := by
        obtain ⟨z1, z4, j2, f17, hz⟩ := coL_k (M := M) (d := d) (k := k1) (p := p1) (q := q1) i
        rw [← hMi, hz]
        exact h19
      refine xv_world (show _ = wM G g (Mi) w0 by rw [hMi]) ?_
      refine xv_iload hC dX7_come_10 rfl ?_
      refine xv_bipush (v := nI 100) hC dX7_come_12 (by decide) ?_
      refine xv_icmp_ge (tgt := 166) hC dX7_come_14 (by decide) (fun h14 => ?_) (fun h14 => ?_)
      · have hi100 : i = 100 := by
          have := (nI_leI (by omega) (by omega)).mp h14
          omega
        exact xv_return hC hr dX7_come_166 rfl rfl (by rw [← hMi, hi100])
      · have hi100 : i < 100 := Nat.lt_of_not_le (fun z => h14 ((nI_leI (by omega) (by omega)).mpr z))
        refine xv_bipush (v := nI 100) hC dX7_come_17 (by decide) ?_
        refine xv_aload_n hC dX7_come_19 rfl rfl ?_
        refine tg_X7_19 hC fl_X7_46 dX7_come_20 ?_
        refine xv_iload_n hC dX7_come_23 rfl rfl ?_
        refine al_m_rowsOf hC dX7_come_24 rfl (by first | assumption | omega) ?_
        refine xv_cast (congrArg Value.int h19i) ?_
        refine xv_imul hC dX7_come_25 ?_
        refine xv_iload hC dX7_come_26 rfl ?_
        refine xv_iadd hC dX7_come_28 ?_
        refine xv_cast (congrArg Value.int (ixm _ _ _)) ?_
        refine xv_istore hC dX7_come_29 (by decide) ?_
        refine xv_bipush (v := nI 100) hC dX7_come_31 (by decide) ?_
        refine xv_iload_n hC dX7_come_33 rfl rfl ?_
        refine xv_imul hC dX7_come_34 ?_
        refine xv_iload hC dX7_come_35 rfl ?_
        refine xv_iadd hC dX7_come_37 ?_
        refine xv_cast (congrArg Value.int (ixm _ _ _)) ?_
        refine xv_istore hC dX7_come_38 (by decide) ?_
        refine xv_aload_n hC dX7_come_40 rfl rfl ?_
        refine tg_X7_20 hC fl_X7_49 dX7_come_41 ?_
        refine xv_iload hC dX7_come_44 rfl ?_
        refine al_m_rowHas hC dX7_come_46 rfl (by first | assumption | omega) ?_
        refine xv_if_eq (tgt := 147) hC dX7_come_47 (by decide) (fun h47 => ?_) (fun h47 => ?_)
        · have h47 : mz Mi 20 (100 * q1 + i) = false := cI_0.mp h47
          refine xv_iload_n hC dX7_come_147 rfl rfl ?_
          refine xv_if_ne (tgt := 160) hC dX7_come_148 (by decide) (fun h148 => ?_) (fun h148 => ?_)
          · have h148 : d = true := cI_n0.mp h148
            refine xv_iinc hC dX7_come_160 rfl (xinc _) (by decide) ?_
            refine xv_goto (tgt := 10) hC dX7_come_163 (by decide) ?_
            refine xv_world (show _ = wM G g (coL M d k1 p1 q1 (i + 1)) w0 by rw [coL, hMi, coM_a h47 h148]) ?_
            refine xV.to [(4, .int (nI (i + 1))), (3, .int (nI p1)), (0, .ref g), (1, .int (nI k1)), (2, .int (cI d))] ⟨rfl, rfl, rfl, rfl, rfl, trivial⟩ ?_
            exact ih10 (i + 1) (by omega) (by omega)
          · have h148 : d = false := cI_0.mp h148
            refine xv_aload_n hC dX7_come_151 rfl rfl ?_
            refine xv_iload_n hC dX7_come_152 rfl rfl ?_
            refine xv_iload hC dX7_come_153 rfl ?_
            refine xv_callV hC Y_yX7_remove im_yX7_remove se_yX7_remove ml_X7_89 dX7_come_155 (em_remove l G g sz (Mi) w0 (p1 := p1) (i1 := i) hp hi100) (ml_w_obj _ _ _ _) rfl rfl rfl (Nat.le_of_ble_eq_true rfl) ⟨Nat.le_of_ble_eq_true rfl, Nat.le_of_ble_eq_true rfl⟩ ⟨Nat.le_of_ble_eq_true rfl, Nat.le_of_ble_eq_true rfl⟩ ?_
            refine xv_rs ?_
            refine xv_istore hC dX7_come_158 (by decide) ?_
            refine xv_iinc hC dX7_come_160 rfl (xinc _) (by decide) ?_
            refine xv_goto (tgt := 10) hC dX7_come_163 (by decide) ?_
            refine xv_world (show _ = wM G g (coL M d k1 p1 q1 (i + 1)) w0 by rw [coL, hMi, coM_b h47 h148]) ?_
            refine xV.to [(4, .int (nI (i + 1))), (3, .int (nI p1)), (0, .ref g), (1, .int (nI k1)), (2, .int (cI d))] ⟨rfl, rfl, rfl, rfl, rfl, trivial⟩ ?_
            exact ih10 (i + 1) (by omega) (by omega)
        · have h47 : mz Mi 20 (100 * q1 + i) = true := cI_n0.mp h47
          have J87 : xV p l e (xr 1 0 0) s m args below meth c G A 8 (MQ below (xQ G A (none) (sz) (wM G g (coL M d k1 p1 q1 100) w0)) args s 0 0 A) sz (wM G g (Mi) w0) 0 0 87 [(6, .int (nI (100 * p1 + i))), (5, .int (nI (100 * q1 + i))), (4, .int (nI (i))), (3, .int (nI p1)), (0, .ref g), (1, .int (nI k1)), (2, .int (cI d))] [.int (cI (coC Mi d p1 q1 i))] := by
            refine xv_istore hC dX7_come_87 (by decide) ?_
            refine xv_aload_n hC dX7_come_89 rfl rfl ?_
            refine tg_X7_17 hC fl_X7_40 dX7_come_90 ?_
            refine xv_iload_n hC dX7_come_93 rfl rfl ?_
            refine xv_iload hC dX7_come_94 rfl ?_
            refine xv_if_eq (tgt := 110) hC dX7_come_96 (by decide) (fun h96 => ?_) (fun h96 => ?_)
            · have h96 : (coC Mi d p1 q1 i) = false := cI_0.mp h96
              refine xv_aload_n hC dX7_come_110 rfl rfl ?_
              refine tg_X7_17 hC fl_X7_40 dX7_come_111 ?_
              refine xv_iload_n hC dX7_come_114 rfl rfl ?_
              refine al_m_conflicts hC dX7_come_115 rfl (by first | assumption | omega) ?_
              refine as_m_conflicts hC dX7_come_116 rfl (by first | assumption | omega) ?_
              refine xv_iload hC dX7_come_117 rfl ?_
              refine xv_if_eq (tgt := 130) hC dX7_come_119 (by decide) (fun h119 => ?_) (fun h119 => ?_)
              · refine xv_aload_n hC dX7_come_130 rfl rfl ?_
                refine xv_iload_n hC dX7_come_131 rfl rfl ?_
                refine xv_iload hC dX7_come_132 rfl ?_
                refine xv_aload_n hC dX7_come_134 rfl rfl ?_
                refine tg_X7_21 hC fl_X7_52 dX7_come_135 ?_
                refine xv_iload hC dX7_come_138 rfl ?_
                refine al_m_rowValues hC dX7_come_140 rfl (by first | assumption | omega) ?_
                refine xv_callV hC Y_yX7_set im_yX7_set se_yX7_set ml_X7_81 dX7_come_141 (by first | exact em_set l G g sz (mYi Mi 17 k1 (my Mi 17 k1 + nI 1)) w0 (p1 := p1) (i1 := i) hp hi100 (mj Mi 21 (100 * q1 + i)) | exact em_set l G g sz (mYi Mi 17 k1 (my Mi 17 k1)) w0 (p1 := p1) (i1 := i) hp hi100 (mj Mi 21 (100 * q1 + i))) (ml_w_obj _ _ _ _) rfl rfl rfl (Nat.le_of_ble_eq_true rfl) ⟨Nat.le_of_ble_eq_true rfl, Nat.le_of_ble_eq_true rfl⟩ ⟨Nat.le_of_ble_eq_true rfl, Nat.le_of_ble_eq_true rfl⟩ ?_
                refine xv_rn ?_
                refine xv_goto (tgt := 160) hC dX7_come_144 (by decide) ?_
                refine xv_iinc hC dX7_come_160 rfl (xinc _) (by decide) ?_
                refine xv_goto (tgt := 10) hC dX7_come_163 (by decide) ?_
                refine xv_world (show _ = wM G g (coL M d k1 p1 q1 (i + 1)) w0 by rw [coL, hMi, coM_e h47 h96]) ?_
                refine xV.to [(4, .int (nI (i + 1))), (3, .int (nI p1)), (0, .ref g), (1, .int (nI k1)), (2, .int (cI d))] ⟨rfl, rfl, rfl, rfl, rfl, trivial⟩ ?_
                exact ih10 (i + 1) (by omega) (by omega)
              · exact absurd (cI_0.mpr h96) h119
            · have h96 : (coC Mi d p1 q1 i) = true := cI_n0.mp h96
              refine xv_aload_n hC dX7_come_99 rfl rfl ?_
              refine tg_X7_17 hC fl_X7_40 dX7_come_100 ?_
              refine xv_iload_n hC dX7_come_103 rfl rfl ?_
              refine al_m_conflicts hC dX7_come_104 rfl (by first | assumption | omega) ?_
              refine xv_iconst (v := nI 1) hC dX7_come_105 (by decide) ?_
              refine xv_iadd hC dX7_come_106 ?_
              refine xv_goto (tgt := 116) hC dX7_come_107 (by decide) ?_
              refine as_m_conflicts hC dX7_come_116 rfl (by first | assumption | omega) ?_
              refine xv_iload hC dX7_come_117 rfl ?_
              refine xv_if_eq (tgt := 130) hC dX7_come_119 (by decide) (fun h119 => ?_) (fun h119 => ?_)
              · exact absurd (cI_0.mp h119) (by rw [h96]; decide)
              · refine xv_aload_n hC dX7_come_122 rfl rfl ?_
                refine tg_X7_6 hC fl_X7_98 dX7_come_123 ?_
                refine xv_iconst (v := nI 1) hC dX7_come_126 (by decide) ?_
                refine xv_icmp_ne (tgt := 144) hC dX7_come_127 (by decide) (fun h127 => ?_) (fun h127 => ?_)
                · have h127 : ¬ Mi.1 6 = nI 1 := h127
                  refine xv_goto (tgt := 160) hC dX7_come_144 (by decide) ?_
                  refine xv_iinc hC dX7_come_160 rfl (xinc _) (by decide) ?_
                  refine xv_goto (tgt := 10) hC dX7_come_163 (by decide) ?_
                  refine xv_world (show _ = wM G g (coL M d k1 p1 q1 (i + 1)) w0 by rw [coL, hMi, coM_c h47 h96 h127]) ?_
                  refine xV.to [(4, .int (nI (i + 1))), (3, .int (nI p1)), (0, .ref g), (1, .int (nI k1)), (2, .int (cI d))] ⟨rfl, rfl, rfl, rfl, rfl, trivial⟩ ?_
                  exact ih10 (i + 1) (by omega) (by omega)
                · have h127 : Mi.1 6 = nI 1 := h127
                  refine xv_aload_n hC dX7_come_130 rfl rfl ?_
                  refine xv_iload_n hC dX7_come_131 rfl rfl ?_
                  refine xv_iload hC dX7_come_132 rfl ?_
                  refine xv_aload_n hC dX7_come_134 rfl rfl ?_
                  refine tg_X7_21 hC fl_X7_52 dX7_come_135 ?_
                  refine xv_iload hC dX7_come_138 rfl ?_
                  refine al_m_rowValues hC dX7_come_140 rfl (by first | assumption | omega) ?_
                  refine xv_callV hC Y_yX7_set im_yX7_set se_yX7_set ml_X7_81 dX7_come_141 (by first | exact em_set l G g sz (mYi Mi 17 k1 (my Mi 17 k1 + nI 1)) w0 (p1 := p1) (i1 := i) hp hi100 (mj Mi 21 (100 * q1 + i)) | exact em_set l G g sz (mYi Mi 17 k1 (my Mi 17 k1)) w0 (p1 := p1) (i1 := i) hp hi100 (mj Mi 21 (100 * q1 + i))) (ml_w_obj _ _ _ _) rfl rfl rfl (Nat.le_of_ble_eq_true rfl) ⟨Nat.le_of_ble_eq_true rfl, Nat.le_of_ble_eq_true rfl⟩ ⟨Nat.le_of_ble_eq_true rfl, Nat.le_of_ble_eq_true rfl⟩ ?_
                  refine xv_rn ?_
                  refine xv_goto (tgt := 160) hC dX7_come_144 (by decide) ?_
                  refine xv_iinc hC dX7_come_160 rfl (xinc _) (by decide) ?_
                  refine xv_goto (tgt := 10) hC dX7_come_163 (by decide) ?_
                  refine xv_world (show _ = wM G g (coL M d k1 p1 q1 (i + 1)) w0 by rw [coL, hMi, coM_d h47 h96 h127]) ?_
                  refine xV.to [(4, .int (nI (i + 1))), (3, .int (nI p1)), (0, .ref g), (1, .int (nI k1)), (2, .int (cI d))] ⟨rfl, rfl, rfl, rfl, rfl, trivial⟩ ?_
                  exact ih10 (i + 1) (by omega) (by omega)
          refine xv_iload_n hC dX7_come_50 rfl rfl ?_
          refine xv_if_eq (tgt := 86) hC dX7_come_51 (by decide) (fun h51 => ?_) (fun h51 => ?_)
          · have h51 : d = false := cI_0.mp h51
            refine xv_iconst (v := nI 0) hC dX7_come_86 (by decide) ?_
            refine xv_cast (congrArg Value.int (show _ = cI (coC Mi d p1 q1 i) by first | exact c1_of (coC_1 h51 h61 h79) | exact c0_of (coC_0a h51) | exact c0_of (coC_0b h61) | exact c0_of (coC_0c h79))) ?_
            exact J87
          · have h51 : d = true := cI_n0.mp h51
            refine xv_aload_n hC dX7_come_54 rfl rfl ?_
            refine tg_X7_1 hC fl_X7_7 dX7_come_55 ?_
            refine xv_iload hC dX7_come_58 rfl ?_
            refine al_m_has hC dX7_come_60 rfl (by first | assumption | omega) ?_
            refine xv_if_eq (tgt := 86) hC dX7_come_61 (by decide) (fun h61 => ?_) (fun h61 => ?_)
            · have h61 : mz Mi 1 (100 * p1 + i) = false := cI_0.mp h61
              refine xv_iconst (v := nI 0) hC dX7_come_86 (by decide) ?_
              refine xv_cast (congrArg Value.int (show _ = cI (coC Mi d p1 q1 i) by first | exact c1_of (coC_1 h51 h61 h79) | exact c0_of (coC_0a h51) | exact c0_of (coC_0b h61) | exact c0_of (coC_0c h79))) ?_
              exact J87
            · have h61 : mz Mi 1 (100 * p1 + i) = true := cI_n0.mp h61
              refine xv_aload_n hC dX7_come_64 rfl rfl ?_
              refine tg_X7_2 hC fl_X7_13 dX7_come_65 ?_
              refine xv_iload hC dX7_come_68 rfl ?_
              refine al_m_values hC dX7_come_70 rfl (by first | assumption | omega) ?_
              refine xv_aload_n hC dX7_come_71 rfl rfl ?_
              refine tg_X7_21 hC fl_X7_52 dX7_come_72 ?_
              refine xv_iload hC dX7_come_75 rfl ?_
              refine al_m_rowValues hC dX7_come_77 rfl (by first | assumption | omega) ?_
              refine xv_lcmp hC dX7_come_78 ?_
              refine xv_if_eq (tgt := 86) hC dX7_come_79 (by decide) (fun h79 => ?_) (fun h79 => ?_)
              · have h79 : mj Mi 2 (100 * p1 + i) = mj Mi 21 (100 * q1 + i) := by rw [lg_cmp_eq] at h79; exact h79
                refine xv_iconst (v := nI 0) hC dX7_come_86 (by decide) ?_
                refine xv_cast (congrArg Value.int (show _ = cI (coC Mi d p1 q1 i) by first | exact c1_of (coC_1 h51 h61 h79) | exact c0_of (coC_0a h51) | exact c0_of (coC_0b h61) | exact c0_of (coC_0c h79))) ?_
                exact J87
              · have h79 : ¬ mj Mi 2 (100 * p1 + i) = mj Mi 21 (100 * q1 + i) := by rw [lg_cmp_eq] at h79; exact h79
                refine xv_iconst (v := nI 1) hC dX7_come_82 (by decide) ?_
                refine xv_goto (tgt := 87) hC dX7_come_83 (by decide) ?_
                refine xv_cast (congrArg Value.int (show _ = cI (coC Mi d p1 q1 i) by first | exact c1_of (coC_1 h51 h61 h79) | exact c0_of (coC_0a h51) | exact c0_of (coC_0b h61) | exact c0_of (coC_0c h79))) ?_
                exact J87
  refine xV.to [(4, .int (nI (0))), (3, .int (nI p1)), (0, .ref g), (1, .int (nI k1)), (2, .int (cI d))] ⟨rfl, rfl, rfl, rfl, rfl, trivial⟩ ?_
  exact Lp10 101 0 (by omega) (by omega)
set_option maxHeartbeats 1000000 in
set_option maxRecDepth 100000 in
theorem em_compareAll (l : Launch) (G : xD) (g sz : Nat) (M : mT) (w0 : xw) (hsec : M.2.2.1 14 ≤ 255) (h19 : ∀ k, k < M.2.2.1 14 → ∃ q, q < 12 ∧ my M 19 k = nI q) : xM l G yX7_compareAll cX7_compareAll 7 none 0 0 0 [.ref g] sz (wM G g (M) w0) (none) (sz) (wM G g (mZ M 4 (caZ M 12)) w0) := by
  refine xM_of (by decide) (Nat.le_of_ble_eq_true rfl) ?_
  intro A p e s m args below meth c hC hr hname
  have hC : xC p s m args meth c cX7_compareAll 7 RX7 G A := hC
  have hr : meth.sig.returnType = none := hr
  show xV p l e _ s m args below meth c G A 7 _ sz _ 0 0 0 [(0, .ref g)] []
  refine xv_iconst (v := nI 0) hC dX7_compareAll_0 (by decide) ?_
  refine xv_istore_n hC dX7_compareAll_1 rfl (by decide) ?_
  have Lp2 : ∀ (n p1 : Nat), (p1 ≤ 12) → (12 < p1 + n) → xV p l e (xr 0 0 0) s m args below meth c G A 7 (MQ below (xQ G A (none) (sz) (wM G g (mZ M 4 (caZ M 12)) w0)) args s 0 0 A) sz (wM G g (mZ M 4 (caZ M p1)) w0) 0 0 2 [(1, .int (nI p1)), (0, .ref g)] [] := by
    intro n
    induction n with
    | zero =>
      intro p1 hp hn
      omega
    | succ n ih2 =>
      intro p1 hp hn
      refine xv_iload_n hC dX7_compareAll_2 rfl rfl ?_
      refine xv_bipush (v := nI 12) hC dX7_compareAll_3 (by decide) ?_
      refine xv_icmp_ge (tgt := 184) hC dX7_compareAll_5 (by decide) (fun h5 => ?_) (fun h5 => ?_)
      · have hp12 : p1 = 12 := by
          have := (nI_leI (by omega) (by omega)).mp h5
          omega
        exact xv_return hC hr dX7_compareAll_184 rfl rfl (by rw [hp12])
      · have hp12 : p1 < 12 := Nat.lt_of_not_le (fun z => h5 ((nI_leI (by omega) (by omega)).mpr z))
        refine xv_iconst (v := -1) hC dX7_compareAll_8 (by decide) ?_
        refine xv_istore_n hC dX7_compareAll_9 rfl (by decide) ?_
        refine xv_iconst (v := nI 0) hC dX7_compareAll_10 (by decide) ?_
        refine xv_istore_n hC dX7_compareAll_11 rfl (by decide) ?_
        have Lp12 : ∀ (n k1 : Nat), (k1 ≤ M.2.2.1 14) → (M.2.2.1 14 < k1 + n) → xV p l e (xr 0 0 0) s m args below meth c G A 7 (MQ below (xQ G A (none) (sz) (wM G g (mZ M 4 (caZ M 12)) w0)) args s 0 0 A) sz (wM G g (mZ M 4 (caZ M p1)) w0) 0 0 12 [(3, .int (nI k1)), (2, .int (fwR (mLs (M.2.2.2.2.1 15) (nI p1) k1))), (1, .int (nI p1)), (0, .ref g)] [] := by
          intro n
          induction n with
          | zero =>
            intro k1 hk hn2
            omega
          | succ n ih12 =>
            intro k1 hk hn2
            refine xv_iload_n hC dX7_compareAll_12 rfl rfl ?_
            refine xv_aload_n hC dX7_compareAll_13 rfl rfl ?_
            refine tg_X7_14 hC fl_X7_182 dX7_compareAll_14 ?_
            refine xv_icmp_ge (tgt := 42) hC dX7_compareAll_17 (by decide) (fun h17 => ?_) (fun h17 => ?_)
            · have h17 : M.2.2.1 14 ≤ k1 := (nI_leI (by omega) (by omega)).mp h17
              have hks : k1 = M.2.2.1 14 := by omega
              obtain ⟨o1, ho1⟩ : ∃ o, (caO M p1) = o := ⟨_, rfl⟩
              have hoS : ∀ k, o1 = some k → k < M.2.2.1 14 := fun k hk => (mLs_lt (by rw [← hk, ← ho1]; rfl)).1
              refine xv_iconst (v := nI 1) hC dX7_compareAll_42 (by decide) ?_
              refine xv_istore_n hC dX7_compareAll_43 rfl (by decide) ?_
              refine xv_iconst (v := nI 0) hC dX7_compareAll_44 (by decide) ?_
              refine xv_istore hC dX7_compareAll_45 (by decide) ?_
              have Lp47 : ∀ (n i : Nat), (i ≤ 100) → (100 < i + n) → xV p l e (xr 0 0 0) s m args below meth c G A 7 (MQ below (xQ G A (none) (sz) (wM G g (mZ M 4 (caZ M 12)) w0)) args s 0 0 A) sz (wM G g (mZ M 4 (caZ M p1)) w0) 0 0 47 [(4, .int (nI i)), (3, .int (cI (allB (caS M p1 o1) i))), (2, .int (fwR o1)), (1, .int (nI p1)), (0, .ref g)] [] := by
                intro n
                induction n with
                | zero =>
                  intro i hi hn3
                  omega
                | succ n ih47 =>
                  intro i hi hn3
                  refine xv_iload hC dX7_compareAll_47 rfl ?_
                  refine xv_bipush (v := nI 100) hC dX7_compareAll_49 (by decide) ?_
                  refine xv_icmp_ge (tgt := 163) hC dX7_compareAll_51 (by decide) (fun h51 => ?_) (fun h51 => ?_)
                  · have h51 : 100 ≤ i := (nI_leI (by omega) (by omega)).mp h51
                    refine xv_aload_n hC dX7_compareAll_163 rfl rfl ?_
                    refine tg_X7_4 hC fl_X7_20 dX7_compareAll_164 ?_
                    refine xv_iload_n hC dX7_compareAll_167 rfl rfl ?_
                    refine xv_iload_n hC dX7_compareAll_168 rfl rfl ?_
                    refine xv_if_ne (tgt := 176) hC dX7_compareAll_169 (by decide) (fun h169 => ?_) (fun h169 => ?_)
                    · have k169 : allB (caS M p1 o1) 100 = true := by rw [show (100 : Nat) = i by omega]; exact cI_n0.mp h169
                      refine xv_iconst (v := nI 0) hC dX7_compareAll_176 (by decide) ?_
                      refine as_m_changed hC dX7_compareAll_177 rfl (by first | assumption | omega) (by first | exact cI_c1 | exact cI_c0 | rfl) ?_
                      refine xv_iinc hC dX7_compareAll_178 rfl (xinc _) (by decide) ?_
                      refine xv_goto (tgt := 2) hC dX7_compareAll_181 (by decide) ?_
                      have hi100 : i = 100 := by omega
                      subst hi100
                      refine xv_world (show _ = wM G g (mZ M 4 (caZ M (p1 + 1))) w0 by rw [mZ_i, ← caZ_s, ho1, k169]; rfl) ?_
                      refine xV.to [(1, .int (nI (p1 + 1))), (0, .ref g)] ⟨rfl, rfl, trivial⟩ ?_
                      exact ih2 (p1 + 1) (by omega) (by omega)
                    · have k169 : allB (caS M p1 o1) 100 = false := by rw [show (100 : Nat) = i by omega]; exact cI_0.mp h169
                      refine xv_iconst (v := nI 1) hC dX7_compareAll_172 (by decide) ?_
                      refine xv_goto (tgt := 177) hC dX7_compareAll_173 (by decide) ?_
                      refine as_m_changed hC dX7_compareAll_177 rfl (by first | assumption | omega) (by first | exact cI_c1 | exact cI_c0 | rfl) ?_
                      refine xv_iinc hC dX7_compareAll_178 rfl (xinc _) (by decide) ?_
                      refine xv_goto (tgt := 2) hC dX7_compareAll_181 (by decide) ?_
                      have hi100 : i = 100 := by omega
                      subst hi100
                      refine xv_world (show _ = wM G g (mZ M 4 (caZ M (p1 + 1))) w0 by rw [mZ_i, ← caZ_s, ho1, k169]; rfl) ?_
                      refine xV.to [(1, .int (nI (p1 + 1))), (0, .ref g)] ⟨rfl, rfl, trivial⟩ ?_
                      exact ih2 (p1 + 1) (by omega) (by omega)
                  · have h51 : i < 100 := Nat.lt_of_not_le (fun z => h51 ((nI_leI (by omega) (by omega)).mpr z))
                    refine xv_bipush (v := nI 100) hC dX7_compareAll_54 (by decide) ?_
                    refine xv_iload_n hC dX7_compareAll_56 rfl rfl ?_
                    refine xv_imul hC dX7_compareAll_57 ?_
                    refine xv_iload hC dX7_compareAll_58 rfl ?_
                    refine xv_iadd hC dX7_compareAll_60 ?_
                    refine xv_cast (congrArg Value.int (ixm _ _ _)) ?_
                    refine xv_istore hC dX7_compareAll_61 (by decide) ?_
                    have J100 : xV p l e (xr 0 0 0) s m args below meth c G A 7 (MQ below (xQ G A (none) (sz) (wM G g (mZ M 4 (caZ M 12)) w0)) args s 0 0 A) sz (wM G g (mZ M 4 (caZ M p1)) w0) 0 0 100 [(5, .int (nI (100 * p1 + i))), (4, .int (nI i)), (3, .int (cI (allB (caS M p1 o1) i))), (2, .int (fwR o1)), (1, .int (nI p1)), (0, .ref g)] [.int (cI (caT M o1 i))] := by
                      refine xv_istore hC dX7_compareAll_100 (by decide) ?_
                      refine xv_iload_n hC dX7_compareAll_102 rfl rfl ?_
                      refine xv_if_eq (tgt := 155) hC dX7_compareAll_103 (by decide) (fun h103 => ?_) (fun h103 => ?_)
                      · have h103 : (allB (caS M p1 o1) i) = false := cI_0.mp h103
                        refine xv_iconst (v := nI 0) hC dX7_compareAll_155 (by decide) ?_
                        refine xv_istore_n hC dX7_compareAll_156 rfl (by decide) ?_
                        refine xv_iinc hC dX7_compareAll_157 rfl (xinc _) (by decide) ?_
                        refine xv_goto (tgt := 47) hC dX7_compareAll_160 (by decide) ?_
                        refine xV.to [(4, .int (nI (i + 1))), (3, .int (cI (allB (caS M p1 o1) (i + 1)))), (2, .int (fwR o1)), (1, .int (nI p1)), (0, .ref g)] ⟨rfl, (by first | (apply Eq.symm; apply rN0; simp [allB, h103]; done) | (apply Eq.symm; apply rN0; simp [allB, caS, h103, h115]; done) | (apply Eq.symm; apply rN1; simp [allB, caS, h103, ← h115, h120]; done) | (apply Eq.symm; apply rN1; simp [allB, caS, h103, ← h115, h120, h148]; done) | (apply Eq.symm; apply rN0; simp [allB, caS, h103, ← h115, h120, h148]; done)), rfl, rfl, rfl, trivial⟩ ?_
                        exact ih47 (i + 1) (by omega) (by omega)
                      · have h103 : (allB (caS M p1 o1) i) = true := cI_n0.mp h103
                        refine xv_iload hC dX7_compareAll_106 rfl ?_
                        refine xv_aload_n hC dX7_compareAll_108 rfl rfl ?_
                        refine tg_X7_1 hC fl_X7_7 dX7_compareAll_109 ?_
                        refine xv_iload hC dX7_compareAll_112 rfl ?_
                        refine al_m_has hC dX7_compareAll_114 rfl (by first | assumption | omega) ?_
                        refine xv_icmp_ne (tgt := 155) hC dX7_compareAll_115 (by decide) (fun h115 => ?_) (fun h115 => ?_)
                        · have h115 : ¬ caT M o1 i = mz M 1 (100 * p1 + i) := fun z => h115 (congrArg cI z)
                          refine xv_iconst (v := nI 0) hC dX7_compareAll_155 (by decide) ?_
                          refine xv_istore_n hC dX7_compareAll_156 rfl (by decide) ?_
                          refine xv_iinc hC dX7_compareAll_157 rfl (xinc _) (by decide) ?_
                          refine xv_goto (tgt := 47) hC dX7_compareAll_160 (by decide) ?_
                          refine xV.to [(4, .int (nI (i + 1))), (3, .int (cI (allB (caS M p1 o1) (i + 1)))), (2, .int (fwR o1)), (1, .int (nI p1)), (0, .ref g)] ⟨rfl, (by first | (apply Eq.symm; apply rN0; simp [allB, h103]; done) | (apply Eq.symm; apply rN0; simp [allB, caS, h103, h115]; done) | (apply Eq.symm; apply rN1; simp [allB, caS, h103, ← h115, h120]; done) | (apply Eq.symm; apply rN1; simp [allB, caS, h103, ← h115, h120, h148]; done) | (apply Eq.symm; apply rN0; simp [allB, caS, h103, ← h115, h120, h148]; done)), rfl, rfl, rfl, trivial⟩ ?_
                          exact ih47 (i + 1) (by omega) (by omega)
                        · have h115 : caT M o1 i = mz M 1 (100 * p1 + i) := cI_inj.mp h115
                          refine xv_iload hC dX7_compareAll_118 rfl ?_
                          refine xv_if_eq (tgt := 151) hC dX7_compareAll_120 (by decide) (fun h120 => ?_) (fun h120 => ?_)
                          · have h120 : caT M o1 i = false := cI_0.mp h120
                            refine xv_iconst (v := nI 1) hC dX7_compareAll_151 (by decide) ?_
                            refine xv_goto (tgt := 156) hC dX7_compareAll_152 (by decide) ?_
                            refine xv_istore_n hC dX7_compareAll_156 rfl (by decide) ?_
                            refine xv_iinc hC dX7_compareAll_157 rfl (xinc _) (by decide) ?_
                            refine xv_goto (tgt := 47) hC dX7_compareAll_160 (by decide) ?_
                            refine xV.to [(4, .int (nI (i + 1))), (3, .int (cI (allB (caS M p1 o1) (i + 1)))), (2, .int (fwR o1)), (1, .int (nI p1)), (0, .ref g)] ⟨rfl, (by first | (apply Eq.symm; apply rN0; simp [allB, h103]; done) | (apply Eq.symm; apply rN0; simp [allB, caS, h103, h115]; done) | (apply Eq.symm; apply rN1; simp [allB, caS, h103, ← h115, h120]; done) | (apply Eq.symm; apply rN1; simp [allB, caS, h103, ← h115, h120, h148]; done) | (apply Eq.symm; apply rN0; simp [allB, caS, h103, ← h115, h120, h148]; done)), rfl, rfl, rfl, trivial⟩ ?_
                            exact ih47 (i + 1) (by omega) (by omega)
                          · have h120 : caT M o1 i = true := cI_n0.mp h120
                            obtain ⟨k, hko⟩ : ∃ k, o1 = some k := by
                              cases ho : o1 with
                              | none => rw [ho] at h120; cases h120
                              | some k => exact ⟨k, rfl⟩
                            have hks' := hoS k hko
                            obtain ⟨q1, hq1, hq2⟩ := h19 k hks'
                            have hcq : caQ M o1 = q1 := by rw [hko]; show cl (my M 19 k) = q1; rw [hq2]; exact nI_clamp (by omega)
                            refine xv_aload_n hC dX7_compareAll_123 rfl rfl ?_
                            refine tg_X7_2 hC fl_X7_13 dX7_compareAll_124 ?_
                            refine xv_iload hC dX7_compareAll_127 rfl ?_
                            refine al_m_values hC dX7_compareAll_129 rfl (by first | assumption | omega) ?_
                            refine xv_aload_n hC dX7_compareAll_130 rfl rfl ?_
                            refine tg_X7_21 hC fl_X7_52 dX7_compareAll_131 ?_
                            refine xv_bipush (v := nI 100) hC dX7_compareAll_134 (by decide) ?_
                            refine xv_aload_n hC dX7_compareAll_136 rfl rfl ?_
                            refine tg_X7_19 hC fl_X7_46 dX7_compareAll_137 ?_
                            refine xv_iload_n hC dX7_compareAll_140 rfl rfl ?_
                            refine xv_cast (congrArg Value.int (show fwR o1 = nI k by rw [hko]; rfl)) ?_
                            refine al_m_rowsOf hC dX7_compareAll_141 rfl (by first | assumption | omega) ?_
                            refine xv_cast (congrArg Value.int (show _ = nI (caQ M o1) by rw [hcq]; exact hq2)) ?_
                            refine xv_imul hC dX7_compareAll_142 ?_
                            refine xv_iload hC dX7_compareAll_143 rfl ?_
                            refine xv_iadd hC dX7_compareAll_145 ?_
                            refine xv_cast (congrArg Value.int (ixm _ _ _)) ?_
                            refine al_m_rowValues hC dX7_compareAll_146 rfl (by first | assumption | omega) ?_
                            refine xv_lcmp hC dX7_compareAll_147 ?_
                            refine xv_if_ne (tgt := 155) hC dX7_compareAll_148 (by decide) (fun h148 => ?_) (fun h148 => ?_)
                            · have h148 : ¬ mj M 2 (100 * p1 + i) = mj M 21 (100 * caQ M o1 + i) := lcmp_ne.mp h148
                              refine xv_iconst (v := nI 0) hC dX7_compareAll_155 (by decide) ?_
                              refine xv_istore_n hC dX7_compareAll_156 rfl (by decide) ?_
                              refine xv_iinc hC dX7_compareAll_157 rfl (xinc _) (by decide) ?_
                              refine xv_goto (tgt := 47) hC dX7_compareAll_160 (by decide) ?_
                              refine xV.to [(4, .int (nI (i + 1))), (3, .int (cI (allB (caS M p1 o1) (i + 1)))), (2, .int (fwR o1)), (1, .int (nI p1)), (0, .ref g)] ⟨rfl, (by first | (apply Eq.symm; apply rN0; simp [allB, h103]; done) | (apply Eq.symm; apply rN0; simp [allB, caS, h103, h115]; done) | (apply Eq.symm; apply rN1; simp [allB, caS, h103, ← h115, h120]; done) | (apply Eq.symm; apply rN1; simp [allB, caS, h103, ← h115, h120, h148]; done) | (apply Eq.symm; apply rN0; simp [allB, caS, h103, ← h115, h120, h148]; done)), rfl, rfl, rfl, trivial⟩ ?_
                              exact ih47 (i + 1) (by omega) (by omega)
                            · have h148 : mj M 2 (100 * p1 + i) = mj M 21 (100 * caQ M o1 + i) := by rw [lg_cmp_eq] at h148; exact h148
                              refine xv_iconst (v := nI 1) hC dX7_compareAll_151 (by decide) ?_
                              refine xv_goto (tgt := 156) hC dX7_compareAll_152 (by decide) ?_
                              refine xv_istore_n hC dX7_compareAll_156 rfl (by decide) ?_
                              refine xv_iinc hC dX7_compareAll_157 rfl (xinc _) (by decide) ?_
                              refine xv_goto (tgt := 47) hC dX7_compareAll_160 (by decide) ?_
                              refine xV.to [(4, .int (nI (i + 1))), (3, .int (cI (allB (caS M p1 o1) (i + 1)))), (2, .int (fwR o1)), (1, .int (nI p1)), (0, .ref g)] ⟨rfl, (by first | (apply Eq.symm; apply rN0; simp [allB, h103]; done) | (apply Eq.symm; apply rN0; simp [allB, caS, h103, h115]; done) | (apply Eq.symm; apply rN1; simp [allB, caS, h103, ← h115, h120]; done) | (apply Eq.symm; apply rN1; simp [allB, caS, h103, ← h115, h120, h148]; done) | (apply Eq.symm; apply rN0; simp [allB, caS, h103, ← h115, h120, h148]; done)), rfl, rfl, rfl, trivial⟩ ?_
                              exact ih47 (i + 1) (by omega) (by omega)
                    refine xv_iload_n hC dX7_compareAll_63 rfl rfl ?_
                    refine xv_if_lt (tgt := 99) hC dX7_compareAll_64 (by decide) (fun h64 => ?_) (fun h64 => ?_)
                    · have h64 : caT M o1 i = false := by
                        cases ho : o1 with
                        | none => rfl
                        | some k =>
                          rw [ho] at h64
                          have := hoS k ho
                          exact absurd h64 (nI_pos (by omega))
                      refine xv_iconst (v := nI 0) hC dX7_compareAll_99 (by decide) ?_
                      refine xv_cast (congrArg Value.int (show _ = cI (caT M o1 i) by first | exact c0_of h64 | exact c1_of h92 | exact c0_of h92)) ?_
                      refine xV.to [(5, .int (nI (100 * p1 + i))), (4, .int (nI i)), (3, .int (cI (allB (caS M p1 o1) i))), (2, .int (fwR o1)), (1, .int (nI p1)), (0, .ref g)] ⟨rfl, rfl, rfl, rfl, rfl, rfl, trivial⟩ ?_
                      exact J100
                    · obtain ⟨k, hko⟩ : ∃ k, o1 = some k := by
                        cases ho : o1 with
                        | none => rw [ho] at h64; exact absurd (by decide) h64
                        | some k => exact ⟨k, rfl⟩
                      have hks' := hoS k hko
                      obtain ⟨q1, hq1, hq2⟩ := h19 k hks'
                      have hcq : caQ M o1 = q1 := by rw [hko]; show cl (my M 19 k) = q1; rw [hq2]; exact nI_clamp (by omega)
                      refine xv_aload_n hC dX7_compareAll_67 rfl rfl ?_
                      refine tg_X7_20 hC fl_X7_49 dX7_compareAll_68 ?_
                      refine xv_bipush (v := nI 100) hC dX7_compareAll_71 (by decide) ?_
                      refine xv_aload_n hC dX7_compareAll_73 rfl rfl ?_
                      refine tg_X7_19 hC fl_X7_46 dX7_compareAll_74 ?_
                      refine xv_iload_n hC dX7_compareAll_77 rfl rfl ?_
                      refine xv_if_ge (tgt := 85) hC dX7_compareAll_78 (by decide) (fun h78 => ?_) (fun h78 => ?_)
                      · refine xv_iload_n hC dX7_compareAll_85 rfl rfl ?_
                        refine xv_cast (congrArg Value.int (show fwR o1 = nI k by rw [hko]; rfl)) ?_
                        refine al_m_rowsOf hC dX7_compareAll_86 rfl (by first | assumption | omega) ?_
                        refine xv_cast (congrArg Value.int (show _ = nI (caQ M o1) by rw [hcq]; exact hq2)) ?_
                        refine xv_imul hC dX7_compareAll_87 ?_
                        refine xv_iload hC dX7_compareAll_88 rfl ?_
                        refine xv_iadd hC dX7_compareAll_90 ?_
                        refine xv_cast (congrArg Value.int (ixm _ _ _)) ?_
                        refine al_m_rowHas hC dX7_compareAll_91 rfl (by first | assumption | omega) ?_
                        refine xv_if_eq (tgt := 99) hC dX7_compareAll_92 (by decide) (fun h92 => ?_) (fun h92 => ?_)
                        · have h92 : caT M o1 i = false := by
                            have z := cI_0.mp h92
                            unfold caT
                            rw [show o1.isSome = true by rw [hko]; rfl, Bool.true_and]
                            exact z
                          refine xv_iconst (v := nI 0) hC dX7_compareAll_99 (by decide) ?_
                          refine xv_cast (congrArg Value.int (show _ = cI (caT M o1 i) by first | exact c0_of h64 | exact c1_of h92 | exact c0_of h92)) ?_
                          refine xV.to [(5, .int (nI (100 * p1 + i))), (4, .int (nI i)), (3, .int (cI (allB (caS M p1 o1) i))), (2, .int (fwR o1)), (1, .int (nI p1)), (0, .ref g)] ⟨rfl, rfl, rfl, rfl, rfl, rfl, trivial⟩ ?_
                          exact J100
                        · have h92 : caT M o1 i = true := by
                            have z := cI_n0.mp h92
                            unfold caT
                            rw [show o1.isSome = true by rw [hko]; rfl, Bool.true_and]
                            exact z
                          refine xv_iconst (v := nI 1) hC dX7_compareAll_95 (by decide) ?_
                          refine xv_goto (tgt := 100) hC dX7_compareAll_96 (by decide) ?_
                          refine xv_cast (congrArg Value.int (show _ = cI (caT M o1 i) by first | exact c0_of h64 | exact c1_of h92 | exact c0_of h92)) ?_
                          refine xV.to [(5, .int (nI (100 * p1 + i))), (4, .int (nI i)), (3, .int (cI (allB (caS M p1 o1) i))), (2, .int (fwR o1)), (1, .int (nI p1)), (0, .ref g)] ⟨rfl, rfl, rfl, rfl, rfl, rfl, trivial⟩ ?_
                          exact J100
                      · exact absurd (show ¬ fwR o1 < 0 by rw [hko]; exact nI_pos (by omega)) (fun z => z (Int32.not_le.mp h78))
              refine xV.to [(4, .int (nI 0)), (3, .int (cI (allB (caS M p1 o1) 0))), (2, .int (fwR o1)), (1, .int (nI p1)), (0, .ref g)] ⟨rfl, rfl, congrArg (fun z => some (Value.int (fwR z))) (by rw [← ho1, caO, hks]), rfl, rfl, trivial⟩ ?_
              exact Lp47 101 0 (by omega) (by omega)
            · have h17 : k1 < M.2.2.1 14 := Nat.lt_of_not_le (fun z => h17 ((nI_leI (show M.2.2.1 14 < 2 ^ 31 by omega) (by omega)).mpr z))
              refine xv_aload_n hC dX7_compareAll_20 rfl rfl ?_
              refine tg_X7_15 hC fl_X7_34 dX7_compareAll_21 ?_
              refine xv_iload_n hC dX7_compareAll_24 rfl rfl ?_
              refine al_m_parts hC dX7_compareAll_25 rfl (by first | assumption | omega) ?_
              refine xv_iload_n hC dX7_compareAll_26 rfl rfl ?_
              refine xv_icmp_ne (tgt := 34) hC dX7_compareAll_27 (by decide) (fun h27 => ?_) (fun h27 => ?_)
              · have h27 : ¬ M.2.2.2.2.1 15 k1 = nI p1 := h27
                refine xv_iload_n hC dX7_compareAll_34 rfl rfl ?_
                refine xv_istore_n hC dX7_compareAll_35 rfl (by decide) ?_
                refine xv_iinc hC dX7_compareAll_36 rfl (xinc _) (by decide) ?_
                refine xv_goto (tgt := 12) hC dX7_compareAll_39 (by decide) ?_
                refine xV.to [(3, .int (nI (k1 + 1))), (2, .int (fwR (mLs (M.2.2.2.2.1 15) (nI p1) (k1 + 1)))), (1, .int (nI p1)), (0, .ref g)] ⟨rfl, congrArg (fun z => some (Value.int z)) (by first | (rw [mLs, if_pos h27]; rfl) | rw [mLs, if_neg h27]), rfl, rfl, trivial⟩ ?_
                exact ih12 (k1 + 1) (by omega) (by omega)
              · have h27 : M.2.2.2.2.1 15 k1 = nI p1 := h27
                refine xv_iload_n hC dX7_compareAll_30 rfl rfl ?_
                refine xv_goto (tgt := 35) hC dX7_compareAll_31 (by decide) ?_
                refine xv_istore_n hC dX7_compareAll_35 rfl (by decide) ?_
                refine xv_iinc hC dX7_compareAll_36 rfl (xinc _) (by decide) ?_
                refine xv_goto (tgt := 12) hC dX7_compareAll_39 (by decide) ?_
                refine xV.to [(3, .int (nI (k1 + 1))), (2, .int (fwR (mLs (M.2.2.2.2.1 15) (nI p1) (k1 + 1)))), (1, .int (nI p1)), (0, .ref g)] ⟨rfl, congrArg (fun z => some (Value.int z)) (by first | (rw [mLs, if_pos h27]; rfl) | rw [mLs, if_neg h27]), rfl, rfl, trivial⟩ ?_
                exact ih12 (k1 + 1) (by omega) (by omega)
        refine xV.to [(3, .int (nI 0)), (2, .int (fwR (mLs (M.2.2.2.2.1 15) (nI p1) 0))), (1, .int (nI p1)), (0, .ref g)] ⟨rfl, rfl, rfl, rfl, trivial⟩ ?_
        exact Lp12 (M.2.2.1 14 + 1) 0 (by omega) (by omega)
  refine xv_world (show _ = wM G g (mZ M 4 (caZ M 0)) w0 by rw [caZ_0, mZ_id]) ?_
  exact Lp2 13 0 (by omega) (by omega)
