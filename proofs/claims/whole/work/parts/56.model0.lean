def cMod (G : xD) (g : Nat) (w : xw) : xw := xup (xup (xup (xup (xup (xup (xup (xup (xup (xup (xup (xup (xup (xup (xup (xup (xup (w) (g + 1) (.inl (G.2 2, zI 1200))) (g + 2) (.inl (G.2 1, zL 1200))) (g + 3) (.inl (G.2 2, zI 144))) (g + 4) (.inl (G.2 2, zI 12))) (g + 5) (.inl (G.2 0, zI 8000))) (g + 6) (.inl (G.2 0, zI 17000))) (g + 7) (.inl (G.2 0, zI 255))) (g + 8) (.inl (G.2 0, zI 255))) (g + 9) (.inl (G.2 0, zI 255))) (g + 10) (.inl (G.2 2, zI 255))) (g + 11) (.inl (G.2 0, zI 255))) (g + 12) (.inl (G.2 2, zI 1200))) (g + 13) (.inl (G.2 1, zL 1200))) (g + 14) (.inl (G.2 2, zI 12))) (g + 15) (.inl (G.2 2, zI 12))) (g + 16) (.inl (G.2 0, zI 12))) g (.inr (9, [.int (nI 0), .ref (g + 1), .ref (g + 2), .ref (g + 3), .ref (g + 4), .int (nI 1), .int (nI 0), .int (cI false), .int (cI false), .int (nI 0), .ref (g + 5), .int (nI 0), .ref (g + 6), .int (nI 0), .int (nI 0), .ref (g + 7), .ref (g + 8), .ref (g + 9), .ref (g + 10), .ref (g + 11), .ref (g + 12), .ref (g + 13), .int (nI 0), .int (nI 0), .long 0, .ref (g + 14), .ref (g + 15), .ref (g + 16)]))
set_option maxHeartbeats 1000000 in
set_option maxRecDepth 100000 in
theorem ei_Model (l : Launch) (G : xD) (g : Nat) (w : xw) : xM l G yX7_init cX7_init 1 none 1 16 31267 [.ref g] (g + 1) (xup w g (.inr (9, [.int 0, .null, .null, .null, .null, .int 0, .int 0, .int 0, .int 0, .int 0, .null, .int 0, .null, .int 0, .int 0, .null, .null, .null, .null, .null, .null, .null, .int 0, .int 0, .long 0, .null, .null, .null]))) none (g + 17) (cMod G g w) := by
  refine xM_of (by decide) (Nat.le_of_ble_eq_true rfl) ?_
  intro A p e s m args below meth c hC hr hname
  have hC : xC p s m args meth c cX7_init 1 RX7 G A := hC
  have hr : meth.sig.returnType = none := hr
  have hname : meth.name = "<init>" := hname
  show xV p l e _ s m args below meth c G A 1 _ (g + 1) _ 0 0 0 [(0, .ref g)] []
  refine xv_aload_n hC dX7_init_0 rfl rfl ?_
  refine xv_objInit hC dX7_init_1 ml_X7_1 im_objectInit co_objectInit (Nat.le_of_ble_eq_true rfl) (Nat.le_of_ble_eq_true rfl) ?_
  refine xv_aload_n hC dX7_init_4 rfl rfl ?_
  refine xv_sipush (v := nI 1200) hC dX7_init_5 (by decide) ?_
  refine co_newa hC 2 rfl rfl (fun C h => by cases h) dX7_init_8 ac_boolean 1200 (zI 1200) (fun _ => rfl) (by decide) (by decide) (by decide) (Nat.le_of_ble_eq_true rfl) (Nat.le_of_ble_eq_true rfl) (by omega) ?_
  refine co_putF hC fX_X7 1 (by decide) fl_X7_7 dX7_init_10 rfl hname rfl rfl rfl (by simp) ?_
  refine xv_aload_n hC dX7_init_13 rfl rfl ?_
  refine xv_sipush (v := nI 1200) hC dX7_init_14 (by decide) ?_
  refine co_newa hC 1 rfl rfl (fun C h => by cases h) dX7_init_17 ac_long 1200 (zL 1200) (fun _ => rfl) (by decide) (by decide) (by decide) (Nat.le_of_ble_eq_true rfl) (Nat.le_of_ble_eq_true rfl) (by omega) ?_
  refine co_putF hC fX_X7 2 (by decide) fl_X7_13 dX7_init_19 rfl hname rfl rfl rfl (by simp) ?_
  refine xv_aload_n hC dX7_init_22 rfl rfl ?_
  refine xv_sipush (v := nI 144) hC dX7_init_23 (by decide) ?_
  refine co_newa hC 2 rfl rfl (fun C h => by cases h) dX7_init_26 ac_boolean 144 (zI 144) (fun _ => rfl) (by decide) (by decide) (by decide) (Nat.le_of_ble_eq_true rfl) (Nat.le_of_ble_eq_true rfl) (by omega) ?_
  refine co_putF hC fX_X7 3 (by decide) fl_X7_17 dX7_init_28 rfl hname rfl rfl rfl (by simp) ?_
  refine xv_aload_n hC dX7_init_31 rfl rfl ?_
  refine xv_bipush (v := nI 12) hC dX7_init_32 (by decide) ?_
  refine co_newa hC 2 rfl rfl (fun C h => by cases h) dX7_init_34 ac_boolean 12 (zI 12) (fun _ => rfl) (by decide) (by decide) (by decide) (Nat.le_of_ble_eq_true rfl) (Nat.le_of_ble_eq_true rfl) (by omega) ?_
  refine co_putF hC fX_X7 4 (by decide) fl_X7_20 dX7_init_36 rfl hname rfl rfl rfl (by simp) ?_
  refine xv_aload_n hC dX7_init_39 rfl rfl ?_
  refine xv_iconst (v := nI 1) hC dX7_init_40 (by decide) ?_
  refine co_put hC fX_X7 5 (by decide) fl_X7_23 dX7_init_41 rfl rfl rfl (by simp) ?_
  refine xv_aload_n hC dX7_init_44 rfl rfl ?_
  refine xv_sipush (v := nI 8000) hC dX7_init_45 (by decide) ?_
  refine co_newa hC 0 rfl rfl (fun C h => by cases h) dX7_init_48 ac_int 8000 (zI 8000) (fun _ => rfl) (by decide) (by decide) (by decide) (Nat.le_of_ble_eq_true rfl) (Nat.le_of_ble_eq_true rfl) (by omega) ?_
  refine co_putF hC fX_X7 10 (by decide) fl_X7_27 dX7_init_50 rfl hname rfl rfl rfl (by simp) ?_
  refine xv_aload_n hC dX7_init_53 rfl rfl ?_
  refine xv_sipush (v := nI 17000) hC dX7_init_54 (by decide) ?_
  refine co_newa hC 0 rfl rfl (fun C h => by cases h) dX7_init_57 ac_int 17000 (zI 17000) (fun _ => rfl) (by decide) (by decide) (by decide) (Nat.le_of_ble_eq_true rfl) (Nat.le_of_ble_eq_true rfl) (by omega) ?_
  refine co_putF hC fX_X7 12 (by decide) fl_X7_31 dX7_init_59 rfl hname rfl rfl rfl (by simp) ?_
  refine xv_aload_n hC dX7_init_62 rfl rfl ?_
  refine xv_sipush (v := nI 255) hC dX7_init_63 (by decide) ?_
  refine co_newa hC 0 rfl rfl (fun C h => by cases h) dX7_init_66 ac_int 255 (zI 255) (fun _ => rfl) (by decide) (by decide) (by decide) (Nat.le_of_ble_eq_true rfl) (Nat.le_of_ble_eq_true rfl) (by omega) ?_
  refine co_putF hC fX_X7 15 (by decide) fl_X7_34 dX7_init_68 rfl hname rfl rfl rfl (by simp) ?_
  refine xv_aload_n hC dX7_init_71 rfl rfl ?_
  refine xv_sipush (v := nI 255) hC dX7_init_72 (by decide) ?_
  refine co_newa hC 0 rfl rfl (fun C h => by cases h) dX7_init_75 ac_int 255 (zI 255) (fun _ => rfl) (by decide) (by decide) (by decide) (Nat.le_of_ble_eq_true rfl) (Nat.le_of_ble_eq_true rfl) (by omega) ?_
  refine co_putF hC fX_X7 16 (by decide) fl_X7_37 dX7_init_77 rfl hname rfl rfl rfl (by simp) ?_
  refine xv_aload_n hC dX7_init_80 rfl rfl ?_
  refine xv_sipush (v := nI 255) hC dX7_init_81 (by decide) ?_
  refine co_newa hC 0 rfl rfl (fun C h => by cases h) dX7_init_84 ac_int 255 (zI 255) (fun _ => rfl) (by decide) (by decide) (by decide) (Nat.le_of_ble_eq_true rfl) (Nat.le_of_ble_eq_true rfl) (by omega) ?_
  refine co_putF hC fX_X7 17 (by decide) fl_X7_40 dX7_init_86 rfl hname rfl rfl rfl (by simp) ?_
  refine xv_aload_n hC dX7_init_89 rfl rfl ?_
  refine xv_sipush (v := nI 255) hC dX7_init_90 (by decide) ?_
  refine co_newa hC 2 rfl rfl (fun C h => by cases h) dX7_init_93 ac_boolean 255 (zI 255) (fun _ => rfl) (by decide) (by decide) (by decide) (Nat.le_of_ble_eq_true rfl) (Nat.le_of_ble_eq_true rfl) (by omega) ?_
  refine co_putF hC fX_X7 18 (by decide) fl_X7_43 dX7_init_95 rfl hname rfl rfl rfl (by simp) ?_
  refine xv_aload_n hC dX7_init_98 rfl rfl ?_
  refine xv_sipush (v := nI 255) hC dX7_init_99 (by decide) ?_
  refine co_newa hC 0 rfl rfl (fun C h => by cases h) dX7_init_102 ac_int 255 (zI 255) (fun _ => rfl) (by decide) (by decide) (by decide) (Nat.le_of_ble_eq_true rfl) (Nat.le_of_ble_eq_true rfl) (by omega) ?_
  refine co_putF hC fX_X7 19 (by decide) fl_X7_46 dX7_init_104 rfl hname rfl rfl rfl (by simp) ?_
  refine xv_aload_n hC dX7_init_107 rfl rfl ?_
  refine xv_sipush (v := nI 1200) hC dX7_init_108 (by decide) ?_
  refine co_newa hC 2 rfl rfl (fun C h => by cases h) dX7_init_111 ac_boolean 1200 (zI 1200) (fun _ => rfl) (by decide) (by decide) (by decide) (Nat.le_of_ble_eq_true rfl) (Nat.le_of_ble_eq_true rfl) (by omega) ?_
  refine co_putF hC fX_X7 20 (by decide) fl_X7_49 dX7_init_113 rfl hname rfl rfl rfl (by simp) ?_
  refine xv_aload_n hC dX7_init_116 rfl rfl ?_
  refine xv_sipush (v := nI 1200) hC dX7_init_117 (by decide) ?_
  refine co_newa hC 1 rfl rfl (fun C h => by cases h) dX7_init_120 ac_long 1200 (zL 1200) (fun _ => rfl) (by decide) (by decide) (by decide) (Nat.le_of_ble_eq_true rfl) (Nat.le_of_ble_eq_true rfl) (by omega) ?_
  refine co_putF hC fX_X7 21 (by decide) fl_X7_52 dX7_init_122 rfl hname rfl rfl rfl (by simp) ?_
  refine xv_aload_n hC dX7_init_125 rfl rfl ?_
  refine xv_bipush (v := nI 12) hC dX7_init_126 (by decide) ?_
  refine co_newa hC 2 rfl rfl (fun C h => by cases h) dX7_init_128 ac_boolean 12 (zI 12) (fun _ => rfl) (by decide) (by decide) (by decide) (Nat.le_of_ble_eq_true rfl) (Nat.le_of_ble_eq_true rfl) (by omega) ?_
  refine co_putF hC fX_X7 25 (by decide) fl_X7_55 dX7_init_130 rfl hname rfl rfl rfl (by simp) ?_
  refine xv_aload_n hC dX7_init_133 rfl rfl ?_
  refine xv_bipush (v := nI 12) hC dX7_init_134 (by decide) ?_
  refine co_newa hC 2 rfl rfl (fun C h => by cases h) dX7_init_136 ac_boolean 12 (zI 12) (fun _ => rfl) (by decide) (by decide) (by decide) (Nat.le_of_ble_eq_true rfl) (Nat.le_of_ble_eq_true rfl) (by omega) ?_
  refine co_putF hC fX_X7 26 (by decide) fl_X7_58 dX7_init_138 rfl hname rfl rfl rfl (by simp) ?_
  refine xv_aload_n hC dX7_init_141 rfl rfl ?_
  refine xv_bipush (v := nI 12) hC dX7_init_142 (by decide) ?_
  refine co_newa hC 0 rfl rfl (fun C h => by cases h) dX7_init_144 ac_int 12 (zI 12) (fun _ => rfl) (by decide) (by decide) (by decide) (Nat.le_of_ble_eq_true rfl) (Nat.le_of_ble_eq_true rfl) (by omega) ?_
  refine co_putF hC fX_X7 27 (by decide) fl_X7_61 dX7_init_146 rfl hname rfl rfl rfl (by simp) ?_
  exact xv_return hC hr dX7_init_149 rfl rfl rfl
def sM : mT := (fun k => if k = 5 then nI 1 else nI 0, fun _ => false, fun _ => 0, fun _ _ => false, fun _ _ => nI 0, fun _ _ => 0, 0)
theorem cMod_eq (G : xD) (g : Nat) (w : xw) : cMod G g w = wM G g sM w := by
  funext q
  by_cases h0 : q = g
  · rw [h0, ml_w_obj]
    unfold cMod
    rw [xup_self]
    rfl
  by_cases h1 : q = g + 1
  · rw [h1, ml_w_has]
    unfold cMod
    rw [xup_ne (by omega), xup_ne (by omega), xup_ne (by omega), xup_ne (by omega), xup_ne (by omega), xup_ne (by omega), xup_ne (by omega), xup_ne (by omega), xup_ne (by omega), xup_ne (by omega), xup_ne (by omega), xup_ne (by omega), xup_ne (by omega), xup_ne (by omega), xup_ne (by omega), xup_ne (by omega), xup_self]
    rfl
  by_cases h2 : q = g + 2
  · rw [h2, ml_w_values]
    unfold cMod
    rw [xup_ne (by omega), xup_ne (by omega), xup_ne (by omega), xup_ne (by omega), xup_ne (by omega), xup_ne (by omega), xup_ne (by omega), xup_ne (by omega), xup_ne (by omega), xup_ne (by omega), xup_ne (by omega), xup_ne (by omega), xup_ne (by omega), xup_ne (by omega), xup_ne (by omega), xup_self]
    rfl
  by_cases h3 : q = g + 3
  · rw [h3, ml_w_needed]
    unfold cMod
    rw [xup_ne (by omega), xup_ne (by omega), xup_ne (by omega), xup_ne (by omega), xup_ne (by omega), xup_ne (by omega), xup_ne (by omega), xup_ne (by omega), xup_ne (by omega), xup_ne (by omega), xup_ne (by omega), xup_ne (by omega), xup_ne (by omega), xup_ne (by omega), xup_self]
    rfl
  by_cases h4 : q = g + 4
  · rw [h4, ml_w_changed]
    unfold cMod
    rw [xup_ne (by omega), xup_ne (by omega), xup_ne (by omega), xup_ne (by omega), xup_ne (by omega), xup_ne (by omega), xup_ne (by omega), xup_ne (by omega), xup_ne (by omega), xup_ne (by omega), xup_ne (by omega), xup_ne (by omega), xup_ne (by omega), xup_self]
    rfl
  by_cases h5 : q = g + 5
  · rw [h5, ml_w_bytes]
    unfold cMod
    rw [xup_ne (by omega), xup_ne (by omega), xup_ne (by omega), xup_ne (by omega), xup_ne (by omega), xup_ne (by omega), xup_ne (by omega), xup_ne (by omega), xup_ne (by omega), xup_ne (by omega), xup_ne (by omega), xup_ne (by omega), xup_self]
    rfl
  by_cases h6 : q = g + 6
  · rw [h6, ml_w_draft]
    unfold cMod
    rw [xup_ne (by omega), xup_ne (by omega), xup_ne (by omega), xup_ne (by omega), xup_ne (by omega), xup_ne (by omega), xup_ne (by omega), xup_ne (by omega), xup_ne (by omega), xup_ne (by omega), xup_ne (by omega), xup_self]
    rfl
  by_cases h7 : q = g + 7
  · rw [h7, ml_w_parts]
    unfold cMod
    rw [xup_ne (by omega), xup_ne (by omega), xup_ne (by omega), xup_ne (by omega), xup_ne (by omega), xup_ne (by omega), xup_ne (by omega), xup_ne (by omega), xup_ne (by omega), xup_ne (by omega), xup_self]
    rfl
  by_cases h8 : q = g + 8
  · rw [h8, ml_w_reasons]
    unfold cMod
    rw [xup_ne (by omega), xup_ne (by omega), xup_ne (by omega), xup_ne (by omega), xup_ne (by omega), xup_ne (by omega), xup_ne (by omega), xup_ne (by omega), xup_ne (by omega), xup_self]
    rfl
  by_cases h9 : q = g + 9
  · rw [h9, ml_w_conflicts]
    unfold cMod
    rw [xup_ne (by omega), xup_ne (by omega), xup_ne (by omega), xup_ne (by omega), xup_ne (by omega), xup_ne (by omega), xup_ne (by omega), xup_ne (by omega), xup_self]
    rfl
  by_cases h10 : q = g + 10
  · rw [h10, ml_w_own]
    unfold cMod
    rw [xup_ne (by omega), xup_ne (by omega), xup_ne (by omega), xup_ne (by omega), xup_ne (by omega), xup_ne (by omega), xup_ne (by omega), xup_self]
    rfl
  by_cases h11 : q = g + 11
  · rw [h11, ml_w_rowsOf]
    unfold cMod
    rw [xup_ne (by omega), xup_ne (by omega), xup_ne (by omega), xup_ne (by omega), xup_ne (by omega), xup_ne (by omega), xup_self]
    rfl
  by_cases h12 : q = g + 12
  · rw [h12, ml_w_rowHas]
    unfold cMod
    rw [xup_ne (by omega), xup_ne (by omega), xup_ne (by omega), xup_ne (by omega), xup_ne (by omega), xup_self]
    rfl
  by_cases h13 : q = g + 13
  · rw [h13, ml_w_rowValues]
    unfold cMod
    rw [xup_ne (by omega), xup_ne (by omega), xup_ne (by omega), xup_ne (by omega), xup_self]
    rfl
  by_cases h14 : q = g + 14
  · rw [h14, ml_w_reached]
    unfold cMod
    rw [xup_ne (by omega), xup_ne (by omega), xup_ne (by omega), xup_self]
    rfl
  by_cases h15 : q = g + 15
  · rw [h15, ml_w_wanted]
    unfold cMod
    rw [xup_ne (by omega), xup_ne (by omega), xup_self]
    rfl
  by_cases h16 : q = g + 16
  · rw [h16, ml_w_written]
    unfold cMod
    rw [xup_ne (by omega), xup_self]
    rfl
  · unfold cMod wM
    rw [xup_ne (by omega), xup_ne (by omega), xup_ne (by omega), xup_ne (by omega), xup_ne (by omega), xup_ne (by omega), xup_ne (by omega), xup_ne (by omega), xup_ne (by omega), xup_ne (by omega), xup_ne (by omega), xup_ne (by omega), xup_ne (by omega), xup_ne (by omega), xup_ne (by omega), xup_ne (by omega), xup_ne (by omega), if_neg h0, if_neg h1, if_neg h2, if_neg h3, if_neg h4, if_neg h5, if_neg h6, if_neg h7, if_neg h8, if_neg h9, if_neg h10, if_neg h11, if_neg h12, if_neg h13, if_neg h14, if_neg h15, if_neg h16]
theorem wM_loc (G : xD) (g : Nat) (M : mT) : cLoc (wM G g M) g (g + 17) := by
  refine ⟨fun w q h => ?_, fun w w' q h1 h2 => ?_⟩
  · unfold wM
    rw [if_neg (by omega), if_neg (by omega), if_neg (by omega), if_neg (by omega), if_neg (by omega), if_neg (by omega), if_neg (by omega), if_neg (by omega), if_neg (by omega), if_neg (by omega), if_neg (by omega), if_neg (by omega), if_neg (by omega), if_neg (by omega), if_neg (by omega), if_neg (by omega), if_neg (by omega)]
  · have hq : q = g ∨ q = g + 1 ∨ q = g + 2 ∨ q = g + 3 ∨ q = g + 4 ∨ q = g + 5 ∨ q = g + 6 ∨ q = g + 7 ∨ q = g + 8 ∨ q = g + 9 ∨ q = g + 10 ∨ q = g + 11 ∨ q = g + 12 ∨ q = g + 13 ∨ q = g + 14 ∨ q = g + 15 ∨ q = g + 16 := by omega
    rcases hq with hq | hq | hq | hq | hq | hq | hq | hq | hq | hq | hq | hq | hq | hq | hq | hq | hq
    · rw [hq, ml_w_obj, ml_w_obj]
    · rw [hq, ml_w_has, ml_w_has]
    · rw [hq, ml_w_values, ml_w_values]
    · rw [hq, ml_w_needed, ml_w_needed]
    · rw [hq, ml_w_changed, ml_w_changed]
    · rw [hq, ml_w_bytes, ml_w_bytes]
    · rw [hq, ml_w_draft, ml_w_draft]
    · rw [hq, ml_w_parts, ml_w_parts]
    · rw [hq, ml_w_reasons, ml_w_reasons]
    · rw [hq, ml_w_conflicts, ml_w_conflicts]
    · rw [hq, ml_w_own, ml_w_own]
    · rw [hq, ml_w_rowsOf, ml_w_rowsOf]
    · rw [hq, ml_w_rowHas, ml_w_rowHas]
    · rw [hq, ml_w_rowValues, ml_w_rowValues]
    · rw [hq, ml_w_reached, ml_w_reached]
    · rw [hq, ml_w_wanted, ml_w_wanted]
    · rw [hq, ml_w_written, ml_w_written]
