set_option maxHeartbeats 1000000 in
set_option maxRecDepth 100000 in
theorem ei_Entries (l : Launch) (G : xD) (b : Nat) (w : xw) : xM l G yX0_init cX0_init 1 none 1 2 200 [.ref b] (b + 1) (xup w b (.inr (2, [.null, .null, .int 0]))) none (b + 3) (cEnt G b w) := by
  refine xM_of (by decide) (Nat.le_of_ble_eq_true rfl) ?_
  intro A p e s m args below meth c hC hr hname
  have hC : xC p s m args meth c cX0_init 1 RX0 G A := hC
  have hr : meth.sig.returnType = none := hr
  have hname : meth.name = "<init>" := hname
  show xV p l e _ s m args below meth c G A 1 _ (b + 1) _ 0 0 0 [(0, .ref b)] []
  refine xv_aload_n hC dX0_init_0 rfl rfl ?_
  refine xv_objInit hC dX0_init_1 ml_X0_3 im_objectInit co_objectInit (Nat.le_of_ble_eq_true rfl) (Nat.le_of_ble_eq_true rfl) ?_
  refine xv_aload_n hC dX0_init_4 rfl rfl ?_
  refine xv_bipush (v := nI 100) hC dX0_init_5 (by decide) ?_
  refine co_newa hC 2 rfl rfl (fun C h => by cases h) dX0_init_7 ac_boolean 100 (zI 100) (fun _ => rfl) (by decide) (by decide) (by decide) (Nat.le_of_ble_eq_true rfl) (Nat.le_of_ble_eq_true rfl) (by omega) ?_
  refine co_putF hC fX_X0 0 (by decide) fl_X0_9 dX0_init_9 rfl hname rfl rfl rfl (by simp) ?_
  refine xv_aload_n hC dX0_init_12 rfl rfl ?_
  refine xv_bipush (v := nI 100) hC dX0_init_13 (by decide) ?_
  refine co_newa hC 1 rfl rfl (fun C h => by cases h) dX0_init_15 ac_long 100 (zL 100) (fun _ => rfl) (by decide) (by decide) (by decide) (Nat.le_of_ble_eq_true rfl) (Nat.le_of_ble_eq_true rfl) (by omega) ?_
  refine co_putF hC fX_X0 1 (by decide) fl_X0_15 dX0_init_17 rfl hname rfl rfl rfl (by simp) ?_
  refine xv_aload_n hC dX0_init_20 rfl rfl ?_
  refine xv_iconst (v := nI 0) hC dX0_init_21 (by decide) ?_
  refine co_put hC fX_X0 2 (by decide) fl_X0_19 dX0_init_22 rfl rfl rfl (by simp) ?_
  exact xv_return hC hr dX0_init_25 rfl rfl rfl
set_option maxHeartbeats 1000000 in
set_option maxRecDepth 100000 in
theorem ei_Octets8000 (l : Launch) (G : xD) (b : Nat) (w : xw) : xM l G yX2_init cX2_init 2 none 2 1 8000 [.ref b, .int (nI 8000)] (b + 1) (xup w b (.inr (4, [.null, .int 0]))) none (b + 2) (cOct G b 8000 w) := by
  refine xM_of (by decide) (Nat.le_of_ble_eq_true rfl) ?_
  intro A p e s m args below meth c hC hr hname
  have hC : xC p s m args meth c cX2_init 2 RX2 G A := hC
  have hr : meth.sig.returnType = none := hr
  have hname : meth.name = "<init>" := hname
  show xV p l e _ s m args below meth c G A 2 _ (b + 1) _ 0 0 0 [(0, .ref b), (1, .int (nI 8000))] []
  refine xv_aload_n hC dX2_init_0 rfl rfl ?_
  refine xv_objInit hC dX2_init_1 ml_X2_3 im_objectInit co_objectInit (Nat.le_of_ble_eq_true rfl) (Nat.le_of_ble_eq_true rfl) ?_
  refine xv_aload_n hC dX2_init_4 rfl rfl ?_
  refine xv_iconst (v := nI 0) hC dX2_init_5 (by decide) ?_
  refine co_put hC fX_X2 1 (by decide) fl_X2_9 dX2_init_6 rfl rfl rfl (by simp) ?_
  refine xv_aload_n hC dX2_init_9 rfl rfl ?_
  refine xv_iconst (v := nI 0) hC dX2_init_10 (by decide) ?_
  refine xv_iload_n hC dX2_init_11 rfl rfl ?_
  refine xv_max0 hC dX2_init_12 ml_X2_15 sm_yJ9_max_7cf53 in_J9 co_yJ9_max_7cf53 (Nat.le_of_ble_eq_true rfl) (Nat.le_of_ble_eq_true rfl) (Nat.le_of_ble_eq_true rfl) (Nat.le_of_ble_eq_true rfl) (by decide) ?_
  refine co_newa hC 3 rfl rfl (fun C h => by cases h) dX2_init_15 ac_byte 8000 (zI 8000) (fun _ => rfl) (by decide) (by decide) (by decide) (Nat.le_of_ble_eq_true rfl) (Nat.le_of_ble_eq_true rfl) (by omega) ?_
  refine co_putF hC fX_X2 0 (by decide) fl_X2_21 dX2_init_17 rfl hname rfl rfl rfl (by simp) ?_
  exact xv_return hC hr dX2_init_20 rfl rfl rfl
set_option maxHeartbeats 1000000 in
set_option maxRecDepth 100000 in
theorem ei_Octets0 (l : Launch) (G : xD) (b : Nat) (w : xw) : xM l G yX2_init cX2_init 2 none 2 1 0 [.ref b, .int (nI 0)] (b + 1) (xup w b (.inr (4, [.null, .int 0]))) none (b + 2) (cOct G b 0 w) := by
  refine xM_of (by decide) (Nat.le_of_ble_eq_true rfl) ?_
  intro A p e s m args below meth c hC hr hname
  have hC : xC p s m args meth c cX2_init 2 RX2 G A := hC
  have hr : meth.sig.returnType = none := hr
  have hname : meth.name = "<init>" := hname
  show xV p l e _ s m args below meth c G A 2 _ (b + 1) _ 0 0 0 [(0, .ref b), (1, .int (nI 0))] []
  refine xv_aload_n hC dX2_init_0 rfl rfl ?_
  refine xv_objInit hC dX2_init_1 ml_X2_3 im_objectInit co_objectInit (Nat.le_of_ble_eq_true rfl) (Nat.le_of_ble_eq_true rfl) ?_
  refine xv_aload_n hC dX2_init_4 rfl rfl ?_
  refine xv_iconst (v := nI 0) hC dX2_init_5 (by decide) ?_
  refine co_put hC fX_X2 1 (by decide) fl_X2_9 dX2_init_6 rfl rfl rfl (by simp) ?_
  refine xv_aload_n hC dX2_init_9 rfl rfl ?_
  refine xv_iconst (v := nI 0) hC dX2_init_10 (by decide) ?_
  refine xv_iload_n hC dX2_init_11 rfl rfl ?_
  refine xv_max0 hC dX2_init_12 ml_X2_15 sm_yJ9_max_7cf53 in_J9 co_yJ9_max_7cf53 (Nat.le_of_ble_eq_true rfl) (Nat.le_of_ble_eq_true rfl) (Nat.le_of_ble_eq_true rfl) (Nat.le_of_ble_eq_true rfl) (by decide) ?_
  refine co_newa hC 3 rfl rfl (fun C h => by cases h) dX2_init_15 ac_byte 0 (zI 0) (fun _ => rfl) (by decide) (by decide) (by decide) (Nat.le_of_ble_eq_true rfl) (Nat.le_of_ble_eq_true rfl) (by omega) ?_
  refine co_putF hC fX_X2 0 (by decide) fl_X2_21 dX2_init_17 rfl hname rfl rfl rfl (by simp) ?_
  exact xv_return hC hr dX2_init_20 rfl rfl rfl
set_option maxHeartbeats 1000000 in
set_option maxRecDepth 100000 in
theorem ei_Reader (l : Launch) (G : xD) (b : Nat) (w : xw) (q : Nat) : xM l G yX3_init cX3_init 2 none 1 0 0 [.ref b, .ref q] (b + 1) (xup w b (.inr (5, [.int 0, .int 0, .null]))) none (b + 1) (cRea b q w) := by
  refine xM_of (by decide) (Nat.le_of_ble_eq_true rfl) ?_
  intro A p e s m args below meth c hC hr hname
  have hC : xC p s m args meth c cX3_init 2 RX3 G A := hC
  have hr : meth.sig.returnType = none := hr
  have hname : meth.name = "<init>" := hname
  show xV p l e _ s m args below meth c G A 2 _ (b + 1) _ 0 0 0 [(0, .ref b), (1, .ref q)] []
  refine xv_aload_n hC dX3_init_0 rfl rfl ?_
  refine xv_objInit hC dX3_init_1 ml_X3_3 im_objectInit co_objectInit (Nat.le_of_ble_eq_true rfl) (Nat.le_of_ble_eq_true rfl) ?_
  refine xv_aload_n hC dX3_init_4 rfl rfl ?_
  refine xv_iconst (v := nI 0) hC dX3_init_5 (by decide) ?_
  refine co_put hC fX_X3 0 (by decide) fl_X3_9 dX3_init_6 rfl rfl rfl (by simp) ?_
  refine xv_aload_n hC dX3_init_9 rfl rfl ?_
  refine xv_iconst (v := nI 0) hC dX3_init_10 (by decide) ?_
  refine co_put hC fX_X3 1 (by decide) fl_X3_15 dX3_init_11 rfl rfl rfl (by simp) ?_
  refine xv_aload_n hC dX3_init_14 rfl rfl ?_
  refine xv_aload_n hC dX3_init_15 rfl rfl ?_
  refine co_putF hC fX_X3 2 (by decide) fl_X3_18 dX3_init_16 rfl hname rfl rfl rfl (by simp) ?_
  exact xv_return hC hr dX3_init_19 rfl rfl rfl
set_option maxHeartbeats 1000000 in
set_option maxRecDepth 100000 in
theorem ei_Writer (l : Launch) (G : xD) (b : Nat) (w : xw) (q : Nat) : xM l G yX5_init cX5_init 2 none 3 3 14 [.ref b, .ref q] (b + 1) (xup w b (.inr (7, [.null, .null, .null]))) none (b + 4) (cWri G b q w) := by
  refine xM_of (by decide) (Nat.le_of_ble_eq_true rfl) ?_
  intro A p e s m args below meth c hC hr hname
  have hC : xC p s m args meth c cX5_init 2 RX5 G A := hC
  have hr : meth.sig.returnType = none := hr
  have hname : meth.name = "<init>" := hname
  show xV p l e _ s m args below meth c G A 2 _ (b + 1) _ 0 0 0 [(0, .ref b), (1, .ref q)] []
  refine xv_aload_n hC dX5_init_0 rfl rfl ?_
  refine xv_objInit hC dX5_init_1 ml_X5_3 im_objectInit co_objectInit (Nat.le_of_ble_eq_true rfl) (Nat.le_of_ble_eq_true rfl) ?_
  refine xv_aload_n hC dX5_init_4 rfl rfl ?_
  refine xv_new hC fX_X2 dX5_init_5 cl_X5_9 it_X2 in_X2 (fs := [.null, .int 0]) (fun j hj => by match j, hj with | 0, _ => rfl | 1, _ => rfl) (Nat.le_of_ble_eq_true rfl) (Nat.le_of_ble_eq_true rfl) ?_
  refine xv_dup hC dX5_init_8 rfl ?_
  refine xv_iconst (v := nI 0) hC dX5_init_9 (by decide) ?_
  refine xv_callI hC Y_yX2_init im_yX2_init rfl ml_X5_11 dX5_init_10 (ei_Octets0 l G (b + 1) _) rfl rfl (Nat.le_of_ble_eq_true rfl) ⟨(Nat.le_of_ble_eq_true rfl), (Nat.le_of_ble_eq_true rfl)⟩ ⟨(Nat.le_of_ble_eq_true rfl), (Nat.le_of_ble_eq_true rfl)⟩ ?_
  refine xv_rn ?_
  refine co_putC hC fX_X5 1 (by decide) fl_X5_14 dX5_init_13 rfl hname rfl (cOct_loc G (b + 1) 0) (by omega) rfl rfl (by simp) ?_
  refine xv_aload_n hC dX5_init_16 rfl rfl ?_
  refine xv_bipush (v := nI 12) hC dX5_init_17 (by decide) ?_
  refine co_newa hC 0 rfl rfl (fun C h => by cases h) dX5_init_19 ac_int 12 (zI 12) (fun _ => rfl) (by decide) (by decide) (by decide) (Nat.le_of_ble_eq_true rfl) (Nat.le_of_ble_eq_true rfl) (by omega) ?_
  refine co_putF hC fX_X5 2 (by decide) fl_X5_20 dX5_init_21 rfl hname rfl rfl rfl (by simp) ?_
  refine xv_aload_n hC dX5_init_24 rfl rfl ?_
  refine xv_aload_n hC dX5_init_25 rfl rfl ?_
  refine co_putF hC fX_X5 0 (by decide) fl_X5_24 dX5_init_26 rfl hname rfl rfl rfl (by simp) ?_
  exact xv_return hC hr dX5_init_29 rfl rfl rfl
theorem cPar_0 (b : Nat) : cPar b 0 = (12, .inr (.inr (.inr (.inr (fun _ => none))))) := by
  unfold cPar
  congr 4
set_option maxHeartbeats 1000000 in
set_option maxRecDepth 100000 in
theorem ei_Setter (l : Launch) (G : xD) (b : Nat) (w : xw) : xM l G yX4_init cX4_init 2 none 2 38 2460 [.ref b] (b + 1) (xup w b (.inr (6, [.null, .null, .int 0, .int 0, .int 0, .int 0, .int 0, .int 0]))) none (b + 39) (cSet G b w) := by
  refine xM_of (by decide) (Nat.le_of_ble_eq_true rfl) ?_
  intro A p e s m args below meth c hC hr hname
  have hC : xC p s m args meth c cX4_init 2 RX4 G A := hC
  have hr : meth.sig.returnType = none := hr
  have hname : meth.name = "<init>" := hname
  show xV p l e _ s m args below meth c G A 2 _ (b + 1) _ 0 0 0 [(0, .ref b)] []
  have Lp : ∀ (n i sz cs ss : Nat), 12 < i + n → i ≤ 12 → sz = b + 3 + 3 * i → cs = 2 + 3 * i → ss = 24 + 203 * i → xV p l e (xr 2 38 2460) s m args below meth c G A 2 (MQ below (xQ G A none (b + 39) (cSet G b w)) args s 38 2460 A) sz (xup (xup (cEnts G (b + 3) i (xup w (b + 2) (.inl (G.2 0, zI 12)))) (b + 1) (.inl (G.2 4, cPar (b + 3) i))) b (.inr (6, [.ref (b + 1), .ref (b + 2), .int (nI 0), .int (nI 1), .int (nI 0), .int (cI false), .int (cI false), .int (nI 0)]))) cs ss 53 [(1, .int (nI i)), (0, .ref b)] [] := by
    intro n
    induction n with
    | zero =>
      intro i sz cs ss hn hi hz hcs hss
      omega
    | succ n ih =>
      intro i sz cs ss hn hi hz hcs hss
      refine xv_iload_n hC dX4_init_53 rfl rfl ?_
      refine xv_bipush (v := nI 12) hC dX4_init_54 (by decide) ?_
      refine xv_icmp_ge (tgt := 78) hC dX4_init_56 (by decide) (fun hx => ?_) (fun hx => ?_)
      · have hx : 12 ≤ i := (nI_leI (by omega) (by omega)).mp hx
        have e12 : i = 12 := by omega
        subst e12
        refine xV.wid (k := 38) (n := 2460) (by omega) (by omega) ?_
        exact xv_return hC hr dX4_init_78 rfl (by omega) rfl
      · have hx : i < 12 := Nat.lt_of_not_le (fun z => hx ((nI_leI (by omega) (by omega)).mpr z))
        refine xv_aload_n hC dX4_init_59 rfl rfl ?_
        refine co_get hC fX_X4 0 (by decide) fl_X4_11 dX4_init_60 (.ref (b + 1)) (xup_self _ _ _) rfl ?_
        refine xv_iload_n hC dX4_init_63 rfl rfl ?_
        refine xv_new hC fX_X0 dX4_init_64 cl_X4_9 it_X0 in_X0 (fs := [.null, .null, .int 0]) (fun j hj => by match j, hj with | 0, _ => rfl | 1, _ => rfl | 2, _ => rfl) (show cs + 1 ≤ 38 by omega) (show ss + 3 ≤ 2460 by omega) ?_
        refine xv_dup hC dX4_init_67 rfl ?_
        refine xv_callIN (host := "FormatFiles") hC Y_yX0_init im_yX0_init rfl (by decide) dX4_init_68 (ei_Entries l G sz _) rfl rfl (Nat.le_of_ble_eq_true rfl) ⟨(Nat.le_of_ble_eq_true rfl), (Nat.le_of_ble_eq_true rfl)⟩ ⟨show cs + 1 + 2 ≤ 38 by omega, show ss + 3 + 200 ≤ 2460 by omega⟩ ?_
        refine xv_rn ?_
        refine xv_aast hC dX4_init_71 (((cEnt_loc G sz).1 _ _ (by omega)).trans ((xup_ne (by omega)).trans (xup_self _ _ _))) (xup_self _ _ _) (vp_in_nI hx (by omega)) ?_
        refine xv_world (show _ = xup (xup (cEnts G (b + 3) (i + 1) (xup w (b + 2) (.inl (G.2 0, zI 12)))) (b + 1) (.inl (G.2 4, cPar (b + 3) (i + 1)))) b (.inr (6, [.ref (b + 1), .ref (b + 2), .int (nI 0), .int (nI 1), .int (nI 0), .int (cI false), .int (cI false), .int (nI 0)])) by rw [nI_clamp (by omega), cEnts_step G _ _ _ _ (by omega) (by omega) (by omega), hz, cPar_s _ _ hx]; rfl) ?_
        refine xv_iinc hC dX4_init_72 rfl (xinc _) (by decide) ?_
        refine xv_goto (tgt := 53) hC dX4_init_75 (by decide) ?_
        exact ih (i + 1) (sz + 3) (cs + 3) (ss + 203) (by omega) (by omega) (by omega) (by omega) (by omega)
  refine xv_aload_n hC dX4_init_0 rfl rfl ?_
  refine xv_objInit hC dX4_init_1 ml_X4_3 im_objectInit co_objectInit (Nat.le_of_ble_eq_true rfl) (Nat.le_of_ble_eq_true rfl) ?_
  refine xv_aload_n hC dX4_init_4 rfl rfl ?_
  refine xv_bipush (v := nI 12) hC dX4_init_5 (by decide) ?_
  refine co_newq hC dX4_init_7 cl_X4_9 12 (by decide) (by decide) (by decide) (Nat.le_of_ble_eq_true rfl) (Nat.le_of_ble_eq_true rfl) (by omega) ?_
  refine co_putF hC fX_X4 0 (by decide) fl_X4_11 dX4_init_10 rfl hname rfl rfl rfl (by simp) ?_
  refine xv_aload_n hC dX4_init_13 rfl rfl ?_
  refine xv_bipush (v := nI 12) hC dX4_init_14 (by decide) ?_
  refine co_newa hC 0 rfl rfl (fun C h => by cases h) dX4_init_16 ac_int 12 (zI 12) (fun _ => rfl) (by decide) (by decide) (by decide) (Nat.le_of_ble_eq_true rfl) (Nat.le_of_ble_eq_true rfl) (by omega) ?_
  refine co_putF hC fX_X4 1 (by decide) fl_X4_17 dX4_init_18 rfl hname rfl rfl rfl (by simp) ?_
  refine xv_aload_n hC dX4_init_21 rfl rfl ?_
  refine xv_iconst (v := nI 0) hC dX4_init_22 (by decide) ?_
  refine co_put hC fX_X4 2 (by decide) fl_X4_21 dX4_init_23 rfl rfl rfl (by simp) ?_
  refine xv_aload_n hC dX4_init_26 rfl rfl ?_
  refine xv_iconst (v := nI 1) hC dX4_init_27 (by decide) ?_
  refine co_put hC fX_X4 3 (by decide) fl_X4_25 dX4_init_28 rfl rfl rfl (by simp) ?_
  refine xv_aload_n hC dX4_init_31 rfl rfl ?_
  refine xv_iconst (v := nI 0) hC dX4_init_32 (by decide) ?_
  refine co_put hC fX_X4 4 (by decide) fl_X4_28 dX4_init_33 rfl rfl rfl (by simp) ?_
  refine xv_aload_n hC dX4_init_36 rfl rfl ?_
  refine xv_iconst (v := cI false) hC dX4_init_37 (by decide) ?_
  refine co_put hC fX_X4 5 (by decide) fl_X4_31 dX4_init_38 rfl rfl rfl (by simp) ?_
  refine xv_aload_n hC dX4_init_41 rfl rfl ?_
  refine xv_iconst (v := cI false) hC dX4_init_42 (by decide) ?_
  refine co_put hC fX_X4 6 (by decide) fl_X4_35 dX4_init_43 rfl rfl rfl (by simp) ?_
  refine xv_aload_n hC dX4_init_46 rfl rfl ?_
  refine xv_iconst (v := nI 0) hC dX4_init_47 (by decide) ?_
  refine co_put hC fX_X4 7 (by decide) fl_X4_38 dX4_init_48 rfl rfl rfl (by simp) ?_
  refine xv_iconst (v := nI 0) hC dX4_init_51 (by decide) ?_
  refine xv_istore_n hC dX4_init_52 rfl (by decide) ?_
  refine xv_world (show _ = xup (xup (cEnts G (b + 3) 0 (xup w (b + 2) (.inl (G.2 0, zI 12)))) (b + 1) (.inl (G.2 4, cPar (b + 3) 0))) b (.inr (6, [.ref (b + 1), .ref (b + 2), .int (nI 0), .int (nI 1), .int (nI 0), .int (cI false), .int (cI false), .int (nI 0)])) by rw [xup_com w (show b + 1 ≠ b + 1 + 1 by omega), cPar_0]; rfl) ?_
  exact Lp 13 0 _ _ _ (by omega) (by omega) (by omega) (by omega) (by omega)
set_option maxHeartbeats 1000000 in
set_option maxRecDepth 100000 in
theorem ei_Loader (l : Launch) (G : xD) (b : Nat) (w : xw) (q1 q2 : Nat) : xM l G yX1_init cX1_init 3 none 2 10 998 [.ref b, .ref q1, .ref q2] (b + 1) (xup w b (.inr (3, [.int 0, .null, .null, .null, .null, .null, .null, .null, .null, .null, .null, .int 0, .int 0]))) none (b + 11) (cLoa G b q1 q2 w) := by
  refine xM_of (by decide) (Nat.le_of_ble_eq_true rfl) ?_
  intro A p e s m args below meth c hC hr hname
  have hC : xC p s m args meth c cX1_init 3 RX1 G A := hC
  have hr : meth.sig.returnType = none := hr
  have hname : meth.name = "<init>" := hname
  show xV p l e _ s m args below meth c G A 3 _ (b + 1) _ 0 0 0 [(0, .ref b), (1, .ref q1), (2, .ref q2)] []
  refine xv_aload_n hC dX1_init_0 rfl rfl ?_
  refine xv_objInit hC dX1_init_1 ml_X1_3 im_objectInit co_objectInit (Nat.le_of_ble_eq_true rfl) (Nat.le_of_ble_eq_true rfl) ?_
  refine xv_aload_n hC dX1_init_4 rfl rfl ?_
  refine xv_iconst (v := nI 0) hC dX1_init_5 (by decide) ?_
  refine co_put hC fX_X1 0 (by decide) fl_X1_9 dX1_init_6 rfl rfl rfl (by simp) ?_
  refine xv_aload_n hC dX1_init_9 rfl rfl ?_
  refine xv_sipush (v := nI 255) hC dX1_init_10 (by decide) ?_
  refine co_newa hC 0 rfl rfl (fun C h => by cases h) dX1_init_13 ac_int 255 (zI 255) (fun _ => rfl) (by decide) (by decide) (by decide) (Nat.le_of_ble_eq_true rfl) (Nat.le_of_ble_eq_true rfl) (by omega) ?_
  refine co_putF hC fX_X1 1 (by decide) fl_X1_15 dX1_init_15 rfl hname rfl rfl rfl (by simp) ?_
  refine xv_aload_n hC dX1_init_18 rfl rfl ?_
  refine xv_sipush (v := nI 255) hC dX1_init_19 (by decide) ?_
  refine co_newa hC 0 rfl rfl (fun C h => by cases h) dX1_init_22 ac_int 255 (zI 255) (fun _ => rfl) (by decide) (by decide) (by decide) (Nat.le_of_ble_eq_true rfl) (Nat.le_of_ble_eq_true rfl) (by omega) ?_
  refine co_putF hC fX_X1 2 (by decide) fl_X1_19 dX1_init_24 rfl hname rfl rfl rfl (by simp) ?_
  refine xv_aload_n hC dX1_init_27 rfl rfl ?_
  refine xv_sipush (v := nI 255) hC dX1_init_28 (by decide) ?_
  refine co_newa hC 0 rfl rfl (fun C h => by cases h) dX1_init_31 ac_int 255 (zI 255) (fun _ => rfl) (by decide) (by decide) (by decide) (Nat.le_of_ble_eq_true rfl) (Nat.le_of_ble_eq_true rfl) (by omega) ?_
  refine co_putF hC fX_X1 3 (by decide) fl_X1_22 dX1_init_33 rfl hname rfl rfl rfl (by simp) ?_
  refine xv_aload_n hC dX1_init_36 rfl rfl ?_
  refine xv_new hC fX_X0 dX1_init_37 cl_X1_25 it_X0 in_X0 (fs := [.null, .null, .int 0]) (fun j hj => by match j, hj with | 0, _ => rfl | 1, _ => rfl | 2, _ => rfl) (Nat.le_of_ble_eq_true rfl) (Nat.le_of_ble_eq_true rfl) ?_
  refine xv_dup hC dX1_init_40 rfl ?_
  refine xv_callIN (host := "FormatFiles") hC Y_yX0_init im_yX0_init rfl (by decide) dX1_init_41 (ei_Entries l G (b + 4) _) rfl rfl (Nat.le_of_ble_eq_true rfl) ⟨(Nat.le_of_ble_eq_true rfl), (Nat.le_of_ble_eq_true rfl)⟩ ⟨(Nat.le_of_ble_eq_true rfl), (Nat.le_of_ble_eq_true rfl)⟩ ?_
  refine xv_rn ?_
  refine co_putC hC fX_X1 8 (by decide) fl_X1_28 dX1_init_44 rfl hname rfl (cEnt_loc G (b + 4)) (by omega) rfl rfl (by simp) ?_
  refine xv_aload_n hC dX1_init_47 rfl rfl ?_
  refine xv_bipush (v := nI 12) hC dX1_init_48 (by decide) ?_
  refine co_newa hC 0 rfl rfl (fun C h => by cases h) dX1_init_50 ac_int 12 (zI 12) (fun _ => rfl) (by decide) (by decide) (by decide) (Nat.le_of_ble_eq_true rfl) (Nat.le_of_ble_eq_true rfl) (by omega) ?_
  refine co_putF hC fX_X1 9 (by decide) fl_X1_32 dX1_init_52 rfl hname rfl rfl rfl (by simp) ?_
  refine xv_aload_n hC dX1_init_55 rfl rfl ?_
  refine xv_bipush (v := nI 12) hC dX1_init_56 (by decide) ?_
  refine co_newa hC 0 rfl rfl (fun C h => by cases h) dX1_init_58 ac_int 12 (zI 12) (fun _ => rfl) (by decide) (by decide) (by decide) (Nat.le_of_ble_eq_true rfl) (Nat.le_of_ble_eq_true rfl) (by omega) ?_
  refine co_putF hC fX_X1 10 (by decide) fl_X1_35 dX1_init_60 rfl hname rfl rfl rfl (by simp) ?_
  refine xv_aload_n hC dX1_init_63 rfl rfl ?_
  refine xv_iconst (v := nI 0) hC dX1_init_64 (by decide) ?_
  refine co_put hC fX_X1 11 (by decide) fl_X1_38 dX1_init_65 rfl rfl rfl (by simp) ?_
  refine xv_aload_n hC dX1_init_68 rfl rfl ?_
  refine xv_iconst (v := nI 0) hC dX1_init_69 (by decide) ?_
  refine co_put hC fX_X1 12 (by decide) fl_X1_41 dX1_init_70 rfl rfl rfl (by simp) ?_
  refine xv_aload_n hC dX1_init_73 rfl rfl ?_
  refine xv_aload_n hC dX1_init_74 rfl rfl ?_
  refine co_putF hC fX_X1 4 (by decide) fl_X1_44 dX1_init_75 rfl hname rfl rfl rfl (by simp) ?_
  refine xv_aload_n hC dX1_init_78 rfl rfl ?_
  refine xv_aload_n hC dX1_init_79 rfl rfl ?_
  refine co_putF hC fX_X1 5 (by decide) fl_X1_48 dX1_init_80 rfl hname rfl rfl rfl (by simp) ?_
  refine xv_aload_n hC dX1_init_83 rfl rfl ?_
  refine xv_new hC fX_X3 dX1_init_84 cl_X1_52 it_X3 in_X3 (fs := [.int 0, .int 0, .null]) (fun j hj => by match j, hj with | 0, _ => rfl | 1, _ => rfl | 2, _ => rfl) (Nat.le_of_ble_eq_true rfl) (Nat.le_of_ble_eq_true rfl) ?_
  refine xv_dup hC dX1_init_87 rfl ?_
  refine xv_aload_n hC dX1_init_88 rfl rfl ?_
  refine xv_callI hC Y_yX3_init im_yX3_init rfl ml_X1_54 dX1_init_89 (ei_Reader l G (b + 9) _ q2) rfl rfl (Nat.le_of_ble_eq_true rfl) ⟨(Nat.le_of_ble_eq_true rfl), (Nat.le_of_ble_eq_true rfl)⟩ ⟨(Nat.le_of_ble_eq_true rfl), (Nat.le_of_ble_eq_true rfl)⟩ ?_
  refine xv_rn ?_
  refine co_putC hC fX_X1 6 (by decide) fl_X1_57 dX1_init_92 rfl hname rfl (cRea_loc (b + 9) q2) (by omega) rfl rfl (by simp) ?_
  refine xv_aload_n hC dX1_init_95 rfl rfl ?_
  refine xv_new hC fX_X3 dX1_init_96 cl_X1_52 it_X3 in_X3 (fs := [.int 0, .int 0, .null]) (fun j hj => by match j, hj with | 0, _ => rfl | 1, _ => rfl | 2, _ => rfl) (Nat.le_of_ble_eq_true rfl) (Nat.le_of_ble_eq_true rfl) ?_
  refine xv_dup hC dX1_init_99 rfl ?_
  refine xv_aload_n hC dX1_init_100 rfl rfl ?_
  refine xv_callI hC Y_yX3_init im_yX3_init rfl ml_X1_54 dX1_init_101 (ei_Reader l G (b + 10) _ q2) rfl rfl (Nat.le_of_ble_eq_true rfl) ⟨(Nat.le_of_ble_eq_true rfl), (Nat.le_of_ble_eq_true rfl)⟩ ⟨(Nat.le_of_ble_eq_true rfl), (Nat.le_of_ble_eq_true rfl)⟩ ?_
  refine xv_rn ?_
  refine co_putC hC fX_X1 7 (by decide) fl_X1_61 dX1_init_104 rfl hname rfl (cRea_loc (b + 10) q2) (by omega) rfl rfl (by simp) ?_
  exact xv_return hC hr dX1_init_107 rfl rfl rfl
set_option maxHeartbeats 1000000 in
set_option maxRecDepth 100000 in
theorem ei_FF (l : Launch) (G : xD) (h : Nat) (w : xw) : xM l G yX6_init cX6_init 1 none 4 56 11498 [.ref h] (h + 1) (xup w h (.inr (8, [.null, .null, .null, .null]))) none (h + 57) (cFF G h w) := by
  refine xM_of (by decide) (Nat.le_of_ble_eq_true rfl) ?_
  intro A p e s m args below meth c hC hr hname
  have hC : xC p s m args meth c cX6_init 1 RX6 G A := hC
  have hr : meth.sig.returnType = none := hr
  have hname : meth.name = "<init>" := hname
  show xV p l e _ s m args below meth c G A 1 _ (h + 1) _ 0 0 0 [(0, .ref h)] []
  refine xv_aload_n hC dX6_init_0 rfl rfl ?_
  refine xv_objInit hC dX6_init_1 ml_X6_1 im_objectInit co_objectInit (Nat.le_of_ble_eq_true rfl) (Nat.le_of_ble_eq_true rfl) ?_
  refine xv_aload_n hC dX6_init_4 rfl rfl ?_
  refine xv_new hC fX_X4 dX6_init_5 cl_X6_7 it_X4 in_X4 (fs := [.null, .null, .int 0, .int 0, .int 0, .int 0, .int 0, .int 0]) (fun j hj => by match j, hj with | 0, _ => rfl | 1, _ => rfl | 2, _ => rfl | 3, _ => rfl | 4, _ => rfl | 5, _ => rfl | 6, _ => rfl | 7, _ => rfl) (Nat.le_of_ble_eq_true rfl) (Nat.le_of_ble_eq_true rfl) ?_
  refine xv_dup hC dX6_init_8 rfl ?_
  refine xv_callI hC Y_yX4_init im_yX4_init rfl ml_X6_9 dX6_init_9 (ei_Setter l G (h + 1) _) rfl rfl (Nat.le_of_ble_eq_true rfl) ⟨(Nat.le_of_ble_eq_true rfl), (Nat.le_of_ble_eq_true rfl)⟩ ⟨(Nat.le_of_ble_eq_true rfl), (Nat.le_of_ble_eq_true rfl)⟩ ?_
  refine xv_rn ?_
  refine co_putC hC fX_X6 0 (by decide) fl_X6_10 dX6_init_12 rfl hname rfl (cSet_loc G (h + 1)) (by omega) rfl rfl (by simp) ?_
  refine xv_aload_n hC dX6_init_15 rfl rfl ?_
  refine xv_new hC fX_X2 dX6_init_16 cl_X6_16 it_X2 in_X2 (fs := [.null, .int 0]) (fun j hj => by match j, hj with | 0, _ => rfl | 1, _ => rfl) (Nat.le_of_ble_eq_true rfl) (Nat.le_of_ble_eq_true rfl) ?_
  refine xv_dup hC dX6_init_19 rfl ?_
  refine xv_sipush (v := nI 8000) hC dX6_init_20 (by decide) ?_
  refine xv_callI hC Y_yX2_init im_yX2_init rfl ml_X6_18 dX6_init_23 (ei_Octets8000 l G (h + 40) _) rfl rfl (Nat.le_of_ble_eq_true rfl) ⟨(Nat.le_of_ble_eq_true rfl), (Nat.le_of_ble_eq_true rfl)⟩ ⟨(Nat.le_of_ble_eq_true rfl), (Nat.le_of_ble_eq_true rfl)⟩ ?_
  refine xv_rn ?_
  refine co_putC hC fX_X6 1 (by decide) fl_X6_21 dX6_init_26 rfl hname rfl (cOct_loc G (h + 40) 8000) (by omega) rfl rfl (by simp) ?_
  refine xv_aload_n hC dX6_init_29 rfl rfl ?_
  refine xv_new hC fX_X5 dX6_init_30 cl_X6_25 it_X5 in_X5 (fs := [.null, .null, .null]) (fun j hj => by match j, hj with | 0, _ => rfl | 1, _ => rfl | 2, _ => rfl) (Nat.le_of_ble_eq_true rfl) (Nat.le_of_ble_eq_true rfl) ?_
  refine xv_dup hC dX6_init_33 rfl ?_
  refine xv_aload_n hC dX6_init_34 rfl rfl ?_
  refine co_get hC fX_X6 0 (by decide) fl_X6_10 dX6_init_35 (.ref (h + 1)) ((xup_ne (by omega)).trans (xup_self _ _ _)) rfl ?_
  refine xv_callI hC Y_yX5_init im_yX5_init rfl ml_X6_27 dX6_init_38 (ei_Writer l G (h + 42) _ (h + 1)) rfl rfl (Nat.le_of_ble_eq_true rfl) ⟨(Nat.le_of_ble_eq_true rfl), (Nat.le_of_ble_eq_true rfl)⟩ ⟨(Nat.le_of_ble_eq_true rfl), (Nat.le_of_ble_eq_true rfl)⟩ ?_
  refine xv_rn ?_
  refine co_putC hC fX_X6 2 (by decide) fl_X6_30 dX6_init_41 rfl hname rfl (cWri_loc G (h + 42) (h + 1)) (by omega) rfl rfl (by simp) ?_
  refine xv_aload_n hC dX6_init_44 rfl rfl ?_
  refine xv_new hC fX_X1 dX6_init_45 cl_X6_34 it_X1 in_X1 (fs := [.int 0, .null, .null, .null, .null, .null, .null, .null, .null, .null, .null, .int 0, .int 0]) (fun j hj => by match j, hj with | 0, _ => rfl | 1, _ => rfl | 2, _ => rfl | 3, _ => rfl | 4, _ => rfl | 5, _ => rfl | 6, _ => rfl | 7, _ => rfl | 8, _ => rfl | 9, _ => rfl | 10, _ => rfl | 11, _ => rfl | 12, _ => rfl) (Nat.le_of_ble_eq_true rfl) (Nat.le_of_ble_eq_true rfl) ?_
  refine xv_dup hC dX6_init_48 rfl ?_
  refine xv_aload_n hC dX6_init_49 rfl rfl ?_
  refine co_get hC fX_X6 0 (by decide) fl_X6_10 dX6_init_50 (.ref (h + 1)) ((xup_ne (by omega)).trans (xup_self _ _ _)) rfl ?_
  refine xv_aload_n hC dX6_init_53 rfl rfl ?_
  refine co_get hC fX_X6 1 (by decide) fl_X6_21 dX6_init_54 (.ref (h + 40)) ((xup_ne (by omega)).trans (xup_self _ _ _)) rfl ?_
  refine xv_callI hC Y_yX1_init im_yX1_init rfl ml_X6_36 dX6_init_57 (ei_Loader l G (h + 46) _ (h + 1) (h + 40)) rfl rfl (Nat.le_of_ble_eq_true rfl) ⟨(Nat.le_of_ble_eq_true rfl), (Nat.le_of_ble_eq_true rfl)⟩ ⟨(Nat.le_of_ble_eq_true rfl), (Nat.le_of_ble_eq_true rfl)⟩ ?_
  refine xv_rn ?_
  refine co_putC hC fX_X6 3 (by decide) fl_X6_39 dX6_init_60 rfl hname rfl (cLoa_loc G (h + 46) (h + 1) (h + 40)) (by omega) rfl rfl (by simp) ?_
  exact xv_return hC hr dX6_init_63 rfl rfl rfl
