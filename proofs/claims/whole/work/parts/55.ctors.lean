set_option maxHeartbeats 1000000 in
set_option maxRecDepth 100000 in
theorem ei_Entries (l : Launch) (G : xD) (b : Nat) (w : xw) : xM l G yX0_init cX0_init 1 none 1 2 200 [.ref b] (b + 1) (xup w b (.inr (2, [.null, .null, .int 0]))) none (b + 3) (cEnt G b w) := by
  refine xM_of (by decide) (Nat.le_of_ble_eq_true rfl) ?_
  intro A p e s m args below meth c hC hr hname
  have hC : xC p s m args meth c cX0_init 1 RX0 G A := hC
  have hr : meth.sig.returnType = none := hr
  have hname : meth.name = "<init>" := hname
  show xV p l e _ s m args below meth c G A 1 _ (b + 1) _ 0 0 0 [(0, .ref b)] []
  refine xv_aload_n hC dX0_init_0 rfl rfl ?_
  refine xv_objInit hC dX0_init_1 ml_X0_3 im_objectInit co_objectInit (Nat.le_of_ble_eq_true rfl) (Nat.le_of_ble_eq_true rfl) ?_
  refine xv_aload_n hC dX0_init_4 rfl rfl ?_
  refine xv_bipush (v := nI 100) hC dX0_init_5 (by decide) ?_
  refine co_newa hC 2 rfl rfl (fun C h => by cases h) dX0_init_7 ac_boolean 100 (zI 100) (fun _ => rfl) (by decide) (by decide) (by decide) (Nat.le_of_ble_eq_true rfl) (Nat.le_of_ble_eq_true rfl) (by omega) ?_
  refine co_putF hC fX_X0 0 (by decide) fl_X0_9 dX0_init_9 rfl hname rfl rfl rfl (by simp) ?_
  refine xv_aload_n hC dX0_init_12 rfl rfl ?_
  refine xv_bipush (v := nI 100) hC dX0_init_13 (by decide) ?_
  refine co_newa hC 1 rfl rfl (fun C h => by cases h) dX0_init_15 ac_long 100 (zL 100) (fun _ => rfl) (by decide) (by decide) (by decide) (Nat.le_of_ble_eq_true rfl) (Nat.le_of_ble_eq_true rfl) (by omega) ?_
  refine co_putF hC fX_X0 1 (by decide) fl_X0_15 dX0_init_17 rfl hname rfl rfl rfl (by simp) ?_
  refine xv_aload_n hC dX0_init_20 rfl rfl ?_
  refine xv_iconst (v := nI 0) hC dX0_init_21 (by decide) ?_
  refine co_put hC fX_X0 2 (by decide) fl_X0_19 dX0_init_22 rfl rfl rfl (by simp) ?_
  exact xv_return hC hr dX0_init_25 rfl rfl rfl
set_option maxHeartbeats 1000000 in
set_option maxRecDepth 100000 in
theorem ei_Octets (l : Launch) (G : xD) (b : Nat) (w : xw) : xM l G yX2_init cX2_init 1 none 1 1 8000 [.ref b] (b + 1) (xup w b (.inr (4, [.null, .int 0, .int 0]))) none (b + 2) (cOct G b w) := by
  refine xM_of (by decide) (Nat.le_of_ble_eq_true rfl) ?_
  intro A p e s m args below meth c hC hr hname
  have hC : xC p s m args meth c cX2_init 1 RX2 G A := hC
  have hr : meth.sig.returnType = none := hr
  have hname : meth.name = "<init>" := hname
  show xV p l e _ s m args below meth c G A 1 _ (b + 1) _ 0 0 0 [(0, .ref b)] []
  refine xv_aload_n hC dX2_init_0 rfl rfl ?_
  refine xv_objInit hC dX2_init_1 ml_X2_3 im_objectInit co_objectInit (Nat.le_of_ble_eq_true rfl) (Nat.le_of_ble_eq_true rfl) ?_
  refine xv_aload_n hC dX2_init_4 rfl rfl ?_
  refine xv_sipush (v := nI 8000) hC dX2_init_5 (by decide) ?_
  refine co_newa hC 3 rfl rfl (fun C h => by cases h) dX2_init_8 ac_byte 8000 (zI 8000) (fun _ => rfl) (by decide) (by decide) (by decide) (Nat.le_of_ble_eq_true rfl) (Nat.le_of_ble_eq_true rfl) (by omega) ?_
  refine co_putF hC fX_X2 0 (by decide) fl_X2_9 dX2_init_10 rfl hname rfl rfl rfl (by simp) ?_
  refine xv_aload_n hC dX2_init_13 rfl rfl ?_
  refine xv_iconst (v := nI 0) hC dX2_init_14 (by decide) ?_
  refine co_put hC fX_X2 1 (by decide) fl_X2_15 dX2_init_15 rfl rfl rfl (by simp) ?_
  refine xv_aload_n hC dX2_init_18 rfl rfl ?_
  refine xv_iconst (v := cI false) hC dX2_init_19 (by decide) ?_
  refine co_put hC fX_X2 2 (by decide) fl_X2_19 dX2_init_20 rfl rfl rfl (by simp) ?_
  exact xv_return hC hr dX2_init_23 rfl rfl rfl
set_option maxHeartbeats 1000000 in
set_option maxRecDepth 100000 in
theorem ei_Reader (l : Launch) (G : xD) (b : Nat) (w : xw) (q : Nat) : xM l G yX3_init cX3_init 2 none 1 0 0 [.ref b, .ref q] (b + 1) (xup w b (.inr (5, [.int 0, .int 0, .null]))) none (b + 1) (cRea b q w) := by
  refine xM_of (by decide) (Nat.le_of_ble_eq_true rfl) ?_
  intro A p e s m args below meth c hC hr hname
  have hC : xC p s m args meth c cX3_init 2 RX3 G A := hC
  have hr : meth.sig.returnType = none := hr
  have hname : meth.name = "<init>" := hname
  show xV p l e _ s m args below meth c G A 2 _ (b + 1) _ 0 0 0 [(0, .ref b), (1, .ref q)] []
  refine xv_aload_n hC dX3_init_0 rfl rfl ?_
  refine xv_objInit hC dX3_init_1 ml_X3_3 im_objectInit co_objectInit (Nat.le_of_ble_eq_true rfl) (Nat.le_of_ble_eq_true rfl) ?_
  refine xv_aload_n hC dX3_init_4 rfl rfl ?_
  refine xv_iconst (v := nI 0) hC dX3_init_5 (by decide) ?_
  refine co_put hC fX_X3 0 (by decide) fl_X3_9 dX3_init_6 rfl rfl rfl (by simp) ?_
  refine xv_aload_n hC dX3_init_9 rfl rfl ?_
  refine xv_iconst (v := nI 0) hC dX3_init_10 (by decide) ?_
  refine co_put hC fX_X3 1 (by decide) fl_X3_15 dX3_init_11 rfl rfl rfl (by simp) ?_
  refine xv_aload_n hC dX3_init_14 rfl rfl ?_
  refine xv_aload_n hC dX3_init_15 rfl rfl ?_
  refine co_putF hC fX_X3 2 (by decide) fl_X3_18 dX3_init_16 rfl hname rfl rfl rfl (by simp) ?_
  exact xv_return hC hr dX3_init_19 rfl rfl rfl
set_option maxHeartbeats 1000000 in
set_option maxRecDepth 100000 in
theorem ei_Writer (l : Launch) (G : xD) (b : Nat) (w : xw) (q : Nat) : xM l G yX5_init cX5_init 2 none 2 3 8015 [.ref b, .ref q] (b + 1) (xup w b (.inr (7, [.null, .null, .null]))) none (b + 4) (cWri G b q w) := by
  refine xM_of (by decide) (Nat.le_of_ble_eq_true rfl) ?_
  intro A p e s m args below meth c hC hr hname
  have hC : xC p s m args meth c cX5_init 2 RX5 G A := hC
  have hr : meth.sig.returnType = none := hr
  have hname : meth.name = "<init>" := hname
  show xV p l e _ s m args below meth c G A 2 _ (b + 1) _ 0 0 0 [(0, .ref b), (1, .ref q)] []
  refine xv_aload_n hC dX5_init_0 rfl rfl ?_
  refine xv_objInit hC dX5_init_1 ml_X5_3 im_objectInit co_objectInit (Nat.le_of_ble_eq_true rfl) (Nat.le_of_ble_eq_true rfl) ?_
  refine xv_aload_n hC dX5_init_4 rfl rfl ?_
  refine xv_new hC fX_X2 dX5_init_5 cl_X5_9 it_X2 in_X2 (fs := [.null, .int 0, .int 0]) (fun j hj => by match j, hj with | 0, _ => rfl | 1, _ => rfl | 2, _ => rfl) (Nat.le_of_ble_eq_true rfl) (Nat.le_of_ble_eq_true rfl) ?_
  refine xv_dup hC dX5_init_8 rfl ?_
  refine xv_callIN (host := "FormatFiles") hC Y_yX2_init im_yX2_init rfl (by decide) dX5_init_9 (ei_Octets l G (b + 1) _) rfl rfl (Nat.le_of_ble_eq_true rfl) ⟨(Nat.le_of_ble_eq_true rfl), (Nat.le_of_ble_eq_true rfl)⟩ ⟨(Nat.le_of_ble_eq_true rfl), (Nat.le_of_ble_eq_true rfl)⟩ ?_
  refine xv_rn ?_
  refine co_putC hC fX_X5 0 (by decide) fl_X5_12 dX5_init_12 rfl hname rfl (cOct_loc G (b + 1)) (by omega) rfl rfl (by simp) ?_
  refine xv_aload_n hC dX5_init_15 rfl rfl ?_
  refine xv_bipush (v := nI 12) hC dX5_init_16 (by decide) ?_
  refine co_newa hC 0 rfl rfl (fun C h => by cases h) dX5_init_18 ac_int 12 (zI 12) (fun _ => rfl) (by decide) (by decide) (by decide) (Nat.le_of_ble_eq_true rfl) (Nat.le_of_ble_eq_true rfl) (by omega) ?_
  refine co_putF hC fX_X5 2 (by decide) fl_X5_18 dX5_init_20 rfl hname rfl rfl rfl (by simp) ?_
  refine xv_aload_n hC dX5_init_23 rfl rfl ?_
  refine xv_aload_n hC dX5_init_24 rfl rfl ?_
  refine co_putF hC fX_X5 1 (by decide) fl_X5_22 dX5_init_25 rfl hname rfl rfl rfl (by simp) ?_
  exact xv_return hC hr dX5_init_28 rfl rfl rfl
theorem cPar_0 (b : Nat) : cPar b 0 = (12, .inr (.inr (.inr (.inr (fun _ => none))))) := by
  unfold cPar
  congr 4
set_option maxHeartbeats 1000000 in
set_option maxRecDepth 100000 in
theorem ei_Setter (l : Launch) (G : xD) (b : Nat) (w : xw) : xM l G yX4_init cX4_init 2 none 2 38 2460 [.ref b] (b + 1) (xup w b (.inr (6, [.null, .null, .int 0, .int 0, .int 0, .int 0, .int 0, .int 0]))) none (b + 39) (cSet G b w) := by
  refine xM_of (by decide) (Nat.le_of_ble_eq_true rfl) ?_
  intro A p e s m args below meth c hC hr hname
  have hC : xC p s m args meth c cX4_init 2 RX4 G A := hC
  have hr : meth.sig.returnType = none := hr
  have hname : meth.name = "<init>" := hname
  show xV p l e _ s m args below meth c G A 2 _ (b + 1) _ 0 0 0 [(0, .ref b)] []
  have Lp : ∀ (n i sz cs ss : Nat), 12 < i + n → i ≤ 12 → sz = b + 3 + 3 * i → cs = 2 + 3 * i → ss = 24 + 203 * i → xV p l e (xr 2 38 2460) s m args below meth c G A 2 (MQ below (xQ G A none (b + 39) (cSet G b w)) args s 38 2460 A) sz (xup (xup (cEnts G (b + 3) i (xup w (b + 2) (.inl (G.2 0, zI 12)))) (b + 1) (.inl (G.2 4, cPar (b + 3) i))) b (.inr (6, [.ref (b + 1), .ref (b + 2), .int (nI 0), .int (nI 1), .int (nI 0), .int (cI false), .int (cI false), .int (nI 0)]))) cs ss 53 [(1, .int (nI i)), (0, .ref b)] [] := by
    intro n
    induction n with
    | zero =>
      intro i sz cs ss hn hi hz hcs hss
      omega
    | succ n ih =>
      intro i sz cs ss hn hi hz hcs hss
      refine xv_iload_n hC dX4_init_53 rfl rfl ?_
      refine xv_bipush (v := nI 12) hC dX4_init_54 (by decide) ?_
      refine xv_icmp_ge (tgt := 78) hC dX4_init_56 (by decide) (fun hx => ?_) (fun hx => ?_)
      · have hx : 12 ≤ i := (nI_leI (by omega) (by omega)).mp hx
        have e12 : i = 12 := by omega
        subst e12
        refine xV.wid (k := 38) (n := 2460) (by omega) (by omega) ?_
        exact xv_return hC hr dX4_init_78 rfl (by omega) rfl
      · have hx : i < 12 := Nat.lt_of_not_le (fun z => hx ((nI_leI (by omega) (by omega)).mpr z))
        refine xv_aload_n hC dX4_init_59 rfl rfl ?_
        refine co_get hC fX_X4 0 (by decide) fl_X4_11 dX4_init_60 (.ref (b + 1)) (xup_self _ _ _) rfl ?_
        refine xv_iload_n hC dX4_init_63 rfl rfl ?_
        refine xv_new hC fX_X0 dX4_init_64 cl_X4_9 it_X0 in_X0 (fs := [.null, .null, .int 0]) (fun j hj => by match j, hj with | 0, _ => rfl | 1, _ => rfl | 2, _ => rfl) (show cs + 1 ≤ 38 by omega) (show ss + 3 ≤ 2460 by omega) ?_
        refine xv_dup hC dX4_init_67 rfl ?_
        refine xv_callIN (host := "FormatFiles") hC Y_yX0_init im_yX0_init rfl (by decide) dX4_init_68 (ei_Entries l G sz _) rfl rfl (Nat.le_of_ble_eq_true rfl) ⟨(Nat.le_of_ble_eq_true rfl), (Nat.le_of_ble_eq_true rfl)⟩ ⟨show cs + 1 + 2 ≤ 38 by omega, show ss + 3 + 200 ≤ 2460 by omega⟩ ?_
        refine xv_rn ?_
        refine xv_aast hC dX4_init_71 (((cEnt_loc G sz).1 _ _ (by omega)).trans ((xup_ne (by omega)).trans (xup_self _ _ _))) (xup_self _ _ _) (vp_in_nI hx (by omega)) ?_
        refine xv_world (show _ = xup (xup (cEnts G (b + 3) (i + 1) (xup w (b + 2) (.inl (G.2 0, zI 12)))) (b + 1) (.inl (G.2 4, cPar (b + 3) (i + 1)))) b (.inr (6, [.ref (b + 1), .ref (b + 2), .int (nI 0), .int (nI 1), .int (nI 0), .int (cI false), .int (cI false), .int (nI 0)])) by rw [nI_clamp (by omega), cEnts_step G _ _ _ _ (by omega) (by omega) (by omega), hz, cPar_s _ _ hx]; rfl) ?_
        refine xv_iinc hC dX4_init_72 rfl (xinc _) (by decide) ?_
        refine xv_goto (tgt := 53) hC dX4_init_75 (by decide) ?_
        exact ih (i + 1) (sz + 3) (cs + 3) (ss + 203) (by omega) (by omega) (by omega) (by omega) (by omega)
  refine xv_aload_n hC dX4_init_0 rfl rfl ?_
  refine xv_objInit hC dX4_init_1 ml_X4_3 im_objectInit co_objectInit (Nat.le_of_ble_eq_true rfl) (Nat.le_of_ble_eq_true rfl) ?_
  refine xv_aload_n hC dX4_init_4 rfl rfl ?_
  refine xv_bipush (v := nI 12) hC dX4_init_5 (by decide) ?_
  refine co_newq hC dX4_init_7 cl_X4_9 12 (by decide) (by decide) (by decide) (Nat.le_of_ble_eq_true rfl) (Nat.le_of_ble_eq_true rfl) (by omega) ?_
  refine co_putF hC fX_X4 0 (by decide) fl_X4_11 dX4_init_10 rfl hname rfl rfl rfl (by simp) ?_
  refine xv_aload_n hC dX4_init_13 rfl rfl ?_
  refine xv_bipush (v := nI 12) hC dX4_init_14 (by decide) ?_
  refine co_newa hC 0 rfl rfl (fun C h => by cases h) dX4_init_16 ac_int 12 (zI 12) (fun _ => rfl) (by decide) (by decide) (by decide) (Nat.le_of_ble_eq_true rfl) (Nat.le_of_ble_eq_true rfl) (by omega) ?_
  refine co_putF hC fX_X4 1 (by decide) fl_X4_17 dX4_init_18 rfl hname rfl rfl rfl (by simp) ?_
  refine xv_aload_n hC dX4_init_21 rfl rfl ?_
  refine xv_iconst (v := nI 0) hC dX4_init_22 (by decide) ?_
  refine co_put hC fX_X4 2 (by decide) fl_X4_21 dX4_init_23 rfl rfl rfl (by simp) ?_
  refine xv_aload_n hC dX4_init_26 rfl rfl ?_
  refine xv_iconst (v := nI 1) hC dX4_init_27 (by decide) ?_
  refine co_put hC fX_X4 3 (by decide) fl_X4_25 dX4_init_28 rfl rfl rfl (by simp) ?_
  refine xv_aload_n hC dX4_init_31 rfl rfl ?_
  refine xv_iconst (v := nI 0) hC dX4_init_32 (by decide) ?_
  refine co_put hC fX_X4 4 (by decide) fl_X4_28 dX4_init_33 rfl rfl rfl (by simp) ?_
  refine xv_aload_n hC dX4_init_36 rfl rfl ?_
  refine xv_iconst (v := cI false) hC dX4_init_37 (by decide) ?_
  refine co_put hC fX_X4 5 (by decide) fl_X4_31 dX4_init_38 rfl rfl rfl (by simp) ?_
  refine xv_aload_n hC dX4_init_41 rfl rfl ?_
  refine xv_iconst (v := cI false) hC dX4_init_42 (by decide) ?_
  refine co_put hC fX_X4 6 (by decide) fl_X4_35 dX4_init_43 rfl rfl rfl (by simp) ?_
  refine xv_aload_n hC dX4_init_46 rfl rfl ?_
  refine xv_iconst (v := nI 0) hC dX4_init_47 (by decide) ?_
  refine co_put hC fX_X4 7 (by decide) fl_X4_38 dX4_init_48 rfl rfl rfl (by simp) ?_
  refine xv_iconst (v := nI 0) hC dX4_init_51 (by decide) ?_
  refine xv_istore_n hC dX4_init_52 rfl (by decide) ?_
  refine xv_world (show _ = xup (xup (cEnts G (b + 3) 0 (xup w (b + 2) (.inl (G.2 0, zI 12)))) (b + 1) (.inl (G.2 4, cPar (b + 3) 0))) b (.inr (6, [.ref (b + 1), .ref (b + 2), .int (nI 0), .int (nI 1), .int (nI 0), .int (cI false), .int (cI false), .int (nI 0)])) by rw [xup_com w (show b + 1 ≠ b + 1 + 1 by omega), cPar_0]; rfl) ?_
  exact Lp 13 0 _ _ _ (by omega) (by omega) (by omega) (by omega) (by omega)
theorem lo_com (G : xD) (b q2 : Nat) (w : xw) (px : va_E) : cRea (b + 9) q2 (xup (xup (cEnt G (b + 4) (xup (xup (xup w (b + 1) (.inl (G.2 0, zI 255))) (b + 2) (.inl (G.2 0, zI 255))) (b + 3) (.inl (G.2 0, zI 255)))) (b + 7) px) (b + 8) (.inl (G.2 0, zI 12))) = xup (cLo0 G b q2 w) (b + 7) px := by
  unfold cLo0 cRea
  rw [xup_com _ (show b + 7 ≠ b + 8 by omega), xup_com _ (show b + 7 ≠ b + 9 by omega)]
set_option maxHeartbeats 1000000 in
set_option maxRecDepth 100000 in
theorem ei_Loader (l : Launch) (G : xD) (b : Nat) (w : xw) (q1 q2 : Nat) : xM l G yX1_init cX1_init 4 none 2 45 3431 [.ref b, .ref q1, .ref q2] (b + 1) (xup w b (.inr (3, [.int 0, .null, .null, .null, .null, .null, .null, .null, .null, .null, .int 0, .int 0]))) none (b + 46) (cLoa G b q1 q2 w) := by
  refine xM_of (by decide) (Nat.le_of_ble_eq_true rfl) ?_
  intro A p e s m args below meth c hC hr hname
  have hC : xC p s m args meth c cX1_init 4 RX1 G A := hC
  have hr : meth.sig.returnType = none := hr
  have hname : meth.name = "<init>" := hname
  show xV p l e _ s m args below meth c G A 4 _ (b + 1) _ 0 0 0 [(0, .ref b), (1, .ref q1), (2, .ref q2)] []
  have Lp : ∀ (n i sz cs ss : Nat), 12 < i + n → i ≤ 12 → sz = b + 10 + 3 * i → cs = 9 + 3 * i → ss = 995 + 203 * i → xV p l e (xr 2 45 3431) s m args below meth c G A 4 (MQ below (xQ G A none (b + 46) (cLoa G b q1 q2 w)) args s 45 3431 A) sz (xup (xup (cEnts G (b + 10) i (cLo0 G b q2 w)) (b + 7) (.inl (G.2 4, cPar (b + 10) i))) b (cLoO b q1 q2)) cs ss 98 [(3, .int (nI i)), (0, .ref b), (1, .ref q1), (2, .ref q2)] [] := by
    intro n
    induction n with
    | zero =>
      intro i sz cs ss hn hi hz hcs hss
      omega
    | succ n ih =>
      intro i sz cs ss hn hi hz hcs hss
      refine xv_iload_n hC dX1_init_98 rfl rfl ?_
      refine xv_bipush (v := nI 12) hC dX1_init_99 (by decide) ?_
      refine xv_icmp_ge (tgt := 123) hC dX1_init_101 (by decide) (fun hx => ?_) (fun hx => ?_)
      · have hx : 12 ≤ i := (nI_leI (by omega) (by omega)).mp hx
        have e12 : i = 12 := by omega
        subst e12
        refine xV.wid (k := 45) (n := 3431) (by omega) (by omega) ?_
        exact xv_return hC hr dX1_init_123 rfl (by omega) rfl
      · have hx : i < 12 := Nat.lt_of_not_le (fun z => hx ((nI_leI (by omega) (by omega)).mpr z))
        refine xv_aload_n hC dX1_init_104 rfl rfl ?_
        refine co_get hC fX_X1 8 (by decide) fl_X1_32 dX1_init_105 (.ref (b + 7)) (xup_self _ _ _) rfl ?_
        refine xv_iload_n hC dX1_init_108 rfl rfl ?_
        refine xv_new hC fX_X0 dX1_init_109 cl_X1_25 it_X0 in_X0 (fs := [.null, .null, .int 0]) (fun j hj => by match j, hj with | 0, _ => rfl | 1, _ => rfl | 2, _ => rfl) (show cs + 1 ≤ 45 by omega) (show ss + 3 ≤ 3431 by omega) ?_
        refine xv_dup hC dX1_init_112 rfl ?_
        refine xv_callIN (host := "FormatFiles") hC Y_yX0_init im_yX0_init rfl (by decide) dX1_init_113 (ei_Entries l G sz _) rfl rfl (Nat.le_of_ble_eq_true rfl) ⟨(Nat.le_of_ble_eq_true rfl), (Nat.le_of_ble_eq_true rfl)⟩ ⟨show cs + 1 + 2 ≤ 45 by omega, show ss + 3 + 200 ≤ 3431 by omega⟩ ?_
        refine xv_rn ?_
        refine xv_aast hC dX1_init_116 (((cEnt_loc G sz).1 _ _ (by omega)).trans ((xup_ne (by omega)).trans (xup_self _ _ _))) (xup_self _ _ _) (vp_in_nI hx (by omega)) ?_
        refine xv_world (show _ = xup (xup (cEnts G (b + 10) (i + 1) (cLo0 G b q2 w)) (b + 7) (.inl (G.2 4, cPar (b + 10) (i + 1)))) b (cLoO b q1 q2) by rw [nI_clamp (by omega), cEnts_step G _ _ _ _ (by omega) (by omega) (by omega), hz, cPar_s _ _ hx]; rfl) ?_
        refine xv_iinc hC dX1_init_117 rfl (xinc _) (by decide) ?_
        refine xv_goto (tgt := 98) hC dX1_init_120 (by decide) ?_
        exact ih (i + 1) (sz + 3) (cs + 3) (ss + 203) (by omega) (by omega) (by omega) (by omega) (by omega)
  refine xv_aload_n hC dX1_init_0 rfl rfl ?_
  refine xv_objInit hC dX1_init_1 ml_X1_3 im_objectInit co_objectInit (Nat.le_of_ble_eq_true rfl) (Nat.le_of_ble_eq_true rfl) ?_
  refine xv_aload_n hC dX1_init_4 rfl rfl ?_
  refine xv_iconst (v := nI 0) hC dX1_init_5 (by decide) ?_
  refine co_put hC fX_X1 0 (by decide) fl_X1_9 dX1_init_6 rfl rfl rfl (by simp) ?_
  refine xv_aload_n hC dX1_init_9 rfl rfl ?_
  refine xv_sipush (v := nI 255) hC dX1_init_10 (by decide) ?_
  refine co_newa hC 0 rfl rfl (fun C h => by cases h) dX1_init_13 ac_int 255 (zI 255) (fun _ => rfl) (by decide) (by decide) (by decide) (Nat.le_of_ble_eq_true rfl) (Nat.le_of_ble_eq_true rfl) (by omega) ?_
  refine co_putF hC fX_X1 1 (by decide) fl_X1_15 dX1_init_15 rfl hname rfl rfl rfl (by simp) ?_
  refine xv_aload_n hC dX1_init_18 rfl rfl ?_
  refine xv_sipush (v := nI 255) hC dX1_init_19 (by decide) ?_
  refine co_newa hC 0 rfl rfl (fun C h => by cases h) dX1_init_22 ac_int 255 (zI 255) (fun _ => rfl) (by decide) (by decide) (by decide) (Nat.le_of_ble_eq_true rfl) (Nat.le_of_ble_eq_true rfl) (by omega) ?_
  refine co_putF hC fX_X1 2 (by decide) fl_X1_19 dX1_init_24 rfl hname rfl rfl rfl (by simp) ?_
  refine xv_aload_n hC dX1_init_27 rfl rfl ?_
  refine xv_sipush (v := nI 255) hC dX1_init_28 (by decide) ?_
  refine co_newa hC 0 rfl rfl (fun C h => by cases h) dX1_init_31 ac_int 255 (zI 255) (fun _ => rfl) (by decide) (by decide) (by decide) (Nat.le_of_ble_eq_true rfl) (Nat.le_of_ble_eq_true rfl) (by omega) ?_
  refine co_putF hC fX_X1 3 (by decide) fl_X1_22 dX1_init_33 rfl hname rfl rfl rfl (by simp) ?_
  refine xv_aload_n hC dX1_init_36 rfl rfl ?_
  refine xv_new hC fX_X0 dX1_init_37 cl_X1_25 it_X0 in_X0 (fs := [.null, .null, .int 0]) (fun j hj => by match j, hj with | 0, _ => rfl | 1, _ => rfl | 2, _ => rfl) (Nat.le_of_ble_eq_true rfl) (Nat.le_of_ble_eq_true rfl) ?_
  refine xv_dup hC dX1_init_40 rfl ?_
  refine xv_callIN (host := "FormatFiles") hC Y_yX0_init im_yX0_init rfl (by decide) dX1_init_41 (ei_Entries l G (b + 4) _) rfl rfl (Nat.le_of_ble_eq_true rfl) ⟨(Nat.le_of_ble_eq_true rfl), (Nat.le_of_ble_eq_true rfl)⟩ ⟨(Nat.le_of_ble_eq_true rfl), (Nat.le_of_ble_eq_true rfl)⟩ ?_
  refine xv_rn ?_
  refine co_putC hC fX_X1 7 (by decide) fl_X1_28 dX1_init_44 rfl hname rfl (cEnt_loc G (b + 4)) (by omega) rfl rfl (by simp) ?_
  refine xv_aload_n hC dX1_init_47 rfl rfl ?_
  refine xv_bipush (v := nI 12) hC dX1_init_48 (by decide) ?_
  refine co_newq hC dX1_init_50 cl_X1_25 12 (by decide) (by decide) (by decide) (Nat.le_of_ble_eq_true rfl) (Nat.le_of_ble_eq_true rfl) (by omega) ?_
  refine co_putF hC fX_X1 8 (by decide) fl_X1_32 dX1_init_53 rfl hname rfl rfl rfl (by simp) ?_
  refine xv_aload_n hC dX1_init_56 rfl rfl ?_
  refine xv_bipush (v := nI 12) hC dX1_init_57 (by decide) ?_
  refine co_newa hC 0 rfl rfl (fun C h => by cases h) dX1_init_59 ac_int 12 (zI 12) (fun _ => rfl) (by decide) (by decide) (by decide) (Nat.le_of_ble_eq_true rfl) (Nat.le_of_ble_eq_true rfl) (by omega) ?_
  refine co_putF hC fX_X1 9 (by decide) fl_X1_36 dX1_init_61 rfl hname rfl rfl rfl (by simp) ?_
  refine xv_aload_n hC dX1_init_64 rfl rfl ?_
  refine xv_iconst (v := nI 0) hC dX1_init_65 (by decide) ?_
  refine co_put hC fX_X1 10 (by decide) fl_X1_39 dX1_init_66 rfl rfl rfl (by simp) ?_
  refine xv_aload_n hC dX1_init_69 rfl rfl ?_
  refine xv_iconst (v := nI 0) hC dX1_init_70 (by decide) ?_
  refine co_put hC fX_X1 11 (by decide) fl_X1_42 dX1_init_71 rfl rfl rfl (by simp) ?_
  refine xv_aload_n hC dX1_init_74 rfl rfl ?_
  refine xv_aload_n hC dX1_init_75 rfl rfl ?_
  refine co_putF hC fX_X1 4 (by decide) fl_X1_45 dX1_init_76 rfl hname rfl rfl rfl (by simp) ?_
  refine xv_aload_n hC dX1_init_79 rfl rfl ?_
  refine xv_aload_n hC dX1_init_80 rfl rfl ?_
  refine co_putF hC fX_X1 5 (by decide) fl_X1_49 dX1_init_81 rfl hname rfl rfl rfl (by simp) ?_
  refine xv_aload_n hC dX1_init_84 rfl rfl ?_
  refine xv_new hC fX_X3 dX1_init_85 cl_X1_53 it_X3 in_X3 (fs := [.int 0, .int 0, .null]) (fun j hj => by match j, hj with | 0, _ => rfl | 1, _ => rfl | 2, _ => rfl) (Nat.le_of_ble_eq_true rfl) (Nat.le_of_ble_eq_true rfl) ?_
  refine xv_dup hC dX1_init_88 rfl ?_
  refine xv_aload_n hC dX1_init_89 rfl rfl ?_
  refine xv_callI hC Y_yX3_init im_yX3_init rfl ml_X1_55 dX1_init_90 (ei_Reader l G (b + 9) _ q2) rfl rfl (Nat.le_of_ble_eq_true rfl) ⟨(Nat.le_of_ble_eq_true rfl), (Nat.le_of_ble_eq_true rfl)⟩ ⟨(Nat.le_of_ble_eq_true rfl), (Nat.le_of_ble_eq_true rfl)⟩ ?_
  refine xv_rn ?_
  refine co_putC hC fX_X1 6 (by decide) fl_X1_58 dX1_init_93 rfl hname rfl (cRea_loc (b + 9) q2) (by omega) rfl rfl (by simp) ?_
  refine xv_iconst (v := nI 0) hC dX1_init_96 (by decide) ?_
  refine xv_istore_n hC dX1_init_97 rfl (by decide) ?_
  refine xv_world (show _ = xup (xup (cEnts G (b + 10) 0 (cLo0 G b q2 w)) (b + 7) (.inl (G.2 4, cPar (b + 10) 0))) b (cLoO b q1 q2) by rw [cPar_0]; exact congrArg (fun z => xup z b (cLoO b q1 q2)) (lo_com G b q2 w _)) ?_
  exact Lp 13 0 _ _ _ (by omega) (by omega) (by omega) (by omega) (by omega)
set_option maxHeartbeats 1000000 in
set_option maxRecDepth 100000 in
theorem ei_FF (l : Launch) (G : xD) (h : Nat) (w : xw) : xM l G yX6_init cX6_init 1 none 3 91 21932 [.ref h] (h + 1) (xup w h (.inr (8, [.null, .null, .null, .null]))) none (h + 92) (cFF G h w) := by
  refine xM_of (by decide) (Nat.le_of_ble_eq_true rfl) ?_
  intro A p e s m args below meth c hC hr hname
  have hC : xC p s m args meth c cX6_init 1 RX6 G A := hC
  have hr : meth.sig.returnType = none := hr
  have hname : meth.name = "<init>" := hname
  show xV p l e _ s m args below meth c G A 1 _ (h + 1) _ 0 0 0 [(0, .ref h)] []
  refine xv_aload_n hC dX6_init_0 rfl rfl ?_
  refine xv_objInit hC dX6_init_1 ml_X6_1 im_objectInit co_objectInit (Nat.le_of_ble_eq_true rfl) (Nat.le_of_ble_eq_true rfl) ?_
  refine xv_aload_n hC dX6_init_4 rfl rfl ?_
  refine xv_new hC fX_X4 dX6_init_5 cl_X6_7 it_X4 in_X4 (fs := [.null, .null, .int 0, .int 0, .int 0, .int 0, .int 0, .int 0]) (fun j hj => by match j, hj with | 0, _ => rfl | 1, _ => rfl | 2, _ => rfl | 3, _ => rfl | 4, _ => rfl | 5, _ => rfl | 6, _ => rfl | 7, _ => rfl) (Nat.le_of_ble_eq_true rfl) (Nat.le_of_ble_eq_true rfl) ?_
  refine xv_dup hC dX6_init_8 rfl ?_
  refine xv_callI hC Y_yX4_init im_yX4_init rfl ml_X6_9 dX6_init_9 (ei_Setter l G (h + 1) _) rfl rfl (Nat.le_of_ble_eq_true rfl) ⟨(Nat.le_of_ble_eq_true rfl), (Nat.le_of_ble_eq_true rfl)⟩ ⟨(Nat.le_of_ble_eq_true rfl), (Nat.le_of_ble_eq_true rfl)⟩ ?_
  refine xv_rn ?_
  refine co_putC hC fX_X6 0 (by decide) fl_X6_10 dX6_init_12 rfl hname rfl (cSet_loc G (h + 1)) (by omega) rfl rfl (by simp) ?_
  refine xv_aload_n hC dX6_init_15 rfl rfl ?_
  refine xv_new hC fX_X2 dX6_init_16 cl_X6_16 it_X2 in_X2 (fs := [.null, .int 0, .int 0]) (fun j hj => by match j, hj with | 0, _ => rfl | 1, _ => rfl | 2, _ => rfl) (Nat.le_of_ble_eq_true rfl) (Nat.le_of_ble_eq_true rfl) ?_
  refine xv_dup hC dX6_init_19 rfl ?_
  refine xv_callIN (host := "FormatFiles") hC Y_yX2_init im_yX2_init rfl (by decide) dX6_init_20 (ei_Octets l G (h + 40) _) rfl rfl (Nat.le_of_ble_eq_true rfl) ⟨(Nat.le_of_ble_eq_true rfl), (Nat.le_of_ble_eq_true rfl)⟩ ⟨(Nat.le_of_ble_eq_true rfl), (Nat.le_of_ble_eq_true rfl)⟩ ?_
  refine xv_rn ?_
  refine co_putC hC fX_X6 1 (by decide) fl_X6_19 dX6_init_23 rfl hname rfl (cOct_loc G (h + 40)) (by omega) rfl rfl (by simp) ?_
  refine xv_aload_n hC dX6_init_26 rfl rfl ?_
  refine xv_new hC fX_X5 dX6_init_27 cl_X6_23 it_X5 in_X5 (fs := [.null, .null, .null]) (fun j hj => by match j, hj with | 0, _ => rfl | 1, _ => rfl | 2, _ => rfl) (Nat.le_of_ble_eq_true rfl) (Nat.le_of_ble_eq_true rfl) ?_
  refine xv_dup hC dX6_init_30 rfl ?_
  refine xv_aload_n hC dX6_init_31 rfl rfl ?_
  refine co_get hC fX_X6 0 (by decide) fl_X6_10 dX6_init_32 (.ref (h + 1)) ((xup_ne (by omega)).trans (xup_self _ _ _)) rfl ?_
  refine xv_callI hC Y_yX5_init im_yX5_init rfl ml_X6_25 dX6_init_35 (ei_Writer l G (h + 42) _ (h + 1)) rfl rfl (Nat.le_of_ble_eq_true rfl) ⟨(Nat.le_of_ble_eq_true rfl), (Nat.le_of_ble_eq_true rfl)⟩ ⟨(Nat.le_of_ble_eq_true rfl), (Nat.le_of_ble_eq_true rfl)⟩ ?_
  refine xv_rn ?_
  refine co_putC hC fX_X6 2 (by decide) fl_X6_28 dX6_init_38 rfl hname rfl (cWri_loc G (h + 42) (h + 1)) (by omega) rfl rfl (by simp) ?_
  refine xv_aload_n hC dX6_init_41 rfl rfl ?_
  refine xv_new hC fX_X1 dX6_init_42 cl_X6_32 it_X1 in_X1 (fs := [.int 0, .null, .null, .null, .null, .null, .null, .null, .null, .null, .int 0, .int 0]) (fun j hj => by match j, hj with | 0, _ => rfl | 1, _ => rfl | 2, _ => rfl | 3, _ => rfl | 4, _ => rfl | 5, _ => rfl | 6, _ => rfl | 7, _ => rfl | 8, _ => rfl | 9, _ => rfl | 10, _ => rfl | 11, _ => rfl) (Nat.le_of_ble_eq_true rfl) (Nat.le_of_ble_eq_true rfl) ?_
  refine xv_dup hC dX6_init_45 rfl ?_
  refine xv_aload_n hC dX6_init_46 rfl rfl ?_
  refine co_get hC fX_X6 0 (by decide) fl_X6_10 dX6_init_47 (.ref (h + 1)) ((xup_ne (by omega)).trans (xup_self _ _ _)) rfl ?_
  refine xv_aload_n hC dX6_init_50 rfl rfl ?_
  refine co_get hC fX_X6 1 (by decide) fl_X6_19 dX6_init_51 (.ref (h + 40)) ((xup_ne (by omega)).trans (xup_self _ _ _)) rfl ?_
  refine xv_callI hC Y_yX1_init im_yX1_init rfl ml_X6_34 dX6_init_54 (ei_Loader l G (h + 46) _ (h + 1) (h + 40)) rfl rfl (Nat.le_of_ble_eq_true rfl) ⟨(Nat.le_of_ble_eq_true rfl), (Nat.le_of_ble_eq_true rfl)⟩ ⟨(Nat.le_of_ble_eq_true rfl), (Nat.le_of_ble_eq_true rfl)⟩ ?_
  refine xv_rn ?_
  refine co_putC hC fX_X6 3 (by decide) fl_X6_37 dX6_init_57 rfl hname rfl (cLoa_loc G (h + 46) (h + 1) (h + 40)) (by omega) rfl rfl (by simp) ?_
  exact xv_return hC hr dX6_init_60 rfl rfl rfl
