set_option maxHeartbeats 1000000 in
set_option maxRecDepth 100000 in
theorem ev_isPart (l : Launch) (G : xD) (sz : Nat) (w : xw) (x : Int32) : xM l G yX6_isPart cX6_isPart 1 (some .boolean) 0 0 0 [.int x] sz (w) (some (.int (cI (xIn x 12)))) (sz) (w) := by
  refine xM_of (by decide) (Nat.le_of_ble_eq_true rfl) ?_
  intro A p e s m args below meth c hC hr hname
  have hC : xC p s m args meth c cX6_isPart 1 RX6 G A := hC
  have hr : meth.sig.returnType = (some .boolean) := hr
  show xV p l e _ s m args below meth c G A 1 _ sz _ 0 0 0 [(0, .int x)] []
  refine xv_iload_n hC dX6_isPart_0 rfl rfl ?_
  refine xv_if_lt (tgt := 14) hC dX6_isPart_1 (by decide) (fun h1 => ?_) (fun h1 => ?_)
  · refine xv_iconst (v := nI 0) hC dX6_isPart_14 (by decide) ?_
    exact xv_zreturn hC hr (by rfl) dX6_isPart_15 (by first | exact rN0 (by simp [xIn, *]) | exact rN1 (by simp [xIn, *])) rfl rfl
  · refine xv_iload_n hC dX6_isPart_4 rfl rfl ?_
    refine xv_bipush (v := nI 12) hC dX6_isPart_5 (by decide) ?_
    refine xv_icmp_ge (tgt := 14) hC dX6_isPart_7 (by decide) (fun h7 => ?_) (fun h7 => ?_)
    · refine xv_iconst (v := nI 0) hC dX6_isPart_14 (by decide) ?_
      exact xv_zreturn hC hr (by rfl) dX6_isPart_15 (by first | exact rN0 (by simp [xIn, *]) | exact rN1 (by simp [xIn, *])) rfl rfl
    · refine xv_iconst (v := nI 1) hC dX6_isPart_10 (by decide) ?_
      refine xv_goto (tgt := 15) hC dX6_isPart_11 (by decide) ?_
      exact xv_zreturn hC hr (by rfl) dX6_isPart_15 (by first | exact rN0 (by simp [xIn, *]) | exact rN1 (by simp [xIn, *])) rfl rfl
set_option maxHeartbeats 1000000 in
set_option maxRecDepth 100000 in
theorem ev_isPlace (l : Launch) (G : xD) (sz : Nat) (w : xw) (x : Int32) : xM l G yX6_isPlace cX6_isPlace 1 (some .boolean) 0 0 0 [.int x] sz (w) (some (.int (cI (xIn x 100)))) (sz) (w) := by
  refine xM_of (by decide) (Nat.le_of_ble_eq_true rfl) ?_
  intro A p e s m args below meth c hC hr hname
  have hC : xC p s m args meth c cX6_isPlace 1 RX6 G A := hC
  have hr : meth.sig.returnType = (some .boolean) := hr
  show xV p l e _ s m args below meth c G A 1 _ sz _ 0 0 0 [(0, .int x)] []
  refine xv_iload_n hC dX6_isPlace_0 rfl rfl ?_
  refine xv_if_lt (tgt := 14) hC dX6_isPlace_1 (by decide) (fun h1 => ?_) (fun h1 => ?_)
  · refine xv_iconst (v := nI 0) hC dX6_isPlace_14 (by decide) ?_
    exact xv_zreturn hC hr (by rfl) dX6_isPlace_15 (by first | exact rN0 (by simp [xIn, *]) | exact rN1 (by simp [xIn, *])) rfl rfl
  · refine xv_iload_n hC dX6_isPlace_4 rfl rfl ?_
    refine xv_bipush (v := nI 100) hC dX6_isPlace_5 (by decide) ?_
    refine xv_icmp_ge (tgt := 14) hC dX6_isPlace_7 (by decide) (fun h7 => ?_) (fun h7 => ?_)
    · refine xv_iconst (v := nI 0) hC dX6_isPlace_14 (by decide) ?_
      exact xv_zreturn hC hr (by rfl) dX6_isPlace_15 (by first | exact rN0 (by simp [xIn, *]) | exact rN1 (by simp [xIn, *])) rfl rfl
    · refine xv_iconst (v := nI 1) hC dX6_isPlace_10 (by decide) ?_
      refine xv_goto (tgt := 15) hC dX6_isPlace_11 (by decide) ?_
      exact xv_zreturn hC hr (by rfl) dX6_isPlace_15 (by first | exact rN0 (by simp [xIn, *]) | exact rN1 (by simp [xIn, *])) rfl rfl
set_option maxHeartbeats 1000000 in
set_option maxRecDepth 100000 in
theorem ev_isIn (l : Launch) (G : xD) (sz : Nat) (w : xw) (x : Int32) {q : Nat} (hq : q < 32) : xM l G yX6_isIn cX6_isIn 2 (some .boolean) 0 0 0 [.int x, .int (nI q)] sz (w) (some (.int (cI (bt x q)))) (sz) (w) := by
  refine xM_of (by decide) (Nat.le_of_ble_eq_true rfl) ?_
  intro A p e s m args below meth c hC hr hname
  have hC : xC p s m args meth c cX6_isIn 2 RX6 G A := hC
  have hr : meth.sig.returnType = (some .boolean) := hr
  show xV p l e _ s m args below meth c G A 2 _ sz _ 0 0 0 [(0, .int x), (1, .int (nI q))] []
  refine xv_iload_n hC dX6_isIn_0 rfl rfl ?_
  refine xv_iload_n hC dX6_isIn_1 rfl rfl ?_
  refine xv_iushr hC dX6_isIn_2 ?_
  refine xv_iconst (v := nI 1) hC dX6_isIn_3 (by decide) ?_
  refine xv_iand hC dX6_isIn_4 ?_
  refine xv_if_eq (tgt := 12) hC dX6_isIn_5 (by decide) (fun h5 => ?_) (fun h5 => ?_)
  · rw [xbit hq, cI_0] at h5
    refine xv_iconst (v := nI 0) hC dX6_isIn_12 (by decide) ?_
    exact xv_zreturn hC hr (by rfl) dX6_isIn_13 (by rw [h5]; rfl) rfl rfl
  · rw [xbit hq, cI_n0] at h5
    refine xv_iconst (v := nI 1) hC dX6_isIn_8 (by decide) ?_
    refine xv_goto (tgt := 13) hC dX6_isIn_9 (by decide) ?_
    exact xv_zreturn hC hr (by rfl) dX6_isIn_13 (by rw [h5]; rfl) rfl rfl
set_option maxHeartbeats 1000000 in
set_option maxRecDepth 100000 in
theorem ev_rot (l : Launch) (G : xD) (sz : Nat) (w : xw) (x : Int32) : xM l G yJ6_rotateLeft_7cf53 cJ6_rotateLeft_7cf53 2 (some .int) 0 0 0 [.int x, .int (nI 13)] sz (w) (some (.int (rot13 x))) (sz) (w) := by
  refine xM_of (by decide) (Nat.le_of_ble_eq_true rfl) ?_
  intro A p e s m args below meth c hC hr hname
  have hC : xC p s m args meth c cJ6_rotateLeft_7cf53 2 RJ6 G A := hC
  have hr : meth.sig.returnType = (some .int) := hr
  show xV p l e _ s m args below meth c G A 2 _ sz _ 0 0 0 [(0, .int x), (1, .int (nI 13))] []
  refine xv_iload_n hC dJ6_rotateLeft_7cf53_0 rfl rfl ?_
  refine xv_iload_n hC dJ6_rotateLeft_7cf53_1 rfl rfl ?_
  refine xv_ishl hC dJ6_rotateLeft_7cf53_2 ?_
  refine xv_iload_n hC dJ6_rotateLeft_7cf53_3 rfl rfl ?_
  refine xv_iload_n hC dJ6_rotateLeft_7cf53_4 rfl rfl ?_
  refine xv_ineg hC dJ6_rotateLeft_7cf53_5 ?_
  refine xv_iushr hC dJ6_rotateLeft_7cf53_6 ?_
  refine xv_ior hC dJ6_rotateLeft_7cf53_7 ?_
  exact xv_ireturn hC hr dJ6_rotateLeft_7cf53_8 (by rw [rot19]; rfl) rfl rfl
set_option maxHeartbeats 1000000 in
set_option maxRecDepth 100000 in
theorem ev_holdsR (l : Launch) (G : xD) (h sz : Nat) (E : cE) (S : cS) (O : cO) (od : Nat → Int32) (L : cL) (Rd : Nat × Int32) (w0 : xw) {b : Nat} (hb : b = 0 ∨ b = 2) (x : Int32) : xM l G yX2_holds cX2_holds 2 (some .boolean) 0 0 0 [.ref (oA h b), .int x] sz (wC G h E S O od L Rd w0) (some (.int (cI (xIn x (O.2.1 b) && xIn x (rm b))))) (sz) (wC G h E S O od L Rd w0) := by
  refine xM_of (by decide) (Nat.le_of_ble_eq_true rfl) ?_
  intro A p e s m args below meth c hC hr hname
  have hC : xC p s m args meth c cX2_holds 2 RX2 G A := hC
  have hr : meth.sig.returnType = (some .boolean) := hr
  show xV p l e _ s m args below meth c G A 2 _ sz _ 0 0 0 [(0, .ref (oA h b)), (1, .int x)] []
  refine xv_iload_n hC dX2_holds_0 rfl rfl ?_
  refine xv_if_lt (tgt := 25) hC dX2_holds_1 (by decide) (fun h1 => ?_) (fun h1 => ?_)
  · refine xv_iconst (v := nI 0) hC dX2_holds_25 (by decide) ?_
    exact xv_zreturn hC hr (by rfl) dX2_holds_26 (by first | exact rN0 (by simp [xIn, *]) | exact rN1 (by simp [xIn, *])) rfl rfl
  · refine xv_iload_n hC dX2_holds_4 rfl rfl ?_
    refine xv_aload_n hC dX2_holds_5 rfl rfl ?_
    refine tg_X2_1 hC (by first | assumption | omega) fl_X2_9 dX2_holds_6 ?_
    refine xv_icmp_ge (tgt := 25) hC dX2_holds_9 (by decide) (fun h9 => ?_) (fun h9 => ?_)
    · refine xv_iconst (v := nI 0) hC dX2_holds_25 (by decide) ?_
      exact xv_zreturn hC hr (by rfl) dX2_holds_26 (by first | exact rN0 (by simp [xIn, *]) | exact rN1 (by simp [xIn, *])) rfl rfl
    · refine xv_iload_n hC dX2_holds_12 rfl rfl ?_
      refine xv_aload_n hC dX2_holds_13 rfl rfl ?_
      refine tg_X2_0 hC (by first | assumption | omega) fl_X2_21 dX2_holds_14 ?_
      refine tl_bytes hC (by first | assumption | omega) dX2_holds_17 ?_
      refine xv_icmp_ge (tgt := 25) hC dX2_holds_18 (by decide) (fun h18 => ?_) (fun h18 => ?_)
      · refine xv_iconst (v := nI 0) hC dX2_holds_25 (by decide) ?_
        exact xv_zreturn hC hr (by rfl) dX2_holds_26 (by first | exact rN0 (by simp [xIn, *]) | exact rN1 (by simp [xIn, *])) rfl rfl
      · refine xv_iconst (v := nI 1) hC dX2_holds_21 (by decide) ?_
        refine xv_goto (tgt := 26) hC dX2_holds_22 (by decide) ?_
        exact xv_zreturn hC hr (by rfl) dX2_holds_26 (by first | exact rN0 (by simp [xIn, *]) | exact rN1 (by simp [xIn, *])) rfl rfl
theorem ev_holds (l : Launch) (G : xD) (h sz : Nat) (E : cE) (S : cS) (O : cO) (od : Nat → Int32) (L : cL) (Rd : Nat × Int32) (w0 : xw) {b : Nat} (hb : b = 0) (hO : O.2.1 b ≤ 8000) (x : Int32) : xM l G yX2_holds cX2_holds 2 (some .boolean) 0 0 0 [.ref (oA h b), .int x] sz (wC G h E S O od L Rd w0) (some (.int (cI (xIn x (O.2.1 b))))) sz (wC G h E S O od L Rd w0) := by
  subst hb
  have := ev_holdsR l G h sz E S O od L Rd w0 (b := 0) (Or.inl rfl) x
  rw [xIn_and (show O.2.1 0 ≤ rm 0 from hO) (by decide)] at this
  exact this
set_option maxHeartbeats 1000000 in
set_option maxRecDepth 100000 in
theorem ev_atR (l : Launch) (G : xD) (h sz : Nat) (E : cE) (S : cS) (O : cO) (od : Nat → Int32) (L : cL) (Rd : Nat × Int32) (w0 : xw) {b : Nat} (hb : b = 0 ∨ b = 2) (hO : O.2.1 b ≤ 1000000) {i : Nat} (hi : i < 2 ^ 31) : xM l G yX2_at cX2_at 2 (some .int) 1 0 0 [.ref (oA h b), .int (nI i)] sz (wC G h E S O od L Rd w0) (some (.int (oAtR O b i))) (sz) (wC G h E S O od L Rd w0) := by
  refine xM_of (by decide) (Nat.le_of_ble_eq_true rfl) ?_
  intro A p e s m args below meth c hC hr hname
  have hC : xC p s m args meth c cX2_at 2 RX2 G A := hC
  have hr : meth.sig.returnType = (some .int) := hr
  show xV p l e _ s m args below meth c G A 2 _ sz _ 0 0 0 [(0, .ref (oA h b)), (1, .int (nI i))] []
  have hrm := rm_le b
  refine xv_aload_n hC dX2_at_0 rfl rfl ?_
  refine xv_iload_n hC dX2_at_1 rfl rfl ?_
  refine xv_callV hC Y_yX2_holds im_yX2_holds se_yX2_holds ml_X2_25 dX2_at_2 (ev_holdsR l G h sz E S O od L Rd w0 hb (nI i)) (wl_oA _ _ _ _ _ _ _ _ _ (by first | assumption | omega)) rfl rfl rfl (Nat.le_of_ble_eq_true rfl) ⟨Nat.le_of_ble_eq_true rfl, Nat.le_of_ble_eq_true rfl⟩ ⟨Nat.le_of_ble_eq_true rfl, Nat.le_of_ble_eq_true rfl⟩ ?_
  refine xv_rs ?_
  refine xv_if_eq (tgt := 21) hC dX2_at_5 (by decide) (fun h5 => ?_) (fun h5 => ?_)
  · rw [cI_0, xIn_nI hi (by omega), xIn_nI hi (by omega)] at h5
    have h5 : ¬ (i < O.2.1 b ∧ i < rm b) := fun z => by rw [decide_eq_true z.1, decide_eq_true z.2] at h5; cases h5
    refine xv_iconst (v := nI 0) hC dX2_at_21 (by decide) ?_
    exact xv_ireturn hC hr dX2_at_22 (by first | rw [oAtR, if_neg h5] | rw [oAtR, if_pos h5]) rfl rfl
  · rw [cI_n0, xIn_nI hi (by omega), xIn_nI hi (by omega), Bool.and_eq_true, decide_eq_true_eq, decide_eq_true_eq] at h5
    have h5r := h5.2
    refine xv_aload_n hC dX2_at_8 rfl rfl ?_
    refine tg_X2_0 hC (by first | assumption | omega) fl_X2_21 dX2_at_9 ?_
    refine xv_iload_n hC dX2_at_12 rfl rfl ?_
    refine al_bytes hC (by first | assumption | omega) dX2_at_13 rfl (by first | assumption | omega) ?_
    refine xv_sipush (v := nI 255) hC dX2_at_14 (by decide) ?_
    refine xv_iand hC dX2_at_17 ?_
    refine xv_goto (tgt := 22) hC dX2_at_18 (by decide) ?_
    exact xv_ireturn hC hr dX2_at_22 (by first | rw [oAtR, if_neg h5] | rw [oAtR, if_pos h5]) rfl rfl
theorem ev_at (l : Launch) (G : xD) (h sz : Nat) (E : cE) (S : cS) (O : cO) (od : Nat → Int32) (L : cL) (Rd : Nat × Int32) (w0 : xw) {b : Nat} (hb : b = 0) (hO : O.2.1 b ≤ 8000) {i : Nat} (hi : i < 2 ^ 31) : xM l G yX2_at cX2_at 2 (some .int) 1 0 0 [.ref (oA h b), .int (nI i)] sz (wC G h E S O od L Rd w0) (some (.int (oAt O b i))) sz (wC G h E S O od L Rd w0) := by
  subst hb
  have := ev_atR l G h sz E S O od L Rd w0 (b := 0) (Or.inl rfl) (by omega) hi
  rw [oAtR_0 hO] at this
  exact this
set_option maxHeartbeats 1000000 in
set_option maxRecDepth 100000 in
theorem ev_append (l : Launch) (G : xD) (h sz : Nat) (E : cE) (S : cS) (O : cO) (od : Nat → Int32) (L : cL) (Rd : Nat × Int32) (w0 : xw) {b : Nat} (hb : b = 0 ∨ b = 2) (hO : O.2.1 b + 1 ≤ 1000000) (x : Int32) : xM l G yX2_append cX2_append 2 none 0 0 0 [.ref (oA h b), .int x] sz (wC G h E S O od L Rd w0) (none) (sz) (wC G h E S (oApR O b x) od L Rd w0) := by
  refine xM_of (by decide) (Nat.le_of_ble_eq_true rfl) ?_
  intro A p e s m args below meth c hC hr hname
  have hC : xC p s m args meth c cX2_append 2 RX2 G A := hC
  have hr : meth.sig.returnType = none := hr
  show xV p l e _ s m args below meth c G A 2 _ sz _ 0 0 0 [(0, .ref (oA h b)), (1, .int x)] []
  have hrm := rm_le b
  refine xv_aload_n hC dX2_append_0 rfl rfl ?_
  refine tg_X2_1 hC (by first | assumption | omega) fl_X2_9 dX2_append_1 ?_
  refine xv_aload_n hC dX2_append_4 rfl rfl ?_
  refine tg_X2_0 hC (by first | assumption | omega) fl_X2_21 dX2_append_5 ?_
  refine tl_bytes hC (by first | assumption | omega) dX2_append_8 ?_
  refine xv_icmp_ge (tgt := 23) hC dX2_append_9 (by decide) (fun h9 => ?_) (fun h9 => ?_)
  · try simp (disch := omega) only [nI_leI, nI_ltI, nI_eq, xz_eq, xz_le, xz_gt, cI_0, cI_n0, cI_inj, lg_cmp_ge, lg_cmp_le, lg_cmp_gt, lg_cmp_lt, lg_cmp_eq, Bool.not_eq_true, Bool.not_eq_false, Nat.not_le, Nat.not_lt] at h9
    refine xv_aload_n hC dX2_append_23 rfl rfl ?_
    refine xv_dup hC dX2_append_24 rfl ?_
    refine tg_X2_1 hC (by first | assumption | omega) fl_X2_9 dX2_append_25 ?_
    refine xv_iconst (v := nI 1) hC dX2_append_28 (by decide) ?_
    refine xv_iadd hC dX2_append_29 ?_
    refine tp_X2_1 hC (by first | assumption | omega) fl_X2_9 dX2_append_30 (nI_add _ _) ?_
    exact xv_return hC hr dX2_append_33 rfl rfl (by first | (rw [oApR, if_neg (Nat.not_lt.mpr h9)]) | (simp [oApR, h9, xb, pk_vb]; done))
  · try simp (disch := omega) only [nI_leI, nI_ltI, nI_eq, xz_eq, xz_le, xz_gt, cI_0, cI_n0, cI_inj, lg_cmp_ge, lg_cmp_le, lg_cmp_gt, lg_cmp_lt, lg_cmp_eq, Bool.not_eq_true, Bool.not_eq_false, Nat.not_le, Nat.not_lt] at h9
    refine xv_aload_n hC dX2_append_12 rfl rfl ?_
    refine tg_X2_0 hC (by first | assumption | omega) fl_X2_21 dX2_append_13 ?_
    refine xv_aload_n hC dX2_append_16 rfl rfl ?_
    refine tg_X2_1 hC (by first | assumption | omega) fl_X2_9 dX2_append_17 ?_
    refine xv_iload_n hC dX2_append_20 rfl rfl ?_
    refine xv_i2b hC dX2_append_21 ?_
    refine as_bytes hC (by first | assumption | omega) dX2_append_22 rfl (by first | assumption | omega) ?_
    refine xv_aload_n hC dX2_append_23 rfl rfl ?_
    refine xv_dup hC dX2_append_24 rfl ?_
    refine tg_X2_1 hC (by first | assumption | omega) fl_X2_9 dX2_append_25 ?_
    refine xv_iconst (v := nI 1) hC dX2_append_28 (by decide) ?_
    refine xv_iadd hC dX2_append_29 ?_
    refine tp_X2_1 hC (by first | assumption | omega) fl_X2_9 dX2_append_30 (nI_add _ _) ?_
    exact xv_return hC hr dX2_append_33 rfl rfl (by first | (rw [oApR, if_neg (Nat.not_lt.mpr h9)]) | (simp [oApR, h9, xb, pk_vb]; done))
set_option maxHeartbeats 1000000 in
set_option maxRecDepth 100000 in
theorem ev_appendFour (l : Launch) (G : xD) (h sz : Nat) (E : cE) (S : cS) (O : cO) (od : Nat → Int32) (L : cL) (Rd : Nat × Int32) (w0 : xw) {b : Nat} (hb : b = 0 ∨ b = 2) (hO : O.2.1 b + 4 ≤ 1000000) (v : Int32) : xM l G yX2_appendFour cX2_appendFour 3 none 1 0 0 [.ref (oA h b), .int v] sz (wC G h E S O od L Rd w0) (none) (sz) (wC G h E S (oApsR O b (b4 v 4)) od L Rd w0) := by
  refine xM_of (by decide) (Nat.le_of_ble_eq_true rfl) ?_
  intro A p e s m args below meth c hC hr hname
  have hC : xC p s m args meth c cX2_appendFour 3 RX2 G A := hC
  have hr : meth.sig.returnType = none := hr
  show xV p l e _ s m args below meth c G A 3 _ sz _ 0 0 0 [(0, .ref (oA h b)), (1, .int v)] []
  refine xv_iconst (v := nI 0) hC dX2_appendFour_0 (by decide) ?_
  refine xv_istore_n hC dX2_appendFour_1 rfl (by decide) ?_
  have Lp2 : ∀ (n k : Nat), (k ≤ 4) → (4 < k + n) → xV p l e (xr 1 0 0) s m args below meth c G A 3 (MQ below (xQ G A (none) (sz) (wC G h E S (oApsR O b (b4 v 4)) od L Rd w0)) args s 0 0 A) sz (wC G h E S (oApsR O b (b4 v k)) od L Rd w0) 0 0 2 [(2, .int (nI (8 * k))), (0, .ref (oA h b)), (1, .int v)] [] := by
    intro n
    induction n with
    | zero =>
      intro k hk hn
      omega
    | succ n ih2 =>
      intro k hk hn
      refine xv_iload_n hC dX2_appendFour_2 rfl rfl ?_
      refine xv_bipush (v := nI 32) hC dX2_appendFour_3 (by decide) ?_
      refine xv_icmp_ge (tgt := 25) hC dX2_appendFour_5 (by decide) (fun h5 => ?_) (fun h5 => ?_)
      · try simp (disch := omega) only [nI_leI, nI_ltI, nI_eq, xz_eq, xz_le, xz_gt, cI_0, cI_n0, cI_inj, lg_cmp_ge, lg_cmp_le, lg_cmp_gt, lg_cmp_lt, lg_cmp_eq, Bool.not_eq_true, Bool.not_eq_false, Nat.not_le, Nat.not_lt] at h5
        exact xv_return hC hr dX2_appendFour_25 rfl rfl (by rw [show k = 4 by omega])
      · try simp (disch := omega) only [nI_leI, nI_ltI, nI_eq, xz_eq, xz_le, xz_gt, cI_0, cI_n0, cI_inj, lg_cmp_ge, lg_cmp_le, lg_cmp_gt, lg_cmp_lt, lg_cmp_eq, Bool.not_eq_true, Bool.not_eq_false, Nat.not_le, Nat.not_lt] at h5
        refine xv_aload_n hC dX2_appendFour_8 rfl rfl ?_
        refine xv_iload_n hC dX2_appendFour_9 rfl rfl ?_
        refine xv_iload_n hC dX2_appendFour_10 rfl rfl ?_
        refine xv_iushr hC dX2_appendFour_11 ?_
        refine xv_sipush (v := nI 255) hC dX2_appendFour_12 (by decide) ?_
        refine xv_iand hC dX2_appendFour_15 ?_
        refine xv_callV hC Y_yX2_append im_yX2_append se_yX2_append ml_X2_29 dX2_appendFour_16 (ev_append l G h sz E S (oApsR O b (b4 v k)) od L Rd w0 hb (by rw [oApsR_len, b4_len]; omega) (by4 v k)) (wl_oA _ _ _ _ _ _ _ _ _ (by first | assumption | omega)) rfl rfl rfl (Nat.le_of_ble_eq_true rfl) ⟨Nat.le_of_ble_eq_true rfl, Nat.le_of_ble_eq_true rfl⟩ ⟨Nat.le_of_ble_eq_true rfl, Nat.le_of_ble_eq_true rfl⟩ ?_
        refine xv_rn ?_
        refine xv_iinc hC dX2_appendFour_19 rfl (show _ = nI (8 * (k + 1)) from nI_add _ 8) (by decide) ?_
        refine xv_goto (tgt := 2) hC dX2_appendFour_22 (by decide) ?_
        refine xv_world (show _ = wC G h E S (oApsR O b (b4 v (k + 1))) od L Rd w0 by rw [b4_s, oApsR_s]) ?_
        exact ih2 (k + 1) (by omega) (by omega)
  exact Lp2 5 0 (by omega) (by omega)
set_option maxHeartbeats 1000000 in
set_option maxRecDepth 100000 in
theorem ev_appendCount (l : Launch) (G : xD) (h sz : Nat) (E : cE) (S : cS) (O : cO) (od : Nat → Int32) (L : cL) (Rd : Nat × Int32) (w0 : xw) {b : Nat} (hb : b = 0 ∨ b = 2) (hO : O.2.1 b + 10 ≤ 1000000) (v : Int64) : xM l G yX2_appendCount cX2_appendCount 6 none 1 0 0 [.ref (oA h b), .long v] sz (wC G h E S O od L Rd w0) (none) (sz) (wC G h E S (oApsR O b (cB 9 v)) od L Rd w0) := by
  refine xM_of (by decide) (Nat.le_of_ble_eq_true rfl) ?_
  intro A p e s m args below meth c hC hr hname
  have hC : xC p s m args meth c cX2_appendCount 6 RX2 G A := hC
  have hr : meth.sig.returnType = none := hr
  show xV p l e _ s m args below meth c G A 6 _ sz _ 0 0 0 [(0, .ref (oA h b)), (1, .long v)] []
  refine xv_lload_n hC dX2_appendCount_0 rfl rfl ?_
  refine xv_lstore_n hC dX2_appendCount_1 rfl (by decide) ?_
  refine xv_iconst (v := nI 1) hC dX2_appendCount_2 (by decide) ?_
  refine xv_istore hC dX2_appendCount_3 (by decide) ?_
  have Lp5 : ∀ (n k : Nat) (u : Int64) (xs : List Int32), (k ≤ 10) → (k + n = 11) → (xs.length < k) → (xs ++ cB (n - 1) u = cB 9 v) → xV p l e (xr 1 0 0) s m args below meth c G A 6 (MQ below (xQ G A (none) (sz) (wC G h E S (oApsR O b (cB 9 v)) od L Rd w0)) args s 0 0 A) sz (wC G h E S (oApsR O b xs) od L Rd w0) 0 0 5 [(5, .int (nI k)), (3, .long u), (0, .ref (oA h b)), (1, .long v)] [] := by
    intro n
    induction n with
    | zero =>
      intro k u xs hk hn hx hu
      omega
    | succ n ih5 =>
      intro k u xs hk hn hx hu
      refine xv_iload hC dX2_appendCount_5 rfl ?_
      refine xv_bipush (v := nI 10) hC dX2_appendCount_7 (by decide) ?_
      refine xv_icmp_ge (tgt := 46) hC dX2_appendCount_9 (by decide) (fun h9 => ?_) (fun h9 => ?_)
      · try simp (disch := omega) only [nI_leI, nI_ltI, nI_eq, xz_eq, xz_le, xz_gt, cI_0, cI_n0, cI_inj, lg_cmp_ge, lg_cmp_le, lg_cmp_gt, lg_cmp_lt, lg_cmp_eq, Bool.not_eq_true, Bool.not_eq_false, Nat.not_le, Nat.not_lt] at h9
        refine xv_aload_n hC dX2_appendCount_46 rfl rfl ?_
        refine xv_lload_n hC dX2_appendCount_47 rfl rfl ?_
        refine xv_l2i hC dX2_appendCount_48 ?_
        refine xv_callV hC Y_yX2_append im_yX2_append se_yX2_append ml_X2_29 dX2_appendCount_49 (ev_append l G h sz E S (oApsR O b xs) od L Rd w0 hb (by rw [oApsR_len]; omega) u.toInt32) (wl_oA _ _ _ _ _ _ _ _ _ (by first | assumption | omega)) rfl rfl rfl (Nat.le_of_ble_eq_true rfl) ⟨Nat.le_of_ble_eq_true rfl, Nat.le_of_ble_eq_true rfl⟩ ⟨Nat.le_of_ble_eq_true rfl, Nat.le_of_ble_eq_true rfl⟩ ?_
        refine xv_rn ?_
        exact xv_return hC hr dX2_appendCount_52 rfl rfl (by rw [← hu, cB_end (n := n + 1 - 1) (u := u) (by first | exact Or.inl (by omega) | exact Or.inr h18), oApsR_s])
      · try simp (disch := omega) only [nI_leI, nI_ltI, nI_eq, xz_eq, xz_le, xz_gt, cI_0, cI_n0, cI_inj, lg_cmp_ge, lg_cmp_le, lg_cmp_gt, lg_cmp_lt, lg_cmp_eq, Bool.not_eq_true, Bool.not_eq_false, Nat.not_le, Nat.not_lt] at h9
        refine xv_lload_n hC dX2_appendCount_12 rfl rfl ?_
        refine xv_bipush (v := nI 7) hC dX2_appendCount_13 (by decide) ?_
        refine xv_lushr hC dX2_appendCount_15 ?_
        refine xv_lconst (v := 0) hC dX2_appendCount_16 (by decide) ?_
        refine xv_lcmp hC dX2_appendCount_17 ?_
        refine xv_if_eq (tgt := 46) hC dX2_appendCount_18 (by decide) (fun h18 => ?_) (fun h18 => ?_)
        · rw [lg_cmp_eq] at h18
          refine xv_aload_n hC dX2_appendCount_46 rfl rfl ?_
          refine xv_lload_n hC dX2_appendCount_47 rfl rfl ?_
          refine xv_l2i hC dX2_appendCount_48 ?_
          refine xv_callV hC Y_yX2_append im_yX2_append se_yX2_append ml_X2_29 dX2_appendCount_49 (ev_append l G h sz E S (oApsR O b xs) od L Rd w0 hb (by rw [oApsR_len]; omega) u.toInt32) (wl_oA _ _ _ _ _ _ _ _ _ (by first | assumption | omega)) rfl rfl rfl (Nat.le_of_ble_eq_true rfl) ⟨Nat.le_of_ble_eq_true rfl, Nat.le_of_ble_eq_true rfl⟩ ⟨Nat.le_of_ble_eq_true rfl, Nat.le_of_ble_eq_true rfl⟩ ?_
          refine xv_rn ?_
          exact xv_return hC hr dX2_appendCount_52 rfl rfl (by rw [← hu, cB_end (n := n + 1 - 1) (u := u) (by first | exact Or.inl (by omega) | exact Or.inr h18), oApsR_s])
        · rw [lg_cmp_eq] at h18
          refine xv_aload_n hC dX2_appendCount_21 rfl rfl ?_
          refine xv_lload_n hC dX2_appendCount_22 rfl rfl ?_
          refine xv_ldc2 hC dX2_appendCount_23 kn_X2_33 ?_
          refine xv_land hC dX2_appendCount_26 ?_
          refine xv_l2i hC dX2_appendCount_27 ?_
          refine xv_sipush (v := nI 128) hC dX2_appendCount_28 (by decide) ?_
          refine xv_iadd hC dX2_appendCount_31 ?_
          refine xv_callV hC Y_yX2_append im_yX2_append se_yX2_append ml_X2_29 dX2_appendCount_32 (ev_append l G h sz E S (oApsR O b xs) od L Rd w0 hb (by rw [oApsR_len]; omega) ((u &&& 127).toInt32 + nI 128)) (wl_oA _ _ _ _ _ _ _ _ _ (by first | assumption | omega)) rfl rfl rfl (Nat.le_of_ble_eq_true rfl) ⟨Nat.le_of_ble_eq_true rfl, Nat.le_of_ble_eq_true rfl⟩ ⟨Nat.le_of_ble_eq_true rfl, Nat.le_of_ble_eq_true rfl⟩ ?_
          refine xv_rn ?_
          refine xv_lload_n hC dX2_appendCount_35 rfl rfl ?_
          refine xv_bipush (v := nI 7) hC dX2_appendCount_36 (by decide) ?_
          refine xv_lushr hC dX2_appendCount_38 ?_
          refine xv_lstore_n hC dX2_appendCount_39 rfl (by decide) ?_
          refine xv_iinc hC dX2_appendCount_40 rfl (xinc _) (by decide) ?_
          refine xv_goto (tgt := 5) hC dX2_appendCount_43 (by decide) ?_
          refine xv_world (show _ = wC G h E S (oApsR O b (xs ++ [(u &&& 127).toInt32 + nI 128])) od L Rd w0 by rw [oApsR_s]) ?_
          exact ih5 (k + 1) (ush7 u) _ (by omega) (by omega) (by rw [List.length_append]; simp; omega) (by rw [← hu, cB_go (show 1 ≤ n + 1 - 1 by omega) h18, List.append_assoc]; rfl)
  exact Lp5 10 1 v [] (by omega) (by omega) (by simp) rfl
set_option maxHeartbeats 1000000 in
set_option maxRecDepth 100000 in
theorem ev_fourAt (l : Launch) (G : xD) (h sz : Nat) (E : cE) (S : cS) (O : cO) (od : Nat → Int32) (L : cL) (Rd : Nat × Int32) (w0 : xw) {b : Nat} (hb : b = 0) (hO : O.2.1 b ≤ 8000) {i : Nat} (hi : i + 3 < 2 ^ 31) : xM l G yX2_fourAt cX2_fourAt 2 (some .int) 2 0 0 [.ref (oA h b), .int (nI i)] sz (wC G h E S O od L Rd w0) (some (.int (four (oAt O b) i))) (sz) (wC G h E S O od L Rd w0) := by
  refine xM_of (by decide) (Nat.le_of_ble_eq_true rfl) ?_
  intro A p e s m args below meth c hC hr hname
  have hC : xC p s m args meth c cX2_fourAt 2 RX2 G A := hC
  have hr : meth.sig.returnType = (some .int) := hr
  show xV p l e _ s m args below meth c G A 2 _ sz _ 0 0 0 [(0, .ref (oA h b)), (1, .int (nI i))] []
  refine xv_aload_n hC dX2_fourAt_0 rfl rfl ?_
  refine xv_iload_n hC dX2_fourAt_1 rfl rfl ?_
  refine xv_callV hC Y_yX2_at im_yX2_at se_yX2_at ml_X2_35 dX2_fourAt_2 (ev_at l G h sz E S O od L Rd w0 hb hO (i := i) (by omega)) (wl_oA _ _ _ _ _ _ _ _ _ (by first | assumption | omega)) rfl rfl rfl (Nat.le_of_ble_eq_true rfl) ⟨Nat.le_of_ble_eq_true rfl, Nat.le_of_ble_eq_true rfl⟩ ⟨Nat.le_of_ble_eq_true rfl, Nat.le_of_ble_eq_true rfl⟩ ?_
  refine xv_rs ?_
  refine xv_aload_n hC dX2_fourAt_5 rfl rfl ?_
  refine xv_iload_n hC dX2_fourAt_6 rfl rfl ?_
  refine xv_iconst (v := nI 1) hC dX2_fourAt_7 (by decide) ?_
  refine xv_iadd hC dX2_fourAt_8 ?_
  refine xv_cast (congrArg Value.int (nI_add _ _)) ?_
  refine xv_callV hC Y_yX2_at im_yX2_at se_yX2_at ml_X2_35 dX2_fourAt_9 (ev_at l G h sz E S O od L Rd w0 hb hO (i := i + 1) (by omega)) (wl_oA _ _ _ _ _ _ _ _ _ (by first | assumption | omega)) rfl rfl rfl (Nat.le_of_ble_eq_true rfl) ⟨Nat.le_of_ble_eq_true rfl, Nat.le_of_ble_eq_true rfl⟩ ⟨Nat.le_of_ble_eq_true rfl, Nat.le_of_ble_eq_true rfl⟩ ?_
  refine xv_rs ?_
  refine xv_bipush (v := nI 8) hC dX2_fourAt_12 (by decide) ?_
  refine xv_ishl hC dX2_fourAt_14 ?_
  refine xv_ior hC dX2_fourAt_15 ?_
  refine xv_aload_n hC dX2_fourAt_16 rfl rfl ?_
  refine xv_iload_n hC dX2_fourAt_17 rfl rfl ?_
  refine xv_iconst (v := nI 2) hC dX2_fourAt_18 (by decide) ?_
  refine xv_iadd hC dX2_fourAt_19 ?_
  refine xv_cast (congrArg Value.int (nI_add _ _)) ?_
  refine xv_callV hC Y_yX2_at im_yX2_at se_yX2_at ml_X2_35 dX2_fourAt_20 (ev_at l G h sz E S O od L Rd w0 hb hO (i := i + 2) (by omega)) (wl_oA _ _ _ _ _ _ _ _ _ (by first | assumption | omega)) rfl rfl rfl (Nat.le_of_ble_eq_true rfl) ⟨Nat.le_of_ble_eq_true rfl, Nat.le_of_ble_eq_true rfl⟩ ⟨Nat.le_of_ble_eq_true rfl, Nat.le_of_ble_eq_true rfl⟩ ?_
  refine xv_rs ?_
  refine xv_bipush (v := nI 16) hC dX2_fourAt_23 (by decide) ?_
  refine xv_ishl hC dX2_fourAt_25 ?_
  refine xv_ior hC dX2_fourAt_26 ?_
  refine xv_aload_n hC dX2_fourAt_27 rfl rfl ?_
  refine xv_iload_n hC dX2_fourAt_28 rfl rfl ?_
  refine xv_iconst (v := nI 3) hC dX2_fourAt_29 (by decide) ?_
  refine xv_iadd hC dX2_fourAt_30 ?_
  refine xv_cast (congrArg Value.int (nI_add _ _)) ?_
  refine xv_callV hC Y_yX2_at im_yX2_at se_yX2_at ml_X2_35 dX2_fourAt_31 (ev_at l G h sz E S O od L Rd w0 hb hO (i := i + 3) (by omega)) (wl_oA _ _ _ _ _ _ _ _ _ (by first | assumption | omega)) rfl rfl rfl (Nat.le_of_ble_eq_true rfl) ⟨Nat.le_of_ble_eq_true rfl, Nat.le_of_ble_eq_true rfl⟩ ⟨Nat.le_of_ble_eq_true rfl, Nat.le_of_ble_eq_true rfl⟩ ?_
  refine xv_rs ?_
  refine xv_bipush (v := nI 24) hC dX2_fourAt_34 (by decide) ?_
  refine xv_ishl hC dX2_fourAt_36 ?_
  refine xv_ior hC dX2_fourAt_37 ?_
  exact xv_ireturn hC hr dX2_fourAt_38 rfl rfl rfl
set_option maxHeartbeats 1000000 in
set_option maxRecDepth 100000 in
theorem ev_sumOfR (l : Launch) (G : xD) (h sz : Nat) (E : cE) (S : cS) (O : cO) (od : Nat → Int32) (L : cL) (Rd : Nat × Int32) (w0 : xw) {b : Nat} (hb : b = 0 ∨ b = 2) (hO : O.2.1 b ≤ 1000000) {a n0 : Nat} (hn0 : a + n0 < 2 ^ 31) : xM l G yX2_sumOf cX2_sumOf 5 (some .int) 2 0 0 [.ref (oA h b), .int (nI a), .int (nI (a + n0))] sz (wC G h E S O od L Rd w0) (some (.int (smF (oAtR O b) a n0))) (sz) (wC G h E S O od L Rd w0) := by
  refine xM_of (by decide) (Nat.le_of_ble_eq_true rfl) ?_
  intro A p e s m args below meth c hC hr hname
  have hC : xC p s m args meth c cX2_sumOf 5 RX2 G A := hC
  have hr : meth.sig.returnType = (some .int) := hr
  show xV p l e _ s m args below meth c G A 5 _ sz _ 0 0 0 [(0, .ref (oA h b)), (1, .int (nI a)), (2, .int (nI (a + n0)))] []
  refine xv_iconst (v := nI 0) hC dX2_sumOf_0 (by decide) ?_
  refine xv_istore_n hC dX2_sumOf_1 rfl (by decide) ?_
  refine xv_iload_n hC dX2_sumOf_2 rfl rfl ?_
  refine xv_istore hC dX2_sumOf_3 (by decide) ?_
  have Lp5 : ∀ (n k : Nat), (k ≤ n0) → (n0 < k + n) → xV p l e (xr 2 0 0) s m args below meth c G A 5 (MQ below (xQ G A (some (.int (smF (oAtR O b) a n0))) (sz) (wC G h E S O od L Rd w0)) args s 0 0 A) sz (wC G h E S O od L Rd w0) 0 0 5 [(4, .int (nI (a + k))), (3, .int (smF (oAtR O b) a k)), (0, .ref (oA h b)), (1, .int (nI a)), (2, .int (nI (a + n0)))] [] := by
    intro n
    induction n with
    | zero =>
      intro k hk hn2
      omega
    | succ n ih5 =>
      intro k hk hn2
      refine xv_iload hC dX2_sumOf_5 rfl ?_
      refine xv_iload_n hC dX2_sumOf_7 rfl rfl ?_
      refine xv_icmp_ge (tgt := 34) hC dX2_sumOf_8 (by decide) (fun h8 => ?_) (fun h8 => ?_)
      · try simp (disch := omega) only [nI_leI, nI_ltI, nI_eq, xz_eq, xz_le, xz_gt, cI_0, cI_n0, cI_inj, lg_cmp_ge, lg_cmp_le, lg_cmp_gt, lg_cmp_lt, lg_cmp_eq, Bool.not_eq_true, Bool.not_eq_false, Nat.not_le, Nat.not_lt] at h8
        refine xv_iload_n hC dX2_sumOf_34 rfl rfl ?_
        exact xv_ireturn hC hr dX2_sumOf_35 (by rw [show k = n0 by omega]) rfl rfl
      · try simp (disch := omega) only [nI_leI, nI_ltI, nI_eq, xz_eq, xz_le, xz_gt, cI_0, cI_n0, cI_inj, lg_cmp_ge, lg_cmp_le, lg_cmp_gt, lg_cmp_lt, lg_cmp_eq, Bool.not_eq_true, Bool.not_eq_false, Nat.not_le, Nat.not_lt] at h8
        refine xv_iload_n hC dX2_sumOf_11 rfl rfl ?_
        refine xv_aload_n hC dX2_sumOf_12 rfl rfl ?_
        refine xv_iload hC dX2_sumOf_13 rfl ?_
        refine xv_callV hC Y_yX2_at im_yX2_at se_yX2_at ml_X2_35 dX2_sumOf_15 (ev_atR l G h sz E S O od L Rd w0 hb hO (i := a + k) (by omega)) (wl_oA _ _ _ _ _ _ _ _ _ (by first | assumption | omega)) rfl rfl rfl (Nat.le_of_ble_eq_true rfl) ⟨Nat.le_of_ble_eq_true rfl, Nat.le_of_ble_eq_true rfl⟩ ⟨Nat.le_of_ble_eq_true rfl, Nat.le_of_ble_eq_true rfl⟩ ?_
        refine xv_rs ?_
        refine xv_ixor hC dX2_sumOf_18 ?_
        refine xv_bipush (v := nI 13) hC dX2_sumOf_19 (by decide) ?_
        refine xv_callS hC Y_yJ6_rotateLeft_7cf53 sm_yJ6_rotateLeft_7cf53 ml_X2_39 dX2_sumOf_21 (ev_rot l G sz _ (smF (oAtR O b) a k ^^^ oAtR O b (a + k))) rfl rfl (Nat.le_of_ble_eq_true rfl) ⟨Nat.le_of_ble_eq_true rfl, Nat.le_of_ble_eq_true rfl⟩ ⟨Nat.le_of_ble_eq_true rfl, Nat.le_of_ble_eq_true rfl⟩ ?_
        refine xv_rs ?_
        refine xv_ldc hC dX2_sumOf_24 kn_X2_44 ?_
        refine xv_imul hC dX2_sumOf_26 ?_
        refine xv_istore_n hC dX2_sumOf_27 rfl (by decide) ?_
        refine xv_iinc hC dX2_sumOf_28 rfl (xinc _) (by decide) ?_
        refine xv_goto (tgt := 5) hC dX2_sumOf_31 (by decide) ?_
        exact ih5 (k + 1) (by omega) (by omega)
  exact Lp5 (n0 + 1) 0 (by omega) (by omega)
theorem ev_sumOf (l : Launch) (G : xD) (h sz : Nat) (E : cE) (S : cS) (O : cO) (od : Nat → Int32) (L : cL) (Rd : Nat × Int32) (w0 : xw) {b : Nat} (hb : b = 0) (hO : O.2.1 b ≤ 8000) {a n0 : Nat} (hn0 : a + n0 < 2 ^ 31) : xM l G yX2_sumOf cX2_sumOf 5 (some .int) 2 0 0 [.ref (oA h b), .int (nI a), .int (nI (a + n0))] sz (wC G h E S O od L Rd w0) (some (.int (smF (oAt O b) a n0))) sz (wC G h E S O od L Rd w0) := by
  subst hb
  have := ev_sumOfR l G h sz E S O od L Rd w0 (b := 0) (Or.inl rfl) (by omega) hn0
  rw [oAtR_0 hO] at this
  exact this
