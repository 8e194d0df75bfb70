set_option maxHeartbeats 1000000 in
set_option maxRecDepth 100000 in
theorem ev_holdsSame (l : Launch) (G : xD) (h sz : Nat) (E : cE) (S : cS) (O : cO) (od : Nat → Int32) (L : cL) (Rd : Nat × Int32) (w0 : xw) {q i : Nat} (hq : q < 12 ∨ q = 25) (hi : i < 100) (v : Int64) : xM l G yX0_holdsSame cX0_holdsSame 4 (some .boolean) 0 0 0 [.ref (eA h q), .int (nI i), .long v] sz (wC G h E S O od L Rd w0) (some (.int (cI (eHolds E q i v)))) (sz) (wC G h E S O od L Rd w0) := by
  refine xM_of (by decide) (Nat.le_of_ble_eq_true rfl) ?_
  intro A p e s m args below meth c hC hr hname
  have hC : xC p s m args meth c cX0_holdsSame 4 RX0 G A := hC
  have hr : meth.sig.returnType = (some .boolean) := hr
  show xV p l e _ s m args below meth c G A 4 _ sz _ 0 0 0 [(0, .ref (eA h q)), (1, .int (nI i)), (2, .long v)] []
  refine xv_aload_n hC dX0_holdsSame_0 rfl rfl ?_
  refine tg_X0_0 hC (by first | assumption | omega) fl_X0_9 dX0_holdsSame_1 ?_
  refine xv_iload_n hC dX0_holdsSame_4 rfl rfl ?_
  refine al_there hC (by first | assumption | omega) dX0_holdsSame_5 rfl (by first | assumption | omega) ?_
  refine xv_if_eq (tgt := 24) hC dX0_holdsSame_6 (by decide) (fun h6 => ?_) (fun h6 => ?_)
  · try simp (disch := omega) only [nI_leI, nI_ltI, nI_eq, xz_eq, xz_le, xz_gt, cI_0, cI_n0, cI_inj, lg_cmp_ge, lg_cmp_le, lg_cmp_gt, lg_cmp_lt, lg_cmp_eq, Bool.not_eq_true, Bool.not_eq_false, Nat.not_le, Nat.not_lt] at h6
    refine xv_iconst (v := nI 0) hC dX0_holdsSame_24 (by decide) ?_
    exact xv_zreturn hC hr (by rfl) dX0_holdsSame_25 (by simp [eHolds, *, cI, nI]) rfl rfl
  · try simp (disch := omega) only [nI_leI, nI_ltI, nI_eq, xz_eq, xz_le, xz_gt, cI_0, cI_n0, cI_inj, lg_cmp_ge, lg_cmp_le, lg_cmp_gt, lg_cmp_lt, lg_cmp_eq, Bool.not_eq_true, Bool.not_eq_false, Nat.not_le, Nat.not_lt] at h6
    refine xv_aload_n hC dX0_holdsSame_9 rfl rfl ?_
    refine tg_X0_1 hC (by first | assumption | omega) fl_X0_15 dX0_holdsSame_10 ?_
    refine xv_iload_n hC dX0_holdsSame_13 rfl rfl ?_
    refine al_values hC (by first | assumption | omega) dX0_holdsSame_14 rfl (by first | assumption | omega) ?_
    refine xv_lload_n hC dX0_holdsSame_15 rfl rfl ?_
    refine xv_lcmp hC dX0_holdsSame_16 ?_
    refine xv_if_ne (tgt := 24) hC dX0_holdsSame_17 (by decide) (fun h17 => ?_) (fun h17 => ?_)
    · try simp (disch := omega) only [nI_leI, nI_ltI, nI_eq, xz_eq, xz_le, xz_gt, cI_0, cI_n0, cI_inj, lg_cmp_ge, lg_cmp_le, lg_cmp_gt, lg_cmp_lt, lg_cmp_eq, Bool.not_eq_true, Bool.not_eq_false, Nat.not_le, Nat.not_lt] at h17
      refine xv_iconst (v := nI 0) hC dX0_holdsSame_24 (by decide) ?_
      exact xv_zreturn hC hr (by rfl) dX0_holdsSame_25 (by simp [eHolds, *, cI, nI]) rfl rfl
    · try simp (disch := omega) only [nI_leI, nI_ltI, nI_eq, xz_eq, xz_le, xz_gt, cI_0, cI_n0, cI_inj, lg_cmp_ge, lg_cmp_le, lg_cmp_gt, lg_cmp_lt, lg_cmp_eq, Bool.not_eq_true, Bool.not_eq_false, Nat.not_le, Nat.not_lt] at h17
      refine xv_iconst (v := nI 1) hC dX0_holdsSame_20 (by decide) ?_
      refine xv_goto (tgt := 25) hC dX0_holdsSame_21 (by decide) ?_
      exact xv_zreturn hC hr (by rfl) dX0_holdsSame_25 (by simp [eHolds, *, cI, nI]) rfl rfl
set_option maxHeartbeats 1000000 in
set_option maxRecDepth 100000 in
theorem ev_set (l : Launch) (G : xD) (h sz : Nat) (E : cE) (S : cS) (O : cO) (od : Nat → Int32) (L : cL) (Rd : Nat × Int32) (w0 : xw) {q i : Nat} (hq : q < 12 ∨ q = 25) (hi : i < 100) (v : Int64) : xM l G yX0_set cX0_set 4 none 0 0 0 [.ref (eA h q), .int (nI i), .long v] sz (wC G h E S O od L Rd w0) (none) (sz) (wC G h (eSet E q i v) S O od L Rd w0) := by
  refine xM_of (by decide) (Nat.le_of_ble_eq_true rfl) ?_
  intro A p e s m args below meth c hC hr hname
  have hC : xC p s m args meth c cX0_set 4 RX0 G A := hC
  have hr : meth.sig.returnType = none := hr
  show xV p l e _ s m args below meth c G A 4 _ sz _ 0 0 0 [(0, .ref (eA h q)), (1, .int (nI i)), (2, .long v)] []
  refine xv_aload_n hC dX0_set_0 rfl rfl ?_
  refine tg_X0_0 hC (by first | assumption | omega) fl_X0_9 dX0_set_1 ?_
  refine xv_iload_n hC dX0_set_4 rfl rfl ?_
  refine al_there hC (by first | assumption | omega) dX0_set_5 rfl (by first | assumption | omega) ?_
  refine xv_if_ne (tgt := 26) hC dX0_set_6 (by decide) (fun h6 => ?_) (fun h6 => ?_)
  · try simp (disch := omega) only [nI_leI, nI_ltI, nI_eq, xz_eq, xz_le, xz_gt, cI_0, cI_n0, cI_inj, lg_cmp_ge, lg_cmp_le, lg_cmp_gt, lg_cmp_lt, lg_cmp_eq, Bool.not_eq_true, Bool.not_eq_false, Nat.not_le, Nat.not_lt] at h6
    refine xv_aload_n hC dX0_set_26 rfl rfl ?_
    refine tg_X0_1 hC (by first | assumption | omega) fl_X0_15 dX0_set_27 ?_
    refine xv_iload_n hC dX0_set_30 rfl rfl ?_
    refine xv_lload_n hC dX0_set_31 rfl rfl ?_
    refine as_values hC (by first | assumption | omega) dX0_set_32 rfl (by first | assumption | omega) ?_
    exact xv_return hC hr dX0_set_33 rfl rfl (by simp [eSet, h6, va_up_id])
  · try simp (disch := omega) only [nI_leI, nI_ltI, nI_eq, xz_eq, xz_le, xz_gt, cI_0, cI_n0, cI_inj, lg_cmp_ge, lg_cmp_le, lg_cmp_gt, lg_cmp_lt, lg_cmp_eq, Bool.not_eq_true, Bool.not_eq_false, Nat.not_le, Nat.not_lt] at h6
    refine xv_aload_n hC dX0_set_9 rfl rfl ?_
    refine tg_X0_0 hC (by first | assumption | omega) fl_X0_9 dX0_set_10 ?_
    refine xv_iload_n hC dX0_set_13 rfl rfl ?_
    refine xv_iconst (v := nI 1) hC dX0_set_14 (by decide) ?_
    refine as_there hC (by first | assumption | omega) dX0_set_15 rfl (by first | assumption | omega) (by first | exact cI_c1 | exact cI_c0 | rfl) ?_
    refine xv_aload_n hC dX0_set_16 rfl rfl ?_
    refine xv_dup hC dX0_set_17 rfl ?_
    refine tg_X0_2 hC (by first | assumption | omega) fl_X0_19 dX0_set_18 ?_
    refine xv_iconst (v := nI 1) hC dX0_set_21 (by decide) ?_
    refine xv_iadd hC dX0_set_22 ?_
    refine tp_X0_2 hC (by first | assumption | omega) fl_X0_19 dX0_set_23 (nI_add _ _) ?_
    refine xv_aload_n hC dX0_set_26 rfl rfl ?_
    refine tg_X0_1 hC (by first | assumption | omega) fl_X0_15 dX0_set_27 ?_
    refine xv_iload_n hC dX0_set_30 rfl rfl ?_
    refine xv_lload_n hC dX0_set_31 rfl rfl ?_
    refine as_values hC (by first | assumption | omega) dX0_set_32 rfl (by first | assumption | omega) ?_
    exact xv_return hC hr dX0_set_33 rfl rfl (by simp [eSet, h6, va_up_id])
set_option maxHeartbeats 1000000 in
set_option maxRecDepth 100000 in
theorem ev_drop (l : Launch) (G : xD) (h sz : Nat) (E : cE) (S : cS) (O : cO) (od : Nat → Int32) (L : cL) (Rd : Nat × Int32) (w0 : xw) {q i : Nat} (hq : q < 12 ∨ q = 25) (hi : i < 100) (hs : E.1 q i = true → 1 ≤ E.2.2 q) : xM l G yX0_drop cX0_drop 2 none 0 0 0 [.ref (eA h q), .int (nI i)] sz (wC G h E S O od L Rd w0) (none) (sz) (wC G h (eDrop E q i) S O od L Rd w0) := by
  refine xM_of (by decide) (Nat.le_of_ble_eq_true rfl) ?_
  intro A p e s m args below meth c hC hr hname
  have hC : xC p s m args meth c cX0_drop 2 RX0 G A := hC
  have hr : meth.sig.returnType = none := hr
  show xV p l e _ s m args below meth c G A 2 _ sz _ 0 0 0 [(0, .ref (eA h q)), (1, .int (nI i))] []
  refine xv_aload_n hC dX0_drop_0 rfl rfl ?_
  refine tg_X0_0 hC (by first | assumption | omega) fl_X0_9 dX0_drop_1 ?_
  refine xv_iload_n hC dX0_drop_4 rfl rfl ?_
  refine al_there hC (by first | assumption | omega) dX0_drop_5 rfl (by first | assumption | omega) ?_
  refine xv_if_eq (tgt := 26) hC dX0_drop_6 (by decide) (fun h6 => ?_) (fun h6 => ?_)
  · try simp (disch := omega) only [nI_leI, nI_ltI, nI_eq, xz_eq, xz_le, xz_gt, cI_0, cI_n0, cI_inj, lg_cmp_ge, lg_cmp_le, lg_cmp_gt, lg_cmp_lt, lg_cmp_eq, Bool.not_eq_true, Bool.not_eq_false, Nat.not_le, Nat.not_lt] at h6
    exact xv_return hC hr dX0_drop_26 rfl rfl (by simp [eDrop, h6, va_up_id])
  · try simp (disch := omega) only [nI_leI, nI_ltI, nI_eq, xz_eq, xz_le, xz_gt, cI_0, cI_n0, cI_inj, lg_cmp_ge, lg_cmp_le, lg_cmp_gt, lg_cmp_lt, lg_cmp_eq, Bool.not_eq_true, Bool.not_eq_false, Nat.not_le, Nat.not_lt] at h6
    refine xv_aload_n hC dX0_drop_9 rfl rfl ?_
    refine tg_X0_0 hC (by first | assumption | omega) fl_X0_9 dX0_drop_10 ?_
    refine xv_iload_n hC dX0_drop_13 rfl rfl ?_
    refine xv_iconst (v := nI 0) hC dX0_drop_14 (by decide) ?_
    refine as_there hC (by first | assumption | omega) dX0_drop_15 rfl (by first | assumption | omega) (by first | exact cI_c1 | exact cI_c0 | rfl) ?_
    refine xv_aload_n hC dX0_drop_16 rfl rfl ?_
    refine xv_dup hC dX0_drop_17 rfl ?_
    refine tg_X0_2 hC (by first | assumption | omega) fl_X0_19 dX0_drop_18 ?_
    refine xv_iconst (v := nI 1) hC dX0_drop_21 (by decide) ?_
    refine xv_isub hC dX0_drop_22 ?_
    refine tp_X0_2 hC (by first | assumption | omega) fl_X0_19 dX0_drop_23 (pk_sub (hs h6)) ?_
    exact xv_return hC hr dX0_drop_26 rfl rfl (by simp [eDrop, h6, va_up_id])
set_option maxHeartbeats 1000000 in
set_option maxRecDepth 100000 in
theorem ev_clear (l : Launch) (G : xD) (h sz : Nat) (E : cE) (S : cS) (O : cO) (od : Nat → Int32) (L : cL) (Rd : Nat × Int32) (w0 : xw) {q : Nat} (hq : q < 12 ∨ q = 25) : xM l G yX0_clear cX0_clear 2 none 0 0 0 [.ref (eA h q)] sz (wC G h E S O od L Rd w0) (none) (sz) (wC G h (eClr E q) S O od L Rd w0) := by
  refine xM_of (by decide) (Nat.le_of_ble_eq_true rfl) ?_
  intro A p e s m args below meth c hC hr hname
  have hC : xC p s m args meth c cX0_clear 2 RX0 G A := hC
  have hr : meth.sig.returnType = none := hr
  show xV p l e _ s m args below meth c G A 2 _ sz _ 0 0 0 [(0, .ref (eA h q))] []
  refine xv_iconst (v := nI 0) hC dX0_clear_0 (by decide) ?_
  refine xv_istore_n hC dX0_clear_1 rfl (by decide) ?_
  have Lp2 : ∀ (n i : Nat), (i ≤ 100) → (100 < i + n) → xV p l e (xr 0 0 0) s m args below meth c G A 2 (MQ below (xQ G A (none) (sz) (wC G h (eClr E q) S O od L Rd w0)) args s 0 0 A) sz (wC G h (va_up E.1 q (fun j => if j < i then false else E.1 q j), E.2) S O od L Rd w0) 0 0 2 [(1, .int (nI i)), (0, .ref (eA h q))] [] := by
    intro n
    induction n with
    | zero =>
      intro i hi hn
      omega
    | succ n ih2 =>
      intro i hi hn
      refine xv_iload_n hC dX0_clear_2 rfl rfl ?_
      refine xv_bipush (v := nI 100) hC dX0_clear_3 (by decide) ?_
      refine xv_icmp_ge (tgt := 21) hC dX0_clear_5 (by decide) (fun h5 => ?_) (fun h5 => ?_)
      · try simp (disch := omega) only [nI_leI, nI_ltI, nI_eq, xz_eq, xz_le, xz_gt, cI_0, cI_n0, cI_inj, lg_cmp_ge, lg_cmp_le, lg_cmp_gt, lg_cmp_lt, lg_cmp_eq, Bool.not_eq_true, Bool.not_eq_false, Nat.not_le, Nat.not_lt] at h5
        refine xv_aload_n hC dX0_clear_21 rfl rfl ?_
        refine xv_iconst (v := nI 0) hC dX0_clear_22 (by decide) ?_
        refine tp_X0_2 hC (by first | assumption | omega) fl_X0_19 dX0_clear_23 rfl ?_
        exact xv_return hC hr dX0_clear_26 rfl rfl (by rw [show i = 100 by omega]; simp [eClr])
      · try simp (disch := omega) only [nI_leI, nI_ltI, nI_eq, xz_eq, xz_le, xz_gt, cI_0, cI_n0, cI_inj, lg_cmp_ge, lg_cmp_le, lg_cmp_gt, lg_cmp_lt, lg_cmp_eq, Bool.not_eq_true, Bool.not_eq_false, Nat.not_le, Nat.not_lt] at h5
        refine xv_aload_n hC dX0_clear_8 rfl rfl ?_
        refine tg_X0_0 hC (by first | assumption | omega) fl_X0_9 dX0_clear_9 ?_
        refine xv_iload_n hC dX0_clear_12 rfl rfl ?_
        refine xv_iconst (v := nI 0) hC dX0_clear_13 (by decide) ?_
        refine as_there hC (by first | assumption | omega) dX0_clear_14 rfl (by first | assumption | omega) (by first | exact cI_c1 | exact cI_c0 | rfl) ?_
        refine xv_iinc hC dX0_clear_15 rfl (xinc _) (by decide) ?_
        refine xv_goto (tgt := 2) hC dX0_clear_18 (by decide) ?_
        refine xv_world (show _ = wC G h (va_up E.1 q (fun j => if j < i + 1 then false else E.1 q j), E.2) S O od L Rd w0 by rw [← clr_s (E.1 q) i]; simp [bx_uu, va_up_self]) ?_
        exact ih2 (i + 1) (by omega) (by omega)
  refine xv_world (show _ = wC G h (va_up E.1 q (fun j => if j < 0 then false else E.1 q j), E.2) S O od L Rd w0 by simp [va_up_id]) ?_
  exact Lp2 101 0 (by omega) (by omega)
set_option maxHeartbeats 1000000 in
set_option maxRecDepth 100000 in
theorem ev_isLike (l : Launch) (G : xD) (h sz : Nat) (E : cE) (S : cS) (O : cO) (od : Nat → Int32) (L : cL) (Rd : Nat × Int32) (w0 : xw) {q q' : Nat} (hq : q < 12 ∨ q = 25) (hq' : q' < 12 ∨ q' = 25) (hs : E.2.2 q < 2 ^ 31) (hs' : E.2.2 q' < 2 ^ 31) : xM l G yX0_isLike cX0_isLike 3 (some .boolean) 1 0 0 [.ref (eA h q), .ref (eA h q')] sz (wC G h E S O od L Rd w0) (some (.int (cI (eLike E q q')))) (sz) (wC G h E S O od L Rd w0) := by
  refine xM_of (by decide) (Nat.le_of_ble_eq_true rfl) ?_
  intro A p e s m args below meth c hC hr hname
  have hC : xC p s m args meth c cX0_isLike 3 RX0 G A := hC
  have hr : meth.sig.returnType = (some .boolean) := hr
  show xV p l e _ s m args below meth c G A 3 _ sz _ 0 0 0 [(0, .ref (eA h q)), (1, .ref (eA h q'))] []
  refine xv_aload_n hC dX0_isLike_0 rfl rfl ?_
  refine tg_X0_2 hC (by first | assumption | omega) fl_X0_19 dX0_isLike_1 ?_
  refine xv_aload_n hC dX0_isLike_4 rfl rfl ?_
  refine tg_X0_2 hC (by first | assumption | omega) fl_X0_19 dX0_isLike_5 ?_
  refine xv_icmp_eq (tgt := 13) hC dX0_isLike_8 (by decide) (fun h8 => ?_) (fun h8 => ?_)
  · try simp (disch := omega) only [nI_leI, nI_ltI, nI_eq, xz_eq, xz_le, xz_gt, cI_0, cI_n0, cI_inj, lg_cmp_ge, lg_cmp_le, lg_cmp_gt, lg_cmp_lt, lg_cmp_eq, Bool.not_eq_true, Bool.not_eq_false, Nat.not_le, Nat.not_lt] at h8
    refine xv_iconst (v := nI 0) hC dX0_isLike_13 (by decide) ?_
    refine xv_istore_n hC dX0_isLike_14 rfl (by decide) ?_
    have Lp15 : ∀ (n i : Nat), (i ≤ 100) → (100 < i + n) → (∀ j, j < i → (!(E.1 q j) || eHolds E q' j (E.2.1 q j)) = true) → xV p l e (xr 1 0 0) s m args below meth c G A 3 (MQ below (xQ G A (some (.int (cI (eLike E q q')))) (sz) (wC G h E S O od L Rd w0)) args s 0 0 A) sz (wC G h E S O od L Rd w0) 0 0 15 [(2, .int (nI i)), (0, .ref (eA h q)), (1, .ref (eA h q'))] [] := by
      intro n
      induction n with
      | zero =>
        intro i hi hn ha
        omega
      | succ n ih15 =>
        intro i hi hn ha
        refine xv_iload_n hC dX0_isLike_15 rfl rfl ?_
        refine xv_bipush (v := nI 100) hC dX0_isLike_16 (by decide) ?_
        refine xv_icmp_ge (tgt := 52) hC dX0_isLike_18 (by decide) (fun h18 => ?_) (fun h18 => ?_)
        · try simp (disch := omega) only [nI_leI, nI_ltI, nI_eq, xz_eq, xz_le, xz_gt, cI_0, cI_n0, cI_inj, lg_cmp_ge, lg_cmp_le, lg_cmp_gt, lg_cmp_lt, lg_cmp_eq, Bool.not_eq_true, Bool.not_eq_false, Nat.not_le, Nat.not_lt] at h18
          refine xv_iconst (v := nI 1) hC dX0_isLike_52 (by decide) ?_
          exact xv_zreturn hC hr (by rfl) dX0_isLike_53 (by rw [eLike, show eIn E q q' = true from (allB_iff _ 100).mpr (fun j hj => ha j (by omega))]; simp [*, cI, nI]) rfl rfl
        · try simp (disch := omega) only [nI_leI, nI_ltI, nI_eq, xz_eq, xz_le, xz_gt, cI_0, cI_n0, cI_inj, lg_cmp_ge, lg_cmp_le, lg_cmp_gt, lg_cmp_lt, lg_cmp_eq, Bool.not_eq_true, Bool.not_eq_false, Nat.not_le, Nat.not_lt] at h18
          refine xv_aload_n hC dX0_isLike_21 rfl rfl ?_
          refine tg_X0_0 hC (by first | assumption | omega) fl_X0_9 dX0_isLike_22 ?_
          refine xv_iload_n hC dX0_isLike_25 rfl rfl ?_
          refine al_there hC (by first | assumption | omega) dX0_isLike_26 rfl (by first | assumption | omega) ?_
          refine xv_if_eq (tgt := 46) hC dX0_isLike_27 (by decide) (fun h27 => ?_) (fun h27 => ?_)
          · try simp (disch := omega) only [nI_leI, nI_ltI, nI_eq, xz_eq, xz_le, xz_gt, cI_0, cI_n0, cI_inj, lg_cmp_ge, lg_cmp_le, lg_cmp_gt, lg_cmp_lt, lg_cmp_eq, Bool.not_eq_true, Bool.not_eq_false, Nat.not_le, Nat.not_lt] at h27
            refine xv_iinc hC dX0_isLike_46 rfl (xinc _) (by decide) ?_
            refine xv_goto (tgt := 15) hC dX0_isLike_49 (by decide) ?_
            exact ih15 (i + 1) (by omega) (by omega) (lt_s ha (by simp [*]))
          · try simp (disch := omega) only [nI_leI, nI_ltI, nI_eq, xz_eq, xz_le, xz_gt, cI_0, cI_n0, cI_inj, lg_cmp_ge, lg_cmp_le, lg_cmp_gt, lg_cmp_lt, lg_cmp_eq, Bool.not_eq_true, Bool.not_eq_false, Nat.not_le, Nat.not_lt] at h27
            refine xv_aload_n hC dX0_isLike_30 rfl rfl ?_
            refine xv_iload_n hC dX0_isLike_31 rfl rfl ?_
            refine xv_aload_n hC dX0_isLike_32 rfl rfl ?_
            refine tg_X0_1 hC (by first | assumption | omega) fl_X0_15 dX0_isLike_33 ?_
            refine xv_iload_n hC dX0_isLike_36 rfl rfl ?_
            refine al_values hC (by first | assumption | omega) dX0_isLike_37 rfl (by first | assumption | omega) ?_
            refine xv_callV hC Y_yX0_holdsSame im_yX0_holdsSame se_yX0_holdsSame ml_X0_23 dX0_isLike_38 (ev_holdsSame l G h sz E S O od L Rd w0 hq' (show i < 100 by omega) (E.2.1 q i)) (wl_eA _ _ _ _ _ _ _ _ _ (by first | assumption | omega)) rfl rfl rfl (Nat.le_of_ble_eq_true rfl) ⟨Nat.le_of_ble_eq_true rfl, Nat.le_of_ble_eq_true rfl⟩ ⟨Nat.le_of_ble_eq_true rfl, Nat.le_of_ble_eq_true rfl⟩ ?_
            refine xv_rs ?_
            refine xv_if_ne (tgt := 46) hC dX0_isLike_41 (by decide) (fun h41 => ?_) (fun h41 => ?_)
            · try simp (disch := omega) only [nI_leI, nI_ltI, nI_eq, xz_eq, xz_le, xz_gt, cI_0, cI_n0, cI_inj, lg_cmp_ge, lg_cmp_le, lg_cmp_gt, lg_cmp_lt, lg_cmp_eq, Bool.not_eq_true, Bool.not_eq_false, Nat.not_le, Nat.not_lt] at h41
              refine xv_iinc hC dX0_isLike_46 rfl (xinc _) (by decide) ?_
              refine xv_goto (tgt := 15) hC dX0_isLike_49 (by decide) ?_
              exact ih15 (i + 1) (by omega) (by omega) (lt_s ha (by simp [*]))
            · try simp (disch := omega) only [nI_leI, nI_ltI, nI_eq, xz_eq, xz_le, xz_gt, cI_0, cI_n0, cI_inj, lg_cmp_ge, lg_cmp_le, lg_cmp_gt, lg_cmp_lt, lg_cmp_eq, Bool.not_eq_true, Bool.not_eq_false, Nat.not_le, Nat.not_lt] at h41
              refine xv_iconst (v := nI 0) hC dX0_isLike_44 (by decide) ?_
              exact xv_zreturn hC hr (by rfl) dX0_isLike_45 (by rw [eLike, show eIn E q q' = false from allB_no (show i < 100 by omega) (by simp [*])]; simp [cI, nI]) rfl rfl
    exact Lp15 101 0 (by omega) (by omega) lt_0
  · try simp (disch := omega) only [nI_leI, nI_ltI, nI_eq, xz_eq, xz_le, xz_gt, cI_0, cI_n0, cI_inj, lg_cmp_ge, lg_cmp_le, lg_cmp_gt, lg_cmp_lt, lg_cmp_eq, Bool.not_eq_true, Bool.not_eq_false, Nat.not_le, Nat.not_lt] at h8
    refine xv_iconst (v := nI 0) hC dX0_isLike_11 (by decide) ?_
    exact xv_zreturn hC hr (by rfl) dX0_isLike_12 (by simp [eLike, *, cI, nI]) rfl rfl
