set_option maxHeartbeats 1000000 in
set_option maxRecDepth 100000 in
theorem lw_loop {p : Program} {l : Launch} {e : Env} {s : State} {m : MethodId} {below : List Frame} {meth : Method} {c : Code} {G : xD} {b L : Nat} {xs : Nat → Int32} (hK : LawC p l s m meth c G b L xs) {h : Nat} : ∀ (n i sz cs ss : Nat) (E : cE) (S : cS) (O : cO) (on : Nat → Nat) (sec : Nat) (po : Nat → Option Nat) (re cf : Nat → Int32) (so : Nat → Nat) (seen rf : Int32) (Rd : cR) (ra : Nat → Nat) (Ra : cR) (M : mT) (f : Nat → Int64), L + 5 ≤ i + 5 * n → i ≤ 2565 → Rel E S O sec po re cf so M → (∀ j, ra j ≤ 8000) → cs ≤ 110 + i → ss ≤ 53232 + 6 * i →
    xV p l e room_1 s m #[Value.ref b] below meth c G (fun q : Nat => s.heap.size ≤ q) 8 (lw_Z below #[Value.ref b] s) sz (wC G h (E) (S) (O) (oN (on)) (sec, lP (po), re, cf, oN (so), seen, rf) Rd (wX G h (oN (ra)) Ra (wM G (h + 57) (M) (wO G (h + 74) (f))))) cs ss 23 [(4, .int (nI i)), (3, .ref (h + 74)), (2, .ref (h + 57)), (1, .ref h), (0, .ref b)] [] := by
  have hC := hK.1
  have hbA : ¬ (fun q : Nat => s.heap.size ≤ q) b := Nat.not_le.mpr hK.2.2.2.2.1
  have hL := hK.2.2.2.2.2.1
  intro n
  induction n with
  | zero =>
    intro i sz cs ss E S O on sec po re cf so seen rf Rd ra Ra M f hn hi hr hA hcs hss
    refine xv_iload hC dL_law_23 rfl ?_
    refine xv_aload_n hC dL_law_25 rfl rfl ?_
    refine xv_slen hC hK.2.2.2.1 hK.2.2.2.2.1 hbA dL_law_26 ?_
    refine xv_iconst (v := nI 5) hC dL_law_27 (by decide) ?_
    refine xv_isub hC dL_law_28 ?_
    refine xv_icmp_gt (tgt := 761) hC dL_law_29 (by decide) (fun hx => ?_) (fun hx => absurd ((len5 hL hi).mpr (by omega)) hx)
    refine xv_iconst (v := 1) hC dL_law_761 (by decide) ?_
    exact xv_lawret hK (by omega) (by omega)
  | succ n ih =>
    intro i sz cs ss E S O on sec po re cf so seen rf Rd ra Ra M f hn hi hr hA hcs hss
    refine xv_iload hC dL_law_23 rfl ?_
    refine xv_aload_n hC dL_law_25 rfl rfl ?_
    refine xv_slen hC hK.2.2.2.1 hK.2.2.2.2.1 hbA dL_law_26 ?_
    refine xv_iconst (v := nI 5) hC dL_law_27 (by decide) ?_
    refine xv_isub hC dL_law_28 ?_
    refine xv_icmp_gt (tgt := 761) hC dL_law_29 (by decide) (fun hx => ?_) (fun hx => ?_)
    · refine xv_iconst (v := 1) hC dL_law_761 (by decide) ?_
      exact xv_lawret hK (by omega) (by omega)
    · have hi5 : i + 5 ≤ L := Nat.le_of_not_lt (fun z => hx ((len5 hL hi).mpr z))
      have hJ : LawJ p l e s m below meth c G b h i := by
        intro sz cs ss E S O on sec po re cf so seen rf Rd ra Ra M f hr hA hcs hss
        refine xv_iinc hC dL_law_755 rfl (nI_add i 5) (by decide) ?_
        refine xv_goto (tgt := 23) hC dL_law_758 (by decide) ?_
        exact ih (i + 5) sz cs ss E S O on sec po re cf so seen rf Rd ra Ra M f (by omega) (by omega) hr hA hcs hss
      refine xv_aload_n hC dL_law_32 rfl rfl ?_
      refine xv_iload hC dL_law_33 rfl ?_
      refine xv_sld hC hK.2.2.2.1 hK.2.2.2.2.1 hbA (by omega) (by omega) dL_law_35 ?_
      refine xv_bipush (v := nI 15) hC dL_law_36 (by decide) ?_
      refine xv_iand hC dL_law_38 ?_
      obtain ⟨k, hk, hke⟩ : ∃ k : Nat, k < 2 ^ 4 ∧ xs i &&& nI 15 = nI k := pk_andE (xs i) 4 (by decide)
      refine xv_cast (congrArg Value.int hke) ?_
      have hk16 : k = 0 ∨ k = 1 ∨ k = 2 ∨ k = 3 ∨ k = 4 ∨ k = 5 ∨ k = 6 ∨ k = 7 ∨ k = 8 ∨ k = 9 ∨ k = 10 ∨ k = 11 ∨ k = 12 ∨ k = 13 ∨ k = 14 ∨ k = 15 := by omega
      rcases hk16 with hk | hk | hk | hk | hk | hk | hk | hk | hk | hk | hk | hk | hk | hk | hk | hk
      · rw [hk]
        refine xv_tabIn (tgt := 116) (off := 77) hC dL_law_39 (by decide) (by decide) (by decide) (by decide) ?_
        exact lc_put hK hJ hi5 hr hA hcs hss
      · rw [hk]
        refine xv_tabIn (tgt := 197) (off := 158) hC dL_law_39 (by decide) (by decide) (by decide) (by decide) ?_
        exact lc_take hK hJ hi5 hr hA hcs hss
      · rw [hk]
        refine xv_tabIn (tgt := 234) (off := 195) hC dL_law_39 (by decide) (by decide) (by decide) (by decide) ?_
        exact lc_get hK hJ hi5 hr hA hcs hss
      · rw [hk]
        refine xv_tabIn (tgt := 301) (off := 262) hC dL_law_39 (by decide) (by decide) (by decide) (by decide) ?_
        exact lc_needs hK hJ hi5 hr hA hcs hss
      · rw [hk]
        refine xv_tabIn (tgt := 366) (off := 327) hC dL_law_39 (by decide) (by decide) (by decide) (by decide) ?_
        exact lc_version hK hJ hi5 hr hA hcs hss
      · rw [hk]
        refine xv_tabIn (tgt := 391) (off := 352) hC dL_law_39 (by decide) (by decide) (by decide) (by decide) ?_
        exact lc_mode hK hJ hi5 hr hA hcs hss
      · rw [hk]
        refine xv_tabIn (tgt := 416) (off := 377) hC dL_law_39 (by decide) (by decide) (by decide) (by decide) ?_
        exact lc_busy hK hJ hi5 hr hA hcs hss
      · rw [hk]
        refine xv_tabIn (tgt := 457) (off := 418) hC dL_law_39 (by decide) (by decide) (by decide) (by decide) ?_
        exact lc_save hK hJ hi5 hr hA hcs hss
      · rw [hk]
        refine xv_tabIn (tgt := 498) (off := 459) hC dL_law_39 (by decide) (by decide) (by decide) (by decide) ?_
        exact lc_octet hK hJ hi5 hr hA hcs hss
      · rw [hk]
        refine xv_tabIn (tgt := 554) (off := 515) hC dL_law_39 (by decide) (by decide) (by decide) (by decide) ?_
        exact lc_cut hK hJ hi5 hr hA hcs hss
      · rw [hk]
        refine xv_tabIn (tgt := 579) (off := 540) hC dL_law_39 (by decide) (by decide) (by decide) (by decide) ?_
        exact lc_add hK hJ hi5 hr hA hcs hss
      · rw [hk]
        refine xv_tabIn (tgt := 606) (off := 567) hC dL_law_39 (by decide) (by decide) (by decide) (by decide) ?_
        exact lc_poke hK hJ hi5 hr hA hcs hss
      · rw [hk]
        refine xv_tabIn (tgt := 643) (off := 604) hC dL_law_39 (by decide) (by decide) (by decide) (by decide) ?_
        exact lc_load hK hJ hi5 hr hA hcs hss
      · rw [hk]
        refine xv_tabIn (tgt := 656) (off := 617) hC dL_law_39 (by decide) (by decide) (by decide) (by decide) ?_
        exact lc_told hK hJ hi5 hr hA hcs hss
      · rw [hk]
        refine xv_tabIn (tgt := 693) (off := 654) hC dL_law_39 (by decide) (by decide) (by decide) (by decide) ?_
        exact lc_count hK hJ hi5 hr hA hcs hss
      · rw [hk]
        refine xv_tabIn (tgt := 718) (off := 679) hC dL_law_39 (by decide) (by decide) (by decide) (by decide) ?_
        exact lc_same hK hJ hi5 hr hA hcs hss
theorem lw_w0 (G : xD) (h : Nat) : xup (wM G (h + 57) sM (wC G h sE sS sO (oN sN) sL (0, nI 0) (wX G h (oN sN) (0, nI 0) (fun _ => none)))) (h + 74) (.inl (G.2 1, zL 1)) = wC G h (sE) (sS) (sO) (oN (sN)) (0, lP (sPo), sZ, sZ, oN (sN), nI 0, nI 0) (0, nI 0) (wX G h (oN (sN)) (0, nI 0) (wM G (h + 57) sM (wO G (h + 74) (fun _ => 0)))) := by
  have h1 := (wM_loc G (h + 57) sM).com (cLoc.one (h + 74) (.inl (G.2 1, zL 1))) (by omega) (wC G h sE sS sO (oN sN) sL (0, nI 0) (wX G h (oN sN) (0, nI 0) (fun _ => none)))
  have h2 := (wCX_loc G h sE sS sO (oN sN) sL (0, nI 0) (oN sN) (0, nI 0)).com (cLoc.one (h + 74) (.inl (G.2 1, zL 1))) (by omega) (fun _ => none)
  rw [wCM]
  refine h1.symm.trans (congrArg (wM G (h + 57) sM) ?_)
  exact h2.symm
set_option maxHeartbeats 1000000 in
set_option maxRecDepth 100000 in
theorem whole_start {p : Program} {e : Env} {s : State} {m : MethodId} {below : List Frame} {meth : Method} {c : Code} (l : Launch) (hlt : l.stackTraces = false) {b L : Nat} {xs : Nat → Int32} (hL : L ≤ 2560) (C0 : lw_At p s m meth c b L xs) : W p l e room_1 s m #[Value.ref b] below meth c s.heap [] 0 0 (lw_Z below #[Value.ref b] s) (entryFrame m ([Value.ref b] : List Value).toArray 8) := by
  obtain ⟨hx, hb, hr, hml, hown, hts, hX, hbl, hlocks, hgv⟩ := id C0
  obtain ⟨G, hG⟩ := xG_ex hts
  have hC : xC p s m #[Value.ref b] meth c cL_law 8 RL G (fun q : Nat => s.heap.size ≤ q) := ⟨hx, hb, hml, hown, fun w hw => hts w (xW_tbl hw), hG, hlocks, fun q hq => hq⟩
  have hK : LawC p l s m meth c G b L xs := ⟨hC, hlt, xZ_ex hts hgv, hX, hbl, hL, hr⟩
  obtain ⟨h, hh⟩ : ∃ h, s.heap.size = h := ⟨_, rfl⟩
  have key : xV p l e room_1 s m #[Value.ref b] below meth c G (fun q : Nat => s.heap.size ≤ q) 8 (lw_Z below #[Value.ref b] s) h (fun _ => none) 0 0 0 [(0, .ref b)] [] := by
    refine xv_new hC fX_X6 dL_law_0 cl_L_8 it_X6 in_X6 (fs := [.null, .null, .null, .null]) (fun j hj => by match j, hj with | 0, _ => rfl | 1, _ => rfl | 2, _ => rfl | 3, _ => rfl) (Nat.le_of_ble_eq_true rfl) (Nat.le_of_ble_eq_true rfl) ?_
    refine xv_dup hC dL_law_3 rfl ?_
    refine xv_callI hC Y_yX6_init im_yX6_init rfl ml_L_21 dL_law_4 (ei_FF l G h _) rfl rfl (Nat.le_of_ble_eq_true rfl) ⟨(Nat.le_of_ble_eq_true rfl), (Nat.le_of_ble_eq_true rfl)⟩ ⟨(Nat.le_of_ble_eq_true rfl), (Nat.le_of_ble_eq_true rfl)⟩ ?_
    refine xv_rn ?_
    refine xv_le (cFF_le G h _) ?_
    refine xv_astore_n hC dL_law_7 rfl (by decide) ?_
    refine xv_new hC fX_X7 dL_law_8 cl_L_22 it_X7 in_X7 (fs := [.int 0, .null, .null, .null, .null, .int 0, .int 0, .int 0, .int 0, .int 0, .null, .int 0, .null, .int 0, .int 0, .null, .null, .null, .null, .null, .null, .null, .int 0, .int 0, .long 0, .null, .null, .null]) (fun j hj => by match j, hj with | 0, _ => rfl | 1, _ => rfl | 2, _ => rfl | 3, _ => rfl | 4, _ => rfl | 5, _ => rfl | 6, _ => rfl | 7, _ => rfl | 8, _ => rfl | 9, _ => rfl | 10, _ => rfl | 11, _ => rfl | 12, _ => rfl | 13, _ => rfl | 14, _ => rfl | 15, _ => rfl | 16, _ => rfl | 17, _ => rfl | 18, _ => rfl | 19, _ => rfl | 20, _ => rfl | 21, _ => rfl | 22, _ => rfl | 23, _ => rfl | 24, _ => rfl | 25, _ => rfl | 26, _ => rfl | 27, _ => rfl | j + 28, hj => exact absurd hj (by omega)) (Nat.le_of_ble_eq_true rfl) (Nat.le_of_ble_eq_true rfl) ?_
    refine xv_dup hC dL_law_11 rfl ?_
    refine xv_callI hC Y_yX7_init im_yX7_init rfl ml_L_24 dL_law_12 (ei_Model l G (h + 57) _) rfl rfl (Nat.le_of_ble_eq_true rfl) ⟨(Nat.le_of_ble_eq_true rfl), (Nat.le_of_ble_eq_true rfl)⟩ ⟨(Nat.le_of_ble_eq_true rfl), (Nat.le_of_ble_eq_true rfl)⟩ ?_
    refine xv_rn ?_
    refine xv_world (cMod_eq G (h + 57) _) ?_
    refine xv_astore_n hC dL_law_15 rfl (by decide) ?_
    refine xv_iconst (v := nI 1) hC dL_law_16 (by decide) ?_
    refine xv_newa hC 1 rfl rfl (fun C h => by cases h) dL_law_17 ac_long (N := 1) (a0 := zL 1) (fun _ => rfl) (by decide) (by decide) (by decide) (Nat.le_of_ble_eq_true rfl) (Nat.le_of_ble_eq_true rfl) ?_
    refine xv_world (show _ = wC G h (sE) (sS) (sO) (oN (sN)) (0, lP (sPo), sZ, sZ, oN (sN), nI 0, nI 0) (0, nI 0) (wX G h (oN (sN)) (0, nI 0) (wM G (h + 57) sM (wO G (h + 74) (fun _ => 0)))) from lw_w0 G h) ?_
    refine xv_astore_n hC dL_law_19 rfl (by decide) ?_
    refine xv_iconst (v := nI 0) hC dL_law_20 (by decide) ?_
    refine xv_istore hC dL_law_21 (by decide) ?_
    exact lw_loop hK 514 0 _ _ _ sE sS sO sN 0 sPo sZ sZ sN (nI 0) (nI 0) (0, nI 0) sN (0, nI 0) sM (fun _ => 0) (by omega) (by omega) rel_0 (fun _ => Nat.zero_le _) (Nat.le_of_ble_eq_true rfl) (Nat.le_of_ble_eq_true rfl)
  rw [lg_entry_eq]
  exact key s.heap [] _ hh (fun a e0 h => by cases h) va_S.rf (lv_entry [.ref b] (Nat.le_of_ble_eq_true rfl))
