set_option maxHeartbeats 1000000 in
set_option maxRecDepth 100000 in
theorem lc_save {p : Program} {l : Launch} {e : Env} {s : State} {m : MethodId} {below : List Frame} {meth : Method} {c : Code} {G : xD} {b L : Nat} {xs : Nat → Int32} (hK : LawC p l s m meth c G b L xs) {h i : Nat} (hJ : LawJ p l e s m below meth c G b h i) (hi : i + 5 ≤ L) {sz cs ss : Nat} {E : cE} {S : cS} {O : cO} {on : Nat → Nat} {sec : Nat} {po : Nat → Option Nat} {re cf : Nat → Int32} {so : Nat → Nat} {seen rf : Int32} {Rd : cR} {ra : Nat → Nat} {Ra : cR} {M : mT} {f : Nat → Int64} (hr : Rel E S O sec po re cf so M) (hA : ∀ j, ra j ≤ 8000) (hcs : cs ≤ 110 + i) (hss : ss ≤ 53232 + 6 * i) : xV p l e room_1 s m #[Value.ref b] below meth c G (fun q : Nat => s.heap.size ≤ q) 8 (lw_Z below #[Value.ref b] s) sz (wC G h (E) (S) (O) (oN (on)) (sec, lP (po), re, cf, oN (so), seen, rf) Rd (wX G h (oN (ra)) Ra (wM G (h + 57) (M) (wO G (h + 74) (f))))) cs ss 457 [(4, .int (nI i)), (3, .ref (h + 74)), (2, .ref (h + 57)), (1, .ref h), (0, .ref b)] [] := by
  have hC := hK.1
  have hbA : ¬ (fun q : Nat => s.heap.size ≤ q) b := Nat.not_le.mpr hK.2.2.2.2.1
  have hL := hK.2.2.2.2.2.1
  by_cases hd : xs (i + 1) = 0
  · skip
    refine xv_aload_n hC dL_law_457 rfl rfl ?_
    refine xv_arg hC hK.2.2.2.1 hK.2.2.2.2.1 hbA (by omega) 1 (by omega) dL_law_458 dL_law_459 dL_law_461 (by decide) dL_law_462 dL_law_463 rfl rfl ?_
    refine xv_if_eq (tgt := 471) hC dL_law_464 (by decide) (fun _ => ?_) (fun hz => absurd hd hz)
    refine xv_iconst (v := cI false) hC dL_law_471 (by decide) ?_
    refine xv_callV hC Y_yX6_save im_yX6_save se_yX6_save ml_L_66 dL_law_472 (ev_save l G h sz E S O on sec po re cf so seen rf Rd (wX G h (oN ra) Ra (wM G (h + 57) M (wO G (h + 74) f))) hr.2.2.1.1 false) (wl_FF _ _ _ _ _ _ _ _ _) rfl rfl rfl (Nat.le_of_ble_eq_true rfl) ⟨(Nat.le_of_ble_eq_true rfl), (Nat.le_of_ble_eq_true rfl)⟩ ⟨show cs + 0 ≤ 603072 by omega, show ss + 0 ≤ 7211114 by omega⟩ ?_
    refine xv_rs ?_
    refine xv_world (wCM _ _ _ _ _ _ _ _ _ _ _ _) ?_
    refine xv_aload_n hC dL_law_475 rfl rfl ?_
    refine xv_arg hC hK.2.2.2.1 hK.2.2.2.2.1 hbA (by omega) 1 (by omega) dL_law_476 dL_law_477 dL_law_479 (by decide) dL_law_480 dL_law_481 rfl rfl ?_
    refine xv_if_eq (tgt := 489) hC dL_law_482 (by decide) (fun _ => ?_) (fun hz => absurd hd hz)
    refine xv_iconst (v := cI false) hC dL_law_489 (by decide) ?_
    refine xn_callV hC Y_yX7_save im_yX7_save se_yX7_save ml_L_69 dL_law_490 (em_save_false l G (h + 57) sz M (wC G h (E) (nsSf E S O on false) (nsOf E S O on false) (oN (nsOn E S O on false)) (sec, lP (po), re, cf, oN (so), seen, rf) Rd (wX G h (oN (ra)) Ra (wO G (h + 74) f))) E S O (nsN1 E S O on false) hr.1.1 hr.2.2.1.1 hr.2.2.2.2.2 hr.2.2.2.2.1) (ml_w_obj _ _ _ _) rfl rfl rfl (Nat.le_of_ble_eq_true rfl) ⟨(Nat.le_of_ble_eq_true rfl), (Nat.le_of_ble_eq_true rfl)⟩ ⟨show cs + 0 ≤ 603072 by omega, show ss + 0 ≤ 7211114 by omega⟩ (fun r w hP => ?_)
    obtain ⟨rfl, M', rfl, hs⟩ := hP
    refine xv_rs ?_
    refine xv_world (wCM _ _ _ _ _ _ _ _ _ _ _ _).symm ?_
    refine xv_icmp_eq (tgt := 755) hC dL_law_493 (by decide) (fun hz => ?_) (fun hz => ?_)
    · exact hJ _ _ _ _ _ _ _ _ _ _ _ _ _ _ _ _ _ _ _ (rel_save_n hr hs) (hA) (by omega) (by omega)
    · exact absurd (ns_V E S O on false) hz
  · skip
    refine xv_aload_n hC dL_law_457 rfl rfl ?_
    refine xv_arg hC hK.2.2.2.1 hK.2.2.2.2.1 hbA (by omega) 1 (by omega) dL_law_458 dL_law_459 dL_law_461 (by decide) dL_law_462 dL_law_463 rfl rfl ?_
    refine xv_if_eq (tgt := 471) hC dL_law_464 (by decide) (fun hz => absurd hz hd) (fun _ => ?_)
    refine xv_iconst (v := cI true) hC dL_law_467 (by decide) ?_
    refine xv_goto (tgt := 472) hC dL_law_468 (by decide) ?_
    refine xv_callV hC Y_yX6_save im_yX6_save se_yX6_save ml_L_66 dL_law_472 (ev_save l G h sz E S O on sec po re cf so seen rf Rd (wX G h (oN ra) Ra (wM G (h + 57) M (wO G (h + 74) f))) hr.2.2.1.1 true) (wl_FF _ _ _ _ _ _ _ _ _) rfl rfl rfl (Nat.le_of_ble_eq_true rfl) ⟨(Nat.le_of_ble_eq_true rfl), (Nat.le_of_ble_eq_true rfl)⟩ ⟨show cs + 0 ≤ 603072 by omega, show ss + 0 ≤ 7211114 by omega⟩ ?_
    refine xv_rs ?_
    refine xv_world (wCM _ _ _ _ _ _ _ _ _ _ _ _) ?_
    refine xv_aload_n hC dL_law_475 rfl rfl ?_
    refine xv_arg hC hK.2.2.2.1 hK.2.2.2.2.1 hbA (by omega) 1 (by omega) dL_law_476 dL_law_477 dL_law_479 (by decide) dL_law_480 dL_law_481 rfl rfl ?_
    refine xv_if_eq (tgt := 489) hC dL_law_482 (by decide) (fun hz => absurd hz hd) (fun _ => ?_)
    refine xv_iconst (v := cI true) hC dL_law_485 (by decide) ?_
    refine xv_goto (tgt := 490) hC dL_law_486 (by decide) ?_
    refine xn_callV hC Y_yX7_save im_yX7_save se_yX7_save ml_L_69 dL_law_490 (em_save_true l G (h + 57) sz M (wC G h (E) (nsSf E S O on true) (nsOf E S O on true) (oN (nsOn E S O on true)) (sec, lP (po), re, cf, oN (so), seen, rf) Rd (wX G h (oN (ra)) Ra (wO G (h + 74) f))) E S O (nsN1 E S O on true) hr.1.1 hr.2.2.1.1 hr.2.2.2.2.2 hr.2.2.2.2.1) (ml_w_obj _ _ _ _) rfl rfl rfl (Nat.le_of_ble_eq_true rfl) ⟨(Nat.le_of_ble_eq_true rfl), (Nat.le_of_ble_eq_true rfl)⟩ ⟨show cs + 0 ≤ 603072 by omega, show ss + 0 ≤ 7211114 by omega⟩ (fun r w hP => ?_)
    obtain ⟨rfl, M', rfl, hs⟩ := hP
    refine xv_rs ?_
    refine xv_world (wCM _ _ _ _ _ _ _ _ _ _ _ _).symm ?_
    refine xv_icmp_eq (tgt := 755) hC dL_law_493 (by decide) (fun hz => ?_) (fun hz => ?_)
    · exact hJ _ _ _ _ _ _ _ _ _ _ _ _ _ _ _ _ _ _ _ (rel_save_n hr hs) (hA) (by omega) (by omega)
    · exact absurd (ns_V E S O on true) hz
set_option maxHeartbeats 1000000 in
set_option maxRecDepth 100000 in
theorem lc_load {p : Program} {l : Launch} {e : Env} {s : State} {m : MethodId} {below : List Frame} {meth : Method} {c : Code} {G : xD} {b L : Nat} {xs : Nat → Int32} (hK : LawC p l s m meth c G b L xs) {h i : Nat} (hJ : LawJ p l e s m below meth c G b h i) (hi : i + 5 ≤ L) {sz cs ss : Nat} {E : cE} {S : cS} {O : cO} {on : Nat → Nat} {sec : Nat} {po : Nat → Option Nat} {re cf : Nat → Int32} {so : Nat → Nat} {seen rf : Int32} {Rd : cR} {ra : Nat → Nat} {Ra : cR} {M : mT} {f : Nat → Int64} (hr : Rel E S O sec po re cf so M) (hA : ∀ j, ra j ≤ 8000) (hcs : cs ≤ 110 + i) (hss : ss ≤ 53232 + 6 * i) : xV p l e room_1 s m #[Value.ref b] below meth c G (fun q : Nat => s.heap.size ≤ q) 8 (lw_Z below #[Value.ref b] s) sz (wC G h (E) (S) (O) (oN (on)) (sec, lP (po), re, cf, oN (so), seen, rf) Rd (wX G h (oN (ra)) Ra (wM G (h + 57) (M) (wO G (h + 74) (f))))) cs ss 643 [(4, .int (nI i)), (3, .ref (h + 74)), (2, .ref (h + 57)), (1, .ref h), (0, .ref b)] [] := by
  have hC := hK.1
  have hbA : ¬ (fun q : Nat => s.heap.size ≤ q) b := Nat.not_le.mpr hK.2.2.2.2.1
  have hL := hK.2.2.2.2.2.1
  cases hb : S.2.2.2.2.1 with
  | true =>
    refine xv_aload_n hC dL_law_643 rfl rfl ?_
    refine xv_callV hC Y_yX6_load im_yX6_load se_yX6_load ml_L_87 dL_law_644 (ev_load_busy l G h sz E S O on sec po re cf so seen rf Rd (wX G h (oN ra) Ra (wM G (h + 57) M (wO G (h + 74) f))) hb) (wl_FF _ _ _ _ _ _ _ _ _) rfl rfl rfl (Nat.le_of_ble_eq_true rfl) ⟨(Nat.le_of_ble_eq_true rfl), (Nat.le_of_ble_eq_true rfl)⟩ ⟨show cs + 0 ≤ 603072 by omega, show ss + 0 ≤ 7211114 by omega⟩ ?_
    refine xv_rs ?_
    refine xv_world (wCM _ _ _ _ _ _ _ _ _ _ _ _) ?_
    refine xv_aload_n hC dL_law_647 rfl rfl ?_
    refine xn_callV hC Y_yX7_load im_yX7_load se_yX7_load ml_L_90 dL_law_648 (em_load l G (h + 57) sz M (wC G h (E) (S) (O) (oN (on)) (sec, lP (po), re, cf, oN (so), seen, rf) Rd (wX G h (oN (ra)) Ra (wO G (h + 74) f))) E S O po re cf so hr.2.2.2.1.2.1 hr.1.1 hr.1.2.1 hr.2.2.1.1 hr.2.2.1.2.1 hr.2.2.1.2.2.1 hr.2.2.1.2.2.2) (ml_w_obj _ _ _ _) rfl rfl rfl (Nat.le_of_ble_eq_true rfl) ⟨(Nat.le_of_ble_eq_true rfl), (Nat.le_of_ble_eq_true rfl)⟩ ⟨show cs + 0 ≤ 603072 by omega, show ss + 0 ≤ 7211114 by omega⟩ (fun r w hP => ?_)
    obtain ⟨rfl, M', rfl, hs⟩ := hP
    refine xv_rs ?_
    refine xv_world (wCM _ _ _ _ _ _ _ _ _ _ _ _).symm ?_
    refine xv_icmp_eq (tgt := 755) hC dL_law_651 (by decide) (fun hz => ?_) (fun hz => ?_)
    · exact hJ _ _ _ _ _ _ _ _ _ _ _ _ _ _ _ _ _ _ _ (rel_load_b hr hb hs) (hA) (by omega) (by omega)
    · exact absurd (((load_b (M0 := M) hb).1).symm) hz
  | false =>
    by_cases h0 : O.2.1 0 = 0
    · skip
      refine xv_aload_n hC dL_law_643 rfl rfl ?_
      refine xv_callV hC Y_yX6_load im_yX6_load se_yX6_load ml_L_87 dL_law_644 (ev_load_none l G h sz E S O on sec po re cf so seen rf Rd (wX G h (oN ra) Ra (wM G (h + 57) M (wO G (h + 74) f))) hb h0) (wl_FF _ _ _ _ _ _ _ _ _) rfl rfl rfl (Nat.le_of_ble_eq_true rfl) ⟨(Nat.le_of_ble_eq_true rfl), (Nat.le_of_ble_eq_true rfl)⟩ ⟨show cs + 0 ≤ 603072 by omega, show ss + 0 ≤ 7211114 by omega⟩ ?_
      refine xv_rs ?_
      refine xv_world (wCM _ _ _ _ _ _ _ _ _ _ _ _) ?_
      refine xv_aload_n hC dL_law_647 rfl rfl ?_
      refine xn_callV hC Y_yX7_load im_yX7_load se_yX7_load ml_L_90 dL_law_648 (em_load l G (h + 57) sz M (wC G h (E) (S) (O) (oN (on)) (0, lP (po), re, cf, oN (so), seen, rf) Rd (wX G h (oN (ra)) Ra (wO G (h + 74) f))) E S O po re cf so hr.2.2.2.1.2.1 hr.1.1 hr.1.2.1 hr.2.2.1.1 hr.2.2.1.2.1 hr.2.2.1.2.2.1 hr.2.2.1.2.2.2) (ml_w_obj _ _ _ _) rfl rfl rfl (Nat.le_of_ble_eq_true rfl) ⟨(Nat.le_of_ble_eq_true rfl), (Nat.le_of_ble_eq_true rfl)⟩ ⟨show cs + 0 ≤ 603072 by omega, show ss + 0 ≤ 7211114 by omega⟩ (fun r w hP => ?_)
      obtain ⟨rfl, M', rfl, hs⟩ := hP
      refine xv_rs ?_
      refine xv_world (wCM _ _ _ _ _ _ _ _ _ _ _ _).symm ?_
      refine xv_icmp_eq (tgt := 755) hC dL_law_651 (by decide) (fun hz => ?_) (fun hz => ?_)
      · exact hJ _ _ _ _ _ _ _ _ _ _ _ _ _ _ _ _ _ _ _ (rel_load_0 hr hb (Or.inl h0) hs) (hA) (by omega) (by omega)
      · exact absurd (((load_0 (M0 := M) hb h0).1).symm) hz
    · by_cases hw : raW S O = 0
      · skip
        refine xv_aload_n hC dL_law_643 rfl rfl ?_
        refine xv_callV hC Y_yX6_load im_yX6_load se_yX6_load ml_L_87 dL_law_644 (ev_load_go l G h sz E S O on sec po re cf so seen rf Rd ra Ra (wM G (h + 57) M (wO G (h + 74) f)) hr.2.2.2.1.2.1 hr.2.2.1.1 hr.2.2.1.2.1 hr.2.2.1.2.2.1 hA hb h0 hw) (wl_FF _ _ _ _ _ _ _ _ _) rfl rfl rfl (Nat.le_of_ble_eq_true rfl) ⟨(Nat.le_of_ble_eq_true rfl), (Nat.le_of_ble_eq_true rfl)⟩ ⟨show cs + 0 ≤ 603072 by omega, show ss + 0 ≤ 7211114 by omega⟩ ?_
        refine xv_rs ?_
        refine xv_world (wCM _ _ _ _ _ _ _ _ _ _ _ _) ?_
        refine xv_aload_n hC dL_law_647 rfl rfl ?_
        refine xn_callV hC Y_yX7_load im_yX7_load se_yX7_load ml_L_90 dL_law_648 (em_load l G (h + 57) sz M (wC G h (lnEE O (lnT E S O po re cf so ra Ra)) (lnES O (lnT E S O po re cf so ra Ra)) (O) (oN (on)) (lsSec O, lP ((lnT E S O po re cf so ra Ra).1.1.2.1), (lnT E S O po re cf so ra Ra).1.2.2.1, (lnT E S O po re cf so ra Ra).1.2.2.2.1, oN ((lnT E S O po re cf so ra Ra).1.1.2.2.1), (lnT E S O po re cf so ra Ra).1.1.2.2.2.1, (lnT E S O po re cf so ra Ra).1.2.2.2.2.1) (lnT E S O po re cf so ra Ra).1.1.2.2.2.2 (wX G h (oN ((lnT E S O po re cf so ra Ra).2.1)) (lnER O (lnT E S O po re cf so ra Ra)) (wO G (h + 74) f))) E S O po re cf so hr.2.2.2.1.2.1 hr.1.1 hr.1.2.1 hr.2.2.1.1 hr.2.2.1.2.1 hr.2.2.1.2.2.1 hr.2.2.1.2.2.2) (ml_w_obj _ _ _ _) rfl rfl rfl (Nat.le_of_ble_eq_true rfl) ⟨(Nat.le_of_ble_eq_true rfl), (Nat.le_of_ble_eq_true rfl)⟩ ⟨show cs + 0 ≤ 603072 by omega, show ss + 0 ≤ 7211114 by omega⟩ (fun r w hP => ?_)
        obtain ⟨rfl, M', rfl, hs⟩ := hP
        refine xv_rs ?_
        refine xv_world (wCM _ _ _ _ _ _ _ _ _ _ _ _).symm ?_
        refine xv_world (wC_mix G h (rel_load_n (ra := ra) (Ra := Ra) hr hA hb h0 hw hs).1 _ _ _ _ _ _) ?_
        refine xv_icmp_eq (tgt := 755) hC dL_law_651 (by decide) (fun hz => ?_) (fun hz => ?_)
        · exact hJ _ _ _ _ _ _ _ _ _ _ _ _ _ _ _ _ _ _ _ ((rel_load_n hr hA hb h0 hw hs).2.1) ((rel_load_n hr hA hb h0 hw hs).2.2) (by omega) (by omega)
        · exact absurd ((congrArg nI (ln_V hr hb h0 hw hs)).trans (load_V hb h0 hw rfl).symm) hz
      · skip
        refine xv_aload_n hC dL_law_643 rfl rfl ?_
        refine xv_callV hC Y_yX6_load im_yX6_load se_yX6_load ml_L_87 dL_law_644 (ev_load_ref l G h sz E S O on sec po re cf so seen rf Rd (wX G h (oN ra) Ra (wM G (h + 57) M (wO G (h + 74) f))) hr.2.2.2.1.2.1 hb h0 hw) (wl_FF _ _ _ _ _ _ _ _ _) rfl rfl rfl (Nat.le_of_ble_eq_true rfl) ⟨(Nat.le_of_ble_eq_true rfl), (Nat.le_of_ble_eq_true rfl)⟩ ⟨show cs + 0 ≤ 603072 by omega, show ss + 0 ≤ 7211114 by omega⟩ ?_
        refine xv_rs ?_
        refine xv_world (wCM _ _ _ _ _ _ _ _ _ _ _ _) ?_
        refine xv_aload_n hC dL_law_647 rfl rfl ?_
        refine xn_callV hC Y_yX7_load im_yX7_load se_yX7_load ml_L_90 dL_law_648 (em_load l G (h + 57) sz M (wC G h (E) (S) (O) (oN (on)) (0, lP (po), re, cf, oN (so), seen, rf) Rd (wX G h (oN (ra)) Ra (wO G (h + 74) f))) E S O po re cf so hr.2.2.2.1.2.1 hr.1.1 hr.1.2.1 hr.2.2.1.1 hr.2.2.1.2.1 hr.2.2.1.2.2.1 hr.2.2.1.2.2.2) (ml_w_obj _ _ _ _) rfl rfl rfl (Nat.le_of_ble_eq_true rfl) ⟨(Nat.le_of_ble_eq_true rfl), (Nat.le_of_ble_eq_true rfl)⟩ ⟨show cs + 0 ≤ 603072 by omega, show ss + 0 ≤ 7211114 by omega⟩ (fun r w hP => ?_)
        obtain ⟨rfl, M', rfl, hs⟩ := hP
        refine xv_rs ?_
        refine xv_world (wCM _ _ _ _ _ _ _ _ _ _ _ _).symm ?_
        refine xv_icmp_eq (tgt := 755) hC dL_law_651 (by decide) (fun hz => ?_) (fun hz => ?_)
        · exact hJ _ _ _ _ _ _ _ _ _ _ _ _ _ _ _ _ _ _ _ (rel_load_0 hr hb (Or.inr hw) hs) (hA) (by omega) (by omega)
        · exact absurd (((load_ref (M0 := M) hb h0 rfl hw).1).symm) hz
set_option maxHeartbeats 1000000 in
set_option maxRecDepth 100000 in
theorem lc_get {p : Program} {l : Launch} {e : Env} {s : State} {m : MethodId} {below : List Frame} {meth : Method} {c : Code} {G : xD} {b L : Nat} {xs : Nat → Int32} (hK : LawC p l s m meth c G b L xs) {h i : Nat} (hJ : LawJ p l e s m below meth c G b h i) (hi : i + 5 ≤ L) {sz cs ss : Nat} {E : cE} {S : cS} {O : cO} {on : Nat → Nat} {sec : Nat} {po : Nat → Option Nat} {re cf : Nat → Int32} {so : Nat → Nat} {seen rf : Int32} {Rd : cR} {ra : Nat → Nat} {Ra : cR} {M : mT} {f : Nat → Int64} (hr : Rel E S O sec po re cf so M) (hA : ∀ j, ra j ≤ 8000) (hcs : cs ≤ 110 + i) (hss : ss ≤ 53232 + 6 * i) : xV p l e room_1 s m #[Value.ref b] below meth c G (fun q : Nat => s.heap.size ≤ q) 8 (lw_Z below #[Value.ref b] s) sz (wC G h (E) (S) (O) (oN (on)) (sec, lP (po), re, cf, oN (so), seen, rf) Rd (wX G h (oN (ra)) Ra (wM G (h + 57) (M) (wO G (h + 74) (f))))) cs ss 234 [(4, .int (nI i)), (3, .ref (h + 74)), (2, .ref (h + 57)), (1, .ref h), (0, .ref b)] [] := by
  have hC := hK.1
  have hbA : ¬ (fun q : Nat => s.heap.size ≤ q) b := Nat.not_le.mpr hK.2.2.2.2.1
  have hL := hK.2.2.2.2.2.1
  by_cases hB : fgB E (xs (i + 1)) (xs (i + 2)) = true
  · skip
    refine xv_aload_n hC dL_law_234 rfl rfl ?_
    refine xv_arg hC hK.2.2.2.1 hK.2.2.2.2.1 hbA (by omega) 1 (by omega) dL_law_235 dL_law_236 dL_law_238 (by decide) dL_law_239 dL_law_240 rfl rfl ?_
    refine xv_arg hC hK.2.2.2.1 hK.2.2.2.2.1 hbA (by omega) 2 (by omega) dL_law_241 dL_law_242 dL_law_244 (by decide) dL_law_245 dL_law_246 rfl rfl ?_
    refine xv_aload_n hC dL_law_247 rfl rfl ?_
    refine xs_callS (n := 4) hC zL_get in_L (by decide) (by decide) (by decide +kernel) sm_yL_get ml_L_37 dL_law_248 (el_get l G h sz E S O on sec po re cf so seen rf Rd ra Ra (wM G (h + 57) M (wO G (h + 74) f)) (h + 74) f (by omega) (wO_at2 G h M f) (xs (i + 1)) (xs (i + 2)) hB) hK.2.2.1 rfl rfl (Nat.le_of_ble_eq_true rfl) ⟨(Nat.le_of_ble_eq_true rfl), (Nat.le_of_ble_eq_true rfl)⟩ ⟨show cs + 1 ≤ 603072 by omega, show ss + 6 ≤ 7211114 by omega⟩ (fun r sz' w' hP => ?_)
    obtain ⟨rfl, rfl⟩ := hP
    refine xv_rs ?_
    refine xv_istore hC dL_law_251 (by decide) ?_
    refine xv_world (show _ = wC G h (E) (S) (O) (oN (on)) (sec, lP (po), re, cf, oN (so), seen, rf) Rd (wX G h (oN (ra)) Ra (wM G (h + 57) (M) (wO G (h + 74) (fun _ => E.2.1 (cl (xs (i + 1))) (cl (xs (i + 2))))))) from congrArg (fun z => wC G h (E) (S) (O) (oN (on)) (sec, lP (po), re, cf, oN (so), seen, rf) Rd (wX G h (oN (ra)) Ra (z))) (wM_up G (h + 57) (h + 74) M f _ (by omega))) ?_
    refine xv_world (wCM _ _ _ _ _ _ _ _ _ _ _ _) ?_
    refine xv_aload_n hC dL_law_253 rfl rfl ?_
    refine xv_arg hC hK.2.2.2.1 hK.2.2.2.2.1 hbA (by omega) 1 (by omega) dL_law_254 dL_law_255 dL_law_257 (by decide) dL_law_258 dL_law_259 rfl rfl ?_
    refine xv_arg hC hK.2.2.2.1 hK.2.2.2.2.1 hbA (by omega) 2 (by omega) dL_law_260 dL_law_261 dL_law_263 (by decide) dL_law_264 dL_law_265 rfl rfl ?_
    refine xv_callV hC Y_yX7_get im_yX7_get se_yX7_get ml_L_42 dL_law_266 (em_get l G (h + 57) sz' M (wC G h (E) (S) (O) (oN (on)) (sec, lP (po), re, cf, oN (so), seen, rf) Rd (wX G h (oN (ra)) Ra (wO G (h + 74) (fun _ => E.2.1 (cl (xs (i + 1))) (cl (xs (i + 2))))))) (xs (i + 1)) (xs (i + 2))) (ml_w_obj _ _ _ _) rfl rfl rfl (Nat.le_of_ble_eq_true rfl) ⟨(Nat.le_of_ble_eq_true rfl), (Nat.le_of_ble_eq_true rfl)⟩ ⟨show (cs + 1) + 0 ≤ 603072 by omega, show (ss + 6) + 0 ≤ 7211114 by omega⟩ ?_
    refine xv_rs ?_
    refine xv_lstore hC dL_law_269 (by decide) ?_
    refine xv_aload_n hC dL_law_271 rfl rfl ?_
    refine xv_callV hC Y_yX7_thrown im_yX7_thrown se_yX7_thrown ml_L_43 dL_law_272 (em_thrown l G (h + 57) sz' (mGeM M (xs (i + 1)) (xs (i + 2))) (wC G h (E) (S) (O) (oN (on)) (sec, lP (po), re, cf, oN (so), seen, rf) Rd (wX G h (oN (ra)) Ra (wO G (h + 74) (fun _ => E.2.1 (cl (xs (i + 1))) (cl (xs (i + 2)))))))) (ml_w_obj _ _ _ _) rfl rfl rfl (Nat.le_of_ble_eq_true rfl) ⟨(Nat.le_of_ble_eq_true rfl), (Nat.le_of_ble_eq_true rfl)⟩ ⟨show (cs + 1) + 0 ≤ 603072 by omega, show (ss + 6) + 0 ≤ 7211114 by omega⟩ ?_
    refine xv_rs ?_
    refine xv_cast (congrArg Value.int (show (mGeM M (xs (i + 1)) (xs (i + 2))).1 0 = nI 0 by show va_up M.1 0 (if mGeB M (xs (i + 1)) (xs (i + 2)) = true then nI 0 else nI 1) 0 = nI 0; rw [va_up_self, (rel_get hr (xs (i + 1)) (xs (i + 2))).1, hB]; rfl)) ?_
    refine xv_iload hC dL_law_275 rfl ?_
    refine xv_icmp_eq (tgt := 282) hC dL_law_277 (by decide) (fun _ => ?_) (fun hz => absurd rfl hz)
    refine xv_iload hC dL_law_282 rfl ?_
    refine xv_if_ne (tgt := 298) hC dL_law_284 (by decide) (fun hz => absurd rfl hz) (fun _ => ?_)
    refine xv_aload_n hC dL_law_287 rfl rfl ?_
    refine xv_iconst (v := nI 0) hC dL_law_288 (by decide) ?_
    refine xv_lald hC dL_law_289 (wO_at G h _ _ _ _ _ _ _ _ _ _) (vp_in_nI (by omega) (by omega)) ?_
    refine xv_lload hC dL_law_290 rfl ?_
    refine xv_lcmp hC dL_law_292 ?_
    refine xv_if_eq (tgt := 298) hC dL_law_293 (by decide) (fun _ => ?_) (fun hz => absurd ((lg_cmp_eq _ _).mpr ((rel_get hr (xs (i + 1)) (xs (i + 2))).2.1 hB).symm) hz)
    refine xv_goto (tgt := 755) hC dL_law_298 (by decide) ?_
    refine xv_world (wCM _ _ _ _ _ _ _ _ _ _ _ _).symm ?_
    refine xV.to [(4, .int (nI i)), (3, .ref (h + 74)), (2, .ref (h + 57)), (1, .ref h), (0, .ref b)] ⟨rfl, rfl, rfl, rfl, rfl, trivial⟩ ?_
    exact hJ _ _ _ _ _ _ _ _ _ _ _ _ _ _ _ _ _ _ _ (rel_get hr (xs (i + 1)) (xs (i + 2))).2.2 hA (by omega) (by omega)
  · have hB : fgB E (xs (i + 1)) (xs (i + 2)) = false := by simpa using hB
    refine xv_aload_n hC dL_law_234 rfl rfl ?_
    refine xv_arg hC hK.2.2.2.1 hK.2.2.2.2.1 hbA (by omega) 1 (by omega) dL_law_235 dL_law_236 dL_law_238 (by decide) dL_law_239 dL_law_240 rfl rfl ?_
    refine xv_arg hC hK.2.2.2.1 hK.2.2.2.2.1 hbA (by omega) 2 (by omega) dL_law_241 dL_law_242 dL_law_244 (by decide) dL_law_245 dL_law_246 rfl rfl ?_
    refine xv_aload_n hC dL_law_247 rfl rfl ?_
    refine xs_callS (n := 4) hC zL_get in_L (by decide) (by decide) (by decide +kernel) sm_yL_get ml_L_37 dL_law_248 (el_get_x l G h sz E S O on sec po re cf so seen rf Rd ra Ra (wM G (h + 57) M (wO G (h + 74) f)) hK.2.1 (h + 74) (xs (i + 1)) (xs (i + 2)) hB) hK.2.2.1 rfl rfl (Nat.le_of_ble_eq_true rfl) ⟨(Nat.le_of_ble_eq_true rfl), (Nat.le_of_ble_eq_true rfl)⟩ ⟨show cs + 1 ≤ 603072 by omega, show ss + 6 ≤ 7211114 by omega⟩ (fun r sz' w' hP => ?_)
    obtain ⟨rfl, rfl⟩ := hP
    refine xv_rs ?_
    refine xv_istore hC dL_law_251 (by decide) ?_
    refine xv_world (wCM _ _ _ _ _ _ _ _ _ _ _ _) ?_
    refine xv_aload_n hC dL_law_253 rfl rfl ?_
    refine xv_arg hC hK.2.2.2.1 hK.2.2.2.2.1 hbA (by omega) 1 (by omega) dL_law_254 dL_law_255 dL_law_257 (by decide) dL_law_258 dL_law_259 rfl rfl ?_
    refine xv_arg hC hK.2.2.2.1 hK.2.2.2.2.1 hbA (by omega) 2 (by omega) dL_law_260 dL_law_261 dL_law_263 (by decide) dL_law_264 dL_law_265 rfl rfl ?_
    refine xv_callV hC Y_yX7_get im_yX7_get se_yX7_get ml_L_42 dL_law_266 (em_get l G (h + 57) sz' M (wC G h (E) (S) (O) (oN (on)) (sec, lP (po), re, cf, oN (so), seen, rf) Rd (wX G h (oN (ra)) Ra (wO G (h + 74) (f)))) (xs (i + 1)) (xs (i + 2))) (ml_w_obj _ _ _ _) rfl rfl rfl (Nat.le_of_ble_eq_true rfl) ⟨(Nat.le_of_ble_eq_true rfl), (Nat.le_of_ble_eq_true rfl)⟩ ⟨show (cs + 1) + 0 ≤ 603072 by omega, show (ss + 6) + 0 ≤ 7211114 by omega⟩ ?_
    refine xv_rs ?_
    refine xv_lstore hC dL_law_269 (by decide) ?_
    refine xv_aload_n hC dL_law_271 rfl rfl ?_
    refine xv_callV hC Y_yX7_thrown im_yX7_thrown se_yX7_thrown ml_L_43 dL_law_272 (em_thrown l G (h + 57) sz' (mGeM M (xs (i + 1)) (xs (i + 2))) (wC G h (E) (S) (O) (oN (on)) (sec, lP (po), re, cf, oN (so), seen, rf) Rd (wX G h (oN (ra)) Ra (wO G (h + 74) (f))))) (ml_w_obj _ _ _ _) rfl rfl rfl (Nat.le_of_ble_eq_true rfl) ⟨(Nat.le_of_ble_eq_true rfl), (Nat.le_of_ble_eq_true rfl)⟩ ⟨show (cs + 1) + 0 ≤ 603072 by omega, show (ss + 6) + 0 ≤ 7211114 by omega⟩ ?_
    refine xv_rs ?_
    refine xv_cast (congrArg Value.int (show (mGeM M (xs (i + 1)) (xs (i + 2))).1 0 = nI 1 by show va_up M.1 0 (if mGeB M (xs (i + 1)) (xs (i + 2)) = true then nI 0 else nI 1) 0 = nI 1; rw [va_up_self, (rel_get hr (xs (i + 1)) (xs (i + 2))).1, hB]; rfl)) ?_
    refine xv_iload hC dL_law_275 rfl ?_
    refine xv_icmp_eq (tgt := 282) hC dL_law_277 (by decide) (fun _ => ?_) (fun hz => absurd rfl hz)
    refine xv_iload hC dL_law_282 rfl ?_
    refine xv_if_ne (tgt := 298) hC dL_law_284 (by decide) (fun _ => ?_) (fun hz => absurd hz (by decide))
    refine xv_goto (tgt := 755) hC dL_law_298 (by decide) ?_
    refine xv_world (wCM _ _ _ _ _ _ _ _ _ _ _ _).symm ?_
    refine xV.to [(4, .int (nI i)), (3, .ref (h + 74)), (2, .ref (h + 57)), (1, .ref h), (0, .ref b)] ⟨rfl, rfl, rfl, rfl, rfl, trivial⟩ ?_
    exact hJ _ _ _ _ _ _ _ _ _ _ _ _ _ _ _ _ _ _ _ (rel_get hr (xs (i + 1)) (xs (i + 2))).2.2 hA (by omega) (by omega)
set_option maxHeartbeats 1000000 in
set_option maxRecDepth 100000 in
theorem lc_octet {p : Program} {l : Launch} {e : Env} {s : State} {m : MethodId} {below : List Frame} {meth : Method} {c : Code} {G : xD} {b L : Nat} {xs : Nat → Int32} (hK : LawC p l s m meth c G b L xs) {h i : Nat} (hJ : LawJ p l e s m below meth c G b h i) (hi : i + 5 ≤ L) {sz cs ss : Nat} {E : cE} {S : cS} {O : cO} {on : Nat → Nat} {sec : Nat} {po : Nat → Option Nat} {re cf : Nat → Int32} {so : Nat → Nat} {seen rf : Int32} {Rd : cR} {ra : Nat → Nat} {Ra : cR} {M : mT} {f : Nat → Int64} (hr : Rel E S O sec po re cf so M) (hA : ∀ j, ra j ≤ 8000) (hcs : cs ≤ 110 + i) (hss : ss ≤ 53232 + 6 * i) : xV p l e room_1 s m #[Value.ref b] below meth c G (fun q : Nat => s.heap.size ≤ q) 8 (lw_Z below #[Value.ref b] s) sz (wC G h (E) (S) (O) (oN (on)) (sec, lP (po), re, cf, oN (so), seen, rf) Rd (wX G h (oN (ra)) Ra (wM G (h + 57) (M) (wO G (h + 74) (f))))) cs ss 498 [(4, .int (nI i)), (3, .ref (h + 74)), (2, .ref (h + 57)), (1, .ref h), (0, .ref b)] [] := by
  have hC := hK.1
  have hbA : ¬ (fun q : Nat => s.heap.size ≤ q) b := Nat.not_le.mpr hK.2.2.2.2.1
  have hL := hK.2.2.2.2.2.1
  by_cases hB : xIn (xs (i + 1)) (O.2.1 0) = true
  · skip
    refine xv_aload_n hC dL_law_498 rfl rfl ?_
    refine xv_arg hC hK.2.2.2.1 hK.2.2.2.2.1 hbA (by omega) 1 (by omega) dL_law_499 dL_law_500 dL_law_502 (by decide) dL_law_503 dL_law_504 rfl rfl ?_
    refine xv_aload_n hC dL_law_505 rfl rfl ?_
    refine xs_callS (n := 3) hC zL_octet in_L (by decide) (by decide) (by decide +kernel) sm_yL_octet ml_L_70 dL_law_506 (el_octet l G h sz E S O on sec po re cf so seen rf Rd ra Ra (wM G (h + 57) M (wO G (h + 74) f)) hr.2.2.2.1.2.1 hr.2.2.2.1.1 (h + 74) f (by omega) (wO_at2 G h M f) (xs (i + 1)) hB) hK.2.2.1 rfl rfl (Nat.le_of_ble_eq_true rfl) ⟨(Nat.le_of_ble_eq_true rfl), (Nat.le_of_ble_eq_true rfl)⟩ ⟨show cs + 1 ≤ 603072 by omega, show ss + 6 ≤ 7211114 by omega⟩ (fun r sz' w' hP => ?_)
    obtain ⟨rfl, rfl⟩ := hP
    refine xv_rs ?_
    refine xv_istore hC dL_law_509 (by decide) ?_
    refine xv_world (show _ = wC G h (E) (S) (O) (oN (on)) (sec, lP (po), re, cf, oN (so), seen, rf) Rd (wX G h (oN (ra)) Ra (wM G (h + 57) (M) (wO G (h + 74) (fun _ => (O.1 0 (cl (xs (i + 1)))).toInt64)))) from congrArg (fun z => wC G h (E) (S) (O) (oN (on)) (sec, lP (po), re, cf, oN (so), seen, rf) Rd (wX G h (oN (ra)) Ra (z))) (wM_up G (h + 57) (h + 74) M f _ (by omega))) ?_
    refine xv_world (wCM _ _ _ _ _ _ _ _ _ _ _ _) ?_
    refine xv_aload_n hC dL_law_511 rfl rfl ?_
    refine xv_arg hC hK.2.2.2.1 hK.2.2.2.2.1 hbA (by omega) 1 (by omega) dL_law_512 dL_law_513 dL_law_515 (by decide) dL_law_516 dL_law_517 rfl rfl ?_
    refine xv_callV hC Y_yX7_octet im_yX7_octet se_yX7_octet ml_L_73 dL_law_518 (em_octet l G (h + 57) sz' M (wC G h (E) (S) (O) (oN (on)) (sec, lP (po), re, cf, oN (so), seen, rf) Rd (wX G h (oN (ra)) Ra (wO G (h + 74) (fun _ => (O.1 0 (cl (xs (i + 1)))).toInt64)))) (by rw [hr.1.1.1.2]; exact hr.2.2.2.1.2.1) (xs (i + 1))) (ml_w_obj _ _ _ _) rfl rfl rfl (Nat.le_of_ble_eq_true rfl) ⟨(Nat.le_of_ble_eq_true rfl), (Nat.le_of_ble_eq_true rfl)⟩ ⟨show (cs + 1) + 0 ≤ 603072 by omega, show (ss + 6) + 0 ≤ 7211114 by omega⟩ ?_
    refine xv_rs ?_
    refine xv_istore hC dL_law_521 (by decide) ?_
    refine xv_aload_n hC dL_law_523 rfl rfl ?_
    refine xv_callV hC Y_yX7_thrown im_yX7_thrown se_yX7_thrown ml_L_43 dL_law_524 (em_thrown l G (h + 57) sz' (mOcM M (xs (i + 1))) (wC G h (E) (S) (O) (oN (on)) (sec, lP (po), re, cf, oN (so), seen, rf) Rd (wX G h (oN (ra)) Ra (wO G (h + 74) (fun _ => (O.1 0 (cl (xs (i + 1)))).toInt64))))) (ml_w_obj _ _ _ _) rfl rfl rfl (Nat.le_of_ble_eq_true rfl) ⟨(Nat.le_of_ble_eq_true rfl), (Nat.le_of_ble_eq_true rfl)⟩ ⟨show (cs + 1) + 0 ≤ 603072 by omega, show (ss + 6) + 0 ≤ 7211114 by omega⟩ ?_
    refine xv_rs ?_
    refine xv_cast (congrArg Value.int (show (mOcM M (xs (i + 1))).1 0 = nI 0 by show va_up M.1 0 (if xIn (xs (i + 1)) (M.2.2.1 11) = true then nI 0 else nI 1) 0 = nI 0; rw [va_up_self, (rel_octet hr (xs (i + 1))).1, hB]; rfl)) ?_
    refine xv_iload hC dL_law_527 rfl ?_
    refine xv_icmp_eq (tgt := 534) hC dL_law_529 (by decide) (fun _ => ?_) (fun hz => absurd rfl hz)
    refine xv_iload hC dL_law_534 rfl ?_
    refine xv_if_ne (tgt := 551) hC dL_law_536 (by decide) (fun hz => absurd rfl hz) (fun _ => ?_)
    refine xv_aload_n hC dL_law_539 rfl rfl ?_
    refine xv_iconst (v := nI 0) hC dL_law_540 (by decide) ?_
    refine xv_lald hC dL_law_541 (wO_at G h _ _ _ _ _ _ _ _ _ _) (vp_in_nI (by omega) (by omega)) ?_
    refine xv_iload hC dL_law_542 rfl ?_
    refine xv_i2l hC dL_law_544 ?_
    refine xv_lcmp hC dL_law_545 ?_
    refine xv_if_eq (tgt := 551) hC dL_law_546 (by decide) (fun _ => ?_) (fun hz => absurd ((lg_cmp_eq _ _).mpr (congrArg Int32.toInt64 ((rel_octet hr (xs (i + 1))).2.1 hB).symm)) hz)
    refine xv_goto (tgt := 755) hC dL_law_551 (by decide) ?_
    refine xv_world (wCM _ _ _ _ _ _ _ _ _ _ _ _).symm ?_
    refine xV.to [(4, .int (nI i)), (3, .ref (h + 74)), (2, .ref (h + 57)), (1, .ref h), (0, .ref b)] ⟨rfl, rfl, rfl, rfl, rfl, trivial⟩ ?_
    exact hJ _ _ _ _ _ _ _ _ _ _ _ _ _ _ _ _ _ _ _ (rel_octet hr (xs (i + 1))).2.2 hA (by omega) (by omega)
  · have hB : xIn (xs (i + 1)) (O.2.1 0) = false := by simpa using hB
    refine xv_aload_n hC dL_law_498 rfl rfl ?_
    refine xv_arg hC hK.2.2.2.1 hK.2.2.2.2.1 hbA (by omega) 1 (by omega) dL_law_499 dL_law_500 dL_law_502 (by decide) dL_law_503 dL_law_504 rfl rfl ?_
    refine xv_aload_n hC dL_law_505 rfl rfl ?_
    refine xs_callS (n := 3) hC zL_octet in_L (by decide) (by decide) (by decide +kernel) sm_yL_octet ml_L_70 dL_law_506 (el_octet_x l G h sz E S O on sec po re cf so seen rf Rd ra Ra (wM G (h + 57) M (wO G (h + 74) f)) hK.2.1 hr.2.2.2.1.2.1 (h + 74) (xs (i + 1)) hB) hK.2.2.1 rfl rfl (Nat.le_of_ble_eq_true rfl) ⟨(Nat.le_of_ble_eq_true rfl), (Nat.le_of_ble_eq_true rfl)⟩ ⟨show cs + 1 ≤ 603072 by omega, show ss + 6 ≤ 7211114 by omega⟩ (fun r sz' w' hP => ?_)
    obtain ⟨rfl, rfl⟩ := hP
    refine xv_rs ?_
    refine xv_istore hC dL_law_509 (by decide) ?_
    refine xv_world (wCM _ _ _ _ _ _ _ _ _ _ _ _) ?_
    refine xv_aload_n hC dL_law_511 rfl rfl ?_
    refine xv_arg hC hK.2.2.2.1 hK.2.2.2.2.1 hbA (by omega) 1 (by omega) dL_law_512 dL_law_513 dL_law_515 (by decide) dL_law_516 dL_law_517 rfl rfl ?_
    refine xv_callV hC Y_yX7_octet im_yX7_octet se_yX7_octet ml_L_73 dL_law_518 (em_octet l G (h + 57) sz' M (wC G h (E) (S) (O) (oN (on)) (sec, lP (po), re, cf, oN (so), seen, rf) Rd (wX G h (oN (ra)) Ra (wO G (h + 74) (f)))) (by rw [hr.1.1.1.2]; exact hr.2.2.2.1.2.1) (xs (i + 1))) (ml_w_obj _ _ _ _) rfl rfl rfl (Nat.le_of_ble_eq_true rfl) ⟨(Nat.le_of_ble_eq_true rfl), (Nat.le_of_ble_eq_true rfl)⟩ ⟨show (cs + 1) + 0 ≤ 603072 by omega, show (ss + 6) + 0 ≤ 7211114 by omega⟩ ?_
    refine xv_rs ?_
    refine xv_istore hC dL_law_521 (by decide) ?_
    refine xv_aload_n hC dL_law_523 rfl rfl ?_
    refine xv_callV hC Y_yX7_thrown im_yX7_thrown se_yX7_thrown ml_L_43 dL_law_524 (em_thrown l G (h + 57) sz' (mOcM M (xs (i + 1))) (wC G h (E) (S) (O) (oN (on)) (sec, lP (po), re, cf, oN (so), seen, rf) Rd (wX G h (oN (ra)) Ra (wO G (h + 74) (f))))) (ml_w_obj _ _ _ _) rfl rfl rfl (Nat.le_of_ble_eq_true rfl) ⟨(Nat.le_of_ble_eq_true rfl), (Nat.le_of_ble_eq_true rfl)⟩ ⟨show (cs + 1) + 0 ≤ 603072 by omega, show (ss + 6) + 0 ≤ 7211114 by omega⟩ ?_
    refine xv_rs ?_
    refine xv_cast (congrArg Value.int (show (mOcM M (xs (i + 1))).1 0 = nI 1 by show va_up M.1 0 (if xIn (xs (i + 1)) (M.2.2.1 11) = true then nI 0 else nI 1) 0 = nI 1; rw [va_up_self, (rel_octet hr (xs (i + 1))).1, hB]; rfl)) ?_
    refine xv_iload hC dL_law_527 rfl ?_
    refine xv_icmp_eq (tgt := 534) hC dL_law_529 (by decide) (fun _ => ?_) (fun hz => absurd rfl hz)
    refine xv_iload hC dL_law_534 rfl ?_
    refine xv_if_ne (tgt := 551) hC dL_law_536 (by decide) (fun _ => ?_) (fun hz => absurd hz (by decide))
    refine xv_goto (tgt := 755) hC dL_law_551 (by decide) ?_
    refine xv_world (wCM _ _ _ _ _ _ _ _ _ _ _ _).symm ?_
    refine xV.to [(4, .int (nI i)), (3, .ref (h + 74)), (2, .ref (h + 57)), (1, .ref h), (0, .ref b)] ⟨rfl, rfl, rfl, rfl, rfl, trivial⟩ ?_
    exact hJ _ _ _ _ _ _ _ _ _ _ _ _ _ _ _ _ _ _ _ (rel_octet hr (xs (i + 1))).2.2 hA (by omega) (by omega)
