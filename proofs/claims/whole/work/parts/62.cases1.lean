def LawJ (p : Program) (l : Launch) (e : Env) (s : State) (m : MethodId) (below : List Frame) (meth : Method) (c : Code) (G : xD) (b h i : Nat) : Prop :=
  ∀ (sz cs ss : Nat) (E : cE) (S : cS) (O : cO) (on : Nat → Nat) (sec : Nat) (po : Nat → Option Nat) (re cf : Nat → Int32) (so : Nat → Nat) (seen rf : Int32) (Rd : cR) (ra : Nat → Nat) (Ra : cR) (M : mT) (f : Nat → Int64), Rel E S O sec po re cf so M → (∀ j, ra j ≤ 8000) → cs ≤ 110 + (i + 5) → ss ≤ 53232 + 6 * (i + 5) →
    xV p l e room_1 s m #[Value.ref b] below meth c G (fun q : Nat => s.heap.size ≤ q) 8 (lw_Z below #[Value.ref b] s) sz (wC G h (E) (S) (O) (oN (on)) (sec, lP (po), re, cf, oN (so), seen, rf) Rd (wX G h (oN (ra)) Ra (wM G (h + 57) (M) (wO G (h + 74) (f))))) cs ss 755 [(4, .int (nI i)), (3, .ref (h + 74)), (2, .ref (h + 57)), (1, .ref h), (0, .ref b)] []
set_option maxHeartbeats 1000000 in
set_option maxRecDepth 100000 in
theorem lc_put {p : Program} {l : Launch} {e : Env} {s : State} {m : MethodId} {below : List Frame} {meth : Method} {c : Code} {G : xD} {b L : Nat} {xs : Nat → Int32} (hK : LawC p l s m meth c G b L xs) {h i : Nat} (hJ : LawJ p l e s m below meth c G b h i) (hi : i + 5 ≤ L) {sz cs ss : Nat} {E : cE} {S : cS} {O : cO} {on : Nat → Nat} {sec : Nat} {po : Nat → Option Nat} {re cf : Nat → Int32} {so : Nat → Nat} {seen rf : Int32} {Rd : cR} {ra : Nat → Nat} {Ra : cR} {M : mT} {f : Nat → Int64} (hr : Rel E S O sec po re cf so M) (hA : ∀ j, ra j ≤ 8000) (hcs : cs ≤ 110 + i) (hss : ss ≤ 53232 + 6 * i) : xV p l e room_1 s m #[Value.ref b] below meth c G (fun q : Nat => s.heap.size ≤ q) 8 (lw_Z below #[Value.ref b] s) sz (wC G h (E) (S) (O) (oN (on)) (sec, lP (po), re, cf, oN (so), seen, rf) Rd (wX G h (oN (ra)) Ra (wM G (h + 57) (M) (wO G (h + 74) (f))))) cs ss 116 [(4, .int (nI i)), (3, .ref (h + 74)), (2, .ref (h + 57)), (1, .ref h), (0, .ref b)] [] := by
  have hC := hK.1
  have hbA : ¬ (fun q : Nat => s.heap.size ≤ q) b := Nat.not_le.mpr hK.2.2.2.2.1
  have hL := hK.2.2.2.2.2.1
  refine xv_aload_n hC dL_law_116 rfl rfl ?_
  refine xv_arg hC hK.2.2.2.1 hK.2.2.2.2.1 hbA (by omega) 1 (by omega) dL_law_117 dL_law_118 dL_law_120 (by decide) dL_law_121 dL_law_122 rfl rfl ?_
  refine xv_arg hC hK.2.2.2.1 hK.2.2.2.2.1 hbA (by omega) 2 (by omega) dL_law_123 dL_law_124 dL_law_126 (by decide) dL_law_127 dL_law_128 rfl rfl ?_
  refine xv_arg hC hK.2.2.2.1 hK.2.2.2.2.1 hbA (by omega) 3 (by omega) dL_law_129 dL_law_130 dL_law_132 (by decide) dL_law_133 dL_law_134 rfl rfl ?_
  refine xv_i2l hC dL_law_135 ?_
  refine xv_bipush (v := nI 32) hC dL_law_136 (by decide) ?_
  refine xv_lshl hC dL_law_138 ?_
  refine xv_arg hC hK.2.2.2.1 hK.2.2.2.2.1 hbA (by omega) 4 (by omega) dL_law_139 dL_law_140 dL_law_142 (by decide) dL_law_143 dL_law_144 rfl rfl ?_
  refine xv_i2l hC dL_law_145 ?_
  refine xv_ldc2 hC dL_law_146 kn_L_25 ?_
  refine xv_land hC dL_law_149 ?_
  refine xv_lor hC dL_law_150 ?_
  refine xv_callV hC Y_yX6_put im_yX6_put se_yX6_put ml_L_27 dL_law_151 (ev_put l G h sz E S O on sec po re cf so seen rf Rd (wX G h (oN ra) Ra (wM G (h + 57) M (wO G (h + 74) f))) (xs (i + 1)) (xs (i + 2)) _) (wl_FF _ _ _ _ _ _ _ _ _) rfl rfl rfl (Nat.le_of_ble_eq_true rfl) ⟨(Nat.le_of_ble_eq_true rfl), (Nat.le_of_ble_eq_true rfl)⟩ ⟨show cs + 0 ≤ 603072 by omega, show ss + 0 ≤ 7211114 by omega⟩ ?_
  refine xv_rs ?_
  refine xv_world (wCM _ _ _ _ _ _ _ _ _ _ _ _) ?_
  refine xv_aload_n hC dL_law_154 rfl rfl ?_
  refine xv_arg hC hK.2.2.2.1 hK.2.2.2.2.1 hbA (by omega) 1 (by omega) dL_law_155 dL_law_156 dL_law_158 (by decide) dL_law_159 dL_law_160 rfl rfl ?_
  refine xv_arg hC hK.2.2.2.1 hK.2.2.2.2.1 hbA (by omega) 2 (by omega) dL_law_161 dL_law_162 dL_law_164 (by decide) dL_law_165 dL_law_166 rfl rfl ?_
  refine xv_arg hC hK.2.2.2.1 hK.2.2.2.2.1 hbA (by omega) 3 (by omega) dL_law_167 dL_law_168 dL_law_170 (by decide) dL_law_171 dL_law_172 rfl rfl ?_
  refine xv_i2l hC dL_law_173 ?_
  refine xv_bipush (v := nI 32) hC dL_law_174 (by decide) ?_
  refine xv_lshl hC dL_law_176 ?_
  refine xv_arg hC hK.2.2.2.1 hK.2.2.2.2.1 hbA (by omega) 4 (by omega) dL_law_177 dL_law_178 dL_law_180 (by decide) dL_law_181 dL_law_182 rfl rfl ?_
  refine xv_i2l hC dL_law_183 ?_
  refine xv_ldc2 hC dL_law_184 kn_L_25 ?_
  refine xv_land hC dL_law_187 ?_
  refine xv_lor hC dL_law_188 ?_
  refine xv_callV hC Y_yX7_put im_yX7_put se_yX7_put ml_L_31 dL_law_189 (em_put l G (h + 57) sz M (wC G h (fpE E S (xs (i + 1)) (xs (i + 2)) ((xs (i + 3)).toInt64 <<< ((nI 32).toInt64 &&& 63) ||| (xs (i + 4)).toInt64 &&& 4294967295)) (fpS E S (xs (i + 1)) (xs (i + 2)) ((xs (i + 3)).toInt64 <<< ((nI 32).toInt64 &&& 63) ||| (xs (i + 4)).toInt64 &&& 4294967295)) (O) (oN (on)) (sec, lP (po), re, cf, oN (so), seen, rf) Rd (wX G h (oN (ra)) Ra (wO G (h + 74) f))) (xs (i + 1)) (xs (i + 2)) _) (ml_w_obj _ _ _ _) rfl rfl rfl (Nat.le_of_ble_eq_true rfl) ⟨(Nat.le_of_ble_eq_true rfl), (Nat.le_of_ble_eq_true rfl)⟩ ⟨show cs + 0 ≤ 603072 by omega, show ss + 0 ≤ 7211114 by omega⟩ ?_
  refine xv_rs ?_
  refine xv_world (wCM _ _ _ _ _ _ _ _ _ _ _ _).symm ?_
  refine xv_icmp_eq (tgt := 755) hC dL_law_192 (by decide) (fun hz => ?_) (fun hz => ?_)
  · exact hJ _ _ _ _ _ _ _ _ _ _ _ _ _ _ _ _ _ _ _ ((rel_put hr (xs (i + 1)) (xs (i + 2)) _).2) (hA) (by omega) (by omega)
  · exact absurd ((rel_put hr (xs (i + 1)) (xs (i + 2)) _).1) hz
set_option maxHeartbeats 1000000 in
set_option maxRecDepth 100000 in
theorem lc_take {p : Program} {l : Launch} {e : Env} {s : State} {m : MethodId} {below : List Frame} {meth : Method} {c : Code} {G : xD} {b L : Nat} {xs : Nat → Int32} (hK : LawC p l s m meth c G b L xs) {h i : Nat} (hJ : LawJ p l e s m below meth c G b h i) (hi : i + 5 ≤ L) {sz cs ss : Nat} {E : cE} {S : cS} {O : cO} {on : Nat → Nat} {sec : Nat} {po : Nat → Option Nat} {re cf : Nat → Int32} {so : Nat → Nat} {seen rf : Int32} {Rd : cR} {ra : Nat → Nat} {Ra : cR} {M : mT} {f : Nat → Int64} (hr : Rel E S O sec po re cf so M) (hA : ∀ j, ra j ≤ 8000) (hcs : cs ≤ 110 + i) (hss : ss ≤ 53232 + 6 * i) : xV p l e room_1 s m #[Value.ref b] below meth c G (fun q : Nat => s.heap.size ≤ q) 8 (lw_Z below #[Value.ref b] s) sz (wC G h (E) (S) (O) (oN (on)) (sec, lP (po), re, cf, oN (so), seen, rf) Rd (wX G h (oN (ra)) Ra (wM G (h + 57) (M) (wO G (h + 74) (f))))) cs ss 197 [(4, .int (nI i)), (3, .ref (h + 74)), (2, .ref (h + 57)), (1, .ref h), (0, .ref b)] [] := by
  have hC := hK.1
  have hbA : ¬ (fun q : Nat => s.heap.size ≤ q) b := Nat.not_le.mpr hK.2.2.2.2.1
  have hL := hK.2.2.2.2.2.1
  refine xv_aload_n hC dL_law_197 rfl rfl ?_
  refine xv_arg hC hK.2.2.2.1 hK.2.2.2.2.1 hbA (by omega) 1 (by omega) dL_law_198 dL_law_199 dL_law_201 (by decide) dL_law_202 dL_law_203 rfl rfl ?_
  refine xv_arg hC hK.2.2.2.1 hK.2.2.2.2.1 hbA (by omega) 2 (by omega) dL_law_204 dL_law_205 dL_law_207 (by decide) dL_law_208 dL_law_209 rfl rfl ?_
  refine xv_callV hC Y_yX6_take im_yX6_take se_yX6_take ml_L_32 dL_law_210 (ev_take l G h sz E S O on sec po re cf so seen rf Rd (wX G h (oN ra) Ra (wM G (h + 57) M (wO G (h + 74) f))) hr.2.2.1.1 (xs (i + 1)) (xs (i + 2))) (wl_FF _ _ _ _ _ _ _ _ _) rfl rfl rfl (Nat.le_of_ble_eq_true rfl) ⟨(Nat.le_of_ble_eq_true rfl), (Nat.le_of_ble_eq_true rfl)⟩ ⟨show cs + 0 ≤ 603072 by omega, show ss + 0 ≤ 7211114 by omega⟩ ?_
  refine xv_rs ?_
  refine xv_world (wCM _ _ _ _ _ _ _ _ _ _ _ _) ?_
  refine xv_aload_n hC dL_law_213 rfl rfl ?_
  refine xv_arg hC hK.2.2.2.1 hK.2.2.2.2.1 hbA (by omega) 1 (by omega) dL_law_214 dL_law_215 dL_law_217 (by decide) dL_law_218 dL_law_219 rfl rfl ?_
  refine xv_arg hC hK.2.2.2.1 hK.2.2.2.2.1 hbA (by omega) 2 (by omega) dL_law_220 dL_law_221 dL_law_223 (by decide) dL_law_224 dL_law_225 rfl rfl ?_
  refine xv_callV hC Y_yX7_take im_yX7_take se_yX7_take ml_L_36 dL_law_226 (em_take l G (h + 57) sz M (wC G h (ftE E S (xs (i + 1)) (xs (i + 2))) (ftS E S (xs (i + 1)) (xs (i + 2))) (O) (oN (on)) (sec, lP (po), re, cf, oN (so), seen, rf) Rd (wX G h (oN (ra)) Ra (wO G (h + 74) f))) (xs (i + 1)) (xs (i + 2))) (ml_w_obj _ _ _ _) rfl rfl rfl (Nat.le_of_ble_eq_true rfl) ⟨(Nat.le_of_ble_eq_true rfl), (Nat.le_of_ble_eq_true rfl)⟩ ⟨show cs + 0 ≤ 603072 by omega, show ss + 0 ≤ 7211114 by omega⟩ ?_
  refine xv_rs ?_
  refine xv_world (wCM _ _ _ _ _ _ _ _ _ _ _ _).symm ?_
  refine xv_icmp_eq (tgt := 755) hC dL_law_229 (by decide) (fun hz => ?_) (fun hz => ?_)
  · exact hJ _ _ _ _ _ _ _ _ _ _ _ _ _ _ _ _ _ _ _ ((rel_take hr (xs (i + 1)) (xs (i + 2))).2) (hA) (by omega) (by omega)
  · exact absurd ((rel_take hr (xs (i + 1)) (xs (i + 2))).1) hz
set_option maxHeartbeats 1000000 in
set_option maxRecDepth 100000 in
theorem lc_needs {p : Program} {l : Launch} {e : Env} {s : State} {m : MethodId} {below : List Frame} {meth : Method} {c : Code} {G : xD} {b L : Nat} {xs : Nat → Int32} (hK : LawC p l s m meth c G b L xs) {h i : Nat} (hJ : LawJ p l e s m below meth c G b h i) (hi : i + 5 ≤ L) {sz cs ss : Nat} {E : cE} {S : cS} {O : cO} {on : Nat → Nat} {sec : Nat} {po : Nat → Option Nat} {re cf : Nat → Int32} {so : Nat → Nat} {seen rf : Int32} {Rd : cR} {ra : Nat → Nat} {Ra : cR} {M : mT} {f : Nat → Int64} (hr : Rel E S O sec po re cf so M) (hA : ∀ j, ra j ≤ 8000) (hcs : cs ≤ 110 + i) (hss : ss ≤ 53232 + 6 * i) : xV p l e room_1 s m #[Value.ref b] below meth c G (fun q : Nat => s.heap.size ≤ q) 8 (lw_Z below #[Value.ref b] s) sz (wC G h (E) (S) (O) (oN (on)) (sec, lP (po), re, cf, oN (so), seen, rf) Rd (wX G h (oN (ra)) Ra (wM G (h + 57) (M) (wO G (h + 74) (f))))) cs ss 301 [(4, .int (nI i)), (3, .ref (h + 74)), (2, .ref (h + 57)), (1, .ref h), (0, .ref b)] [] := by
  have hC := hK.1
  have hbA : ¬ (fun q : Nat => s.heap.size ≤ q) b := Nat.not_le.mpr hK.2.2.2.2.1
  have hL := hK.2.2.2.2.2.1
  by_cases hd : xs (i + 3) = 0
  · skip
    refine xv_aload_n hC dL_law_301 rfl rfl ?_
    refine xv_arg hC hK.2.2.2.1 hK.2.2.2.2.1 hbA (by omega) 1 (by omega) dL_law_302 dL_law_303 dL_law_305 (by decide) dL_law_306 dL_law_307 rfl rfl ?_
    refine xv_arg hC hK.2.2.2.1 hK.2.2.2.2.1 hbA (by omega) 2 (by omega) dL_law_308 dL_law_309 dL_law_311 (by decide) dL_law_312 dL_law_313 rfl rfl ?_
    refine xv_arg hC hK.2.2.2.1 hK.2.2.2.2.1 hbA (by omega) 3 (by omega) dL_law_314 dL_law_315 dL_law_317 (by decide) dL_law_318 dL_law_319 rfl rfl ?_
    refine xv_if_eq (tgt := 327) hC dL_law_320 (by decide) (fun _ => ?_) (fun hz => absurd hd hz)
    refine xv_iconst (v := cI false) hC dL_law_327 (by decide) ?_
    refine xv_callV hC Y_yX6_needs im_yX6_needs se_yX6_needs ml_L_47 dL_law_328 (ev_needs l G h sz E S O on sec po re cf so seen rf Rd (wX G h (oN ra) Ra (wM G (h + 57) M (wO G (h + 74) f))) (xs (i + 1)) (xs (i + 2)) false) (wl_FF _ _ _ _ _ _ _ _ _) rfl rfl rfl (Nat.le_of_ble_eq_true rfl) ⟨(Nat.le_of_ble_eq_true rfl), (Nat.le_of_ble_eq_true rfl)⟩ ⟨show cs + 0 ≤ 603072 by omega, show ss + 0 ≤ 7211114 by omega⟩ ?_
    refine xv_rs ?_
    refine xv_world (wCM _ _ _ _ _ _ _ _ _ _ _ _) ?_
    refine xv_aload_n hC dL_law_331 rfl rfl ?_
    refine xv_arg hC hK.2.2.2.1 hK.2.2.2.2.1 hbA (by omega) 1 (by omega) dL_law_332 dL_law_333 dL_law_335 (by decide) dL_law_336 dL_law_337 rfl rfl ?_
    refine xv_arg hC hK.2.2.2.1 hK.2.2.2.2.1 hbA (by omega) 2 (by omega) dL_law_338 dL_law_339 dL_law_341 (by decide) dL_law_342 dL_law_343 rfl rfl ?_
    refine xv_arg hC hK.2.2.2.1 hK.2.2.2.2.1 hbA (by omega) 3 (by omega) dL_law_344 dL_law_345 dL_law_347 (by decide) dL_law_348 dL_law_349 rfl rfl ?_
    refine xv_if_eq (tgt := 357) hC dL_law_350 (by decide) (fun _ => ?_) (fun hz => absurd hd hz)
    refine xv_iconst (v := cI false) hC dL_law_357 (by decide) ?_
    refine xv_callV hC Y_yX7_needs im_yX7_needs se_yX7_needs ml_L_51 dL_law_358 (em_needs l G (h + 57) sz M (wC G h (E) (fnS S (xs (i + 1)) (xs (i + 2)) false) (O) (oN (on)) (sec, lP (po), re, cf, oN (so), seen, rf) Rd (wX G h (oN (ra)) Ra (wO G (h + 74) f))) (xs (i + 1)) (xs (i + 2)) false) (ml_w_obj _ _ _ _) rfl rfl rfl (Nat.le_of_ble_eq_true rfl) ⟨(Nat.le_of_ble_eq_true rfl), (Nat.le_of_ble_eq_true rfl)⟩ ⟨show cs + 0 ≤ 603072 by omega, show ss + 0 ≤ 7211114 by omega⟩ ?_
    refine xv_rs ?_
    refine xv_world (wCM _ _ _ _ _ _ _ _ _ _ _ _).symm ?_
    refine xv_icmp_eq (tgt := 755) hC dL_law_361 (by decide) (fun hz => ?_) (fun hz => ?_)
    · exact hJ _ _ _ _ _ _ _ _ _ _ _ _ _ _ _ _ _ _ _ ((rel_needs hr (xs (i + 1)) (xs (i + 2)) false).2) (hA) (by omega) (by omega)
    · exact absurd ((rel_needs hr (xs (i + 1)) (xs (i + 2)) false).1) hz
  · skip
    refine xv_aload_n hC dL_law_301 rfl rfl ?_
    refine xv_arg hC hK.2.2.2.1 hK.2.2.2.2.1 hbA (by omega) 1 (by omega) dL_law_302 dL_law_303 dL_law_305 (by decide) dL_law_306 dL_law_307 rfl rfl ?_
    refine xv_arg hC hK.2.2.2.1 hK.2.2.2.2.1 hbA (by omega) 2 (by omega) dL_law_308 dL_law_309 dL_law_311 (by decide) dL_law_312 dL_law_313 rfl rfl ?_
    refine xv_arg hC hK.2.2.2.1 hK.2.2.2.2.1 hbA (by omega) 3 (by omega) dL_law_314 dL_law_315 dL_law_317 (by decide) dL_law_318 dL_law_319 rfl rfl ?_
    refine xv_if_eq (tgt := 327) hC dL_law_320 (by decide) (fun hz => absurd hz hd) (fun _ => ?_)
    refine xv_iconst (v := cI true) hC dL_law_323 (by decide) ?_
    refine xv_goto (tgt := 328) hC dL_law_324 (by decide) ?_
    refine xv_callV hC Y_yX6_needs im_yX6_needs se_yX6_needs ml_L_47 dL_law_328 (ev_needs l G h sz E S O on sec po re cf so seen rf Rd (wX G h (oN ra) Ra (wM G (h + 57) M (wO G (h + 74) f))) (xs (i + 1)) (xs (i + 2)) true) (wl_FF _ _ _ _ _ _ _ _ _) rfl rfl rfl (Nat.le_of_ble_eq_true rfl) ⟨(Nat.le_of_ble_eq_true rfl), (Nat.le_of_ble_eq_true rfl)⟩ ⟨show cs + 0 ≤ 603072 by omega, show ss + 0 ≤ 7211114 by omega⟩ ?_
    refine xv_rs ?_
    refine xv_world (wCM _ _ _ _ _ _ _ _ _ _ _ _) ?_
    refine xv_aload_n hC dL_law_331 rfl rfl ?_
    refine xv_arg hC hK.2.2.2.1 hK.2.2.2.2.1 hbA (by omega) 1 (by omega) dL_law_332 dL_law_333 dL_law_335 (by decide) dL_law_336 dL_law_337 rfl rfl ?_
    refine xv_arg hC hK.2.2.2.1 hK.2.2.2.2.1 hbA (by omega) 2 (by omega) dL_law_338 dL_law_339 dL_law_341 (by decide) dL_law_342 dL_law_343 rfl rfl ?_
    refine xv_arg hC hK.2.2.2.1 hK.2.2.2.2.1 hbA (by omega) 3 (by omega) dL_law_344 dL_law_345 dL_law_347 (by decide) dL_law_348 dL_law_349 rfl rfl ?_
    refine xv_if_eq (tgt := 357) hC dL_law_350 (by decide) (fun hz => absurd hz hd) (fun _ => ?_)
    refine xv_iconst (v := cI true) hC dL_law_353 (by decide) ?_
    refine xv_goto (tgt := 358) hC dL_law_354 (by decide) ?_
    refine xv_callV hC Y_yX7_needs im_yX7_needs se_yX7_needs ml_L_51 dL_law_358 (em_needs l G (h + 57) sz M (wC G h (E) (fnS S (xs (i + 1)) (xs (i + 2)) true) (O) (oN (on)) (sec, lP (po), re, cf, oN (so), seen, rf) Rd (wX G h (oN (ra)) Ra (wO G (h + 74) f))) (xs (i + 1)) (xs (i + 2)) true) (ml_w_obj _ _ _ _) rfl rfl rfl (Nat.le_of_ble_eq_true rfl) ⟨(Nat.le_of_ble_eq_true rfl), (Nat.le_of_ble_eq_true rfl)⟩ ⟨show cs + 0 ≤ 603072 by omega, show ss + 0 ≤ 7211114 by omega⟩ ?_
    refine xv_rs ?_
    refine xv_world (wCM _ _ _ _ _ _ _ _ _ _ _ _).symm ?_
    refine xv_icmp_eq (tgt := 755) hC dL_law_361 (by decide) (fun hz => ?_) (fun hz => ?_)
    · exact hJ _ _ _ _ _ _ _ _ _ _ _ _ _ _ _ _ _ _ _ ((rel_needs hr (xs (i + 1)) (xs (i + 2)) true).2) (hA) (by omega) (by omega)
    · exact absurd ((rel_needs hr (xs (i + 1)) (xs (i + 2)) true).1) hz
set_option maxHeartbeats 1000000 in
set_option maxRecDepth 100000 in
theorem lc_version {p : Program} {l : Launch} {e : Env} {s : State} {m : MethodId} {below : List Frame} {meth : Method} {c : Code} {G : xD} {b L : Nat} {xs : Nat → Int32} (hK : LawC p l s m meth c G b L xs) {h i : Nat} (hJ : LawJ p l e s m below meth c G b h i) (hi : i + 5 ≤ L) {sz cs ss : Nat} {E : cE} {S : cS} {O : cO} {on : Nat → Nat} {sec : Nat} {po : Nat → Option Nat} {re cf : Nat → Int32} {so : Nat → Nat} {seen rf : Int32} {Rd : cR} {ra : Nat → Nat} {Ra : cR} {M : mT} {f : Nat → Int64} (hr : Rel E S O sec po re cf so M) (hA : ∀ j, ra j ≤ 8000) (hcs : cs ≤ 110 + i) (hss : ss ≤ 53232 + 6 * i) : xV p l e room_1 s m #[Value.ref b] below meth c G (fun q : Nat => s.heap.size ≤ q) 8 (lw_Z below #[Value.ref b] s) sz (wC G h (E) (S) (O) (oN (on)) (sec, lP (po), re, cf, oN (so), seen, rf) Rd (wX G h (oN (ra)) Ra (wM G (h + 57) (M) (wO G (h + 74) (f))))) cs ss 366 [(4, .int (nI i)), (3, .ref (h + 74)), (2, .ref (h + 57)), (1, .ref h), (0, .ref b)] [] := by
  have hC := hK.1
  have hbA : ¬ (fun q : Nat => s.heap.size ≤ q) b := Nat.not_le.mpr hK.2.2.2.2.1
  have hL := hK.2.2.2.2.2.1
  refine xv_aload_n hC dL_law_366 rfl rfl ?_
  refine xv_arg hC hK.2.2.2.1 hK.2.2.2.2.1 hbA (by omega) 1 (by omega) dL_law_367 dL_law_368 dL_law_370 (by decide) dL_law_371 dL_law_372 rfl rfl ?_
  refine xv_callV hC Y_yX6_version im_yX6_version se_yX6_version ml_L_52 dL_law_373 (ev_version l G h sz E S O on sec po re cf so seen rf Rd (wX G h (oN ra) Ra (wM G (h + 57) M (wO G (h + 74) f))) (xs (i + 1))) (wl_FF _ _ _ _ _ _ _ _ _) rfl rfl rfl (Nat.le_of_ble_eq_true rfl) ⟨(Nat.le_of_ble_eq_true rfl), (Nat.le_of_ble_eq_true rfl)⟩ ⟨show cs + 0 ≤ 603072 by omega, show ss + 0 ≤ 7211114 by omega⟩ ?_
  refine xv_rs ?_
  refine xv_world (wCM _ _ _ _ _ _ _ _ _ _ _ _) ?_
  refine xv_aload_n hC dL_law_376 rfl rfl ?_
  refine xv_arg hC hK.2.2.2.1 hK.2.2.2.2.1 hbA (by omega) 1 (by omega) dL_law_377 dL_law_378 dL_law_380 (by decide) dL_law_381 dL_law_382 rfl rfl ?_
  refine xv_callV hC Y_yX7_version im_yX7_version se_yX7_version ml_L_56 dL_law_383 (em_version l G (h + 57) sz M (wC G h (E) (if fvB (xs (i + 1)) = true then (S.1, S.2.1, (xs (i + 1)), S.2.2.2) else S) (O) (oN (on)) (sec, lP (po), re, cf, oN (so), seen, rf) Rd (wX G h (oN (ra)) Ra (wO G (h + 74) f))) (xs (i + 1))) (ml_w_obj _ _ _ _) rfl rfl rfl (Nat.le_of_ble_eq_true rfl) ⟨(Nat.le_of_ble_eq_true rfl), (Nat.le_of_ble_eq_true rfl)⟩ ⟨show cs + 0 ≤ 603072 by omega, show ss + 0 ≤ 7211114 by omega⟩ ?_
  refine xv_rs ?_
  refine xv_world (wCM _ _ _ _ _ _ _ _ _ _ _ _).symm ?_
  refine xv_icmp_eq (tgt := 755) hC dL_law_386 (by decide) (fun hz => ?_) (fun hz => ?_)
  · exact hJ _ _ _ _ _ _ _ _ _ _ _ _ _ _ _ _ _ _ _ ((rel_version hr (xs (i + 1))).2) (hA) (by omega) (by omega)
  · exact absurd ((rel_version hr (xs (i + 1))).1) hz
set_option maxHeartbeats 1000000 in
set_option maxRecDepth 100000 in
theorem lc_mode {p : Program} {l : Launch} {e : Env} {s : State} {m : MethodId} {below : List Frame} {meth : Method} {c : Code} {G : xD} {b L : Nat} {xs : Nat → Int32} (hK : LawC p l s m meth c G b L xs) {h i : Nat} (hJ : LawJ p l e s m below meth c G b h i) (hi : i + 5 ≤ L) {sz cs ss : Nat} {E : cE} {S : cS} {O : cO} {on : Nat → Nat} {sec : Nat} {po : Nat → Option Nat} {re cf : Nat → Int32} {so : Nat → Nat} {seen rf : Int32} {Rd : cR} {ra : Nat → Nat} {Ra : cR} {M : mT} {f : Nat → Int64} (hr : Rel E S O sec po re cf so M) (hA : ∀ j, ra j ≤ 8000) (hcs : cs ≤ 110 + i) (hss : ss ≤ 53232 + 6 * i) : xV p l e room_1 s m #[Value.ref b] below meth c G (fun q : Nat => s.heap.size ≤ q) 8 (lw_Z below #[Value.ref b] s) sz (wC G h (E) (S) (O) (oN (on)) (sec, lP (po), re, cf, oN (so), seen, rf) Rd (wX G h (oN (ra)) Ra (wM G (h + 57) (M) (wO G (h + 74) (f))))) cs ss 391 [(4, .int (nI i)), (3, .ref (h + 74)), (2, .ref (h + 57)), (1, .ref h), (0, .ref b)] [] := by
  have hC := hK.1
  have hbA : ¬ (fun q : Nat => s.heap.size ≤ q) b := Nat.not_le.mpr hK.2.2.2.2.1
  have hL := hK.2.2.2.2.2.1
  refine xv_aload_n hC dL_law_391 rfl rfl ?_
  refine xv_arg hC hK.2.2.2.1 hK.2.2.2.2.1 hbA (by omega) 1 (by omega) dL_law_392 dL_law_393 dL_law_395 (by decide) dL_law_396 dL_law_397 rfl rfl ?_
  refine xv_callV hC Y_yX6_mode im_yX6_mode se_yX6_mode ml_L_57 dL_law_398 (ev_mode l G h sz E S O on sec po re cf so seen rf Rd (wX G h (oN ra) Ra (wM G (h + 57) M (wO G (h + 74) f))) (xs (i + 1))) (wl_FF _ _ _ _ _ _ _ _ _) rfl rfl rfl (Nat.le_of_ble_eq_true rfl) ⟨(Nat.le_of_ble_eq_true rfl), (Nat.le_of_ble_eq_true rfl)⟩ ⟨show cs + 0 ≤ 603072 by omega, show ss + 0 ≤ 7211114 by omega⟩ ?_
  refine xv_rs ?_
  refine xv_world (wCM _ _ _ _ _ _ _ _ _ _ _ _) ?_
  refine xv_aload_n hC dL_law_401 rfl rfl ?_
  refine xv_arg hC hK.2.2.2.1 hK.2.2.2.2.1 hbA (by omega) 1 (by omega) dL_law_402 dL_law_403 dL_law_405 (by decide) dL_law_406 dL_law_407 rfl rfl ?_
  refine xv_callV hC Y_yX7_mode im_yX7_mode se_yX7_mode ml_L_60 dL_law_408 (em_mode l G (h + 57) sz M (wC G h (E) (if fmB (xs (i + 1)) = true then (S.1, S.2.1, S.2.2.1, (xs (i + 1)), S.2.2.2.2) else S) (O) (oN (on)) (sec, lP (po), re, cf, oN (so), seen, rf) Rd (wX G h (oN (ra)) Ra (wO G (h + 74) f))) (xs (i + 1))) (ml_w_obj _ _ _ _) rfl rfl rfl (Nat.le_of_ble_eq_true rfl) ⟨(Nat.le_of_ble_eq_true rfl), (Nat.le_of_ble_eq_true rfl)⟩ ⟨show cs + 0 ≤ 603072 by omega, show ss + 0 ≤ 7211114 by omega⟩ ?_
  refine xv_rs ?_
  refine xv_world (wCM _ _ _ _ _ _ _ _ _ _ _ _).symm ?_
  refine xv_icmp_eq (tgt := 755) hC dL_law_411 (by decide) (fun hz => ?_) (fun hz => ?_)
  · exact hJ _ _ _ _ _ _ _ _ _ _ _ _ _ _ _ _ _ _ _ ((rel_mode hr (xs (i + 1))).2) (hA) (by omega) (by omega)
  · exact absurd ((rel_mode hr (xs (i + 1))).1) hz
set_option maxHeartbeats 1000000 in
set_option maxRecDepth 100000 in
theorem lc_busy {p : Program} {l : Launch} {e : Env} {s : State} {m : MethodId} {below : List Frame} {meth : Method} {c : Code} {G : xD} {b L : Nat} {xs : Nat → Int32} (hK : LawC p l s m meth c G b L xs) {h i : Nat} (hJ : LawJ p l e s m below meth c G b h i) (hi : i + 5 ≤ L) {sz cs ss : Nat} {E : cE} {S : cS} {O : cO} {on : Nat → Nat} {sec : Nat} {po : Nat → Option Nat} {re cf : Nat → Int32} {so : Nat → Nat} {seen rf : Int32} {Rd : cR} {ra : Nat → Nat} {Ra : cR} {M : mT} {f : Nat → Int64} (hr : Rel E S O sec po re cf so M) (hA : ∀ j, ra j ≤ 8000) (hcs : cs ≤ 110 + i) (hss : ss ≤ 53232 + 6 * i) : xV p l e room_1 s m #[Value.ref b] below meth c G (fun q : Nat => s.heap.size ≤ q) 8 (lw_Z below #[Value.ref b] s) sz (wC G h (E) (S) (O) (oN (on)) (sec, lP (po), re, cf, oN (so), seen, rf) Rd (wX G h (oN (ra)) Ra (wM G (h + 57) (M) (wO G (h + 74) (f))))) cs ss 416 [(4, .int (nI i)), (3, .ref (h + 74)), (2, .ref (h + 57)), (1, .ref h), (0, .ref b)] [] := by
  have hC := hK.1
  have hbA : ¬ (fun q : Nat => s.heap.size ≤ q) b := Nat.not_le.mpr hK.2.2.2.2.1
  have hL := hK.2.2.2.2.2.1
  by_cases hd : xs (i + 1) = 0
  · skip
    refine xv_aload_n hC dL_law_416 rfl rfl ?_
    refine xv_arg hC hK.2.2.2.1 hK.2.2.2.2.1 hbA (by omega) 1 (by omega) dL_law_417 dL_law_418 dL_law_420 (by decide) dL_law_421 dL_law_422 rfl rfl ?_
    refine xv_if_eq (tgt := 430) hC dL_law_423 (by decide) (fun _ => ?_) (fun hz => absurd hd hz)
    refine xv_iconst (v := cI false) hC dL_law_430 (by decide) ?_
    refine xv_callV hC Y_yX6_busy im_yX6_busy se_yX6_busy ml_L_61 dL_law_431 (ev_busy l G h sz E S O on sec po re cf so seen rf Rd (wX G h (oN ra) Ra (wM G (h + 57) M (wO G (h + 74) f))) false) (wl_FF _ _ _ _ _ _ _ _ _) rfl rfl rfl (Nat.le_of_ble_eq_true rfl) ⟨(Nat.le_of_ble_eq_true rfl), (Nat.le_of_ble_eq_true rfl)⟩ ⟨show cs + 0 ≤ 603072 by omega, show ss + 0 ≤ 7211114 by omega⟩ ?_
    refine xv_rs ?_
    refine xv_world (wCM _ _ _ _ _ _ _ _ _ _ _ _) ?_
    refine xv_aload_n hC dL_law_434 rfl rfl ?_
    refine xv_arg hC hK.2.2.2.1 hK.2.2.2.2.1 hbA (by omega) 1 (by omega) dL_law_435 dL_law_436 dL_law_438 (by decide) dL_law_439 dL_law_440 rfl rfl ?_
    refine xv_if_eq (tgt := 448) hC dL_law_441 (by decide) (fun _ => ?_) (fun hz => absurd hd hz)
    refine xv_iconst (v := cI false) hC dL_law_448 (by decide) ?_
    refine xv_callV hC Y_yX7_busy im_yX7_busy se_yX7_busy ml_L_65 dL_law_449 (em_busy l G (h + 57) sz M (wC G h (E) ((S.1, S.2.1, S.2.2.1, S.2.2.2.1, false, S.2.2.2.2.2)) (O) (oN (on)) (sec, lP (po), re, cf, oN (so), seen, rf) Rd (wX G h (oN (ra)) Ra (wO G (h + 74) f))) false) (ml_w_obj _ _ _ _) rfl rfl rfl (Nat.le_of_ble_eq_true rfl) ⟨(Nat.le_of_ble_eq_true rfl), (Nat.le_of_ble_eq_true rfl)⟩ ⟨show cs + 0 ≤ 603072 by omega, show ss + 0 ≤ 7211114 by omega⟩ ?_
    refine xv_rs ?_
    refine xv_world (wCM _ _ _ _ _ _ _ _ _ _ _ _).symm ?_
    refine xv_icmp_eq (tgt := 755) hC dL_law_452 (by decide) (fun hz => ?_) (fun hz => ?_)
    · exact hJ _ _ _ _ _ _ _ _ _ _ _ _ _ _ _ _ _ _ _ ((rel_busy hr false).2) (hA) (by omega) (by omega)
    · exact absurd ((rel_busy hr false).1) hz
  · skip
    refine xv_aload_n hC dL_law_416 rfl rfl ?_
    refine xv_arg hC hK.2.2.2.1 hK.2.2.2.2.1 hbA (by omega) 1 (by omega) dL_law_417 dL_law_418 dL_law_420 (by decide) dL_law_421 dL_law_422 rfl rfl ?_
    refine xv_if_eq (tgt := 430) hC dL_law_423 (by decide) (fun hz => absurd hz hd) (fun _ => ?_)
    refine xv_iconst (v := cI true) hC dL_law_426 (by decide) ?_
    refine xv_goto (tgt := 431) hC dL_law_427 (by decide) ?_
    refine xv_callV hC Y_yX6_busy im_yX6_busy se_yX6_busy ml_L_61 dL_law_431 (ev_busy l G h sz E S O on sec po re cf so seen rf Rd (wX G h (oN ra) Ra (wM G (h + 57) M (wO G (h + 74) f))) true) (wl_FF _ _ _ _ _ _ _ _ _) rfl rfl rfl (Nat.le_of_ble_eq_true rfl) ⟨(Nat.le_of_ble_eq_true rfl), (Nat.le_of_ble_eq_true rfl)⟩ ⟨show cs + 0 ≤ 603072 by omega, show ss + 0 ≤ 7211114 by omega⟩ ?_
    refine xv_rs ?_
    refine xv_world (wCM _ _ _ _ _ _ _ _ _ _ _ _) ?_
    refine xv_aload_n hC dL_law_434 rfl rfl ?_
    refine xv_arg hC hK.2.2.2.1 hK.2.2.2.2.1 hbA (by omega) 1 (by omega) dL_law_435 dL_law_436 dL_law_438 (by decide) dL_law_439 dL_law_440 rfl rfl ?_
    refine xv_if_eq (tgt := 448) hC dL_law_441 (by decide) (fun hz => absurd hz hd) (fun _ => ?_)
    refine xv_iconst (v := cI true) hC dL_law_444 (by decide) ?_
    refine xv_goto (tgt := 449) hC dL_law_445 (by decide) ?_
    refine xv_callV hC Y_yX7_busy im_yX7_busy se_yX7_busy ml_L_65 dL_law_449 (em_busy l G (h + 57) sz M (wC G h (E) ((S.1, S.2.1, S.2.2.1, S.2.2.2.1, true, S.2.2.2.2.2)) (O) (oN (on)) (sec, lP (po), re, cf, oN (so), seen, rf) Rd (wX G h (oN (ra)) Ra (wO G (h + 74) f))) true) (ml_w_obj _ _ _ _) rfl rfl rfl (Nat.le_of_ble_eq_true rfl) ⟨(Nat.le_of_ble_eq_true rfl), (Nat.le_of_ble_eq_true rfl)⟩ ⟨show cs + 0 ≤ 603072 by omega, show ss + 0 ≤ 7211114 by omega⟩ ?_
    refine xv_rs ?_
    refine xv_world (wCM _ _ _ _ _ _ _ _ _ _ _ _).symm ?_
    refine xv_icmp_eq (tgt := 755) hC dL_law_452 (by decide) (fun hz => ?_) (fun hz => ?_)
    · exact hJ _ _ _ _ _ _ _ _ _ _ _ _ _ _ _ _ _ _ _ ((rel_busy hr true).2) (hA) (by omega) (by omega)
    · exact absurd ((rel_busy hr true).1) hz
set_option maxHeartbeats 1000000 in
set_option maxRecDepth 100000 in
theorem lc_cut {p : Program} {l : Launch} {e : Env} {s : State} {m : MethodId} {below : List Frame} {meth : Method} {c : Code} {G : xD} {b L : Nat} {xs : Nat → Int32} (hK : LawC p l s m meth c G b L xs) {h i : Nat} (hJ : LawJ p l e s m below meth c G b h i) (hi : i + 5 ≤ L) {sz cs ss : Nat} {E : cE} {S : cS} {O : cO} {on : Nat → Nat} {sec : Nat} {po : Nat → Option Nat} {re cf : Nat → Int32} {so : Nat → Nat} {seen rf : Int32} {Rd : cR} {ra : Nat → Nat} {Ra : cR} {M : mT} {f : Nat → Int64} (hr : Rel E S O sec po re cf so M) (hA : ∀ j, ra j ≤ 8000) (hcs : cs ≤ 110 + i) (hss : ss ≤ 53232 + 6 * i) : xV p l e room_1 s m #[Value.ref b] below meth c G (fun q : Nat => s.heap.size ≤ q) 8 (lw_Z below #[Value.ref b] s) sz (wC G h (E) (S) (O) (oN (on)) (sec, lP (po), re, cf, oN (so), seen, rf) Rd (wX G h (oN (ra)) Ra (wM G (h + 57) (M) (wO G (h + 74) (f))))) cs ss 554 [(4, .int (nI i)), (3, .ref (h + 74)), (2, .ref (h + 57)), (1, .ref h), (0, .ref b)] [] := by
  have hC := hK.1
  have hbA : ¬ (fun q : Nat => s.heap.size ≤ q) b := Nat.not_le.mpr hK.2.2.2.2.1
  have hL := hK.2.2.2.2.2.1
  refine xv_aload_n hC dL_law_554 rfl rfl ?_
  refine xv_arg hC hK.2.2.2.1 hK.2.2.2.2.1 hbA (by omega) 1 (by omega) dL_law_555 dL_law_556 dL_law_558 (by decide) dL_law_559 dL_law_560 rfl rfl ?_
  refine xv_callV hC Y_yX6_cut im_yX6_cut se_yX6_cut ml_L_74 dL_law_561 (ev_cut l G h sz E S O on sec po re cf so seen rf Rd (wX G h (oN ra) Ra (wM G (h + 57) M (wO G (h + 74) f))) hr.2.2.2.1.2.1 (xs (i + 1))) (wl_FF _ _ _ _ _ _ _ _ _) rfl rfl rfl (Nat.le_of_ble_eq_true rfl) ⟨(Nat.le_of_ble_eq_true rfl), (Nat.le_of_ble_eq_true rfl)⟩ ⟨show cs + 0 ≤ 603072 by omega, show ss + 0 ≤ 7211114 by omega⟩ ?_
  refine xv_rs ?_
  refine xv_world (wCM _ _ _ _ _ _ _ _ _ _ _ _) ?_
  refine xv_aload_n hC dL_law_564 rfl rfl ?_
  refine xv_arg hC hK.2.2.2.1 hK.2.2.2.2.1 hbA (by omega) 1 (by omega) dL_law_565 dL_law_566 dL_law_568 (by decide) dL_law_569 dL_law_570 rfl rfl ?_
  refine xv_callV hC Y_yX7_cut im_yX7_cut se_yX7_cut ml_L_77 dL_law_571 (em_cut l G (h + 57) sz M (wC G h (E) (S) (if fcB O (xs (i + 1)) = true then (O.1, va_up O.2.1 0 (cl (xs (i + 1))), O.2.2) else O) (oN (on)) (sec, lP (po), re, cf, oN (so), seen, rf) Rd (wX G h (oN (ra)) Ra (wO G (h + 74) f))) (by rw [hr.1.1.1.2]; exact hr.2.2.2.1.2.1) (xs (i + 1))) (ml_w_obj _ _ _ _) rfl rfl rfl (Nat.le_of_ble_eq_true rfl) ⟨(Nat.le_of_ble_eq_true rfl), (Nat.le_of_ble_eq_true rfl)⟩ ⟨show cs + 0 ≤ 603072 by omega, show ss + 0 ≤ 7211114 by omega⟩ ?_
  refine xv_rs ?_
  refine xv_world (wCM _ _ _ _ _ _ _ _ _ _ _ _).symm ?_
  refine xv_icmp_eq (tgt := 755) hC dL_law_574 (by decide) (fun hz => ?_) (fun hz => ?_)
  · exact hJ _ _ _ _ _ _ _ _ _ _ _ _ _ _ _ _ _ _ _ ((rel_cut hr (xs (i + 1))).2) (hA) (by omega) (by omega)
  · exact absurd ((rel_cut hr (xs (i + 1))).1) hz
set_option maxHeartbeats 1000000 in
set_option maxRecDepth 100000 in
theorem lc_add {p : Program} {l : Launch} {e : Env} {s : State} {m : MethodId} {below : List Frame} {meth : Method} {c : Code} {G : xD} {b L : Nat} {xs : Nat → Int32} (hK : LawC p l s m meth c G b L xs) {h i : Nat} (hJ : LawJ p l e s m below meth c G b h i) (hi : i + 5 ≤ L) {sz cs ss : Nat} {E : cE} {S : cS} {O : cO} {on : Nat → Nat} {sec : Nat} {po : Nat → Option Nat} {re cf : Nat → Int32} {so : Nat → Nat} {seen rf : Int32} {Rd : cR} {ra : Nat → Nat} {Ra : cR} {M : mT} {f : Nat → Int64} (hr : Rel E S O sec po re cf so M) (hA : ∀ j, ra j ≤ 8000) (hcs : cs ≤ 110 + i) (hss : ss ≤ 53232 + 6 * i) : xV p l e room_1 s m #[Value.ref b] below meth c G (fun q : Nat => s.heap.size ≤ q) 8 (lw_Z below #[Value.ref b] s) sz (wC G h (E) (S) (O) (oN (on)) (sec, lP (po), re, cf, oN (so), seen, rf) Rd (wX G h (oN (ra)) Ra (wM G (h + 57) (M) (wO G (h + 74) (f))))) cs ss 579 [(4, .int (nI i)), (3, .ref (h + 74)), (2, .ref (h + 57)), (1, .ref h), (0, .ref b)] [] := by
  have hC := hK.1
  have hbA : ¬ (fun q : Nat => s.heap.size ≤ q) b := Nat.not_le.mpr hK.2.2.2.2.1
  have hL := hK.2.2.2.2.2.1
  refine xv_aload_n hC dL_law_579 rfl rfl ?_
  refine xv_arg hC hK.2.2.2.1 hK.2.2.2.2.1 hbA (by omega) 1 (by omega) dL_law_580 dL_law_581 dL_law_583 (by decide) dL_law_584 dL_law_585 rfl rfl ?_
  refine xv_i2b hC dL_law_586 ?_
  refine xv_callV hC Y_yX6_add im_yX6_add se_yX6_add ml_L_78 dL_law_587 (ev_add l G h sz E S O on sec po re cf so seen rf Rd (wX G h (oN ra) Ra (wM G (h + 57) M (wO G (h + 74) f))) hr.2.2.2.1.2.1 ((xs (i + 1)).toInt8.toInt32)) (wl_FF _ _ _ _ _ _ _ _ _) rfl rfl rfl (Nat.le_of_ble_eq_true rfl) ⟨(Nat.le_of_ble_eq_true rfl), (Nat.le_of_ble_eq_true rfl)⟩ ⟨show cs + 0 ≤ 603072 by omega, show ss + 0 ≤ 7211114 by omega⟩ ?_
  refine xv_rs ?_
  refine xv_world (wCM _ _ _ _ _ _ _ _ _ _ _ _) ?_
  refine xv_aload_n hC dL_law_590 rfl rfl ?_
  refine xv_arg hC hK.2.2.2.1 hK.2.2.2.2.1 hbA (by omega) 1 (by omega) dL_law_591 dL_law_592 dL_law_594 (by decide) dL_law_595 dL_law_596 rfl rfl ?_
  refine xv_i2b hC dL_law_597 ?_
  refine xv_callV hC Y_yX7_add im_yX7_add se_yX7_add ml_L_82 dL_law_598 (em_add l G (h + 57) sz M (wC G h (E) (S) (faO' O ((xs (i + 1)).toInt8.toInt32)) (oN (on)) (sec, lP (po), re, cf, oN (so), seen, rf) Rd (wX G h (oN (ra)) Ra (wO G (h + 74) f))) (by rw [hr.1.1.1.2]; exact hr.2.2.2.1.2.1) ((xs (i + 1)).toInt8.toInt32)) (ml_w_obj _ _ _ _) rfl rfl rfl (Nat.le_of_ble_eq_true rfl) ⟨(Nat.le_of_ble_eq_true rfl), (Nat.le_of_ble_eq_true rfl)⟩ ⟨show cs + 0 ≤ 603072 by omega, show ss + 0 ≤ 7211114 by omega⟩ ?_
  refine xv_rs ?_
  refine xv_world (wCM _ _ _ _ _ _ _ _ _ _ _ _).symm ?_
  refine xv_icmp_eq (tgt := 755) hC dL_law_601 (by decide) (fun hz => ?_) (fun hz => ?_)
  · exact hJ _ _ _ _ _ _ _ _ _ _ _ _ _ _ _ _ _ _ _ ((rel_add hr ((xs (i + 1)).toInt8.toInt32)).2) (hA) (by omega) (by omega)
  · exact absurd ((rel_add hr ((xs (i + 1)).toInt8.toInt32)).1) hz
set_option maxHeartbeats 1000000 in
set_option maxRecDepth 100000 in
theorem lc_poke {p : Program} {l : Launch} {e : Env} {s : State} {m : MethodId} {below : List Frame} {meth : Method} {c : Code} {G : xD} {b L : Nat} {xs : Nat → Int32} (hK : LawC p l s m meth c G b L xs) {h i : Nat} (hJ : LawJ p l e s m below meth c G b h i) (hi : i + 5 ≤ L) {sz cs ss : Nat} {E : cE} {S : cS} {O : cO} {on : Nat → Nat} {sec : Nat} {po : Nat → Option Nat} {re cf : Nat → Int32} {so : Nat → Nat} {seen rf : Int32} {Rd : cR} {ra : Nat → Nat} {Ra : cR} {M : mT} {f : Nat → Int64} (hr : Rel E S O sec po re cf so M) (hA : ∀ j, ra j ≤ 8000) (hcs : cs ≤ 110 + i) (hss : ss ≤ 53232 + 6 * i) : xV p l e room_1 s m #[Value.ref b] below meth c G (fun q : Nat => s.heap.size ≤ q) 8 (lw_Z below #[Value.ref b] s) sz (wC G h (E) (S) (O) (oN (on)) (sec, lP (po), re, cf, oN (so), seen, rf) Rd (wX G h (oN (ra)) Ra (wM G (h + 57) (M) (wO G (h + 74) (f))))) cs ss 606 [(4, .int (nI i)), (3, .ref (h + 74)), (2, .ref (h + 57)), (1, .ref h), (0, .ref b)] [] := by
  have hC := hK.1
  have hbA : ¬ (fun q : Nat => s.heap.size ≤ q) b := Nat.not_le.mpr hK.2.2.2.2.1
  have hL := hK.2.2.2.2.2.1
  refine xv_aload_n hC dL_law_606 rfl rfl ?_
  refine xv_arg hC hK.2.2.2.1 hK.2.2.2.2.1 hbA (by omega) 1 (by omega) dL_law_607 dL_law_608 dL_law_610 (by decide) dL_law_611 dL_law_612 rfl rfl ?_
  refine xv_arg hC hK.2.2.2.1 hK.2.2.2.2.1 hbA (by omega) 2 (by omega) dL_law_613 dL_law_614 dL_law_616 (by decide) dL_law_617 dL_law_618 rfl rfl ?_
  refine xv_callV hC Y_yX6_poke im_yX6_poke se_yX6_poke ml_L_83 dL_law_619 (ev_poke l G h sz E S O on sec po re cf so seen rf Rd (wX G h (oN ra) Ra (wM G (h + 57) M (wO G (h + 74) f))) hr.2.2.2.1.2.1 (xs (i + 1)) (xs (i + 2))) (wl_FF _ _ _ _ _ _ _ _ _) rfl rfl rfl (Nat.le_of_ble_eq_true rfl) ⟨(Nat.le_of_ble_eq_true rfl), (Nat.le_of_ble_eq_true rfl)⟩ ⟨show cs + 0 ≤ 603072 by omega, show ss + 0 ≤ 7211114 by omega⟩ ?_
  refine xv_rs ?_
  refine xv_world (wCM _ _ _ _ _ _ _ _ _ _ _ _) ?_
  refine xv_aload_n hC dL_law_622 rfl rfl ?_
  refine xv_arg hC hK.2.2.2.1 hK.2.2.2.2.1 hbA (by omega) 1 (by omega) dL_law_623 dL_law_624 dL_law_626 (by decide) dL_law_627 dL_law_628 rfl rfl ?_
  refine xv_arg hC hK.2.2.2.1 hK.2.2.2.2.1 hbA (by omega) 2 (by omega) dL_law_629 dL_law_630 dL_law_632 (by decide) dL_law_633 dL_law_634 rfl rfl ?_
  refine xv_callV hC Y_yX7_poke im_yX7_poke se_yX7_poke ml_L_86 dL_law_635 (em_poke l G (h + 57) sz M (wC G h (E) (S) (fkO O (xs (i + 1)) (xs (i + 2))) (oN (on)) (sec, lP (po), re, cf, oN (so), seen, rf) Rd (wX G h (oN (ra)) Ra (wO G (h + 74) f))) (by rw [hr.1.1.1.2]; exact hr.2.2.2.1.2.1) (xs (i + 1)) (xs (i + 2))) (ml_w_obj _ _ _ _) rfl rfl rfl (Nat.le_of_ble_eq_true rfl) ⟨(Nat.le_of_ble_eq_true rfl), (Nat.le_of_ble_eq_true rfl)⟩ ⟨show cs + 0 ≤ 603072 by omega, show ss + 0 ≤ 7211114 by omega⟩ ?_
  refine xv_rs ?_
  refine xv_world (wCM _ _ _ _ _ _ _ _ _ _ _ _).symm ?_
  refine xv_icmp_eq (tgt := 755) hC dL_law_638 (by decide) (fun hz => ?_) (fun hz => ?_)
  · exact hJ _ _ _ _ _ _ _ _ _ _ _ _ _ _ _ _ _ _ _ ((rel_poke hr (xs (i + 1)) (xs (i + 2))).2) (hA) (by omega) (by omega)
  · exact absurd ((rel_poke hr (xs (i + 1)) (xs (i + 2))).1) hz
set_option maxHeartbeats 1000000 in
set_option maxRecDepth 100000 in
theorem lc_told {p : Program} {l : Launch} {e : Env} {s : State} {m : MethodId} {below : List Frame} {meth : Method} {c : Code} {G : xD} {b L : Nat} {xs : Nat → Int32} (hK : LawC p l s m meth c G b L xs) {h i : Nat} (hJ : LawJ p l e s m below meth c G b h i) (hi : i + 5 ≤ L) {sz cs ss : Nat} {E : cE} {S : cS} {O : cO} {on : Nat → Nat} {sec : Nat} {po : Nat → Option Nat} {re cf : Nat → Int32} {so : Nat → Nat} {seen rf : Int32} {Rd : cR} {ra : Nat → Nat} {Ra : cR} {M : mT} {f : Nat → Int64} (hr : Rel E S O sec po re cf so M) (hA : ∀ j, ra j ≤ 8000) (hcs : cs ≤ 110 + i) (hss : ss ≤ 53232 + 6 * i) : xV p l e room_1 s m #[Value.ref b] below meth c G (fun q : Nat => s.heap.size ≤ q) 8 (lw_Z below #[Value.ref b] s) sz (wC G h (E) (S) (O) (oN (on)) (sec, lP (po), re, cf, oN (so), seen, rf) Rd (wX G h (oN (ra)) Ra (wM G (h + 57) (M) (wO G (h + 74) (f))))) cs ss 656 [(4, .int (nI i)), (3, .ref (h + 74)), (2, .ref (h + 57)), (1, .ref h), (0, .ref b)] [] := by
  have hC := hK.1
  have hbA : ¬ (fun q : Nat => s.heap.size ≤ q) b := Nat.not_le.mpr hK.2.2.2.2.1
  have hL := hK.2.2.2.2.2.1
  refine xv_aload_n hC dL_law_656 rfl rfl ?_
  refine xv_arg hC hK.2.2.2.1 hK.2.2.2.2.1 hbA (by omega) 1 (by omega) dL_law_657 dL_law_658 dL_law_660 (by decide) dL_law_661 dL_law_662 rfl rfl ?_
  refine xv_arg hC hK.2.2.2.1 hK.2.2.2.2.1 hbA (by omega) 2 (by omega) dL_law_663 dL_law_664 dL_law_666 (by decide) dL_law_667 dL_law_668 rfl rfl ?_
  refine xv_callV hC Y_yX6_told im_yX6_told se_yX6_told ml_L_91 dL_law_669 (ev_told l G h sz E S O on sec po re cf so seen rf Rd (wX G h (oN ra) Ra (wM G (h + 57) M (wO G (h + 74) f))) hr.2.1 (xs (i + 1)) (xs (i + 2))) (wl_FF _ _ _ _ _ _ _ _ _) rfl rfl rfl (Nat.le_of_ble_eq_true rfl) ⟨(Nat.le_of_ble_eq_true rfl), (Nat.le_of_ble_eq_true rfl)⟩ ⟨show cs + 0 ≤ 603072 by omega, show ss + 0 ≤ 7211114 by omega⟩ ?_
  refine xv_rs ?_
  refine xv_world (wCM _ _ _ _ _ _ _ _ _ _ _ _) ?_
  refine xv_aload_n hC dL_law_672 rfl rfl ?_
  refine xv_arg hC hK.2.2.2.1 hK.2.2.2.2.1 hbA (by omega) 1 (by omega) dL_law_673 dL_law_674 dL_law_676 (by decide) dL_law_677 dL_law_678 rfl rfl ?_
  refine xv_arg hC hK.2.2.2.1 hK.2.2.2.2.1 hbA (by omega) 2 (by omega) dL_law_679 dL_law_680 dL_law_682 (by decide) dL_law_683 dL_law_684 rfl rfl ?_
  refine xv_callV hC Y_yX7_told im_yX7_told se_yX7_told ml_L_94 dL_law_685 (em_told l G (h + 57) sz M (wC G h (E) (S) (O) (oN (on)) (sec, lP (po), re, cf, oN (so), seen, rf) Rd (wX G h (oN (ra)) Ra (wO G (h + 74) f))) (by rw [hr.1.2.2.2]; exact hr.2.1) (xs (i + 1)) (xs (i + 2))) (ml_w_obj _ _ _ _) rfl rfl rfl (Nat.le_of_ble_eq_true rfl) ⟨(Nat.le_of_ble_eq_true rfl), (Nat.le_of_ble_eq_true rfl)⟩ ⟨show cs + 0 ≤ 603072 by omega, show ss + 0 ≤ 7211114 by omega⟩ ?_
  refine xv_rs ?_
  refine xv_world (wCM _ _ _ _ _ _ _ _ _ _ _ _).symm ?_
  refine xv_icmp_eq (tgt := 755) hC dL_law_688 (by decide) (fun hz => ?_) (fun hz => ?_)
  · exact hJ _ _ _ _ _ _ _ _ _ _ _ _ _ _ _ _ _ _ _ ((rel_told hr (xs (i + 1)) (xs (i + 2))).2) (hA) (by omega) (by omega)
  · exact absurd ((rel_told hr (xs (i + 1)) (xs (i + 2))).1) hz
set_option maxHeartbeats 1000000 in
set_option maxRecDepth 100000 in
theorem lc_count {p : Program} {l : Launch} {e : Env} {s : State} {m : MethodId} {below : List Frame} {meth : Method} {c : Code} {G : xD} {b L : Nat} {xs : Nat → Int32} (hK : LawC p l s m meth c G b L xs) {h i : Nat} (hJ : LawJ p l e s m below meth c G b h i) (hi : i + 5 ≤ L) {sz cs ss : Nat} {E : cE} {S : cS} {O : cO} {on : Nat → Nat} {sec : Nat} {po : Nat → Option Nat} {re cf : Nat → Int32} {so : Nat → Nat} {seen rf : Int32} {Rd : cR} {ra : Nat → Nat} {Ra : cR} {M : mT} {f : Nat → Int64} (hr : Rel E S O sec po re cf so M) (hA : ∀ j, ra j ≤ 8000) (hcs : cs ≤ 110 + i) (hss : ss ≤ 53232 + 6 * i) : xV p l e room_1 s m #[Value.ref b] below meth c G (fun q : Nat => s.heap.size ≤ q) 8 (lw_Z below #[Value.ref b] s) sz (wC G h (E) (S) (O) (oN (on)) (sec, lP (po), re, cf, oN (so), seen, rf) Rd (wX G h (oN (ra)) Ra (wM G (h + 57) (M) (wO G (h + 74) (f))))) cs ss 693 [(4, .int (nI i)), (3, .ref (h + 74)), (2, .ref (h + 57)), (1, .ref h), (0, .ref b)] [] := by
  have hC := hK.1
  have hbA : ¬ (fun q : Nat => s.heap.size ≤ q) b := Nat.not_le.mpr hK.2.2.2.2.1
  have hL := hK.2.2.2.2.2.1
  refine xv_aload_n hC dL_law_693 rfl rfl ?_
  refine xv_arg hC hK.2.2.2.1 hK.2.2.2.2.1 hbA (by omega) 1 (by omega) dL_law_694 dL_law_695 dL_law_697 (by decide) dL_law_698 dL_law_699 rfl rfl ?_
  refine xv_callV hC Y_yX6_count im_yX6_count se_yX6_count ml_L_95 dL_law_700 (ev_count l G h sz E S O on sec po re cf so seen rf Rd (wX G h (oN ra) Ra (wM G (h + 57) M (wO G (h + 74) f))) hr.2.2.1.1 hr.2.1 (xs (i + 1))) (wl_FF _ _ _ _ _ _ _ _ _) rfl rfl rfl (Nat.le_of_ble_eq_true rfl) ⟨(Nat.le_of_ble_eq_true rfl), (Nat.le_of_ble_eq_true rfl)⟩ ⟨show cs + 0 ≤ 603072 by omega, show ss + 0 ≤ 7211114 by omega⟩ ?_
  refine xv_rs ?_
  refine xv_world (wCM _ _ _ _ _ _ _ _ _ _ _ _) ?_
  refine xv_aload_n hC dL_law_703 rfl rfl ?_
  refine xv_arg hC hK.2.2.2.1 hK.2.2.2.2.1 hbA (by omega) 1 (by omega) dL_law_704 dL_law_705 dL_law_707 (by decide) dL_law_708 dL_law_709 rfl rfl ?_
  refine xv_callV hC Y_yX7_count im_yX7_count se_yX7_count ml_L_98 dL_law_710 (em_count l G (h + 57) sz M (wC G h (E) (S) (O) (oN (on)) (sec, lP (po), re, cf, oN (so), seen, rf) Rd (wX G h (oN (ra)) Ra (wO G (h + 74) f))) (by rw [hr.1.1.1.2]; exact hr.2.2.2.1.2.1) (by rw [hr.1.2.2.2]; exact hr.2.1) (xs (i + 1))) (ml_w_obj _ _ _ _) rfl rfl rfl (Nat.le_of_ble_eq_true rfl) ⟨(Nat.le_of_ble_eq_true rfl), (Nat.le_of_ble_eq_true rfl)⟩ ⟨show cs + 0 ≤ 603072 by omega, show ss + 0 ≤ 7211114 by omega⟩ ?_
  refine xv_rs ?_
  refine xv_world (wCM _ _ _ _ _ _ _ _ _ _ _ _).symm ?_
  refine xv_icmp_eq (tgt := 755) hC dL_law_713 (by decide) (fun hz => ?_) (fun hz => ?_)
  · exact hJ _ _ _ _ _ _ _ _ _ _ _ _ _ _ _ _ _ _ _ ((rel_count hr (xs (i + 1))).2) (hA) (by omega) (by omega)
  · exact absurd ((rel_count hr (xs (i + 1))).1) hz
set_option maxHeartbeats 1000000 in
set_option maxRecDepth 100000 in
theorem lc_same {p : Program} {l : Launch} {e : Env} {s : State} {m : MethodId} {below : List Frame} {meth : Method} {c : Code} {G : xD} {b L : Nat} {xs : Nat → Int32} (hK : LawC p l s m meth c G b L xs) {h i : Nat} (hJ : LawJ p l e s m below meth c G b h i) (hi : i + 5 ≤ L) {sz cs ss : Nat} {E : cE} {S : cS} {O : cO} {on : Nat → Nat} {sec : Nat} {po : Nat → Option Nat} {re cf : Nat → Int32} {so : Nat → Nat} {seen rf : Int32} {Rd : cR} {ra : Nat → Nat} {Ra : cR} {M : mT} {f : Nat → Int64} (hr : Rel E S O sec po re cf so M) (hA : ∀ j, ra j ≤ 8000) (hcs : cs ≤ 110 + i) (hss : ss ≤ 53232 + 6 * i) : xV p l e room_1 s m #[Value.ref b] below meth c G (fun q : Nat => s.heap.size ≤ q) 8 (lw_Z below #[Value.ref b] s) sz (wC G h (E) (S) (O) (oN (on)) (sec, lP (po), re, cf, oN (so), seen, rf) Rd (wX G h (oN (ra)) Ra (wM G (h + 57) (M) (wO G (h + 74) (f))))) cs ss 718 [(4, .int (nI i)), (3, .ref (h + 74)), (2, .ref (h + 57)), (1, .ref h), (0, .ref b)] [] := by
  have hC := hK.1
  have hbA : ¬ (fun q : Nat => s.heap.size ≤ q) b := Nat.not_le.mpr hK.2.2.2.2.1
  have hL := hK.2.2.2.2.2.1
  refine xv_aload_n hC dL_law_718 rfl rfl ?_
  refine xv_arg hC hK.2.2.2.1 hK.2.2.2.2.1 hbA (by omega) 1 (by omega) dL_law_719 dL_law_720 dL_law_722 (by decide) dL_law_723 dL_law_724 rfl rfl ?_
  refine xv_arg hC hK.2.2.2.1 hK.2.2.2.2.1 hbA (by omega) 2 (by omega) dL_law_725 dL_law_726 dL_law_728 (by decide) dL_law_729 dL_law_730 rfl rfl ?_
  refine xv_callV hC Y_yX6_same im_yX6_same se_yX6_same ml_L_99 dL_law_731 (ev_same l G h sz E S O on sec po re cf so seen rf Rd (wX G h (oN ra) Ra (wM G (h + 57) M (wO G (h + 74) f))) hr.2.2.1.1 (xs (i + 1)) (xs (i + 2))) (wl_FF _ _ _ _ _ _ _ _ _) rfl rfl rfl (Nat.le_of_ble_eq_true rfl) ⟨(Nat.le_of_ble_eq_true rfl), (Nat.le_of_ble_eq_true rfl)⟩ ⟨show cs + 0 ≤ 603072 by omega, show ss + 0 ≤ 7211114 by omega⟩ ?_
  refine xv_rs ?_
  refine xv_world (wCM _ _ _ _ _ _ _ _ _ _ _ _) ?_
  refine xv_aload_n hC dL_law_734 rfl rfl ?_
  refine xv_arg hC hK.2.2.2.1 hK.2.2.2.2.1 hbA (by omega) 1 (by omega) dL_law_735 dL_law_736 dL_law_738 (by decide) dL_law_739 dL_law_740 rfl rfl ?_
  refine xv_arg hC hK.2.2.2.1 hK.2.2.2.2.1 hbA (by omega) 2 (by omega) dL_law_741 dL_law_742 dL_law_744 (by decide) dL_law_745 dL_law_746 rfl rfl ?_
  refine xv_callV hC Y_yX7_same im_yX7_same se_yX7_same ml_L_103 dL_law_747 (em_same l G (h + 57) sz M (wC G h (E) (S) (O) (oN (on)) (sec, lP (po), re, cf, oN (so), seen, rf) Rd (wX G h (oN (ra)) Ra (wO G (h + 74) f))) (xs (i + 1)) (xs (i + 2))) (ml_w_obj _ _ _ _) rfl rfl rfl (Nat.le_of_ble_eq_true rfl) ⟨(Nat.le_of_ble_eq_true rfl), (Nat.le_of_ble_eq_true rfl)⟩ ⟨show cs + 0 ≤ 603072 by omega, show ss + 0 ≤ 7211114 by omega⟩ ?_
  refine xv_rs ?_
  refine xv_world (wCM _ _ _ _ _ _ _ _ _ _ _ _).symm ?_
  refine xv_icmp_eq (tgt := 755) hC dL_law_750 (by decide) (fun hz => ?_) (fun hz => ?_)
  · exact hJ _ _ _ _ _ _ _ _ _ _ _ _ _ _ _ _ _ _ _ ((rel_same hr (xs (i + 1)) (xs (i + 2))).2) (hA) (by omega) (by omega)
  · exact absurd (congrArg cI (rel_same hr (xs (i + 1)) (xs (i + 2))).1) hz
