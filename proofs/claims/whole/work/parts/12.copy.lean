section XCP
variable {p : Program} {l : Launch} {e : Env} {R : Room} {s : State} {m : MethodId} {args : Array Value} {below : List Frame} {meth : Method} {c : Code}
variable {G : xD} {A : Nat → Prop} {nL : Nat} {Q : State → Prop} {cc : ByteArray} {own : String} {sz cs ss pc : Nat} {w : xw} {lv : List (Nat × Value)} {st : List Value}
theorem xv_copyB (hC : xC p s m args meth c cc nL own G A) {index a0 a1 n0 n1 sp dp n : Nat} {f g : Nat → Int32} (d : decode cc pc = .ok (.invokestatic index, 3)) (hl : Cond.methodLink own index arraycopyName ∈ xW) (hw0 : w a0 = some (.inl (G.2 3, n0, .inl f))) (hw1 : w a1 = some (.inl (G.2 3, n1, .inl g))) (hs : sp < 2 ^ 31) (hd : dp < 2 ^ 31) (hn : n < 2 ^ 31) (h4 : sp + n ≤ n0) (h5 : dp + n ≤ n1) (hfit : ∀ i, fits .byte (.int (f i)) = true) (hf : 1 ≤ R.frames) (hlo : (st.map fun v => v.category).sum + (nativeFrameWords "java/lang/System" "arraycopy" 5 + 11) ≤ R.locals)
    (kk : xV p l e R s m args below meth c G A nL Q sz (xup w a1 (.inl (G.2 3, n1, .inl (va_cpy f g sp dp n)))) cs ss (pc + 3) lv st) : xV p l e R s m args below meth c G A nL Q sz w cs ss pc lv (.int (nI n) :: .int (nI dp) :: .ref a1 :: .int (nI sp) :: .ref a0 :: st) := by
  intro H locs ls hz hR hS hlv T hT X
  have hts := hC.2.2.2.2.1
  have nn : ∀ z : Nat, z < 2 ^ 31 → (nI z).toInt = ((nI z).toNatClampNeg : Int) := fun z hz => by rw [nI_toInt hz, nI_clamp hz]
  have hc0 : H[a0]? = some (vp_cell (G.2 3) (n0, .inl f)) := (hR a0 _ hw0).1
  have hc1 : H[a1]? = some (vp_cell (G.2 3) (n1, .inl g)) := (hR a1 _ hw1).1
  obtain ⟨-, k0, hk0, cm0, hkk0⟩ := (xT_at hC.2.2.2.2.2.1 (k := 3) rfl).1 n0 (fun j => .int (f j))
  obtain ⟨-, k1, hk1, cm1, hkk1⟩ := (xT_at hC.2.2.2.2.2.1 (k := 3) rfl).1 n1 (fun j => .int (g j))
  obtain ⟨vm', X', step⟩ := X.arraycopy hC.1 hC.2.2.2.1 (hts _ hl) (hts _ nt_copy) (hts _ sm_copy) (hts _ in_System) (src := a0) (dst := a1) (cs := vp_cell (G.2 3) (n0, .inl f)) (cd := vp_cell (G.2 3) (n1, .inl g)) (srcPos := nI sp) (destPos := nI dp) (n := nI n) (by rw [hT]; exact hc0) (by rw [hT]; exact hc1)
    (fun _ h => by cases h) (fun _ h => by cases h) (fun h => by cases h) (fun h => by cases h) hk0 hk1 hkk0 hkk1 (by simp [refKind]) (nI_pos hs) (nI_pos hd) (nI_pos hn)
    (by rw [nI_toInt hs, nI_toInt hn]; show ¬ _ > ((arrV (G.2 3) n0 (fun j => .int (f j))).slots.size : Int); rw [arrV_size]; omega)
    (by rw [nI_toInt hd, nI_toInt hn]; show ¬ _ > ((arrV (G.2 3) n1 (fun j => .int (g j))).slots.size : Int); rw [arrV_size]; omega)
    (fun vm₁ _ i hi => by
      rw [nI_clamp hn] at hi
      have e : (vp_cell (G.2 3) (n0, .inl f)).slots.getD ((nI sp).toNatClampNeg + i) .null = .int (f (sp + i)) := by
        show (arrV (G.2 3) n0 (fun j => .int (f j))).slots.getD _ _ = _
        rw [nI_clamp hs, Array.getD_eq_getD_getElem?, arrV_read _ _ (by omega)]
        rfl
      refine ⟨?_, ?_⟩
      · rw [e]
        exact hfit _
      · rw [e]
        exact trivial)
    (g := F0 m pc ls (.int (nI n) :: .int (nI dp) :: .ref a1 :: .int (nI sp) :: .ref a0 :: st)) rfl (by rw [hC.2.2.1]; exact hlv.1) (rest := st) rfl (by rw [hC.2.1]; exact d) hf (by show 2 * 0 + _ + _ ≤ _; omega)
  have e1 : copied (vp_cell (G.2 3) (n0, .inl f)) (vp_cell (G.2 3) (n1, .inl g)) (nI sp) (nI dp) (nI n) = vp_cell (G.2 3) (n1, .inl (va_cpy f g sp dp n)) := by
    have := va_copied (fun z => Value.int z) (G.2 3) (G.2 3) (n1 := n1) (dp := dp) f g h4
    rw [← nI_clamp hs, ← nI_clamp hd, ← nI_clamp hn] at this
    rw [nI_clamp hs, nI_clamp hd, nI_clamp hn] at this
    show (vp_cell (G.2 3) (n1, .inl g)).storeRun (nI dp).toNatClampNeg ((vp_cell (G.2 3) (n0, .inl f)).stretch (nI sp).toNatClampNeg (nI n).toNatClampNeg) = _
    rw [nI_clamp hs, nI_clamp hd, nI_clamp hn]
    exact this
  rw [e1] at X' step
  have hlt : a1 < H.size := (Array.getElem?_eq_some_iff.mp hc1).1
  have hheap : ((T.setVm vm').setCell a1 (vp_cell (G.2 3) (n1, .inl (va_cpy f g sp dp n)))).heap = H.setIfInBounds a1 (vp_cell (G.2 3) (n1, .inl (va_cpy f g sp dp n))) := by rw [← hT]; rfl
  have oq : ∀ q : Nat, q ≠ a1 → (H.setIfInBounds a1 (vp_cell (G.2 3) (n1, .inl (va_cpy f g sp dp n))))[q]? = H[q]? := fun q hq => by simp [Array.getElem?_setIfInBounds, Ne.symm hq]
  obtain ⟨t, b1, b2⟩ := kk _ _ ls (by simp; exact hz) (hR.set (hR a1 _ hw1).2 (show (H.setIfInBounds a1 _)[a1]? = some _ by simp [Array.getElem?_setIfInBounds, hlt]) oq) ⟨by simp; exact hS.1, fun q g1 g2 => by
      rw [oq q (fun e => g2 (by rw [e]; exact (hR a1 _ hw1).2))]
      exact hS.2.1 q g1 g2, fun q hq => by
      rcases List.mem_append.mp hq with h | h
      · exact hS.2.2 q h
      · obtain ⟨z, -, hz⟩ := List.mem_map.mp h
        rw [← hz]
        exact (hR a1 _ hw1).2⟩ hlv _ hheap X'
  exact ⟨t, step t b1, b2⟩
end XCP
