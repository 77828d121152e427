/-! System.arraycopy of ints -/
section AMY
variable {G : am_G} {y : am_M} {d bc bs : Nat} {Q : am_O → am_H → Prop} {pc : Nat} {L : List (Nat × Value)} {st : List Value} {h : am_H}
theorem am_copy {index a0 a1 n0 n1 : Nat} {f g : Nat → Int32} (sp dp n : Nat) (hd : decode y.2.1 pc = .ok (.invokestatic index, 3)) (w1 : Cond.methodLink y.1.cls index arraycopyName ∈ am_T) (w2 : Cond.native arraycopyName ∈ am_T) (w3 : Cond.static arraycopyName ∈ am_T) (w4 : Cond.initialized "java/lang/System" ∈ am_T)
    (h0 : h[a0]? = some (.inl (0, n0, .inl f))) (h1 : h[a1]? = some (.inl (0, n1, .inl g))) (hs : sp + n ≤ n0) (ht : dp + n ≤ n1) (hn0 : n0 < 2 ^ 31) (hn1 : n1 < 2 ^ 31) (hdd : 1 ≤ d) (hst : (st.map fun v => v.category).sum ≤ 8)
    (k : am_W G y d bc bs Q (pc + 3) L st (h.set a1 (.inl (0, n1, .inl (va_cpy f g sp dp n))))) : am_W G y d bc bs Q pc L (.int (nI n) :: .int (nI dp) :: .ref (a1 + 1) :: .int (nI sp) :: .ref (a0 + 1) :: st) h := by
  intro p e R s m args below meth c H locs cells slots ls C hR hh hS hl T hT X
  obtain ⟨r1, r2, r3, r4⟩ := id hR
  have ok := C.1.2.2.2.2
  have hc0 : H[am_gz G + a0]? = some (vp_cell (am_gA G 0) (n0, .inl f)) := hh.2 a0 _ (am_wsat h0)
  have hc1 : H[am_gz G + a1]? = some (vp_cell (am_gA G 0) (n1, .inl g)) := hh.2 a1 _ (am_wsat h1)
  obtain ⟨-, k0, hk0, cm0, hkk0⟩ := (C.2.1.2 0 _ rfl).1 n0 (fun j => .int (f j))
  obtain ⟨-, k1, hk1, cm1, hkk1⟩ := (C.2.1.2 0 _ rfl).1 n1 (fun j => .int (g j))
  have q1 : (nI sp).toInt = sp := nI_toInt (by omega)
  have q2 : (nI dp).toInt = dp := nI_toInt (by omega)
  have q3 : (nI n).toInt = n := nI_toInt (by omega)
  have z1 : (nI sp).toNatClampNeg = sp := nI_clamp (by omega)
  have z2 : (nI dp).toNatClampNeg = dp := nI_clamp (by omega)
  have z3 : (nI n).toNatClampNeg = n := nI_clamp (by omega)
  obtain ⟨vm', X', step⟩ := X.arraycopy C.1.1 C.1.2.2.2.1 (ok _ w1) (ok _ w2) (ok _ w3) (ok _ w4) (src := am_gz G + a0) (dst := am_gz G + a1) (cs := vp_cell (am_gA G 0) (n0, .inl f)) (cd := vp_cell (am_gA G 0) (n1, .inl g)) (srcPos := nI sp) (destPos := nI dp) (n := nI n) (by rw [hT]; exact hc0) (by rw [hT]; exact hc1)
    (fun _ h => by cases h) (fun _ h => by cases h) (fun h => by cases h) (fun h => by cases h) hk0 hk1 hkk0 hkk1 (by simp [refKind]) (nI_pos (by omega)) (nI_pos (by omega)) (nI_pos (by omega))
    (by rw [q1, q3]; show ¬ _ > ((arrV (am_gA G 0) n0 (fun j => .int (f j))).slots.size : Int); rw [arrV_size]; omega)
    (by rw [q2, q3]; show ¬ _ > ((arrV (am_gA G 0) n1 (fun j => .int (g j))).slots.size : Int); rw [arrV_size]; omega)
    (fun vm₁ _ i hi => by
      rw [z3] at hi
      rw [z1]
      have e : (vp_cell (am_gA G 0) (n0, .inl f)).slots.getD (sp + i) .null = .int (f (sp + i)) := by
        show (arrV (am_gA G 0) n0 (fun j => .int (f j))).slots.getD _ _ = _
        rw [Array.getD_eq_getD_getElem?, arrV_read _ _ (by omega)]
        rfl
      refine ⟨?_, ?_⟩
      · rw [e]
        rfl
      · rw [e]
        exact trivial)
    (g := F0 m pc ls ((Value.int (nI n) :: .int (nI dp) :: .ref (a1 + 1) :: .int (nI sp) :: .ref (a0 + 1) :: st).map (am_v G))) rfl (by rw [C.1.2.2.1]; exact hl.1) (rest := st.map (am_v G)) rfl (by rw [C.1.2.1]; exact hd) (by omega)
    (by
      show 2 * 0 + ((st.map (am_v G)).map fun v => v.category).sum + _ ≤ _
      rw [am_cats]
      have : nativeFrameWords "java/lang/System" "arraycopy" 5 ≤ 30 := by decide +kernel
      omega)
  have e1 : copied (vp_cell (am_gA G 0) (n0, .inl f)) (vp_cell (am_gA G 0) (n1, .inl g)) (nI sp) (nI dp) (nI n) = vp_cell (am_gA G 0) (n1, .inl (va_cpy f g sp dp n)) := by
    have := va_copied (fun z => Value.int z) (am_gA G 0) (am_gA G 0) (n0 := n0) (n1 := n1) (sp := sp) (dp := dp) (n := n) f g hs
    rw [← z1, ← z2, ← z3] at this
    conv => rhs; rw [← z1, ← z2, ← z3]
    exact this
  rw [e1] at X' step
  have hlt : am_gz G + a1 < H.size := (Array.getElem?_eq_some_iff.mp hc1).1
  have hheap : ((T.setVm vm').setCell (am_gz G + a1) (vp_cell (am_gA G 0) (n1, .inl (va_cpy f g sp dp n)))).heap = H.setIfInBounds (am_gz G + a1) (vp_cell (am_gA G 0) (n1, .inl (va_cpy f g sp dp n))) := by rw [← hT]; rfl
  have oq : ∀ q : Nat, q ≠ am_gz G + a1 → (H.setIfInBounds (am_gz G + a1) (vp_cell (am_gA G 0) (n1, .inl (va_cpy f g sp dp n))))[q]? = H[q]? := fun q hq => by simp [Array.getElem?_setIfInBounds, Ne.symm hq]
  obtain ⟨t, a2, b2⟩ := k p e R s m args below meth c _ _ cells slots ls C hR (hh.set h1 (H1 := H.setIfInBounds (am_gz G + a1) (vp_cell (am_gA G 0) (n1, .inl (va_cpy f g sp dp n)))) (show (H.setIfInBounds (am_gz G + a1) _)[am_gz G + a1]? = some _ by simp [Array.getElem?_setIfInBounds, hlt]) (by simp) oq)
    ⟨by simp; exact hS.1, fun q g1 g2 => by
      rw [oq q (fun e => g2 (by rw [e]; exact Nat.le_add_right _ _))]
      exact hS.2.1 q g1 g2, fun q hq => by
      rcases List.mem_append.mp hq with h | h
      · exact hS.2.2 q h
      · obtain ⟨z, -, hz⟩ := List.mem_map.mp h
        rw [← hz]
        exact Nat.le_add_right _ _⟩ hl _ hheap X'
  exact ⟨t, step t a2, b2⟩
end AMY
