/-! throws and catches -/
theorem am_static {C n d : String} {A : Nat → Prop} {s : State} {args : Array Value} (h : va_Zq C n d A s s.heap) : (Cond.isRef (.static C n d)).before args s = true := by
  have key : ∀ v : Value, va_Z C n d v A s s.heap → (Term.static C n d).eval args s none [] s = some v := by
    intro v h
    obtain ⟨cf, kf, fi, f, a, cell, h1, h2, h3, h4, h5, h6, h7, h8⟩ := h
    simp [Term.eval, State.fieldNamed?, h1, h2, h4, h5, h6, h7]
  rcases h with h | ⟨t, h⟩
  · simp [Cond.before, Cond.holds, Cond.value, key _ h, Value.isRef]
  · simp [Cond.before, Cond.holds, Cond.value, key _ h, Value.isRef]
theorem am_T2_tabs : ∀ w ∈ am_T2, w.onTables = true := by decide +kernel
/-- the names above an exception's class -/
def am_up : List String := ["java/lang/RuntimeException", "java/lang/Exception"]
section AMT
variable {G : am_G} {y : am_M} {d bc bs : Nat} {Q : am_O → am_H → Prop} {pc : Nat} {L : List (Nat × Value)} {st : List Value} {h : am_H}
/-- the words of a throw: of the tables, or the two statics -/
def am_oA (own : String) (ic : Nat) (X : String) : Prop := ∀ a ∈ Bundle.ownAtoms own ic X am_up, a ∈ am_T ∨ a ∈ am_T2 ∨ a = Cond.isRef (.static "java/lang/Throwable" "UNASSIGNED_STACK" "[Ljava/lang/StackTraceElement;") ∨ a = Cond.isRef (.static "java/lang/Throwable" "SUPPRESSED_SENTINEL" "Ljava/util/List;") ∨ a = Cond.laysStatic "java/lang/Throwable" "UNASSIGNED_STACK" "[Ljava/lang/StackTraceElement;" ∨ a = Cond.laysStatic "java/lang/Throwable" "SUPPRESSED_SENTINEL" "Ljava/util/List;"
set_option maxHeartbeats 1000000 in
/-- new E; dup; ldc text; E.<init>(text); athrow -/
theorem am_throwS {index il ic ci : Nat} {X tx : String} {T0 : u_T} (hd0 : decode y.2.1 pc = .ok (.new index, 3)) (hd1 : decode y.2.1 (pc + 3) = .ok (.dup, 1)) (hd2 : decode y.2.1 (pc + 4) = .ok (.ldc il, 2)) (hd3 : decode y.2.1 (pc + 6) = .ok (.invokespecial ic, 3)) (hd4 : decode y.2.1 (pc + 9) = .ok (.athrow, 1))
    (hown : y.1.cls = R_X) (hcl : am_cl[ci]? = some (X, T0, 0)) (w1 : Cond.classLink y.1.cls index X ∈ am_T) (w2 : Cond.instantiable X 6 ∈ am_T) (w3 : Cond.initialized X ∈ am_T) (hs : (il, tx) ∈ am_strs) (hat : am_oA y.1.cls ic X) (hfit : Bundle.fit X = true)
    (hd : 6 ≤ d) (hb1 : 1 ≤ bc) (hb2 : 6 ≤ bs) (hst : (st.map fun v => v.category).sum ≤ 8) (hx : y.2.2.2.2 = []) (hq : Q (.inr (ci, h.length + 1)) (h ++ [.inr (ci, [])])) : am_W G y d bc bs Q pc L st h := by
  intro p e R s m args below meth c H locs cells slots ls C hR hh hS hl T hT X0
  obtain ⟨r1, r2, r3, r4⟩ := hR
  obtain ⟨⟨c1, c2, c3, c4, c5⟩, c6, c7, c8, c9, c10, c11, c12, c13, c14⟩ := C
  have Y := am_reroot X0 (R' := { frames := R.frames, cells := 1, slots := 6, locals := R.locals }) (Nat.le_refl _) (Nat.le_refl _) (by show cells + 1 ≤ _; omega) (by show slots + 6 ≤ _; omega)
  have hW : s.WarmedH (T.setFrames (.invoking m args :: below)).vm := X0.warmed
  have hsH : (T.setFrames (.invoking m args :: below)).heap = H := hT
  generalize hse : T.setFrames (.invoking m args :: below) = s' at Y hW hsH
  have hal := hW.alike
  have ok : ∀ w ∈ am_T, w.before args s' = true := fun w hw => word_at hW (am_T_good w hw) (c5 w hw)
  have hown' : s'.vm.findClass y.1.cls = some m.cls := by rw [hal.findClass]; exact c4
  have hK := va_K.moved hal c6
  have hold : ∀ q : Nat, q < am_gz G → s'.heap[q]? = s.heap[q]? := fun q hq => by rw [hsH]; exact hS.2.1 q (Nat.lt_of_lt_of_le hq c11) (Nat.not_le.mpr hq)
  have hK2 := c14.moved hW c11 hold ⟨h, by rw [hsH]; exact hh⟩
  obtain ⟨k1, k2, k3, k4, k5, k6, k7, k8, -⟩ := hK2
  obtain ⟨qs, hqs⟩ := k2 _ hs
  have hfound : s'.vm.findClass X = some ((am_gD G).1 ci) := (hK.1 ci _ hcl).2.1
  have hatoms : ∀ a ∈ Bundle.ownAtoms y.1.cls ic X am_up, a.before args s' = true := by
    intro a ha
    rcases hat a ha with h1 | h1 | rfl | rfl | rfl | rfl
    · exact ok a h1
    · exact va_Nw.use (am_T2_tabs a h1) (k6 a h1)
    · exact am_static k3
    · exact am_static k4
    · exact k7.use
    · exact k8.use
  have htr : e.platform.stackTraces = false := by
    have := X0.admits.2.2.2.2.1
    rw [this]
    exact k1
  have hsz : ls.size = c.maxLocals := by rw [c3]; exact hl.1
  have w : W p G.1 e { frames := R.frames, cells := 1, slots := 6, locals := R.locals } s' m args below meth c H [] 0 0 (fun U => U.status = .running ∧ Ended U below (.threw (am_gz G + h.length)) ∧ s'.WarmedH U.vm ∧ s'.sameButNew ({ U with vm := s'.vm } : State) [] 1 6 ∧ ∃ ce, U.heap[am_gz G + h.length]? = some ce ∧ s'.vm.findClass X = some ce.cls ∧ ce.vm = .none) (F0 m pc ls (st.map (am_v G))) := by
    refine W.newcK c1 c2 hown' (ok _ w1) (ok _ w2) (ok _ w3) rfl hd0 (by show 0 + 1 ≤ 1; omega) (by show 0 + 6 ≤ 6; omega) hfound hh.1 fun H1 kC hkC e1 z1 o1 => ?_
    refine lv_dup c1 c2 hd1 rfl ?_
    refine va_ldcS c1 c2 hown' (by rw [hown]; exact hqs) hd2 ?_
    intro T2 hT2 X2
    obtain ⟨U, u1, u2, u3, u4, u5, ce, u6, u7⟩ := X2.ctorThrowS c1 htr (own := y.1.cls) (cls := X) (names := am_up) (ic := ic) hown' hfit (by decide) hatoms (fun x hx => by cases hx) (a := am_gz G + h.length) (cX := (am_gD G).1 ci) (kX := kC) hfound hkC (by rw [hT2]; exact e1) (by rw [hsH, hh.1]; exact Nat.le_refl _)
      (msg := .ref qs) rfl (g := F0 m (pc + 6) ls (.ref qs :: .ref (am_gz G + h.length) :: .ref (am_gz G + h.length) :: st.map (am_v G))) rfl hsz rfl rfl (rest := st.map (am_v G)) rfl (by rw [c2]; exact hd3) (by rw [c2]; exact hd4)
      (fun x hxm => by
        have h1 : (x.startPc, x.endPc, x.handlerPc, x.catchType) ∈ y.2.2.2.2 := by rw [← c9]; exact List.mem_map.mpr ⟨x, hxm, rfl⟩
        rw [hx] at h1
        cases h1)
      (by show 2 + 3 < R.frames; omega) (by
        show 2 * 0 + ((Value.ref (am_gz G + h.length) :: st.map (am_v G)).map fun v => v.category).sum + (13 * (2 + 1) + 42) ≤ R.locals
        rw [List.map_cons, List.sum_cons, am_cats]
        show 2 * 0 + (1 + _) + _ ≤ _
        omega) c8
    exact ⟨U, u1, u2, u3, u4, u5, ce, u6, u7.cls, u7.vm⟩
  obtain ⟨U, u1, u2, u3, u4, u5, ce, u6, u7, u8⟩ := w T hT Y
  have hoH : ∀ q : Nat, q < H.size → U.heap[q]? = H[q]? := by
    intro q hq
    obtain ⟨cq, hcq⟩ : ∃ cq, s'.heap[q]? = some cq := ⟨_, Array.getElem?_eq_getElem (by rw [hsH]; exact hq)⟩
    obtain ⟨c', g1, g2, g3, g4⟩ := u5.2.2.2.2.2 q cq hcq
    have hsl : c'.slots = cq.slots := by
      apply Array.ext_getElem?
      intro i
      exact g4 i (by simp)
    have g1' : U.heap[q]? = some c' := g1
    have : c' = cq := by rw [g2, hsl]
    rw [g1', this, ← hcq, hsH]
  have hUz : U.heap.size = H.size + 1 := by
    have h1 : U.heap.size ≤ s'.heap.size + 1 := u5.2.2.1
    have h2 := (Array.getElem?_eq_some_iff.mp u6).1
    rw [hsH] at h1
    have h3 := hh.1
    omega
  have hsame : s.sameButNew ({ U with vm := s.vm } : State) (locs ++ []) (cells + 1) (slots + 6) := by
    have h5 : T.sameButNew ({ U with vm := T.vm } : State) [] 1 6 := by
      have h6 := u5
      rw [← hse] at h6
      obtain ⟨q1, q2⟩ := h6
      refine ⟨?_, q2⟩
      have q3 : (T.setFrames (.invoking m args :: below)).setFrames U.frames = T.setFrames U.frames := State.setFrames_setFrames ..
      have q4 : ({ U with vm := T.vm } : State) = { (T.setFrames (.invoking m args :: below)).setFrames U.frames with heap := U.heap, slotsUsed := U.slotsUsed } := q1
      rw [q3] at q4
      exact q4
    have h7 := X0.same.trans (h5.setVm s.vm)
    exact h7
  rw [List.append_nil] at hsame
  refine ⟨U, u1, .threw (am_gz G + h.length), locs, cells + 1, slots + 6, .inr (ci, h.length + 1), h ++ [.inr (ci, [])], u2, u3, State.WarmedH.trans hW u4, hsame, by omega, by omega, hS.2.2, fun q hq => ?_, ?_, rfl, hq⟩
  · rw [hoH q (by have := hh.1; omega), ← hold q hq, hsH]
  · refine hh.push ⟨_, hcl, ce, u6, ?_, u8, fun k hk => absurd hk (Nat.not_lt_zero k)⟩ hUz hoH
    exact Option.some.inj (u7.symm.trans hfound)
end AMT
