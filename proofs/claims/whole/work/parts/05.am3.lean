theorem am_Largs (G : am_G) : ∀ (As : List Value) (i : Nat), lv_args i (As.map (am_v G)) = am_L G (lv_args i As)
  | [], i => rfl
  | v :: As, i => by
    have h1 := am_Largs G As
    simp only [List.map_cons, lv_args, am_v_cat, h1]
    rfl
theorem am_slargs (G : am_G) : ∀ (As : List Value), (lg_sl (As.map (am_v G))).length = (lg_sl As).length
  | [] => rfl
  | v :: As => by
    have h1 := am_slargs G As
    simp only [lg_sl, List.map_cons, List.flatMap_cons, List.length_append, am_v_cat] at h1 ⊢
    rw [h1]
    congr 1
    split <;> rfl
theorem am_cats (G : am_G) (st : List Value) : ((st.map (am_v G)).map fun v => v.category) = st.map fun v => v.category := by
  rw [List.map_map]; exact List.map_congr_left (fun v _ => am_v_cat G v)
/-- the exception q has come to the frame at pc -/
def am_TW (G : am_G) (y : am_M) (d bc bs : Nat) (Q : am_O → am_H → Prop) (pc : Nat) (L : List (Nat × Value)) (q : Nat × Nat) (h : am_H) : Prop :=
  ∀ (p : Program) (e : Env) (R : Room) (s : State) (m : MethodId) (args : Array Value) (below : List Frame) (meth : Method) (c : Code) (H : Heap) (locs : List Loc) (cells slots : Nat) (ls : Array Slot) (stk : List Value),
    am_C G y p s m args meth c → am_Rm d bc bs R cells slots → am_R G h H → va_S (am_A G) s.heap H locs → lv_has ls y.2.2.1 (am_L G L) →
    ∀ T : State, T.heap = H → Stand p G.1 e R s m args below meth c T locs cells slots → ∃ t, Steps p.tables e below ((T.setTop (F0 m pc ls stk)).pushFrame (.throwing (am_ad G q.2))) t ∧ am_Z G Q R s below t
/-- the call at pc goes to the method z with the arguments As (a receiver is the first) -/
def am_Lk (G : am_G) (y z : am_M) (pc : Nat) (L : List (Nat × Value)) (As rest : List Value) (h : am_H) : Prop :=
  ∀ (p : Program) (e : Env) (R : Room) (s : State) (m : MethodId) (args : Array Value) (below : List Frame) (meth : Method) (c : Code) (H : Heap) (locs : List Loc) (cells slots : Nat) (ls : Array Slot),
    am_C G y p s m args meth c → am_R G h H → lv_has ls y.2.2.1 (am_L G L) →
    ∀ T : State, T.heap = H → Stand p G.1 e R s m args below meth c T locs cells slots →
    ∃ (vm' : Vm) (mk : MethodId) (methk : Method) (ck : Code) (ig : Instr), Stand p G.1 e R s m args below meth c (T.setVm vm') locs cells slots ∧ s.methodNamed? z.1 = some mk ∧ s.vm.method? mk = some methk ∧
      methk.code = some ck ∧ ck.code = z.2.1 ∧ ck.maxLocals = z.2.2.1 ∧ methk.sig.returnType = z.2.2.2.1 ∧ methk.locks = false ∧ ck.exceptionTable.toList.map (fun h => (h.startPc, h.endPc, h.handlerPc, h.catchType)) = z.2.2.2.2 ∧
      decode c.code pc = .ok (ig, 3) ∧
      ∀ target, (∀ acts, Steps p.tables e below (doInvoke e ((T.setVm vm').setTop (F0 m pc ls (rest.map (am_v G)))) acts mk ((As.map (am_v G)).toArray)).1 target) → Steps p.tables e below (T.setTop (F0 m pc ls ((As.reverse ++ rest).map (am_v G)))) target
/-- the word of a method's code -/
def am_cw (z : am_M) : Cond := match z.2.2.2.2 with
  | [] => .code z.1 z.2.1 z.2.2.1 z.2.2.2.1
  | hs => .codeWith z.1 z.2.1 z.2.2.1 z.2.2.2.1 hs
theorem am_cw_spec {z : am_M} {args : Array Value} {s : State} (h : (am_cw z).before args s = true) : ∃ mk meth c, s.methodNamed? z.1 = some mk ∧ s.vm.method? mk = some meth ∧ meth.code = some c ∧ c.code = z.2.1 ∧ c.maxLocals = z.2.2.1 ∧
    meth.sig.returnType = z.2.2.2.1 ∧ meth.locks = false ∧ c.exceptionTable.toList.map (fun h => (h.startPc, h.endPc, h.handlerPc, h.catchType)) = z.2.2.2.2 ∧ parseMethodDescriptor z.1.desc = some meth.sig := by
  obtain ⟨z1, z2, z3, z4, z5⟩ := z
  cases z5 with
  | nil =>
    obtain ⟨mk, hn⟩ := Cond.code_named (show (Cond.code z1 z2 z3 z4).before args s = true from h)
    obtain ⟨meth, c, h1, h2, h3, h4, h5, h6, h7, h8⟩ := Cond.code_spec hn h
    refine ⟨mk, meth, c, hn, h1, h2, h3, h4, h5, h6, ?_, h8⟩
    have : c.exceptionTable = #[] := by simpa using h7
    rw [this]
    rfl
  | cons a l =>
    obtain ⟨mk, meth, c, hn, h1, h2, h3, h4, h5, h6, h7, h8⟩ := Cond.codeWith_spec (show (Cond.codeWith z1 z2 z3 z4 (a :: l)).before args s = true from h)
    exact ⟨mk, meth, c, hn, h1, h2, h3, h4, h6, h7, h5, h8⟩
section AMC
variable {G : am_G} {y z : am_M} {d bc bs bc' bs' : Nat} {Q Q' : am_O → am_H → Prop} {pc : Nat} {L : List (Nat × Value)} {As rest st : List Value} {h : am_H}
theorem am_call (lk : am_Lk G y z pc L As rest h) (hpl : plainName z.1.cls = true) (hm : z.2.2.1 ≤ 44) (hfit : (lg_sl As).length ≤ z.2.2.1) (hrest : (rest.map fun v => v.category).sum ≤ 8) (hb1 : bc' ≤ bc) (hb2 : bs' ≤ bs)
    (hk : am_W G z d bc' bs' Q' 0 (lv_args 0 As) [] h)
    (hr : ∀ v h', Q' (.inl v) h' → am_W G y (d + 1) (bc - bc') (bs - bs') Q (pc + 3) L (v.toList ++ rest) h')
    (hth : ∀ q h', Q' (.inr q) h' → am_TW G y (d + 1) (bc - bc') (bs - bs') Q pc L q h') : am_W G y (d + 1) bc bs Q pc L (As.reverse ++ rest) h := by
  intro p e R s m args below meth c H locs cells slots ls C hR hh hS hl T hT X
  obtain ⟨vm', mk, methk, ck, ig, X1, hn, hmk, hck, hcb, hml, hret, hlk, hex, hdg, step⟩ := lk p e R s m args below meth c H locs cells slots ls C hh hl T hT X
  obtain ⟨r1, r2, r3, r4⟩ := hR
  have hal := X1.warmed.alike
  have hmk1 : (T.setVm vm').vm.method? mk = some methk := by rw [hal.method?]; exact hmk
  have hn1 : (T.setVm vm').methodNamed? z.1 = some mk := X1.named hn
  have hpk : (T.setVm vm').plainMethod mk := State.plainMethod.of_named (plainFor_of_name hpl) hn1 hmk1
  have hsz : (F0 m pc ls (rest.map (am_v G))).locals.size = c.maxLocals := by rw [C.1.2.2.1]; exact hl.1
  obtain ⟨Y0, hin⟩ := X1.into (g := F0 m pc ls (rest.map (am_v G))) rfl hsz hdg ((As.map (am_v G)).toArray) (R' := { frames := d, cells := bc', slots := bs', locals := 64 * d }) hmk1 hck hlk hpk (by show d + 1 ≤ _; omega)
    (by show 2 * 0 + ((rest.map (am_v G)).map fun v => v.category).sum + (ck.maxLocals + 11) + 64 * d ≤ _; rw [am_cats, hml]; omega) (by show cells + bc' ≤ _; omega) (by show slots + bs' ≤ _; omega)
  have hent : entryFrame mk (As.map (am_v G)).toArray ck.maxLocals = F0 mk 0 ((lg_sl (As.map (am_v G)) ++ List.replicate (ck.maxLocals - (lg_sl (As.map (am_v G))).length) Slot.unset).toArray) [] := lg_entry_eq mk (As.map (am_v G)) ck.maxLocals
  have hl0 := lv_entry (As.map (am_v G)) (n := z.2.2.1) (by rw [am_slargs]; exact hfit)
  rw [am_Largs] at hl0
  rw [hml] at hent hin Y0
  have hheap : ((T.setVm vm').calling (F0 m pc ls (rest.map (am_v G))) mk (As.map (am_v G)).toArray).heap = H := hT
  have hvmc : ((T.setVm vm').calling (F0 m pc ls (rest.map (am_v G))) mk (As.map (am_v G)).toArray).vm = (T.setVm vm').vm := rfl
  have C' : am_C G z p ((T.setVm vm').calling (F0 m pc ls (rest.map (am_v G))) mk (As.map (am_v G)).toArray) mk (As.map (am_v G)).toArray methk ck := by
    obtain ⟨⟨c1, c2, c3, c4, c5⟩, c6, c7, c8, c9, c10, c11, c12, c13, c14⟩ := C
    refine ⟨⟨c1, hcb, hml, ?_, fun w hw => ?_⟩, va_K.moved hal c6, hret, hlk, hex, (name_of_methodNamed hn hmk).1, ?_, ?_, c13, c14.moved (by rw [hvmc]; exact X1.warmed) c11 (fun q hq => by rw [hheap]; exact hS.2.1 q (Nat.lt_of_lt_of_le hq c11) (Nat.not_le.mpr hq)) ⟨h, by rw [hheap]; exact hh⟩⟩
    · rw [hvmc, hal.findClass]; exact findClass_of_methodNamed hn
    · exact word_at (s := s) (by rw [hvmc]; exact X1.warmed) (am_T_good w hw) (c5 w hw)
    · rw [hheap, hh.1]; omega
    · refine va_X.moved (u := s) hal ?_
      rw [hheap]
      exact c12.kept (hS.2.1 _ (Nat.lt_of_lt_of_le c13 c11) (Nat.not_le.mpr c13))
  obtain ⟨t, stp, o, Lc, k1, n1, ao, h', q1, q2, q3, q4, q5, q6, q7, q8, q9, q10, q11⟩ := hk p e { frames := d, cells := bc', slots := bs', locals := 64 * d } ((T.setVm vm').calling (F0 m pc ls (rest.map (am_v G))) mk (As.map (am_v G)).toArray) mk (As.map (am_v G)).toArray (.java (F0 m pc ls (rest.map (am_v G))) :: below) methk ck H [] 0 0 _
    C' ⟨Nat.le_refl d, Nat.le_refl (64 * d), by show 0 + bc' ≤ bc'; omega, by show 0 + bs' ≤ bs'; omega⟩ hh (by rw [hheap]; exact va_S.rf) hl0 (((T.setVm vm').setTop (F0 m pc ls (rest.map (am_v G)))).pushFrame (.java (entryFrame mk (As.map (am_v G)).toArray z.2.2.1))) hT Y0
  have hS' : va_S (am_A G) s.heap t.heap (locs ++ Lc) := by
    refine ⟨?_, fun q g1 g2 => ?_, fun q hq => ?_⟩
    · have := q4.2.1
      have h2 : H.size ≤ t.heap.size := by rw [← hheap]; exact this
      exact Nat.le_trans hS.1 h2
    · rw [q8 q (Nat.not_le.mp g2), hheap]
      exact hS.2.1 q g1 g2
    · rcases List.mem_append.mp hq with h1 | h1
      · exact hS.2.2 q h1
      · exact q7 q h1
  have q5' : k1 ≤ bc' := q5
  have q6' : n1 ≤ bs' := q6
  have stp' : Steps p.tables e below (((T.setVm vm').setTop (F0 m pc ls (rest.map (am_v G)))).pushFrame (.java (entryFrame mk (As.map (am_v G)).toArray z.2.2.1)) |>.setTop (entryFrame mk (As.map (am_v G)).toArray z.2.2.1)) t := by
    refine Steps.weaken (mid := [.java (F0 m pc ls (rest.map (am_v G)))]) ?_
    rw [List.map_nil, ← hent] at stp
    exact stp
  cases ao with
  | inl v =>
    obtain rfl : o = .returned (v.map (am_v G)) := q10
    obtain ⟨T', X', hW', hB', ht⟩ := X1.outOf (g := F0 m pc ls (rest.map (am_v G))) rfl hdg q2 q3 q4
    have hT' : T'.heap = t.heap := by rw [ht]; simp
    obtain ⟨t2, a1, b1⟩ := hr v h' q11 p e R s m args below meth c t.heap (locs ++ Lc) (cells + k1) (slots + n1) ls C ⟨r1, r2, by omega, by omega⟩ q9 hS' hl T' hT' X'
    refine ⟨t2, step t2 (fun acts => ?_), b1⟩
    rw [hin acts]
    refine stp'.trans ?_
    have e1 : (v.toList ++ rest).map (am_v G) = (v.map (am_v G)).toList ++ rest.map (am_v G) := by cases v <;> simp
    rw [e1] at a1
    rw [ht]
    exact a1
  | inr q =>
    obtain rfl : o = .threw (am_ad G q.2) := q10
    obtain ⟨T', X', hW', hB', ht⟩ := X1.outOfThrown (g := F0 m pc ls (rest.map (am_v G))) rfl q2 q3 q4
    have hT' : T'.heap = t.heap := by rw [ht]; exact (Stand.throwing_heap T' _ _).symm
    obtain ⟨t2, a1, b1⟩ := hth q h' q11 p e R s m args below meth c t.heap (locs ++ Lc) (cells + k1) (slots + n1) ls (rest.map (am_v G)) C ⟨r1, r2, by omega, by omega⟩ q9 hS' hl T' hT' X'
    refine ⟨t2, step t2 (fun acts => ?_), b1⟩
    rw [hin acts]
    refine stp'.trans ?_
    rw [ht]
    exact a1
/-- it leaves the method -/
theorem am_thr_out {q : Nat × Nat} (hx : y.2.2.2.2.all (fun r => !(decide (r.1 ≤ pc) && decide (pc < r.2.1))) = true) (hq : Q (.inr q) h) : am_TW G y d bc bs Q pc L q h := by
  intro p e R s m args below meth c H locs cells slots ls stk C hR hh hS hl T hT X
  have hout : ∀ x ∈ c.exceptionTable.toList, covers x (F0 m pc ls stk).pc = false := by
    intro x hxm
    have h1 : (x.startPc, x.endPc, x.handlerPc, x.catchType) ∈ y.2.2.2.2 := by rw [← C.2.2.2.2.1]; exact List.mem_map.mpr ⟨x, hxm, rfl⟩
    have h2 := List.all_eq_true.mp hx _ h1
    have h3 : pc < x.startPc ∨ x.endPc ≤ pc := by simpa using h2
    show (decide (x.startPc ≤ pc) && decide (pc < x.endPc)) = false
    rcases h3 with h3 | h3
    · rw [decide_eq_false (by omega)]; rfl
    · rw [decide_eq_false (p := pc < x.endPc) (by omega), Bool.and_false]
  obtain ⟨a1, a2, a3, a4, a5⟩ := X.leaveThrown (am_ad G q.2) (g := F0 m pc ls stk) rfl rfl rfl hout C.2.2.2.1
  obtain ⟨r1, r2, r3, r4⟩ := hR
  have hth : (T.setFrames (.throwing (am_ad G q.2) :: below)).heap = H := hT
  refine ⟨_, a1, _, locs, cells, slots, .inr q, h, a2, a3, a4, a5, by omega, by omega, hS.2.2, fun x hx => ?_, by rw [hth]; exact hh, rfl, hq⟩
  rw [hth]
  exact hS.2.1 x (Nat.lt_of_lt_of_le hx C.2.2.2.2.2.2.1) (Nat.not_le.mpr hx)
theorem am_athrow {ci a : Nat} (hd : decode y.2.1 pc = .ok (.athrow, 1)) (k : am_TW G y d bc bs Q pc L (ci, a) h) : am_W G y d bc bs Q pc L (.ref a :: st) h := by
  intro p e R s m args below meth c H locs cells slots ls C hR hh hS hl T hT X
  obtain ⟨t, a1, b1⟩ := k p e R s m args below meth c H locs cells slots ls (st.map (am_v G)) C hR hh hS hl T hT X
  refine ⟨t, ?_, b1⟩
  have hx := C.1.1
  have hb := C.1.2.1
  jvm_step X.here [hx, hb, hd, athrow.wp_sem]
  exact a1
/-! the links of calls -/
theorem am_lkS {index : Nat} (hd : decode y.2.1 pc = .ok (.invokestatic index, 3)) (w1 : Cond.methodLink y.1.cls index z.1 ∈ am_T) (w2 : Cond.static z.1 ∈ am_T) (w3 : Cond.initialized z.1.cls ∈ am_T) (w4 : am_cw z ∈ am_T)
    (hy : z.1.cls ≠ "java/lang/invoke/MethodHandle" ∧ z.1.cls ≠ "java/lang/invoke/VarHandle") (hn : (parseMethodDescriptor z.1.desc).map (fun d => d.parameters.length) = some As.length) : am_Lk G y z pc L As rest h := by
  intro p e R s m args below meth c H locs cells slots ls C hh hl T hT X
  have ok := C.1.2.2.2.2
  have ok2 := C.2.2.2.2.2.2.2.2.2.2.2.2.2.2.1
  obtain ⟨mk, methk, ck, hnm, h1, h2, h3, h4, h5, h6, h7, h8⟩ := am_cw_spec (ok _ w4)
  have hst : methk.isStatic = true := Cond.static_spec hnm h1 (ok _ w2)
  obtain ⟨kP, hkP, -⟩ := className_of_methodNamed hnm
  have hinitP : kP.init = .initialized := Cond.initialized_spec (findClass_of_methodNamed hnm) hkP (ok _ w3)
  have hlen : As.length = methk.sig.parameters.length := by rw [h8] at hn; exact (Option.some.inj hn).symm
  obtain ⟨vm1, X1, hs1⟩ := X.invokestatic C.1.1 C.1.2.2.2.1 (ok _ w1) hnm h1 hst hkP hinitP hy (g := F0 m pc ls ((As.reverse ++ rest).map (am_v G))) rfl (argsL := As.map (am_v G)) (rest := rest.map (am_v G)) (by rw [List.length_map]; exact hlen) (by show (As.reverse ++ rest).map (am_v G) = _; rw [List.map_append, List.map_reverse]) (by rw [C.1.2.1]; exact hd)
  exact ⟨vm1, mk, methk, ck, _, X1, hnm, h1, h2, h3, h4, h5, h6, h7, by rw [C.1.2.1]; exact hd, hs1⟩
theorem am_lkSN {index : Nat} {host : String} (hd : decode y.2.1 pc = .ok (.invokestatic index, 3)) (w1 : Cond.methodLinkNest y.1.cls index z.1 host ∈ am_T2) (w2 : Cond.static z.1 ∈ am_T) (w3 : Cond.initialized z.1.cls ∈ am_T) (w4 : am_cw z ∈ am_T)
    (hy : z.1.cls ≠ "java/lang/invoke/MethodHandle" ∧ z.1.cls ≠ "java/lang/invoke/VarHandle") (hn : (parseMethodDescriptor z.1.desc).map (fun d => d.parameters.length) = some As.length) : am_Lk G y z pc L As rest h := by
  intro p e R s m args below meth c H locs cells slots ls C hh hl T hT X
  have ok := C.1.2.2.2.2
  have ok2 := C.2.2.2.2.2.2.2.2.2.2.2.2.2.2.1
  obtain ⟨mk, methk, ck, hnm, h1, h2, h3, h4, h5, h6, h7, h8⟩ := am_cw_spec (ok _ w4)
  have hst : methk.isStatic = true := Cond.static_spec hnm h1 (ok _ w2)
  obtain ⟨kP, hkP, -⟩ := className_of_methodNamed hnm
  have hinitP : kP.init = .initialized := Cond.initialized_spec (findClass_of_methodNamed hnm) hkP (ok _ w3)
  have hlen : As.length = methk.sig.parameters.length := by rw [h8] at hn; exact (Option.some.inj hn).symm
  obtain ⟨vm1, X1, hs1⟩ := X.invokestaticNest C.1.1 C.1.2.2.2.1 (va_Nw.use rfl (ok2 _ w1)) hnm h1 hst hkP hinitP hy (g := F0 m pc ls ((As.reverse ++ rest).map (am_v G))) rfl (argsL := As.map (am_v G)) (rest := rest.map (am_v G)) (by rw [List.length_map]; exact hlen) (by show (As.reverse ++ rest).map (am_v G) = _; rw [List.map_append, List.map_reverse]) (by rw [C.1.2.1]; exact hd)
  exact ⟨vm1, mk, methk, ck, _, X1, hnm, h1, h2, h3, h4, h5, h6, h7, by rw [C.1.2.1]; exact hd, hs1⟩
theorem am_lkV {index a ci N : Nat} {T0 : u_T} {fs : List Value} (hd : decode y.2.1 pc = .ok (.invokevirtual index, 3)) (w1 : Cond.methodLink y.1.cls index z.1 ∈ am_T) (w2 : Cond.instanceMethod z.1 ∈ am_T) (w3 : Cond.selects z.1.cls z.1 z.1 ∈ am_T) (w4 : am_cw z ∈ am_T)
    (hcl : am_cl[ci]? = some (z.1.cls, T0, N)) (ha : h[a]? = some (.inr (ci, fs))) (hy : z.1.cls ≠ "java/lang/invoke/MethodHandle" ∧ z.1.cls ≠ "java/lang/invoke/VarHandle") (hn : (parseMethodDescriptor z.1.desc).map (fun d => d.parameters.length) = some As.length) : am_Lk G y z pc L (.ref (a + 1) :: As) rest h := by
  intro p e R s m args below meth c H locs cells slots ls C hh hl T hT X
  have ok := C.1.2.2.2.2
  have ok2 := C.2.2.2.2.2.2.2.2.2.2.2.2.2.2.1
  obtain ⟨mk, methk, ck, hnm, h1, h2, h3, h4, h5, h6, h7, h8⟩ := am_cw_spec (ok _ w4)
  obtain ⟨mk', methM, hnamed, hmethM, hstM, habM⟩ := Cond.instanceMethod_spec (ok _ w2)
  cases hnm.symm.trans hnamed
  cases h1.symm.trans hmethM
  obtain ⟨cellB, hcB, hoB, hclB⟩ := va_recv C.2.1 hh.2 hcl (am_wsat ha)
  obtain ⟨c2, r2, m2, q1, q2, q3, q4, kP, hkP, hkPi⟩ := Cond.selects_spec (ok _ w3)
  cases hclB.symm.trans q1
  cases (State.methodFound?_of_named hnamed hy).symm.trans q2
  cases hnamed.symm.trans q3
  have hselP : selectMethod e.platform s.vm cellB.cls mk = .method mk := by rw [Launch.admits_selectMethod X.admits]; exact q4
  have hlen : As.length = methk.sig.parameters.length := by rw [h8] at hn; exact (Option.some.inj hn).symm
  obtain ⟨vm1, X1, hs1⟩ := X.invokevirtual C.1.1 C.1.2.2.2.1 (ok _ w1) hnamed hmethM hstM hkP hkPi hy (a := am_gz G + a) (cell := cellB) (by rw [hT]; exact hcB) (fun x hx => by rw [hx] at hoB; cases hoB) hselP hmethM habM hkP hkPi
    (g := F0 m pc ls (((Value.ref (a + 1) :: As).reverse ++ rest).map (am_v G))) rfl (argsL := As.map (am_v G)) (rest := rest.map (am_v G)) (by rw [List.length_map]; exact hlen) (by show ((Value.ref (a + 1) :: As).reverse ++ rest).map (am_v G) = _; simp [am_v, am_ad]) (by rw [C.1.2.1]; exact hd)
  exact ⟨vm1, mk, methk, ck, _, X1, hnm, h1, h2, h3, h4, h5, h6, h7, by rw [C.1.2.1]; exact hd, hs1⟩
theorem am_lkVN {index a ci N : Nat} {host : String} {T0 : u_T} {fs : List Value} (hd : decode y.2.1 pc = .ok (.invokevirtual index, 3)) (w1 : Cond.methodLinkNest y.1.cls index z.1 host ∈ am_T2) (w2 : Cond.instanceMethod z.1 ∈ am_T) (w3 : Cond.selects z.1.cls z.1 z.1 ∈ am_T) (w4 : am_cw z ∈ am_T)
    (hcl : am_cl[ci]? = some (z.1.cls, T0, N)) (ha : h[a]? = some (.inr (ci, fs))) (hy : z.1.cls ≠ "java/lang/invoke/MethodHandle" ∧ z.1.cls ≠ "java/lang/invoke/VarHandle") (hn : (parseMethodDescriptor z.1.desc).map (fun d => d.parameters.length) = some As.length) : am_Lk G y z pc L (.ref (a + 1) :: As) rest h := by
  intro p e R s m args below meth c H locs cells slots ls C hh hl T hT X
  have ok := C.1.2.2.2.2
  have ok2 := C.2.2.2.2.2.2.2.2.2.2.2.2.2.2.1
  obtain ⟨mk, methk, ck, hnm, h1, h2, h3, h4, h5, h6, h7, h8⟩ := am_cw_spec (ok _ w4)
  obtain ⟨mk', methM, hnamed, hmethM, hstM, habM⟩ := Cond.instanceMethod_spec (ok _ w2)
  cases hnm.symm.trans hnamed
  cases h1.symm.trans hmethM
  obtain ⟨cellB, hcB, hoB, hclB⟩ := va_recv C.2.1 hh.2 hcl (am_wsat ha)
  obtain ⟨c2, r2, m2, q1, q2, q3, q4, kP, hkP, hkPi⟩ := Cond.selects_spec (ok _ w3)
  cases hclB.symm.trans q1
  cases (State.methodFound?_of_named hnamed hy).symm.trans q2
  cases hnamed.symm.trans q3
  have hselP : selectMethod e.platform s.vm cellB.cls mk = .method mk := by rw [Launch.admits_selectMethod X.admits]; exact q4
  have hlen : As.length = methk.sig.parameters.length := by rw [h8] at hn; exact (Option.some.inj hn).symm
  obtain ⟨vm1, X1, hs1⟩ := X.invokevirtualNest C.1.1 C.1.2.2.2.1 (va_Nw.use rfl (ok2 _ w1)) hnamed hmethM hstM hkP hkPi hy (a := am_gz G + a) (cell := cellB) (by rw [hT]; exact hcB) (fun x hx => by rw [hx] at hoB; cases hoB) hselP hmethM habM hkP hkPi
    (g := F0 m pc ls (((Value.ref (a + 1) :: As).reverse ++ rest).map (am_v G))) rfl (argsL := As.map (am_v G)) (rest := rest.map (am_v G)) (by rw [List.length_map]; exact hlen) (by show ((Value.ref (a + 1) :: As).reverse ++ rest).map (am_v G) = _; simp [am_v, am_ad]) (by rw [C.1.2.1]; exact hd)
  exact ⟨vm1, mk, methk, ck, _, X1, hnm, h1, h2, h3, h4, h5, h6, h7, by rw [C.1.2.1]; exact hd, hs1⟩
theorem am_lkI {index a : Nat} (hd : decode y.2.1 pc = .ok (.invokespecial index, 3)) (w1 : Cond.methodLink y.1.cls index z.1 ∈ am_T) (w2 : Cond.instanceMethod z.1 ∈ am_T) (w4 : am_cw z ∈ am_T) (hz1 : z.1.name = "<init>") (hz2 : z.2.2.2 = (none, []))
    (hy : z.1.cls ≠ "java/lang/invoke/MethodHandle" ∧ z.1.cls ≠ "java/lang/invoke/VarHandle") (hn : (parseMethodDescriptor z.1.desc).map (fun d => d.parameters.length) = some As.length) : am_Lk G y z pc L (.ref (a + 1) :: As) rest h := by
  intro p e R s m args below meth c H locs cells slots ls C hh hl T hT X
  have ok := C.1.2.2.2.2
  have ok2 := C.2.2.2.2.2.2.2.2.2.2.2.2.2.2.1
  obtain ⟨mk, methk, ck, hnm, h1, h2, h3, h4, h5, h6, h7, h8⟩ := am_cw_spec (ok _ w4)
  have hcw : (Cond.code z.1 z.2.1 z.2.2.1 none).before args s = true := by
    have h9 := ok _ w4
    obtain ⟨z1, z2, z3, z4, z5⟩ := z
    cases hz2
    exact h9
  have hpl : e.platform.magicAccessors = ({} : Platform).magicAccessors := by rw [X.admits.platform]
  have hlen : ∀ sig, parseMethodDescriptor z.1.desc = some sig → (As.map (am_v G)).length = sig.parameters.length := by
    intro sig hs
    rw [hs] at hn
    rw [List.length_map]
    exact (Option.some.inj hn).symm
  obtain ⟨mk', methM, cM, kP, vm1, hnamed, hmethM, hcodeM, -, hlocalsM, -, hkP, -, hW1, hs1⟩ := Steps.initColdArgs (e := e) X.here C.1.1 X.warmed hpl C.1.2.2.2.1 hz1 hy (ok _ w1) (ok _ w2) hcw (f := F0 m pc ls (((Value.ref (a + 1) :: As).reverse ++ rest).map (am_v G))) rfl (a := am_gz G + a) (argsL := As.map (am_v G)) (rest := rest.map (am_v G)) hlen
    (by show ((Value.ref (a + 1) :: As).reverse ++ rest).map (am_v G) = _; simp [am_v, am_ad]) (by rw [C.1.2.1]; exact hd)
  cases hnm.symm.trans hnamed
  exact ⟨vm1, mk, methk, ck, _, X.noted hW1, hnm, h1, h2, h3, h4, h5, h6, h7, by rw [C.1.2.1]; exact hd, hs1⟩
theorem am_lkIN {index a : Nat} {host : String} (hd : decode y.2.1 pc = .ok (.invokespecial index, 3)) (w1 : Cond.methodLinkNest y.1.cls index z.1 host ∈ am_T2) (w2 : Cond.instanceMethod z.1 ∈ am_T) (w4 : am_cw z ∈ am_T) (hz1 : z.1.name = "<init>") (hz2 : z.2.2.2 = (none, []))
    (hy : z.1.cls ≠ "java/lang/invoke/MethodHandle" ∧ z.1.cls ≠ "java/lang/invoke/VarHandle") (hn : (parseMethodDescriptor z.1.desc).map (fun d => d.parameters.length) = some As.length) : am_Lk G y z pc L (.ref (a + 1) :: As) rest h := by
  intro p e R s m args below meth c H locs cells slots ls C hh hl T hT X
  have ok := C.1.2.2.2.2
  have ok2 := C.2.2.2.2.2.2.2.2.2.2.2.2.2.2.1
  obtain ⟨mk, methk, ck, hnm, h1, h2, h3, h4, h5, h6, h7, h8⟩ := am_cw_spec (ok _ w4)
  have hcw : (Cond.code z.1 z.2.1 z.2.2.1 none).before args s = true := by
    have h9 := ok _ w4
    obtain ⟨z1, z2, z3, z4, z5⟩ := z
    cases hz2
    exact h9
  have hpl : e.platform.magicAccessors = ({} : Platform).magicAccessors := by rw [X.admits.platform]
  have hlen : ∀ sig, parseMethodDescriptor z.1.desc = some sig → (As.map (am_v G)).length = sig.parameters.length := by
    intro sig hs
    rw [hs] at hn
    rw [List.length_map]
    exact (Option.some.inj hn).symm
  obtain ⟨mk', methM, cM, kP, vm1, hnamed, hmethM, hcodeM, -, hlocalsM, -, hkP, -, hW1, hs1⟩ := Steps.initColdArgsNest (e := e) X.here C.1.1 X.warmed hpl C.1.2.2.2.1 hz1 hy (va_Nw.use rfl (ok2 _ w1)) (ok _ w2) hcw (f := F0 m pc ls (((Value.ref (a + 1) :: As).reverse ++ rest).map (am_v G))) rfl (a := am_gz G + a) (argsL := As.map (am_v G)) (rest := rest.map (am_v G)) hlen
    (by show ((Value.ref (a + 1) :: As).reverse ++ rest).map (am_v G) = _; simp [am_v, am_ad]) (by rw [C.1.2.1]; exact hd)
  cases hnm.symm.trans hnamed
  exact ⟨vm1, mk, methk, ck, _, X.noted hW1, hnm, h1, h2, h3, h4, h5, h6, h7, by rw [C.1.2.1]; exact hd, hs1⟩
end AMC
