/-! THE CLAIM OUT OF ONE WALK OF THE LAW'S BODY. Your part is whole_start (and what it stands on); all else here is the same for every law, but numbers. -/
def R_law : String := "WorkPlansLaw"
def lw_P (b : Addr) (xs : List Int32) (args : Array Value) (s : State) : Prop := args = #[.ref b] ∧ s.IntsAt b xs ∧ xs.length ≤ 2561 ∧ (Jvm.Cond.and given_1 narrow_1).before args s = true
def lw_Q (_ : Array Value) (s : State) (o : Outcome) (t : State) : Prop := o = .returned (some (.int 1)) ∧ Framed s o t [] 601837 7290558
def lw_Z (below : List Frame) (a : Array Value) (s : State) : State → Prop := fun t => ∃ o, t.status = .running ∧ Ended t below o ∧ lw_Q a s o t
/-- the law's own end, with 1 on the stack, nothing written that was there before, its room as the claim has it -/
theorem lw_ret {p : Program} {l : Launch} {e : Env} {s : State} {m : MethodId} {below : List Frame} {meth : Method} {c : Code} {b : Nat} (hx : p.tables.exec = Jvm.exec) (hb : c.code = code) (hr : meth.sig.returnType = ret) (hlocks : meth.locks = false) {pc : Nat} {H : Heap} {ls : Array Slot} (hdg : decode code pc = .ok (.ireturn, 1)) : W p l e room_1 s m #[Value.ref b] below meth c H [] 601837 7290558 (lw_Z below #[Value.ref b] s) (F0 m pc ls [.int 1]) := by
  intro T hT X
  obtain ⟨fs, hret, hrun, hended, hW, hframe⟩ := X.leave (v := some (.int 1)) (hlocks := hlocks) (fun h => by rw [hr] at h; cases h)
  have hmeth' : T.vm.method? m = some meth := X.method'
  refine ⟨T.setFrames fs, ?_, .returned (some (.int 1)), hrun, hended, rfl, ⟨_, rfl⟩, hW, hframe⟩
  jvm_step X.here [X.here.top, hx, hb, hdg, hmeth', hr, ret, narrow_b1]
  (try refine ⟨rfl, ?_⟩); (try refine ⟨rfl, ?_⟩)
  first | (intro acts; rw [hret _ acts rfl rfl rfl]) | rw [hret _ _ rfl rfl rfl]
  exact Steps.refl _
/-- what holds at the law's entry: the machine, the code, the tables' words (any of lw_tbl by 'hts w (by decide +kernel)'), the script of L ints xs at the cell b, what the Statement gives of the start (any of its parts by flat_of_before) -/
def lw_At (p : Program) (s : State) (m : MethodId) (meth : Method) (c : Code) (b L : Nat) (xs : Nat → Int32) : Prop :=
  p.tables.exec = Jvm.exec ∧ c.code = code ∧ meth.sig.returnType = ret ∧ c.maxLocals = 8 ∧ s.vm.findClass R_law = some m.cls ∧ (∀ w ∈ lw_tbl, w.before #[Value.ref b] s = true) ∧ va_X b L xs s s.heap ∧ b < s.heap.size ∧ meth.locks = false ∧ (Jvm.Cond.and given_1 narrow_1).before #[Value.ref b] s = true
theorem st_arr {args : Array Value} {s : State} {ty : FieldType} (hq : (match ty with | .object _ => false | _ => true) = true) (h : (Cond.arrayClass ty).before args s = true) : ∃ cA, ArrOfT s cA ty ∧ va_RA s cA ty := by
  obtain ⟨cA, kA, comp, hfind, hk, hkind⟩ := Cond.arrayClass_spec h
  refine ⟨cA, fun n z => ⟨fun k h => (by cases h), kA, hk, comp, hkind⟩, ?_⟩
  cases ty with
  | object C => cases hq
  | _ => exact hfind
theorem st_no {args : Array Value} {s : State} {A B : String} (h : (Cond.not (Cond.castable A B)).before args s = true) : ∃ a b, s.vm.findClass A = some a ∧ s.vm.findClass B = some b ∧ s.vm.assignable a b = false := by
  simp only [Cond.before, Cond.holds, Cond.value] at h
  cases hc : s.vm.findClass A with
  | none => simp [hc] at h
  | some c =>
    cases ht : s.vm.findClass B with
    | none => simp [hc, ht] at h
    | some t => exact ⟨c, t, rfl, rfl, by simpa [hc, ht] using h⟩
theorem st_str {args : Array Value} {s : State} {k : Nat} {tx : String} (h1 : (Cond.stringRef R_X k tx).before args s = true) (h2 : (Cond.exactly (Term.string R_X k) "java/lang/String").before args s = true) : ∃ a, vk_R R_X k tx a s := by
  obtain ⟨a, c, cA, kA, q1, -⟩ := Cond.exactly_spec (args := args) (first := s) (o := none) (s := s) (idx := []) h2
  exact ⟨a, vk_R.of (A := args) h1 q1⟩
theorem st_lay {G : am_G} {args : Array Value} {s : State} {C n d : String} (hz : am_gz G = s.heap.size) (h : (Cond.laysStatic C n d).before args s = true) : am_ls G C n d s := by
  obtain ⟨c, k, i, f, a, cell, g1, g2, g3, g4, g5, g6, g7, g8, g9⟩ := Cond.laysStatic_spec (args := args) (first := s) (o := none) (s := s) (idx := []) h
  exact ⟨c, k, i, f, a, cell, g1, g2, g3, g4, g5, g6, g7, g8, g9, by rw [hz]; exact (Array.getElem?_eq_some_iff.mp g5).1⟩
theorem st_strs {args : Array Value} {s : State} (hts : ∀ w ∈ lw_tbl, w.before args s = true) (hg : (Jvm.Cond.and given_1 narrow_1).before args s = true) : ∀ q ∈ am_strs, ∃ a, vk_R R_X q.1 q.2 a s := by
  have hs := flat_of_before _ hg
  intro q hq
  simp only [am_strs, List.mem_cons, List.not_mem_nil, or_false] at hq
  rcases hq with rfl | rfl | rfl | rfl | rfl | rfl | rfl | rfl | rfl | rfl | rfl | rfl | rfl | rfl | rfl | rfl | rfl | rfl | rfl | rfl | rfl | rfl
  · exact st_str (hts (Cond.stringRef R_X 55 "no such kind") (by decide +kernel)) (hs (Cond.exactly (Term.string R_X 55) "java/lang/String") (by decide +kernel))
  · exact st_str (hts (Cond.stringRef R_X 66 "no room for a machine") (by decide +kernel)) (hs (Cond.exactly (Term.string R_X 66) "java/lang/String") (by decide +kernel))
  · exact st_str (hts (Cond.stringRef R_X 75 "no such machine") (by decide +kernel)) (hs (Cond.exactly (Term.string R_X 75) "java/lang/String") (by decide +kernel))
  · exact st_str (hts (Cond.stringRef R_X 78 "no such span") (by decide +kernel)) (hs (Cond.exactly (Term.string R_X 78) "java/lang/String") (by decide +kernel))
  · exact st_str (hts (Cond.stringRef R_X 84 "no room for a span") (by decide +kernel)) (hs (Cond.exactly (Term.string R_X 84) "java/lang/String") (by decide +kernel))
  · exact st_str (hts (Cond.stringRef R_X 90 "no such due hour or weight") (by decide +kernel)) (hs (Cond.exactly (Term.string R_X 90) "java/lang/String") (by decide +kernel))
  · exact st_str (hts (Cond.stringRef R_X 95 "no room for a job") (by decide +kernel)) (hs (Cond.exactly (Term.string R_X 95) "java/lang/String") (by decide +kernel))
  · exact st_str (hts (Cond.stringRef R_X 221 "no such job") (by decide +kernel)) (hs (Cond.exactly (Term.string R_X 221) "java/lang/String") (by decide +kernel))
  · exact st_str (hts (Cond.stringRef R_X 105 "no such due hour") (by decide +kernel)) (hs (Cond.exactly (Term.string R_X 105) "java/lang/String") (by decide +kernel))
  · exact st_str (hts (Cond.stringRef R_X 110 "no such kind, hours or wait") (by decide +kernel)) (hs (Cond.exactly (Term.string R_X 110) "java/lang/String") (by decide +kernel))
  · exact st_str (hts (Cond.stringRef R_X 118 "no room for a step") (by decide +kernel)) (hs (Cond.exactly (Term.string R_X 118) "java/lang/String") (by decide +kernel))
  · exact st_str (hts (Cond.stringRef R_X 124 "no such number of nodes") (by decide +kernel)) (hs (Cond.exactly (Term.string R_X 124) "java/lang/String") (by decide +kernel))
  · exact st_str (hts (Cond.stringRef R_X 130 "no jobs, or one does not fit") (by decide +kernel)) (hs (Cond.exactly (Term.string R_X 130) "java/lang/String") (by decide +kernel))
  · exact st_str (hts (Cond.stringRef R_X 151 "no such number of changes") (by decide +kernel)) (hs (Cond.exactly (Term.string R_X 151) "java/lang/String") (by decide +kernel))
  · exact st_str (hts (Cond.stringRef R_X 228 "no plan, or something was told since") (by decide +kernel)) (hs (Cond.exactly (Term.string R_X 228) "java/lang/String") (by decide +kernel))
  · exact st_str (hts (Cond.stringRef R_X 167 "no such step or what") (by decide +kernel)) (hs (Cond.exactly (Term.string R_X 167) "java/lang/String") (by decide +kernel))
  · exact st_str (hts (Cond.stringRef R_X 226 "no plan") (by decide +kernel)) (hs (Cond.exactly (Term.string R_X 226) "java/lang/String") (by decide +kernel))
  · exact st_str (hts (Cond.stringRef R_X 181 "no such place") (by decide +kernel)) (hs (Cond.exactly (Term.string R_X 181) "java/lang/String") (by decide +kernel))
  · exact st_str (hts (Cond.stringRef R_X 183 "no such what") (by decide +kernel)) (hs (Cond.exactly (Term.string R_X 183) "java/lang/String") (by decide +kernel))
  · exact st_str (hts (Cond.stringRef R_X 194 "the job does not fit") (by decide +kernel)) (hs (Cond.exactly (Term.string R_X 194) "java/lang/String") (by decide +kernel))
  · exact st_str (hts (Cond.stringRef R_X 207 "no such clash") (by decide +kernel)) (hs (Cond.exactly (Term.string R_X 207) "java/lang/String") (by decide +kernel))
  · exact st_str (hts (Cond.stringRef R_X 209 "a job does not fit") (by decide +kernel)) (hs (Cond.exactly (Term.string R_X 209) "java/lang/String") (by decide +kernel))
theorem st_ncs {args : Array Value} {s : State} (hg : (Jvm.Cond.and given_1 narrow_1).before args s = true) : ∀ q ∈ am_ncs, ∃ a b, s.vm.findClass q.1 = some a ∧ s.vm.findClass q.2 = some b ∧ s.vm.assignable a b = false := by
  have hs := flat_of_before _ hg
  intro q hq
  simp only [am_ncs, List.mem_cons, List.not_mem_nil, or_false] at hq
  rcases hq with rfl | rfl | rfl | rfl | rfl | rfl
  · exact st_no (hs (Cond.not (Cond.castable "java/lang/IllegalArgumentException" "java/lang/IllegalStateException")) (by decide +kernel))
  · exact st_no (hs (Cond.not (Cond.castable "java/lang/IllegalArgumentException" "java/lang/IndexOutOfBoundsException")) (by decide +kernel))
  · exact st_no (hs (Cond.not (Cond.castable "java/lang/IllegalStateException" "java/lang/IllegalArgumentException")) (by decide +kernel))
  · exact st_no (hs (Cond.not (Cond.castable "java/lang/IllegalStateException" "java/lang/IndexOutOfBoundsException")) (by decide +kernel))
  · exact st_no (hs (Cond.not (Cond.castable "java/lang/IndexOutOfBoundsException" "java/lang/IllegalArgumentException")) (by decide +kernel))
  · exact st_no (hs (Cond.not (Cond.castable "java/lang/IndexOutOfBoundsException" "java/lang/IllegalStateException")) (by decide +kernel))
theorem st_T2 {args : Array Value} {s : State} (hts : ∀ w ∈ lw_tbl, w.before args s = true) : ∀ w ∈ am_T2, va_Nw w s := by
  intro w hw
  refine va_Nw.of (am_T2_tabs w hw) (hts w ?_)
  have h : ∀ w ∈ am_T2, w ∈ lw_tbl := by
    intro w hw
    simp only [am_T2, List.mem_cons, List.not_mem_nil, or_false] at hw
    rcases hw with rfl | rfl | rfl | rfl | rfl | rfl | rfl | rfl | rfl | rfl | rfl | rfl | rfl | rfl | rfl | rfl | rfl | rfl | rfl | rfl | rfl | rfl | rfl | rfl | rfl | rfl | rfl | rfl | rfl | rfl <;> exact (by decide +kernel)
  exact h w hw
set_option maxRecDepth 100000 in
/-- from the entry, for every script of at most 2561 ints, the law comes to its end with true -/
theorem whole_start {p : Program} {e : Env} {s : State} {m : MethodId} {below : List Frame} {meth : Method} {c : Code} (l : Launch) (hfl : l.flags = flags0) (het : c.exceptionTable.isEmpty = true) (hnm : meth.name = "law") {b L : Nat} {xs : Nat → Int32} (hL : L ≤ 2561) (C0 : lw_At p s m meth c b L xs) : W p l e room_1 s m #[Value.ref b] below meth c s.heap [] 0 0 (lw_Z below #[Value.ref b] s) (entryFrame m ([Value.ref b] : List Value).toArray 8) := by
  obtain ⟨hx, hb, hr, hml, hown, hts, hX, hbl, hlocks, hgv⟩ := id C0
  have hT : ∀ w ∈ am_T, w.before #[Value.ref b] s = true := fun w hw => hts w (am_T_tbl w hw)
  obtain ⟨c0, i0, k0⟩ := u_known (C := R_X) (T := T_X) (N := 6) (n := 6) hT in_X (hT _ w_15)
  obtain ⟨c1, i1, k1⟩ := u_known (C := R_S) (T := T_S) (N := 15) (n := 15) hT in_S (hT _ w_23)
  obtain ⟨c2, i2, k2⟩ := u_known (C := R_F) (T := T_F) (N := 6) (n := 6) hT in_F (hT _ w_104)
  obtain ⟨c3, i3, k3⟩ := u_known (C := R_R) (T := T_R) (N := 10) (n := 10) hT in_R (hT _ w_131)
  obtain ⟨c4, i4, k4⟩ := u_known (C := R_P) (T := T_P) (N := 10) (n := 10) hT in_P (hT _ w_173)
  obtain ⟨c5, i5, k5⟩ := u_known (C := R_M) (T := T_M) (N := 34) (n := 34) hT in_M (hT _ w_645)
  obtain ⟨c6, i6, k6⟩ := u_known (C := R_E0) (T := T_E0) (N := 0) (n := 6) hT (fun w hw => by cases hw) (hT _ w_252)
  obtain ⟨c7, i7, k7⟩ := u_known (C := R_E1) (T := T_E1) (N := 0) (n := 6) hT (fun w hw => by cases hw) (hT _ w_320)
  obtain ⟨c8, i8, k8⟩ := u_known (C := R_E2) (T := T_E2) (N := 0) (n := 6) hT (fun w hw => by cases hw) (hT _ w_348)
  obtain ⟨a0, g0⟩ := st_arr (ty := .int) rfl (hT _ w_102)
  obtain ⟨a1, g1⟩ := st_arr (ty := .long) rfl (hT _ w_170)
  obtain ⟨a2, g2⟩ := st_arr (ty := .boolean) rfl (hT _ w_171)
  obtain ⟨G, hG⟩ : ∃ G : am_G, G = (l, (fun k => match k with | 0 => c0 | 1 => c1 | 2 => c2 | 3 => c3 | 4 => c4 | 5 => c5 | 6 => c6 | 7 => c7 | _ => c8), (fun k => match k with | 0 => i0 | 1 => i1 | 2 => i2 | 3 => i3 | 4 => i4 | 5 => i5 | 6 => i6 | 7 => i7 | _ => i8), (fun k => match k with | 0 => a0 | 1 => a1 | _ => a2), b, s.heap.size, L, xs) := ⟨_, rfl⟩
  have hK : va_K (am_gD G) am_cl (am_tys G) s := by
    subst hG
    refine ⟨fun k q hq => ?_, fun k q hq => ?_⟩
    · match k, hq with
      | 0, hq => cases hq; exact k0
      | 1, hq => cases hq; exact k1
      | 2, hq => cases hq; exact k2
      | 3, hq => cases hq; exact k3
      | 4, hq => cases hq; exact k4
      | 5, hq => cases hq; exact k5
      | 6, hq => cases hq; exact k6
      | 7, hq => cases hq; exact k7
      | 8, hq => cases hq; exact k8
      | k + 9, hq => simp [am_cl] at hq
    · match k, hq with
      | 0, hq => cases hq; exact g0
      | 1, hq => cases hq; exact g1
      | 2, hq => cases hq; exact g2
      | k + 3, hq => simp [am_tys] at hq
  have e1 : G.1 = l := by rw [hG]
  have e2 : am_gz G = s.heap.size := by rw [hG]
  have e3 : am_gb G = b := by rw [hG]
  have e4 : am_gn G = L := by rw [hG]
  have e5 : am_gx G = xs := by rw [hG]
  clear hG
  have hA : ∀ a : Nat, a < s.heap.size → ¬ am_A G a := fun a ha => by show ¬ am_gz G ≤ a; rw [e2]; omega
  have hs := flat_of_before _ hgv
  have hR0 : am_R G [] s.heap := ⟨by rw [e2]; rfl, fun k q h => by simp [am_ws] at h⟩
  have hK2 : am_K2 G s := by
    refine ⟨?_, st_strs hts hgv, va_Zqof (hts (Cond.laysStatic "java/lang/Throwable" "UNASSIGNED_STACK" "[Ljava/lang/StackTraceElement;") (by decide +kernel)) (hts (Cond.initialized "java/lang/Throwable") (by decide +kernel)) (hs (Cond.isRef (.static "java/lang/Throwable" "UNASSIGNED_STACK" "[Ljava/lang/StackTraceElement;")) (by decide +kernel)) hA, va_Zqof (hts (Cond.laysStatic "java/lang/Throwable" "SUPPRESSED_SENTINEL" "Ljava/util/List;") (by decide +kernel)) (hts (Cond.initialized "java/lang/Throwable") (by decide +kernel)) (hs (Cond.isRef (.static "java/lang/Throwable" "SUPPRESSED_SENTINEL" "Ljava/util/List;")) (by decide +kernel)) hA, st_ncs hgv, st_T2 hts, st_lay e2 (hts (Cond.laysStatic "java/lang/Throwable" "UNASSIGNED_STACK" "[Ljava/lang/StackTraceElement;") (by decide +kernel)), st_lay e2 (hts (Cond.laysStatic "java/lang/Throwable" "SUPPRESSED_SENTINEL" "Ljava/util/List;") (by decide +kernel)), [], hR0⟩
    rw [e1]
    unfold Launch.stackTraces
    rw [hfl]
    decide +kernel
  have hC : am_C G m_L_law p s m #[Value.ref b] meth c := ⟨⟨hx, hb, hml, hown, hT⟩, hK, hr, hlocks, by rw [show c.exceptionTable.toList = [] from List.eq_nil_of_length_eq_zero (by simpa [Array.isEmpty] using het)]; rfl, hnm, by rw [e2]; exact Nat.le_refl _, by rw [e3, e4, e5]; exact hX, by rw [e2, e3]; exact hbl, hK2⟩
  have hl := lv_entry ([.ref b]) (n := 8) (Nat.le_of_ble_eq_true rfl)
  rw [lg_entry_eq]
  generalize (lg_sl ([.ref b]) ++ List.replicate (8 - (lg_sl ([.ref b])).length) Slot.unset).toArray = ls at hl ⊢
  have hl : lv_has ls 8 (am_L G [(0, .ref 0)]) := by
    show lv_has ls 8 [(0, .ref (am_gb G))]
    rw [e3]
    exact hl
  have hW := c_L_law (G := G) (by rw [e4]; omega) 513 513 3078 (by rw [e4]; omega) (Nat.le_refl _) (by omega) p e room_1 s m #[Value.ref b] below meth c s.heap [] 0 0 ls hC ⟨by decide, by decide, by decide, by decide⟩ hR0 va_S.rf hl
  rw [e1] at hW
  intro T hT2 X
  obtain ⟨t, a1, o, Lc, k, n, ao, h', b1, b2, b3, b4, b5, b6, b7, b8, b9, b10, b11⟩ := hW T hT2 X
  obtain ⟨h2, rfl, -⟩ := b11
  have ho : o = .returned (some (.int 1)) := b10
  subst ho
  refine ⟨t, a1, _, b1, b2, rfl, ⟨_, rfl⟩, b3, ?_⟩
  have hd := State.sameButNew.drop_fresh (L := []) (J := Lc) b4 (fun q hq => by have := b7 q hq; rw [e2] at this; exact this)
  exact hd.mono b5 b6
set_option maxHeartbeats 4000000 in
theorem lw_walk (l : Launch) (hfl : l.flags = flags0) (b : Addr) (xs : List Int32) : MetFree l x (headSpec (Jvm.Cond.code x code maxLocals ret :: tables_1) room_1) (lw_P b xs) (fun _ _ _ _ _ => True) lw_Q := by
  refine MetFree.of_bodyS (code := code) (maxLocals := maxLocals) (ret := ret) (by decide) ?_ ?_
  · intro args s m h hn
    obtain ⟨meth, c, h1, h2, h3, h4, h5, h6, -, -⟩ := Cond.code_spec hn (atoms_spec (ws := Jvm.Cond.code x code maxLocals ret :: tables_1) h _ List.mem_cons_self)
    exact ⟨meth, c, h1, h2, h3, h4, h5, h6⟩
  · intro p e s m args below meth c s₁ B hml0 hP _
    obtain ⟨rfl, hx, hbd, hgv⟩ := hP
    obtain ⟨scr, harrAt, hlist, hof, hsmall⟩ := hx
    obtain ⟨hcb, hkn, -, -⟩ := State.arrayAt?_spec harrAt
    have hown : s.vm.findClass R_law = some m.cls := findClass_of_methodNamed B.named
    have hts0 : ∀ c ∈ (Jvm.Cond.code x code maxLocals ret :: tables_1), c.before #[Value.ref b] s = true := atoms_spec (ws := Jvm.Cond.code x code maxLocals ret :: tables_1) B.pre
    have hts : ∀ w ∈ lw_tbl, w.before #[Value.ref b] s = true := k2_hts_sels lw_privs (fun w hw => hts0 w (List.mem_cons_of_mem _ hw)) lw_privs_ok
    have hml : c.maxLocals = 8 := B.maxLocals_eq (hts0 _ List.mem_cons_self)
    have X₀ : Stand p l e room_1 s m #[Value.ref b] below meth c s₁ [] 0 0 := Stand.of_body B
    have hh0 : s₁.heap = s.heap := by rw [B.state]; rfl
    have hsz : scr.slots.size = xs.length := by rw [← Array.length_toList, hlist, List.length_map]
    have hval : ∀ j : Nat, j < xs.length → scr.slots[j]? = some (.int (xs.getD j 0)) := fun j hj => by
      rw [← Array.getElem?_toList, hlist]
      simp [hj]
    have hbl : b < s.heap.size := (Array.getElem?_eq_some_iff.mp hcb).1
    have hX : va_X b xs.length (fun j => xs.getD j 0) s s.heap := ⟨scr, hcb, hof, hkn, hsz, hval⟩
    have K : W p l e room_1 s m #[Value.ref b] below meth c s₁.heap [] 0 0 (lw_Z below #[Value.ref b] s) (entryFrame m ([Value.ref b] : List Value).toArray 8) := by
      rw [hh0]
      exact whole_start l hfl (B.noHandlers (hts0 _ List.mem_cons_self)) (name_of_methodNamed B.named B.method).1 hbd ⟨B.exec, B.bytes, B.returns, hml, hown, hts, hX, hbl, B.notSynchronized, hgv⟩
    obtain ⟨t, a1, o, b1, b2, b3⟩ := K s₁ rfl X₀
    exact ⟨t, o, a1, b1, b2, b3⟩
theorem lw_pre_spec {args : Array Value} {s : State} (h : (Jvm.Cond.and given_1 narrow_1).before args s = true) (hr : rest_1_c.before args s = true) : ∃ (b : Addr) (xs : List Int32), lw_P b xs args s := by
  have hs := flat_of_before _ h
  have hq := flat_of_before _ hr
  have hc : (Cond.count 1).before args s = true := hs _ (by decide +kernel)
  have harr : (Cond.arrayOf (.arg 0) .int).before args s = true := hs _ (by decide +kernel)
  have hle : (Cond.le (.length (.arg 0)) (.int 2561)).before args s = true := hs _ (by decide +kernel)
  have hlen : (Cond.isInt (.length (.arg 0))).before args s = true := hq _ (by decide +kernel)
  have hall : (Cond.all (.arg 0) (.isInt (.elem (.arg 0) (.index 0)))).before args s = true := hq _ (by decide +kernel)
  obtain ⟨b, xs, hb, hx⟩ := State.ints_of_pre rfl harr hlen hall
  have hsm : xs.length < 2 ^ 31 := hx.choose_spec.2.2.2
  have hev : (Term.length (.arg 0)).eval args s none [] s = some (.int xs.length.toInt32) := hx.length_eval hb
  have hv := Cond.le_ints hev (show (Term.int 2561).eval args s none [] s = some (.int 2561) from rfl)
  have hd : xs.length.toInt32 ≤ 2561 := by
    simpa [Cond.before, Cond.holds, hv] using hle
  have hN : xs.length ≤ 2561 := (Int32.ofNat_le_ofNat hsm (by decide)).mp (show Int32.ofNat xs.length ≤ Int32.ofNat 2561 from hd)
  exact ⟨b, xs, Cond.one_arg hc (show args[0]? = some (.ref b) from hb), hx, hN, h⟩
theorem lw_comes (l : Launch) (hfl : l.flags = flags0) : Comes l x (Jvm.Cond.code x code maxLocals ret :: tables_1) room_1 (fun tb e args s => Calls_1 tb e args s ∧ rest_1 tb e args s ∧ Pre_1 tb e args s)
    (fun _ _ args s o t => lw_Q args s o t) := by
  intro p e ha hc hk s m args below hf hfit hheap happ hpre
  obtain ⟨b, xs, hP⟩ := lw_pre_spec hpre.2.2 hpre.2.1
  obtain ⟨k, o, h1, h2, h3, hQ⟩ := lw_walk l hfl b xs p e ha hc hk s m args below hf ((Spec.applies_iff_loose hf).mp happ).1 hP trivial
  exact ⟨k, o, h1, h2, h3, hQ⟩
theorem lw_frame {s t : State} {o : Outcome} {args : Array Value} (h : Framed s o t [] 601837 7290558) :
    Framed s o t (fieldLocs frame_1_writes args s ++ arrayLocs frame_1_arrays args s ++ staticLocs frame_1_statics s) 601837 7290558 := h
theorem lw_limb (L : Cond) (hL : ∀ (args : Array Value) (s t : State), L.after args s (.returned (some (.int 1))) t = true) :
    ArmFor flags0 classFile x code maxLocals ret World_1 tables_1 room_1 Calls_1 rest_1 Pre_1
      (fun tb e a s o t => postC L tb e a s o t ∧ Framed s o t (fieldLocs frame_1_writes a s ++ arrayLocs frame_1_arrays a s ++ staticLocs frame_1_statics s) 601837 7290558) := by
  intro l hfl _ _ p e ha hc hk s m args below hf hfit hheap happ hpre
  obtain ⟨k, o, h1, h2, h3, rfl, hF⟩ := lw_comes l hfl p e ha hc hk s m args below hf hfit hheap happ hpre
  exact ⟨k, _, h1, h2, h3, hL args s _, lw_frame hF⟩
theorem i_vc : Claimed_1_1 ∧ Claimed_1_2 := ⟨lw_limb limb_1_1 (fun args s t => by simp [limb_1_1, Cond.after, Cond.holds, Cond.value]), lw_limb limb_1_2 (fun args s t => Cond.after_iff.mpr (by
  first | (rw [show limb_1_2 = Cond.eq .result (.int 1) from rfl, Cond.eq_ints (x := 1) (y := 1) rfl rfl]; simp; done) | (simp [limb_1_2, Cond.value, Term.eval]; done)))⟩
