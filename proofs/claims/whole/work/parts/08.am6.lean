/-! the search for a handler, the catch types linked or not yet -/
section AMG
variable {E : CtlPost} {e : Env} {d : Bool} {acts : List Action} {s : State} {f : JFrame} {a : Addr} {Q : Handler → Pre}
theorem am_goC {x : ExceptionTableEntry} {t : List ExceptionTableEntry} {c : ClassId} {vm' : Vm} {cell : Cell} (hx : covers x f.pc = true) (h0 : x.catchType ≠ 0)
    (hg : (Jvm.resolveClass f.method.cls x.catchType).Gives e.toSetting s.vm (.ok c) vm') (hsz : vm'.classes.size ≤ s.vm.classes.size) (hcell : s.heap[a]? = some cell) (hobj : ∀ k, cell.vm ≠ .statics k)
    (hk : ∃ k, vm'.classes[cell.cls]? = some k) (hc : ∃ k, vm'.classes[c]? = some k) :
    wp (findHandler.go f a (x :: t)) Q E e d acts s ↔ if vm'.assignable cell.cls c = true then Q (.found x.handlerPc) d acts (s.setVm vm') else wp (findHandler.go f a t) Q E e d acts (s.setVm vm') := by
  simp only [covers] at hx
  obtain ⟨ha, ht⟩ := hg.op (op := VmOp.resolveClass f.method.cls x.catchType) rfl
  cases hfit : vm'.assignable cell.cls c <;>
    simp [findHandler.go, hx, h0, ha, ht, hsz, hcell, hobj, hk, hc, hfit, VmOp.dirties, VmOp.acts]
end AMG
/-- an entry of the table: it covers the place, and its class is linked, can (b) or can't take the object -/
def am_ent (s₀ : State) (e : Env) (f : JFrame) (cell : Cell) (b : Bool) (q : ExceptionTableEntry) : Prop :=
  covers q f.pc = true ∧ q.catchType ≠ 0 ∧ ∃ c, s₀.vm.ClassLinks e.platform f.method.cls q.catchType c ∧ (∃ k, s₀.vm.classes[c]? = some k) ∧ s₀.vm.assignable cell.cls c = b
theorem am_search {s₀ S : State} {e : Env} {f : JFrame} {a : Addr} {cell : Cell} (hobj : ∀ k, cell.vm ≠ .statics k) (hcell : S.heap[a]? = some cell) (hk : ∃ k, s₀.vm.classes[cell.cls]? = some k) (x : ExceptionTableEntry) (rest : List ExceptionTableEntry) (hx : am_ent s₀ e f cell true x) :
    ∀ (pre : List ExceptionTableEntry) (vm₀ : Vm), s₀.WarmedH vm₀ → (∀ q ∈ pre, am_ent s₀ e f cell false q) →
      ∃ vm', s₀.WarmedH vm' ∧ ∀ (Q : Handler → Pre) (E : CtlPost) (d : Bool) (acts : List Action), wp (findHandler.go f a (pre ++ x :: rest)) Q E e d acts (S.setVm vm₀) ↔ Q (.found x.handlerPc) d acts (S.setVm vm')
  | [], vm₀, hW, _ => by
    obtain ⟨h1, h2, c, h3, ⟨kc, h4⟩, h5⟩ := hx
    obtain ⟨kk, hkk⟩ := hk
    obtain ⟨hg, hw, hr⟩ := State.classEntry (e := e) hW h3
    have hal := hw.alike
    refine ⟨_, hw, fun Q E d acts => ?_⟩
    rw [List.nil_append, am_goC (s := S.setVm vm₀) h1 h2 hg (by rw [Vm.size_noted]; exact Nat.le_refl _) hcell hobj (by obtain ⟨k', hk', -⟩ := hal.2.2 _ _ hkk; exact ⟨k', hk'⟩) (by obtain ⟨k', hk', -⟩ := hal.2.2 _ _ h4; exact ⟨k', hk'⟩), hal.assignable, h5, if_pos rfl]
    rfl
  | p :: pre, vm₀, hW, hp => by
    obtain ⟨h1, h2, c, h3, ⟨kc, h4⟩, h5⟩ := hp p List.mem_cons_self
    obtain ⟨kk, hkk⟩ := id hk
    obtain ⟨hg, hw, hr⟩ := State.classEntry (e := e) hW h3
    have hal := hw.alike
    obtain ⟨vm', hw', ih⟩ := am_search hobj hcell hk x rest hx pre _ hw (fun q hq => hp q (List.mem_cons_of_mem _ hq))
    refine ⟨vm', hw', fun Q E d acts => ?_⟩
    rw [List.cons_append, am_goC (s := S.setVm vm₀) h1 h2 hg (by rw [Vm.size_noted]; exact Nat.le_refl _) hcell hobj (by obtain ⟨k', hk', -⟩ := hal.2.2 _ _ hkk; exact ⟨k', hk'⟩) (by obtain ⟨k', hk', -⟩ := hal.2.2 _ _ h4; exact ⟨k', hk'⟩), hal.assignable, h5, if_neg (by decide)]
    exact ih Q E d acts
theorem am_stepCatch {e : Env} {s s' : State} {a : Addr} {f : JFrame} {r : List Frame} {pc : Nat} (hfind : ∀ (Q : Handler → Pre) (E : CtlPost) (d : Bool) (acts : List Action), wp (findHandler f a) Q E e d acts s ↔ Q (.found pc) d acts s') :
    (stepThrowing e s a (.java f :: r)).Is (s'.setFrames (.java { f with pc := pc, stack := [.ref a] } :: r)) [] := by
  simp only [stepThrowing, searchFrame, vmDo]
  generalize hr : Sem.go _ e false [] s = res
  obtain ⟨as, rfl, ha⟩ := Sem.eq_ok_of hr (a := Handler.found pc) (s' := s') (acts' := []) (by simp [hfind _ _ _ _])
  exact ⟨rfl, ha⟩
theorem am_split {α β : Type} (f : α → β) : ∀ (l : List α) (pre : List β) (x : β) (rest : List β), l.map f = pre ++ x :: rest → ∃ p q r, l = p ++ q :: r ∧ p.map f = pre ∧ f q = x
  | [], pre, x, rest, h => by simp at h
  | b :: l, [], x, rest, h => by
    simp at h
    exact ⟨[], b, l, rfl, rfl, h.1⟩
  | b :: l, c :: pre, x, rest, h => by
    simp at h
    obtain ⟨p, q, r, h1, h2, h3⟩ := am_split f l pre x rest h.2
    exact ⟨b :: p, q, r, by rw [h1]; rfl, by rw [List.map_cons, h.1, h2], h3⟩
section AMCT
variable {G : am_G} {y : am_M} {d bc bs : Nat} {Q : am_O → am_H → Prop} {pc : Nat} {L : List (Nat × Value)} {st : List Value} {h : am_H}
theorem am_catch {ci a : Nat} {X : String} {T0 : u_T} {fs : List Value} {s1 e1 hp ct : Nat} (hcl : am_cl[ci]? = some (X, T0, 0)) (ha : h[a]? = some (.inr (ci, fs))) (pre rest : List (Nat × Nat × Nat × Nat)) (hsp : y.2.2.2.2 = pre ++ (s1, e1, hp, ct) :: rest)
    (hpre : ∀ q ∈ pre, q.1 ≤ pc ∧ pc < q.2.1 ∧ q.2.2.2 ≠ 0 ∧ ∃ B, Cond.classLink y.1.cls q.2.2.2 B ∈ am_T ∧ (X, B) ∈ am_ncs) (hx : s1 ≤ pc ∧ pc < e1 ∧ ct ≠ 0) (w1 : Cond.classLink y.1.cls ct X ∈ am_T) (w2 : Cond.castable X X ∈ am_T2)
    (k : am_W G y d bc bs Q hp L [.ref (a + 1)] h) : am_TW G y d bc bs Q pc L (ci, a + 1) h := by
  intro p e R s m args below meth c H locs cells slots ls stk C hR hh hS hl T hT X0
  have hpl : e.platform.magicAccessors = ({} : Platform).magicAccessors := by rw [X0.admits.platform]
  obtain ⟨r, h1, cell, q1, q2, q3, -⟩ := hh.2 a _ (am_wsat ha)
  have hfX : s.vm.findClass X = some cell.cls := by rw [q2]; exact (C.2.1.1 ci _ hcl).2.1
  obtain ⟨kX, hkX⟩ := Vm.classAt_of_findClass hfX
  obtain ⟨ps, x, rs, hs1, hs2, hs3⟩ := am_split _ _ _ _ _ (C.2.2.2.2.1.trans hsp)
  have ok := C.1.2.2.2.2
  have hent : am_ent s e (F0 m pc ls stk) cell true x := by
    have e1' : x.startPc = s1 := congrArg Prod.fst hs3
    have e2' : x.endPc = e1 := congrArg (fun q => q.2.1) hs3
    have e3' : x.catchType = ct := congrArg (fun q => q.2.2.2) hs3
    obtain ⟨c1, hc1, hl1⟩ := Cond.classLink_spec C.1.2.2.2.1 (ok _ w1) e.platform hpl
    refine ⟨?_, by rw [e3']; exact hx.2.2, c1, by rw [e3']; exact hl1, Vm.classAt_of_findClass hc1, ?_⟩
    · show (decide (x.startPc ≤ pc) && decide (pc < x.endPc)) = true
      rw [e1', e2', decide_eq_true hx.1, decide_eq_true hx.2.1]
      rfl
    · obtain ⟨c3, c4, hc3, hc4, hasg⟩ := Cond.castable_spec (args := args) (first := s) (o := none) (idx := []) (va_Nw.use (A := args) rfl (C.2.2.2.2.2.2.2.2.2.2.2.2.2.2.1 _ w2))
      cases Option.some.inj (hc3.symm.trans hfX)
      cases Option.some.inj (hc4.symm.trans hfX)
      cases Option.some.inj (hc1.symm.trans hfX)
      exact hasg
  have hpent : ∀ q ∈ ps, am_ent s e (F0 m pc ls stk) cell false q := by
    intro q hq
    have hm : (q.startPc, q.endPc, q.handlerPc, q.catchType) ∈ pre := by rw [← hs2]; exact List.mem_map.mpr ⟨q, hq, rfl⟩
    obtain ⟨g1, g2, g3, B, g4, g5⟩ := hpre _ hm
    obtain ⟨c1, hc1, hl1⟩ := Cond.classLink_spec C.1.2.2.2.1 (ok _ g4) e.platform hpl
    refine ⟨?_, g3, c1, hl1, Vm.classAt_of_findClass hc1, ?_⟩
    · show (decide (q.startPc ≤ pc) && decide (pc < q.endPc)) = true
      rw [decide_eq_true g1, decide_eq_true g2]
      rfl
    · obtain ⟨-, -, -, -, -, -, -, -, -, -, -, -, -, k5, -⟩ := C
      obtain ⟨a', b', f1, f2, f3⟩ := k5 _ g5
      cases Option.some.inj (f1.symm.trans hfX)
      cases Option.some.inj (f2.symm.trans hc1)
      exact f3
  have hcellS : ((T.setTop (F0 m pc ls stk)).pushFrame (.throwing (am_gz G + a))).heap[am_gz G + a]? = some cell := by
    rw [Stand.throwing_heap, hT]
    exact q1
  obtain ⟨vm', hW', hfind⟩ := am_search (S := (T.setTop (F0 m pc ls stk)).pushFrame (.throwing (am_gz G + a))) (e := e) (f := F0 m pc ls stk) (a := am_gz G + a) (fun k hk => by rw [q3] at hk; cases hk) hcellS ⟨kX, hkX⟩ x rs hent ps T.vm X0.warmed hpent
  have hmT : ((T.setTop (F0 m pc ls stk)).pushFrame (.throwing (am_gz G + a))).vm.method? m = some meth := by
    rw [Stand.throwing_vm]
    exact X0.method'
  have hfind2 : ∀ (Q : Handler → Pre) (E : CtlPost) (d : Bool) (acts : List Action), wp (findHandler (F0 m pc ls stk) (am_gz G + a)) Q E e d acts ((T.setTop (F0 m pc ls stk)).pushFrame (.throwing (am_gz G + a))) ↔ Q (.found x.handlerPc) d acts (((T.setTop (F0 m pc ls stk)).pushFrame (.throwing (am_gz G + a))).setVm vm') := by
    intro Q E d acts
    have hS0 : ((T.setTop (F0 m pc ls stk)).pushFrame (.throwing (am_gz G + a))).setVm T.vm = (T.setTop (F0 m pc ls stk)).pushFrame (.throwing (am_gz G + a)) := by
      have := Stand.throwing_vm T (F0 m pc ls stk) (am_gz G + a)
      rw [← this, State.setVm_self]
    have h9 := hfind Q E d acts
    rw [hS0] at h9
    rw [W.findHandler_eq (f := F0 m pc ls stk) hmT X0.code, hs1]
    exact h9
  have hhp : x.handlerPc = hp := congrArg (fun q => q.2.2.1) hs3
  rw [hhp] at hfind2
  obtain ⟨t, a1, b1⟩ := k p e R s m args below meth c H locs cells slots ls C hR hh hS hl (T.setVm vm') hT (X0.noted hW')
  refine ⟨t, ?_, b1⟩
  have hAt : At T (F0 m pc ls stk).method c below := X0.here
  obtain ⟨hgo, hw⟩ := hAt.throwing (am_gz G + a)
  refine Steps.head hgo hw ?_
  show Steps p.tables e below (stepThread p.tables e ((T.setTop (F0 m pc ls stk)).pushFrame (.throwing (am_gz G + a)))).1 t
  rw [stepThread_throwing (frames_entered hAt.top _), (am_stepCatch hfind2).1]
  obtain ⟨g0, hg⟩ := Option.isSome_iff_exists.mp hAt.top
  obtain ⟨rr, hrr⟩ := State.topJava?_eq_some.mp hg
  have hrr' : (T.setVm vm').frames = .java g0 :: rr := hrr
  rw [State.setTop_of_frames _ hrr'] at a1
  have e5 : (((T.setTop (F0 m pc ls stk)).pushFrame (.throwing (am_gz G + a))).setVm vm').setFrames (.java { F0 m pc ls stk with pc := hp, stack := [.ref (am_gz G + a)] } :: T.frames.tail) = (T.setVm vm').setFrames (.java (F0 m hp ls [.ref (am_gz G + a)]) :: rr) := by
    rw [State.pushFrame, State.setTop_of_frames _ hrr, State.setFrames_setFrames, hrr]
    show ((T.setFrames _).setFrames _).setVm vm' = _
    rw [State.setFrames_setFrames]
    rfl
  rw [e5]
  exact a1
end AMCT
