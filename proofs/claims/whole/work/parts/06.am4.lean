/-- the activation seen from where it stands: nothing written, nothing made so far -/
theorem am_reroot {p : Program} {l : Launch} {e : Env} {R R' : Room} {s : State} {m : MethodId} {args : Array Value} {below : List Frame} {meth : Method} {c : Code} {T : State} {locs : List Loc} {cells slots : Nat}
    (X : Stand p l e R s m args below meth c T locs cells slots) (h1 : R'.frames ≤ R.frames) (h2 : R'.locals ≤ R.locals) (h3 : cells + R'.cells ≤ R.cells) (h4 : slots + R'.slots ≤ R.slots) :
    Stand p l e R' (T.setFrames (.invoking m args :: below)) m args below meth c T [] 0 0 := by
  obtain ⟨g0, hfr⟩ := X.frames_eq
  have hcur : T.cur < T.threads.size := State.cur_lt_of_frames hfr
  have hf : (T.setFrames (.invoking m args :: below)).frames = .invoking m args :: below := State.frames_setFrames _ hcur
  have hvm : (T.setFrames (.invoking m args :: below)).vm = T.vm := rfl
  have hal := X.warmed.alike
  have hmeth : (T.setFrames (.invoking m args :: below)).vm.method? m = some meth := X.method'
  obtain ⟨th, hth, -⟩ := State.frames_cons hf
  refine ⟨X.admits, X.cas, X.clock, hf, ?_, ?_, hmeth, X.code, X.here, X.tail, State.WarmedH.refl _, by rw [State.stackLimits_setFrames], by rw [State.stackBytes_setFrames], ?_⟩
  · have hr := X.room
    simp only [State.hasRoom, Bool.and_eq_true, decide_eq_true_eq] at hr ⊢
    rw [State.localsInUse_invoking X.frames X.method X.code] at hr
    rw [State.localsInUse_invoking hf hmeth X.code]
    have hl1 : e.platform.stackLimits (T.setFrames (.invoking m args :: below)).me = e.platform.stackLimits s.me := by rw [State.stackLimits_setFrames]; exact X.limits
    have hl2 : (T.setFrames (.invoking m args :: below)).me.stackBytes = s.me.stackBytes := by rw [State.stackBytes_setFrames]; exact X.bytes
    rw [hl1, hl2, hf]
    rw [X.frames] at hr
    have hz := X.heapSize
    have hu := X.used
    have e1 : (T.setFrames (.invoking m args :: below)).heap.size = T.heap.size := rfl
    have e2 : (T.setFrames (.invoking m args :: below)).slotsUsed = T.slotsUsed := rfl
    rw [e1, e2]
    obtain ⟨⟨⟨⟨q1, q2, q3, q4, q5, q6⟩, q7⟩, q8⟩, q9⟩ := hr
    exact ⟨⟨⟨⟨by omega, by omega, by omega, by omega, by omega, q6⟩, by omega⟩, by omega⟩, X.book⟩
  · have hh := X.hears
    cases below with
    | nil =>
      simp only [State.hears] at hh ⊢
      rw [hmeth]
      rw [X.method] at hh
      exact hh
    | cons f r =>
      cases f with
      | java g =>
        simp only [State.hears, State.code?_eq] at hh ⊢
        rw [hvm, hal.method?]
        exact hh
      | native g => simp only [State.hears]
      | proc g => simp only [State.hears]
      | _ =>
        simp only [State.hears] at hh ⊢
        rw [hmeth]
        rw [X.method] at hh
        exact hh
  · have h := (State.sameButNew.refl (T.setFrames (.invoking m args :: below)) hth).setFrames T.frames (State.cur_lt_of_frames hf)
    have e3 : (T.setFrames (.invoking m args :: below)).setFrames T.frames = T := by
      rw [State.setFrames_setFrames]
      obtain ⟨tt, htt, -⟩ := State.frames_cons hfr
      exact State.setFrames_self htt
    rw [e3] at h
    exact h
