/-! the law's own calls: each catches what the object throws -/
/-- the cells while the law runs: the object, the model, the law's long[1], what was thrown -/
def hl (A : ma_T) (S : sh_T) (jo : Nat → Nat) (M : mo_T) (f : Nat → Int64) (V : am_H) : am_H := hm A S jo M (.inl (1, 1, .inr (.inl f)) :: V)
def am_lv : Option Value → Int64
  | some (.int r) => r.toInt64
  | some (.long v) => v
  | _ => 0
/-- how such a call ends -/
def lQ (cd : Nat) (f : Nat → Int64) (h : am_H) (K : Option Value → am_H → Prop) : am_O → am_H → Prop := fun o h2 =>
  match cd with
  | 0 => ∃ w h', K w h' ∧ o = .inl (some (.int (nI 0))) ∧ h2 = h'.set 52 (.inl (1, 1, .inr (.inl (vp_updL f 0 (am_lv w)))))
  | c + 1 => c < 3 ∧ ∃ ci, o = .inl (some (.int (nI (c + 1)))) ∧ h2 = h ++ [.inr (ci, [])]
def lV (cd : Nat) (h : am_H) (K : Option Value → am_H → Prop) : am_O → am_H → Prop := fun o h2 =>
  match cd with
  | 0 => K none h2 ∧ o = .inl (some (.int (nI 0)))
  | c + 1 => c < 3 ∧ ∃ ci, o = .inl (some (.int (nI (c + 1)))) ∧ h2 = h ++ [.inr (ci, [])]
theorem lQ_c {cd : Nat} {f : Nat → Int64} {h : am_H} {K : Option Value → am_H → Prop} {o : am_O} {h2 : am_H} (q : lQ cd f h K o h2) : (cd = 0 ∧ ∃ w h', K w h' ∧ o = .inl (some (.int (nI 0))) ∧ h2 = h'.set 52 (.inl (1, 1, .inr (.inl (vp_updL f 0 (am_lv w)))))) ∨ (∃ c ci, cd = c + 1 ∧ c < 3 ∧ o = .inl (some (.int (nI (c + 1)))) ∧ h2 = h ++ [.inr (ci, [])]) := by
  cases cd with
  | zero => exact Or.inl ⟨rfl, q⟩
  | succ c =>
    obtain ⟨h1, ci, h2, h3⟩ := q
    exact Or.inr ⟨c, ci, rfl, h1, h2, h3⟩
theorem lV_c {cd : Nat} {h : am_H} {K : Option Value → am_H → Prop} {o : am_O} {h2 : am_H} (q : lV cd h K o h2) : (cd = 0 ∧ K none h2 ∧ o = .inl (some (.int (nI 0)))) ∨ (∃ c ci, cd = c + 1 ∧ c < 3 ∧ o = .inl (some (.int (nI (c + 1)))) ∧ h2 = h ++ [.inr (ci, [])]) := by
  cases cd with
  | zero => exact Or.inl ⟨rfl, q⟩
  | succ c =>
    obtain ⟨h1, ci, h2, h3⟩ := q
    exact Or.inr ⟨c, ci, rfl, h1, h2, h3⟩
theorem l_cl0 : (nI 0).toNatClampNeg = 0 := by decide
theorem am_last0 {G : am_G} {y : am_M} {d bc bs : Nat} {Q : am_O → am_H → Prop} {pc : Nat} {L : List (Nat × Value)} {st : List Value} {h : am_H} {f : Nat → Int64} {x : Int64} (hd : decode y.2.1 pc = .ok (.lastore, 1)) (ha : h[52]? = some (.inl (1, 1, .inr (.inl f)))) (k : am_W G y d bc bs Q (pc + 1) L st (h.set 52 (.inl (1, 1, .inr (.inl (vp_updL f 0 x)))))) : am_W G y d bc bs Q pc L (.long x :: .int (nI 0) :: .ref 53 :: st) h :=
  am_last (a := 52) hd ha (vp_in_nI (by omega) (by omega)) (by rw [l_cl0]; exact k)
theorem am_lald0 {G : am_G} {y : am_M} {d bc bs : Nat} {Q : am_O → am_H → Prop} {pc : Nat} {L : List (Nat × Value)} {st : List Value} {h : am_H} {f : Nat → Int64} (hd : decode y.2.1 pc = .ok (.laload, 1)) (ha : h[52]? = some (.inl (1, 1, .inr (.inl f)))) (k : am_W G y d bc bs Q (pc + 1) L (.long (f 0) :: st) h) : am_W G y d bc bs Q pc L (.int (nI 0) :: .ref 53 :: st) h :=
  am_lald (a := 52) hd ha (vp_in_nI (by omega) (by omega)) (by rw [l_cl0]; exact k)
theorem am_app_at (h : am_H) (e : am_E) : (h ++ [e])[h.length]? = some e := by simp
section LW
variable {G : am_G} {A : ma_T} {S : sh_T} {jo : Nat → Nat} {M : mo_T} {f : Nat → Int64} {V : am_H} {cd : Nat} {K : Option Value → am_H → Prop}
set_option maxRecDepth 20000 in
theorem c_L_machine (d : Nat) (p0 : Int32) (hc : am_W G m_X_machine d 1 6 (fQ [6, 7] cd (hl A S jo M f V) K) 0 (lv_args 0 [.ref 1, .int p0]) [] (hl A S jo M f V)) (hK : ∀ w h', K w h' → (∃ r, w = some (.int r)) ∧ h'[52]? = some (.inl (1, 1, .inr (.inl f)))) : am_W G m_L_machine (d + 1) 1 6 (lQ cd f (hl A S jo M f V) K) 0 (lv_args 0 [.ref 1, .int p0, .ref 53]) [] (hl A S jo M f V) := by
  refine am_aload_n d_L_machine_0 rfl rfl ?_
  refine am_iconst (v := nI 0) d_L_machine_1 (by decide) ?_
  refine am_aload_n d_L_machine_2 rfl rfl ?_
  refine am_iload_n d_L_machine_3 rfl rfl ?_
  refine am_callQ 2 (am_recvV (z := m_X_machine) rfl d_L_machine_4 w_244 w_245 w_246 w_247 F_X.1 rfl (by decide) np_X_machine) (by decide) (by decide) (Nat.le_of_ble_eq_true rfl) (Nat.le_of_ble_eq_true rfl) (Nat.le_refl _) (Nat.le_refl _) hc (fun v4 h4 q4 => ?_) (fun x4 h4 q4 => ?_)
  · rcases cd with _ | c
    rotate_left
    · obtain ⟨ci, h1, h2, h3⟩ := q4
      cases h2
    obtain ⟨w, e, hk⟩ := q4
    cases e
    obtain ⟨⟨r, rfl⟩, hat⟩ := hK _ _ hk
    refine am_i2l d_L_machine_7 ?_
    refine am_last0 d_L_machine_8 hat ?_
    refine am_goto (tgt := 18) d_L_machine_9 (by decide) ?_
    refine am_iconst (v := nI 0) d_L_machine_18 (by decide) ?_
    refine am_iret d_L_machine_19 rfl ?_
    exact ⟨_, _, hk, rfl, rfl⟩
  · rcases cd with _ | c
    · obtain ⟨w, e, -⟩ := q4
      cases e
    · obtain ⟨ci, h1, h2, h3⟩ := q4
      cases h2
      subst h3
      rcases c with _ | _ | c
      · cases h1
        refine am_catch (ci := 6) (a := (hl A S jo M f V).length) rfl (am_app_at _ _) [] [(0, 9, 15, 15)] rfl (fun q hq => by cases hq) ⟨by decide, by decide, by decide⟩ w_242 (by decide +kernel) ?_
        refine am_astore_n d_L_machine_12 rfl (by decide) ?_
        refine am_iconst (v := nI 1) d_L_machine_13 (by decide) ?_
        refine am_iret d_L_machine_14 rfl ?_
        exact ⟨Nat.le_of_ble_eq_true rfl, 6, rfl, rfl⟩
      · cases h1
        refine am_catch (ci := 7) (a := (hl A S jo M f V).length) rfl (am_app_at _ _) [(0, 9, 12, 13)] [] rfl (fun q hq => by simp only [List.mem_cons, List.not_mem_nil, or_false] at hq; rcases hq with rfl <;> first | exact ⟨by decide, by decide, by decide, "java/lang/IllegalArgumentException", w_242, by decide⟩) ⟨by decide, by decide, by decide⟩ w_243 (by decide +kernel) ?_
        refine am_astore_n d_L_machine_15 rfl (by decide) ?_
        refine am_iconst (v := nI 2) d_L_machine_16 (by decide) ?_
        refine am_iret d_L_machine_17 rfl ?_
        exact ⟨Nat.le_of_ble_eq_true rfl, 7, rfl, rfl⟩
      · cases h1
set_option maxRecDepth 20000 in
theorem c_L_out (d : Nat) (p0 p1 p2 : Int32) (hc : am_W G m_X_out d 1 6 (fQ [8, 6, 7] cd (hl A S jo M f V) K) 0 (lv_args 0 [.ref 1, .int p0, .int p1, .int p2]) [] (hl A S jo M f V)) (hK : ∀ w h', K w h' → (∃ r, w = some (.int r)) ∧ h'[52]? = some (.inl (1, 1, .inr (.inl f)))) : am_W G m_L_out (d + 1) 1 6 (lQ cd f (hl A S jo M f V) K) 0 (lv_args 0 [.ref 1, .int p0, .int p1, .int p2, .ref 53]) [] (hl A S jo M f V) := by
  refine am_aload d_L_out_0 rfl ?_
  refine am_iconst (v := nI 0) d_L_out_2 (by decide) ?_
  refine am_aload_n d_L_out_3 rfl rfl ?_
  refine am_iload_n d_L_out_4 rfl rfl ?_
  refine am_iload_n d_L_out_5 rfl rfl ?_
  refine am_iload_n d_L_out_6 rfl rfl ?_
  refine am_callQ 4 (am_recvV (z := m_X_out) rfl d_L_out_7 w_343 w_344 w_345 w_346 F_X.1 rfl (by decide) np_X_out) (by decide) (by decide) (Nat.le_of_ble_eq_true rfl) (Nat.le_of_ble_eq_true rfl) (Nat.le_refl _) (Nat.le_refl _) hc (fun v7 h7 q7 => ?_) (fun x7 h7 q7 => ?_)
  · rcases cd with _ | c
    rotate_left
    · obtain ⟨ci, h1, h2, h3⟩ := q7
      cases h2
    obtain ⟨w, e, hk⟩ := q7
    cases e
    obtain ⟨⟨r, rfl⟩, hat⟩ := hK _ _ hk
    refine am_i2l d_L_out_10 ?_
    refine am_last0 d_L_out_11 hat ?_
    refine am_goto (tgt := 27) d_L_out_12 (by decide) ?_
    refine am_iconst (v := nI 0) d_L_out_27 (by decide) ?_
    refine am_iret d_L_out_28 rfl ?_
    exact ⟨_, _, hk, rfl, rfl⟩
  · rcases cd with _ | c
    · obtain ⟨w, e, -⟩ := q7
      cases e
    · obtain ⟨ci, h1, h2, h3⟩ := q7
      cases h2
      subst h3
      rcases c with _ | _ | _ | c
      · cases h1
        refine am_catch (ci := 8) (a := (hl A S jo M f V).length) rfl (am_app_at _ _) [] [(0, 12, 19, 13), (0, 12, 23, 15)] rfl (fun q hq => by cases hq) ⟨by decide, by decide, by decide⟩ w_342 (by decide +kernel) ?_
        refine am_astore d_L_out_15 (by decide) ?_
        refine am_iconst (v := nI 1) d_L_out_17 (by decide) ?_
        refine am_iret d_L_out_18 rfl ?_
        exact ⟨Nat.le_of_ble_eq_true rfl, 8, rfl, rfl⟩
      · cases h1
        refine am_catch (ci := 6) (a := (hl A S jo M f V).length) rfl (am_app_at _ _) [(0, 12, 15, 21)] [(0, 12, 23, 15)] rfl (fun q hq => by simp only [List.mem_cons, List.not_mem_nil, or_false] at hq; rcases hq with rfl <;> first | exact ⟨by decide, by decide, by decide, "java/lang/IndexOutOfBoundsException", w_342, by decide⟩) ⟨by decide, by decide, by decide⟩ w_242 (by decide +kernel) ?_
        refine am_astore d_L_out_19 (by decide) ?_
        refine am_iconst (v := nI 2) d_L_out_21 (by decide) ?_
        refine am_iret d_L_out_22 rfl ?_
        exact ⟨Nat.le_of_ble_eq_true rfl, 6, rfl, rfl⟩
      · cases h1
        refine am_catch (ci := 7) (a := (hl A S jo M f V).length) rfl (am_app_at _ _) [(0, 12, 15, 21), (0, 12, 19, 13)] [] rfl (fun q hq => by simp only [List.mem_cons, List.not_mem_nil, or_false] at hq; rcases hq with rfl | rfl <;> first | exact ⟨by decide, by decide, by decide, "java/lang/IndexOutOfBoundsException", w_342, by decide⟩ | exact ⟨by decide, by decide, by decide, "java/lang/IllegalArgumentException", w_242, by decide⟩) ⟨by decide, by decide, by decide⟩ w_243 (by decide +kernel) ?_
        refine am_astore d_L_out_23 (by decide) ?_
        refine am_iconst (v := nI 3) d_L_out_25 (by decide) ?_
        refine am_iret d_L_out_26 rfl ?_
        exact ⟨Nat.le_of_ble_eq_true rfl, 7, rfl, rfl⟩
      · cases h1
set_option maxRecDepth 20000 in
theorem c_L_job (d : Nat) (p0 p1 : Int32) (hc : am_W G m_X_job d 1 6 (fQ [6, 7] cd (hl A S jo M f V) K) 0 (lv_args 0 [.ref 1, .int p0, .int p1]) [] (hl A S jo M f V)) (hK : ∀ w h', K w h' → (∃ r, w = some (.int r)) ∧ h'[52]? = some (.inl (1, 1, .inr (.inl f)))) : am_W G m_L_job (d + 1) 1 6 (lQ cd f (hl A S jo M f V) K) 0 (lv_args 0 [.ref 1, .int p0, .int p1, .ref 53]) [] (hl A S jo M f V) := by
  refine am_aload_n d_L_job_0 rfl rfl ?_
  refine am_iconst (v := nI 0) d_L_job_1 (by decide) ?_
  refine am_aload_n d_L_job_2 rfl rfl ?_
  refine am_iload_n d_L_job_3 rfl rfl ?_
  refine am_iload_n d_L_job_4 rfl rfl ?_
  refine am_callQ 3 (am_recvV (z := m_X_job) rfl d_L_job_5 w_372 w_373 w_374 w_375 F_X.1 rfl (by decide) np_X_job) (by decide) (by decide) (Nat.le_of_ble_eq_true rfl) (Nat.le_of_ble_eq_true rfl) (Nat.le_refl _) (Nat.le_refl _) hc (fun v5 h5 q5 => ?_) (fun x5 h5 q5 => ?_)
  · rcases cd with _ | c
    rotate_left
    · obtain ⟨ci, h1, h2, h3⟩ := q5
      cases h2
    obtain ⟨w, e, hk⟩ := q5
    cases e
    obtain ⟨⟨r, rfl⟩, hat⟩ := hK _ _ hk
    refine am_i2l d_L_job_8 ?_
    refine am_last0 d_L_job_9 hat ?_
    refine am_goto (tgt := 21) d_L_job_10 (by decide) ?_
    refine am_iconst (v := nI 0) d_L_job_21 (by decide) ?_
    refine am_iret d_L_job_22 rfl ?_
    exact ⟨_, _, hk, rfl, rfl⟩
  · rcases cd with _ | c
    · obtain ⟨w, e, -⟩ := q5
      cases e
    · obtain ⟨ci, h1, h2, h3⟩ := q5
      cases h2
      subst h3
      rcases c with _ | _ | c
      · cases h1
        refine am_catch (ci := 6) (a := (hl A S jo M f V).length) rfl (am_app_at _ _) [] [(0, 10, 17, 15)] rfl (fun q hq => by cases hq) ⟨by decide, by decide, by decide⟩ w_242 (by decide +kernel) ?_
        refine am_astore d_L_job_13 (by decide) ?_
        refine am_iconst (v := nI 1) d_L_job_15 (by decide) ?_
        refine am_iret d_L_job_16 rfl ?_
        exact ⟨Nat.le_of_ble_eq_true rfl, 6, rfl, rfl⟩
      · cases h1
        refine am_catch (ci := 7) (a := (hl A S jo M f V).length) rfl (am_app_at _ _) [(0, 10, 13, 13)] [] rfl (fun q hq => by simp only [List.mem_cons, List.not_mem_nil, or_false] at hq; rcases hq with rfl <;> first | exact ⟨by decide, by decide, by decide, "java/lang/IllegalArgumentException", w_242, by decide⟩) ⟨by decide, by decide, by decide⟩ w_243 (by decide +kernel) ?_
        refine am_astore d_L_job_17 (by decide) ?_
        refine am_iconst (v := nI 2) d_L_job_19 (by decide) ?_
        refine am_iret d_L_job_20 rfl ?_
        exact ⟨Nat.le_of_ble_eq_true rfl, 7, rfl, rfl⟩
      · cases h1
set_option maxRecDepth 20000 in
theorem c_L_due (d : Nat) (p0 p1 : Int32) (hc : am_W G m_X_due d 1 6 (fQ [8, 6] cd (hl A S jo M f V) K) 0 (lv_args 0 [.ref 1, .int p0, .int p1]) [] (hl A S jo M f V)) (hK : ∀ w h', K w h' → w = none) : am_W G m_L_due (d + 1) 1 6 (lV cd (hl A S jo M f V) K) 0 (lv_args 0 [.ref 1, .int p0, .int p1]) [] (hl A S jo M f V) := by
  refine am_aload_n d_L_due_0 rfl rfl ?_
  refine am_iload_n d_L_due_1 rfl rfl ?_
  refine am_iload_n d_L_due_2 rfl rfl ?_
  refine am_callQ 3 (am_recvV (z := m_X_due) rfl d_L_due_3 w_385 w_386 w_387 w_388 F_X.1 rfl (by decide) np_X_due) (by decide) (by decide) (Nat.le_of_ble_eq_true rfl) (Nat.le_of_ble_eq_true rfl) (Nat.le_refl _) (Nat.le_refl _) hc (fun v3 h3 q3 => ?_) (fun x3 h3 q3 => ?_)
  · rcases cd with _ | c
    rotate_left
    · obtain ⟨ci, h1, h2, h3⟩ := q3
      cases h2
    obtain ⟨w, e, hk⟩ := q3
    cases e
    obtain rfl := hK _ _ hk
    refine am_goto (tgt := 15) d_L_due_6 (by decide) ?_
    refine am_iconst (v := nI 0) d_L_due_15 (by decide) ?_
    refine am_iret d_L_due_16 rfl ?_
    exact ⟨hk, rfl⟩
  · rcases cd with _ | c
    · obtain ⟨w, e, -⟩ := q3
      cases e
    · obtain ⟨ci, h1, h2, h3⟩ := q3
      cases h2
      subst h3
      rcases c with _ | _ | c
      · cases h1
        refine am_catch (ci := 8) (a := (hl A S jo M f V).length) rfl (am_app_at _ _) [] [(0, 6, 12, 13)] rfl (fun q hq => by cases hq) ⟨by decide, by decide, by decide⟩ w_342 (by decide +kernel) ?_
        refine am_astore_n d_L_due_9 rfl (by decide) ?_
        refine am_iconst (v := nI 1) d_L_due_10 (by decide) ?_
        refine am_iret d_L_due_11 rfl ?_
        exact ⟨Nat.le_of_ble_eq_true rfl, 8, rfl, rfl⟩
      · cases h1
        refine am_catch (ci := 6) (a := (hl A S jo M f V).length) rfl (am_app_at _ _) [(0, 6, 9, 21)] [] rfl (fun q hq => by simp only [List.mem_cons, List.not_mem_nil, or_false] at hq; rcases hq with rfl <;> first | exact ⟨by decide, by decide, by decide, "java/lang/IndexOutOfBoundsException", w_342, by decide⟩) ⟨by decide, by decide, by decide⟩ w_242 (by decide +kernel) ?_
        refine am_astore_n d_L_due_12 rfl (by decide) ?_
        refine am_iconst (v := nI 2) d_L_due_13 (by decide) ?_
        refine am_iret d_L_due_14 rfl ?_
        exact ⟨Nat.le_of_ble_eq_true rfl, 6, rfl, rfl⟩
      · cases h1
set_option maxRecDepth 20000 in
theorem c_L_step (d : Nat) (p0 p1 p2 p3 : Int32) (hc : am_W G m_X_step d 1 6 (fQ [8, 6, 7] cd (hl A S jo M f V) K) 0 (lv_args 0 [.ref 1, .int p0, .int p1, .int p2, .int p3]) [] (hl A S jo M f V)) (hK : ∀ w h', K w h' → (∃ r, w = some (.int r)) ∧ h'[52]? = some (.inl (1, 1, .inr (.inl f)))) : am_W G m_L_step (d + 1) 1 6 (lQ cd f (hl A S jo M f V) K) 0 (lv_args 0 [.ref 1, .int p0, .int p1, .int p2, .int p3, .ref 53]) [] (hl A S jo M f V) := by
  refine am_aload d_L_step_0 rfl ?_
  refine am_iconst (v := nI 0) d_L_step_2 (by decide) ?_
  refine am_aload_n d_L_step_3 rfl rfl ?_
  refine am_iload_n d_L_step_4 rfl rfl ?_
  refine am_iload_n d_L_step_5 rfl rfl ?_
  refine am_iload_n d_L_step_6 rfl rfl ?_
  refine am_iload d_L_step_7 rfl ?_
  refine am_callQ 5 (am_recvV (z := m_X_step) rfl d_L_step_9 w_398 w_399 w_400 w_401 F_X.1 rfl (by decide) np_X_step) (by decide) (by decide) (Nat.le_of_ble_eq_true rfl) (Nat.le_of_ble_eq_true rfl) (Nat.le_refl _) (Nat.le_refl _) hc (fun v9 h9 q9 => ?_) (fun x9 h9 q9 => ?_)
  · rcases cd with _ | c
    rotate_left
    · obtain ⟨ci, h1, h2, h3⟩ := q9
      cases h2
    obtain ⟨w, e, hk⟩ := q9
    cases e
    obtain ⟨⟨r, rfl⟩, hat⟩ := hK _ _ hk
    refine am_i2l d_L_step_12 ?_
    refine am_last0 d_L_step_13 hat ?_
    refine am_goto (tgt := 29) d_L_step_14 (by decide) ?_
    refine am_iconst (v := nI 0) d_L_step_29 (by decide) ?_
    refine am_iret d_L_step_30 rfl ?_
    exact ⟨_, _, hk, rfl, rfl⟩
  · rcases cd with _ | c
    · obtain ⟨w, e, -⟩ := q9
      cases e
    · obtain ⟨ci, h1, h2, h3⟩ := q9
      cases h2
      subst h3
      rcases c with _ | _ | _ | c
      · cases h1
        refine am_catch (ci := 8) (a := (hl A S jo M f V).length) rfl (am_app_at _ _) [] [(0, 14, 21, 13), (0, 14, 25, 15)] rfl (fun q hq => by cases hq) ⟨by decide, by decide, by decide⟩ w_342 (by decide +kernel) ?_
        refine am_astore d_L_step_17 (by decide) ?_
        refine am_iconst (v := nI 1) d_L_step_19 (by decide) ?_
        refine am_iret d_L_step_20 rfl ?_
        exact ⟨Nat.le_of_ble_eq_true rfl, 8, rfl, rfl⟩
      · cases h1
        refine am_catch (ci := 6) (a := (hl A S jo M f V).length) rfl (am_app_at _ _) [(0, 14, 17, 21)] [(0, 14, 25, 15)] rfl (fun q hq => by simp only [List.mem_cons, List.not_mem_nil, or_false] at hq; rcases hq with rfl <;> first | exact ⟨by decide, by decide, by decide, "java/lang/IndexOutOfBoundsException", w_342, by decide⟩) ⟨by decide, by decide, by decide⟩ w_242 (by decide +kernel) ?_
        refine am_astore d_L_step_21 (by decide) ?_
        refine am_iconst (v := nI 2) d_L_step_23 (by decide) ?_
        refine am_iret d_L_step_24 rfl ?_
        exact ⟨Nat.le_of_ble_eq_true rfl, 6, rfl, rfl⟩
      · cases h1
        refine am_catch (ci := 7) (a := (hl A S jo M f V).length) rfl (am_app_at _ _) [(0, 14, 17, 21), (0, 14, 21, 13)] [] rfl (fun q hq => by simp only [List.mem_cons, List.not_mem_nil, or_false] at hq; rcases hq with rfl | rfl <;> first | exact ⟨by decide, by decide, by decide, "java/lang/IndexOutOfBoundsException", w_342, by decide⟩ | exact ⟨by decide, by decide, by decide, "java/lang/IllegalArgumentException", w_242, by decide⟩) ⟨by decide, by decide, by decide⟩ w_243 (by decide +kernel) ?_
        refine am_astore d_L_step_25 (by decide) ?_
        refine am_iconst (v := nI 3) d_L_step_27 (by decide) ?_
        refine am_iret d_L_step_28 rfl ?_
        exact ⟨Nat.le_of_ble_eq_true rfl, 7, rfl, rfl⟩
      · cases h1
set_option maxRecDepth 20000 in
theorem c_L_run (d : Nat) (p0 : Int32) (hc : am_W G m_X_run d 1 6 (fQ [6, 7] cd (hl A S jo M f V) K) 0 (lv_args 0 [.ref 1, .int p0]) [] (hl A S jo M f V)) (hK : ∀ w h', K w h' → (∃ r, w = some (.int r)) ∧ h'[52]? = some (.inl (1, 1, .inr (.inl f)))) : am_W G m_L_run (d + 1) 1 6 (lQ cd f (hl A S jo M f V) K) 0 (lv_args 0 [.ref 1, .int p0, .ref 53]) [] (hl A S jo M f V) := by
  refine am_aload_n d_L_run_0 rfl rfl ?_
  refine am_iconst (v := nI 0) d_L_run_1 (by decide) ?_
  refine am_aload_n d_L_run_2 rfl rfl ?_
  refine am_iload_n d_L_run_3 rfl rfl ?_
  refine am_callQ 2 (am_recvV (z := m_X_run) rfl d_L_run_4 w_415 w_416 w_417 w_418 F_X.1 rfl (by decide) np_X_run) (by decide) (by decide) (Nat.le_of_ble_eq_true rfl) (Nat.le_of_ble_eq_true rfl) (Nat.le_refl _) (Nat.le_refl _) hc (fun v4 h4 q4 => ?_) (fun x4 h4 q4 => ?_)
  · rcases cd with _ | c
    rotate_left
    · obtain ⟨ci, h1, h2, h3⟩ := q4
      cases h2
    obtain ⟨w, e, hk⟩ := q4
    cases e
    obtain ⟨⟨r, rfl⟩, hat⟩ := hK _ _ hk
    refine am_i2l d_L_run_7 ?_
    refine am_last0 d_L_run_8 hat ?_
    refine am_goto (tgt := 18) d_L_run_9 (by decide) ?_
    refine am_iconst (v := nI 0) d_L_run_18 (by decide) ?_
    refine am_iret d_L_run_19 rfl ?_
    exact ⟨_, _, hk, rfl, rfl⟩
  · rcases cd with _ | c
    · obtain ⟨w, e, -⟩ := q4
      cases e
    · obtain ⟨ci, h1, h2, h3⟩ := q4
      cases h2
      subst h3
      rcases c with _ | _ | c
      · cases h1
        refine am_catch (ci := 6) (a := (hl A S jo M f V).length) rfl (am_app_at _ _) [] [(0, 9, 15, 15)] rfl (fun q hq => by cases hq) ⟨by decide, by decide, by decide⟩ w_242 (by decide +kernel) ?_
        refine am_astore_n d_L_run_12 rfl (by decide) ?_
        refine am_iconst (v := nI 1) d_L_run_13 (by decide) ?_
        refine am_iret d_L_run_14 rfl ?_
        exact ⟨Nat.le_of_ble_eq_true rfl, 6, rfl, rfl⟩
      · cases h1
        refine am_catch (ci := 7) (a := (hl A S jo M f V).length) rfl (am_app_at _ _) [(0, 9, 12, 13)] [] rfl (fun q hq => by simp only [List.mem_cons, List.not_mem_nil, or_false] at hq; rcases hq with rfl <;> first | exact ⟨by decide, by decide, by decide, "java/lang/IllegalArgumentException", w_242, by decide⟩) ⟨by decide, by decide, by decide⟩ w_243 (by decide +kernel) ?_
        refine am_astore_n d_L_run_15 rfl (by decide) ?_
        refine am_iconst (v := nI 2) d_L_run_16 (by decide) ?_
        refine am_iret d_L_run_17 rfl ?_
        exact ⟨Nat.le_of_ble_eq_true rfl, 7, rfl, rfl⟩
      · cases h1
set_option maxRecDepth 20000 in
theorem c_L_improve (d : Nat) (p0 : Int32) (hc : am_W G m_X_improve d 1 6 (fQ [6, 7] cd (hl A S jo M f V) K) 0 (lv_args 0 [.ref 1, .int p0]) [] (hl A S jo M f V)) (hK : ∀ w h', K w h' → (∃ r, w = some (.int r)) ∧ h'[52]? = some (.inl (1, 1, .inr (.inl f)))) : am_W G m_L_improve (d + 1) 1 6 (lQ cd f (hl A S jo M f V) K) 0 (lv_args 0 [.ref 1, .int p0, .ref 53]) [] (hl A S jo M f V) := by
  refine am_aload_n d_L_improve_0 rfl rfl ?_
  refine am_iconst (v := nI 0) d_L_improve_1 (by decide) ?_
  refine am_aload_n d_L_improve_2 rfl rfl ?_
  refine am_iload_n d_L_improve_3 rfl rfl ?_
  refine am_callQ 2 (am_recvV (z := m_X_improve) rfl d_L_improve_4 w_511 w_512 w_513 w_514 F_X.1 rfl (by decide) np_X_improve) (by decide) (by decide) (Nat.le_of_ble_eq_true rfl) (Nat.le_of_ble_eq_true rfl) (Nat.le_refl _) (Nat.le_refl _) hc (fun v4 h4 q4 => ?_) (fun x4 h4 q4 => ?_)
  · rcases cd with _ | c
    rotate_left
    · obtain ⟨ci, h1, h2, h3⟩ := q4
      cases h2
    obtain ⟨w, e, hk⟩ := q4
    cases e
    obtain ⟨⟨r, rfl⟩, hat⟩ := hK _ _ hk
    refine am_i2l d_L_improve_7 ?_
    refine am_last0 d_L_improve_8 hat ?_
    refine am_goto (tgt := 18) d_L_improve_9 (by decide) ?_
    refine am_iconst (v := nI 0) d_L_improve_18 (by decide) ?_
    refine am_iret d_L_improve_19 rfl ?_
    exact ⟨_, _, hk, rfl, rfl⟩
  · rcases cd with _ | c
    · obtain ⟨w, e, -⟩ := q4
      cases e
    · obtain ⟨ci, h1, h2, h3⟩ := q4
      cases h2
      subst h3
      rcases c with _ | _ | c
      · cases h1
        refine am_catch (ci := 6) (a := (hl A S jo M f V).length) rfl (am_app_at _ _) [] [(0, 9, 15, 15)] rfl (fun q hq => by cases hq) ⟨by decide, by decide, by decide⟩ w_242 (by decide +kernel) ?_
        refine am_astore_n d_L_improve_12 rfl (by decide) ?_
        refine am_iconst (v := nI 1) d_L_improve_13 (by decide) ?_
        refine am_iret d_L_improve_14 rfl ?_
        exact ⟨Nat.le_of_ble_eq_true rfl, 6, rfl, rfl⟩
      · cases h1
        refine am_catch (ci := 7) (a := (hl A S jo M f V).length) rfl (am_app_at _ _) [(0, 9, 12, 13)] [] rfl (fun q hq => by simp only [List.mem_cons, List.not_mem_nil, or_false] at hq; rcases hq with rfl <;> first | exact ⟨by decide, by decide, by decide, "java/lang/IllegalArgumentException", w_242, by decide⟩) ⟨by decide, by decide, by decide⟩ w_243 (by decide +kernel) ?_
        refine am_astore_n d_L_improve_15 rfl (by decide) ?_
        refine am_iconst (v := nI 2) d_L_improve_16 (by decide) ?_
        refine am_iret d_L_improve_17 rfl ?_
        exact ⟨Nat.le_of_ble_eq_true rfl, 7, rfl, rfl⟩
      · cases h1
set_option maxRecDepth 20000 in
theorem c_L_at (d : Nat) (p0 p1 : Int32) (hc : am_W G m_X_at d 1 6 (fQ [8, 7] cd (hl A S jo M f V) K) 0 (lv_args 0 [.ref 1, .int p0, .int p1]) [] (hl A S jo M f V)) (hK : ∀ w h', K w h' → (∃ r, w = some (.int r)) ∧ h'[52]? = some (.inl (1, 1, .inr (.inl f)))) : am_W G m_L_at (d + 1) 1 6 (lQ cd f (hl A S jo M f V) K) 0 (lv_args 0 [.ref 1, .int p0, .int p1, .ref 53]) [] (hl A S jo M f V) := by
  refine am_aload_n d_L_at_0 rfl rfl ?_
  refine am_iconst (v := nI 0) d_L_at_1 (by decide) ?_
  refine am_aload_n d_L_at_2 rfl rfl ?_
  refine am_iload_n d_L_at_3 rfl rfl ?_
  refine am_iload_n d_L_at_4 rfl rfl ?_
  refine am_callQ 3 (am_recvV (z := m_X_at) rfl d_L_at_5 w_542 w_543 w_544 w_545 F_X.1 rfl (by decide) np_X_at) (by decide) (by decide) (Nat.le_of_ble_eq_true rfl) (Nat.le_of_ble_eq_true rfl) (Nat.le_refl _) (Nat.le_refl _) hc (fun v5 h5 q5 => ?_) (fun x5 h5 q5 => ?_)
  · rcases cd with _ | c
    rotate_left
    · obtain ⟨ci, h1, h2, h3⟩ := q5
      cases h2
    obtain ⟨w, e, hk⟩ := q5
    cases e
    obtain ⟨⟨r, rfl⟩, hat⟩ := hK _ _ hk
    refine am_i2l d_L_at_8 ?_
    refine am_last0 d_L_at_9 hat ?_
    refine am_goto (tgt := 21) d_L_at_10 (by decide) ?_
    refine am_iconst (v := nI 0) d_L_at_21 (by decide) ?_
    refine am_iret d_L_at_22 rfl ?_
    exact ⟨_, _, hk, rfl, rfl⟩
  · rcases cd with _ | c
    · obtain ⟨w, e, -⟩ := q5
      cases e
    · obtain ⟨ci, h1, h2, h3⟩ := q5
      cases h2
      subst h3
      rcases c with _ | _ | c
      · cases h1
        refine am_catch (ci := 8) (a := (hl A S jo M f V).length) rfl (am_app_at _ _) [] [(0, 10, 17, 15)] rfl (fun q hq => by cases hq) ⟨by decide, by decide, by decide⟩ w_342 (by decide +kernel) ?_
        refine am_astore d_L_at_13 (by decide) ?_
        refine am_iconst (v := nI 1) d_L_at_15 (by decide) ?_
        refine am_iret d_L_at_16 rfl ?_
        exact ⟨Nat.le_of_ble_eq_true rfl, 8, rfl, rfl⟩
      · cases h1
        refine am_catch (ci := 7) (a := (hl A S jo M f V).length) rfl (am_app_at _ _) [(0, 10, 13, 21)] [] rfl (fun q hq => by simp only [List.mem_cons, List.not_mem_nil, or_false] at hq; rcases hq with rfl <;> first | exact ⟨by decide, by decide, by decide, "java/lang/IndexOutOfBoundsException", w_342, by decide⟩) ⟨by decide, by decide, by decide⟩ w_243 (by decide +kernel) ?_
        refine am_astore d_L_at_17 (by decide) ?_
        refine am_iconst (v := nI 2) d_L_at_19 (by decide) ?_
        refine am_iret d_L_at_20 rfl ?_
        exact ⟨Nat.le_of_ble_eq_true rfl, 7, rfl, rfl⟩
      · cases h1
set_option maxRecDepth 20000 in
theorem c_L_order (d : Nat) (p0 : Int32) (hc : am_W G m_X_order d 1 6 (fQ [7, 8] cd (hl A S jo M f V) K) 0 (lv_args 0 [.ref 1, .int p0]) [] (hl A S jo M f V)) (hK : ∀ w h', K w h' → (∃ r, w = some (.int r)) ∧ h'[52]? = some (.inl (1, 1, .inr (.inl f)))) : am_W G m_L_order (d + 1) 1 6 (lQ cd f (hl A S jo M f V) K) 0 (lv_args 0 [.ref 1, .int p0, .ref 53]) [] (hl A S jo M f V) := by
  refine am_aload_n d_L_order_0 rfl rfl ?_
  refine am_iconst (v := nI 0) d_L_order_1 (by decide) ?_
  refine am_aload_n d_L_order_2 rfl rfl ?_
  refine am_iload_n d_L_order_3 rfl rfl ?_
  refine am_callQ 2 (am_recvV (z := m_X_order) rfl d_L_order_4 w_556 w_557 w_558 w_559 F_X.1 rfl (by decide) np_X_order) (by decide) (by decide) (Nat.le_of_ble_eq_true rfl) (Nat.le_of_ble_eq_true rfl) (Nat.le_refl _) (Nat.le_refl _) hc (fun v4 h4 q4 => ?_) (fun x4 h4 q4 => ?_)
  · rcases cd with _ | c
    rotate_left
    · obtain ⟨ci, h1, h2, h3⟩ := q4
      cases h2
    obtain ⟨w, e, hk⟩ := q4
    cases e
    obtain ⟨⟨r, rfl⟩, hat⟩ := hK _ _ hk
    refine am_i2l d_L_order_7 ?_
    refine am_last0 d_L_order_8 hat ?_
    refine am_goto (tgt := 18) d_L_order_9 (by decide) ?_
    refine am_iconst (v := nI 0) d_L_order_18 (by decide) ?_
    refine am_iret d_L_order_19 rfl ?_
    exact ⟨_, _, hk, rfl, rfl⟩
  · rcases cd with _ | c
    · obtain ⟨w, e, -⟩ := q4
      cases e
    · obtain ⟨ci, h1, h2, h3⟩ := q4
      cases h2
      subst h3
      rcases c with _ | _ | c
      · cases h1
        refine am_catch (ci := 7) (a := (hl A S jo M f V).length) rfl (am_app_at _ _) [] [(0, 9, 15, 21)] rfl (fun q hq => by cases hq) ⟨by decide, by decide, by decide⟩ w_243 (by decide +kernel) ?_
        refine am_astore_n d_L_order_12 rfl (by decide) ?_
        refine am_iconst (v := nI 1) d_L_order_13 (by decide) ?_
        refine am_iret d_L_order_14 rfl ?_
        exact ⟨Nat.le_of_ble_eq_true rfl, 7, rfl, rfl⟩
      · cases h1
        refine am_catch (ci := 8) (a := (hl A S jo M f V).length) rfl (am_app_at _ _) [(0, 9, 12, 15)] [] rfl (fun q hq => by simp only [List.mem_cons, List.not_mem_nil, or_false] at hq; rcases hq with rfl <;> first | exact ⟨by decide, by decide, by decide, "java/lang/IllegalStateException", w_243, by decide⟩) ⟨by decide, by decide, by decide⟩ w_342 (by decide +kernel) ?_
        refine am_astore_n d_L_order_15 rfl (by decide) ?_
        refine am_iconst (v := nI 2) d_L_order_16 (by decide) ?_
        refine am_iret d_L_order_17 rfl ?_
        exact ⟨Nat.le_of_ble_eq_true rfl, 8, rfl, rfl⟩
      · cases h1
set_option maxRecDepth 20000 in
theorem c_L_about (d : Nat) (p0 : Int32) (hc : am_W G m_X_about d 1 6 (fQ [8, 7] cd (hl A S jo M f V) K) 0 (lv_args 0 [.ref 1, .int p0]) [] (hl A S jo M f V)) (hK : ∀ w h', K w h' → (∃ r, w = some (.long r)) ∧ h'[52]? = some (.inl (1, 1, .inr (.inl f)))) : am_W G m_L_about (d + 1) 1 6 (lQ cd f (hl A S jo M f V) K) 0 (lv_args 0 [.ref 1, .int p0, .ref 53]) [] (hl A S jo M f V) := by
  refine am_aload_n d_L_about_0 rfl rfl ?_
  refine am_iconst (v := nI 0) d_L_about_1 (by decide) ?_
  refine am_aload_n d_L_about_2 rfl rfl ?_
  refine am_iload_n d_L_about_3 rfl rfl ?_
  refine am_callQ 2 (am_recvV (z := m_X_about) rfl d_L_about_4 w_564 w_565 w_566 w_567 F_X.1 rfl (by decide) np_X_about) (by decide) (by decide) (Nat.le_of_ble_eq_true rfl) (Nat.le_of_ble_eq_true rfl) (Nat.le_refl _) (Nat.le_refl _) hc (fun v4 h4 q4 => ?_) (fun x4 h4 q4 => ?_)
  · rcases cd with _ | c
    rotate_left
    · obtain ⟨ci, h1, h2, h3⟩ := q4
      cases h2
    obtain ⟨w, e, hk⟩ := q4
    cases e
    obtain ⟨⟨r, rfl⟩, hat⟩ := hK _ _ hk
    refine am_last0 d_L_about_7 hat ?_
    refine am_goto (tgt := 17) d_L_about_8 (by decide) ?_
    refine am_iconst (v := nI 0) d_L_about_17 (by decide) ?_
    refine am_iret d_L_about_18 rfl ?_
    exact ⟨_, _, hk, rfl, rfl⟩
  · rcases cd with _ | c
    · obtain ⟨w, e, -⟩ := q4
      cases e
    · obtain ⟨ci, h1, h2, h3⟩ := q4
      cases h2
      subst h3
      rcases c with _ | _ | c
      · cases h1
        refine am_catch (ci := 8) (a := (hl A S jo M f V).length) rfl (am_app_at _ _) [] [(0, 8, 14, 15)] rfl (fun q hq => by cases hq) ⟨by decide, by decide, by decide⟩ w_342 (by decide +kernel) ?_
        refine am_astore_n d_L_about_11 rfl (by decide) ?_
        refine am_iconst (v := nI 1) d_L_about_12 (by decide) ?_
        refine am_iret d_L_about_13 rfl ?_
        exact ⟨Nat.le_of_ble_eq_true rfl, 8, rfl, rfl⟩
      · cases h1
        refine am_catch (ci := 7) (a := (hl A S jo M f V).length) rfl (am_app_at _ _) [(0, 8, 11, 21)] [] rfl (fun q hq => by simp only [List.mem_cons, List.not_mem_nil, or_false] at hq; rcases hq with rfl <;> first | exact ⟨by decide, by decide, by decide, "java/lang/IndexOutOfBoundsException", w_342, by decide⟩) ⟨by decide, by decide, by decide⟩ w_243 (by decide +kernel) ?_
        refine am_astore_n d_L_about_14 rfl (by decide) ?_
        refine am_iconst (v := nI 2) d_L_about_15 (by decide) ?_
        refine am_iret d_L_about_16 rfl ?_
        exact ⟨Nat.le_of_ble_eq_true rfl, 7, rfl, rfl⟩
      · cases h1
set_option maxRecDepth 20000 in
theorem c_L_alone (d : Nat) (p0 : Int32) (hc : am_W G m_X_alone d 1 6 (fQ [8, 7] cd (hl A S jo M f V) K) 0 (lv_args 0 [.ref 1, .int p0]) [] (hl A S jo M f V)) (hK : ∀ w h', K w h' → (∃ r, w = some (.long r)) ∧ h'[52]? = some (.inl (1, 1, .inr (.inl f)))) : am_W G m_L_alone (d + 1) 1 6 (lQ cd f (hl A S jo M f V) K) 0 (lv_args 0 [.ref 1, .int p0, .ref 53]) [] (hl A S jo M f V) := by
  refine am_aload_n d_L_alone_0 rfl rfl ?_
  refine am_iconst (v := nI 0) d_L_alone_1 (by decide) ?_
  refine am_aload_n d_L_alone_2 rfl rfl ?_
  refine am_iload_n d_L_alone_3 rfl rfl ?_
  refine am_callQ 2 (am_recvV (z := m_X_alone) rfl d_L_alone_4 w_572 w_573 w_574 w_575 F_X.1 rfl (by decide) np_X_alone) (by decide) (by decide) (Nat.le_of_ble_eq_true rfl) (Nat.le_of_ble_eq_true rfl) (Nat.le_refl _) (Nat.le_refl _) hc (fun v4 h4 q4 => ?_) (fun x4 h4 q4 => ?_)
  · rcases cd with _ | c
    rotate_left
    · obtain ⟨ci, h1, h2, h3⟩ := q4
      cases h2
    obtain ⟨w, e, hk⟩ := q4
    cases e
    obtain ⟨⟨r, rfl⟩, hat⟩ := hK _ _ hk
    refine am_last0 d_L_alone_7 hat ?_
    refine am_goto (tgt := 17) d_L_alone_8 (by decide) ?_
    refine am_iconst (v := nI 0) d_L_alone_17 (by decide) ?_
    refine am_iret d_L_alone_18 rfl ?_
    exact ⟨_, _, hk, rfl, rfl⟩
  · rcases cd with _ | c
    · obtain ⟨w, e, -⟩ := q4
      cases e
    · obtain ⟨ci, h1, h2, h3⟩ := q4
      cases h2
      subst h3
      rcases c with _ | _ | c
      · cases h1
        refine am_catch (ci := 8) (a := (hl A S jo M f V).length) rfl (am_app_at _ _) [] [(0, 8, 14, 15)] rfl (fun q hq => by cases hq) ⟨by decide, by decide, by decide⟩ w_342 (by decide +kernel) ?_
        refine am_astore_n d_L_alone_11 rfl (by decide) ?_
        refine am_iconst (v := nI 1) d_L_alone_12 (by decide) ?_
        refine am_iret d_L_alone_13 rfl ?_
        exact ⟨Nat.le_of_ble_eq_true rfl, 8, rfl, rfl⟩
      · cases h1
        refine am_catch (ci := 7) (a := (hl A S jo M f V).length) rfl (am_app_at _ _) [(0, 8, 11, 21)] [] rfl (fun q hq => by simp only [List.mem_cons, List.not_mem_nil, or_false] at hq; rcases hq with rfl <;> first | exact ⟨by decide, by decide, by decide, "java/lang/IndexOutOfBoundsException", w_342, by decide⟩) ⟨by decide, by decide, by decide⟩ w_243 (by decide +kernel) ?_
        refine am_astore_n d_L_alone_14 rfl (by decide) ?_
        refine am_iconst (v := nI 2) d_L_alone_15 (by decide) ?_
        refine am_iret d_L_alone_16 rfl ?_
        exact ⟨Nat.le_of_ble_eq_true rfl, 7, rfl, rfl⟩
      · cases h1
set_option maxRecDepth 20000 in
theorem c_L_promise (d : Nat) (p0 : Int32) (hc : am_W G m_X_promise d 1 6 (fQ [8, 7] cd (hl A S jo M f V) K) 0 (lv_args 0 [.ref 1, .int p0]) [] (hl A S jo M f V)) (hK : ∀ w h', K w h' → (∃ r, w = some (.int r)) ∧ h'[52]? = some (.inl (1, 1, .inr (.inl f)))) : am_W G m_L_promise (d + 1) 1 6 (lQ cd f (hl A S jo M f V) K) 0 (lv_args 0 [.ref 1, .int p0, .ref 53]) [] (hl A S jo M f V) := by
  refine am_aload_n d_L_promise_0 rfl rfl ?_
  refine am_iconst (v := nI 0) d_L_promise_1 (by decide) ?_
  refine am_aload_n d_L_promise_2 rfl rfl ?_
  refine am_iload_n d_L_promise_3 rfl rfl ?_
  refine am_callQ 2 (am_recvV (z := m_X_promise) rfl d_L_promise_4 w_582 w_583 w_584 w_585 F_X.1 rfl (by decide) np_X_promise) (by decide) (by decide) (Nat.le_of_ble_eq_true rfl) (Nat.le_of_ble_eq_true rfl) (Nat.le_refl _) (Nat.le_refl _) hc (fun v4 h4 q4 => ?_) (fun x4 h4 q4 => ?_)
  · rcases cd with _ | c
    rotate_left
    · obtain ⟨ci, h1, h2, h3⟩ := q4
      cases h2
    obtain ⟨w, e, hk⟩ := q4
    cases e
    obtain ⟨⟨r, rfl⟩, hat⟩ := hK _ _ hk
    refine am_i2l d_L_promise_7 ?_
    refine am_last0 d_L_promise_8 hat ?_
    refine am_goto (tgt := 18) d_L_promise_9 (by decide) ?_
    refine am_iconst (v := nI 0) d_L_promise_18 (by decide) ?_
    refine am_iret d_L_promise_19 rfl ?_
    exact ⟨_, _, hk, rfl, rfl⟩
  · rcases cd with _ | c
    · obtain ⟨w, e, -⟩ := q4
      cases e
    · obtain ⟨ci, h1, h2, h3⟩ := q4
      cases h2
      subst h3
      rcases c with _ | _ | c
      · cases h1
        refine am_catch (ci := 8) (a := (hl A S jo M f V).length) rfl (am_app_at _ _) [] [(0, 9, 15, 15)] rfl (fun q hq => by cases hq) ⟨by decide, by decide, by decide⟩ w_342 (by decide +kernel) ?_
        refine am_astore_n d_L_promise_12 rfl (by decide) ?_
        refine am_iconst (v := nI 1) d_L_promise_13 (by decide) ?_
        refine am_iret d_L_promise_14 rfl ?_
        exact ⟨Nat.le_of_ble_eq_true rfl, 8, rfl, rfl⟩
      · cases h1
        refine am_catch (ci := 7) (a := (hl A S jo M f V).length) rfl (am_app_at _ _) [(0, 9, 12, 21)] [] rfl (fun q hq => by simp only [List.mem_cons, List.not_mem_nil, or_false] at hq; rcases hq with rfl <;> first | exact ⟨by decide, by decide, by decide, "java/lang/IndexOutOfBoundsException", w_342, by decide⟩) ⟨by decide, by decide, by decide⟩ w_243 (by decide +kernel) ?_
        refine am_astore_n d_L_promise_15 rfl (by decide) ?_
        refine am_iconst (v := nI 2) d_L_promise_16 (by decide) ?_
        refine am_iret d_L_promise_17 rfl ?_
        exact ⟨Nat.le_of_ble_eq_true rfl, 7, rfl, rfl⟩
      · cases h1
set_option maxRecDepth 20000 in
theorem c_L_clash (d : Nat) (p0 : Int32) (hc : am_W G m_X_clash d 1 6 (fQ [6, 7] cd (hl A S jo M f V) K) 0 (lv_args 0 [.ref 1, .int p0]) [] (hl A S jo M f V)) (hK : ∀ w h', K w h' → (∃ r, w = some (.int r)) ∧ h'[52]? = some (.inl (1, 1, .inr (.inl f)))) : am_W G m_L_clash (d + 1) 1 6 (lQ cd f (hl A S jo M f V) K) 0 (lv_args 0 [.ref 1, .int p0, .ref 53]) [] (hl A S jo M f V) := by
  refine am_aload_n d_L_clash_0 rfl rfl ?_
  refine am_iconst (v := nI 0) d_L_clash_1 (by decide) ?_
  refine am_aload_n d_L_clash_2 rfl rfl ?_
  refine am_iload_n d_L_clash_3 rfl rfl ?_
  refine am_callQ 2 (am_recvV (z := m_X_clash) rfl d_L_clash_4 w_596 w_597 w_598 w_599 F_X.1 rfl (by decide) np_X_clash) (by decide) (by decide) (Nat.le_of_ble_eq_true rfl) (Nat.le_of_ble_eq_true rfl) (Nat.le_refl _) (Nat.le_refl _) hc (fun v4 h4 q4 => ?_) (fun x4 h4 q4 => ?_)
  · rcases cd with _ | c
    rotate_left
    · obtain ⟨ci, h1, h2, h3⟩ := q4
      cases h2
    obtain ⟨w, e, hk⟩ := q4
    cases e
    obtain ⟨⟨r, rfl⟩, hat⟩ := hK _ _ hk
    refine am_i2l d_L_clash_7 ?_
    refine am_last0 d_L_clash_8 hat ?_
    refine am_goto (tgt := 18) d_L_clash_9 (by decide) ?_
    refine am_iconst (v := nI 0) d_L_clash_18 (by decide) ?_
    refine am_iret d_L_clash_19 rfl ?_
    exact ⟨_, _, hk, rfl, rfl⟩
  · rcases cd with _ | c
    · obtain ⟨w, e, -⟩ := q4
      cases e
    · obtain ⟨ci, h1, h2, h3⟩ := q4
      cases h2
      subst h3
      rcases c with _ | _ | c
      · cases h1
        refine am_catch (ci := 6) (a := (hl A S jo M f V).length) rfl (am_app_at _ _) [] [(0, 9, 15, 15)] rfl (fun q hq => by cases hq) ⟨by decide, by decide, by decide⟩ w_242 (by decide +kernel) ?_
        refine am_astore_n d_L_clash_12 rfl (by decide) ?_
        refine am_iconst (v := nI 1) d_L_clash_13 (by decide) ?_
        refine am_iret d_L_clash_14 rfl ?_
        exact ⟨Nat.le_of_ble_eq_true rfl, 6, rfl, rfl⟩
      · cases h1
        refine am_catch (ci := 7) (a := (hl A S jo M f V).length) rfl (am_app_at _ _) [(0, 9, 12, 13)] [] rfl (fun q hq => by simp only [List.mem_cons, List.not_mem_nil, or_false] at hq; rcases hq with rfl <;> first | exact ⟨by decide, by decide, by decide, "java/lang/IllegalArgumentException", w_242, by decide⟩) ⟨by decide, by decide, by decide⟩ w_243 (by decide +kernel) ?_
        refine am_astore_n d_L_clash_15 rfl (by decide) ?_
        refine am_iconst (v := nI 2) d_L_clash_16 (by decide) ?_
        refine am_iret d_L_clash_17 rfl ?_
        exact ⟨Nat.le_of_ble_eq_true rfl, 7, rfl, rfl⟩
      · cases h1
set_option maxRecDepth 20000 in
theorem c_L_check (d : Nat) (hc : am_W G m_X_check d 1 6 (fQ [7] cd (hl A S jo M f V) K) 0 (lv_args 0 [.ref 1]) [] (hl A S jo M f V)) (hK : ∀ w h', K w h' → (∃ r, w = some (.int r)) ∧ h'[52]? = some (.inl (1, 1, .inr (.inl f)))) : am_W G m_L_check (d + 1) 1 6 (lQ cd f (hl A S jo M f V) K) 0 (lv_args 0 [.ref 1, .ref 53]) [] (hl A S jo M f V) := by
  refine am_aload_n d_L_check_0 rfl rfl ?_
  refine am_iconst (v := nI 0) d_L_check_1 (by decide) ?_
  refine am_aload_n d_L_check_2 rfl rfl ?_
  refine am_callQ 1 (am_recvV (z := m_X_check) rfl d_L_check_3 w_614 w_615 w_616 w_617 F_X.1 rfl (by decide) np_X_check) (by decide) (by decide) (Nat.le_of_ble_eq_true rfl) (Nat.le_of_ble_eq_true rfl) (Nat.le_refl _) (Nat.le_refl _) hc (fun v3 h3 q3 => ?_) (fun x3 h3 q3 => ?_)
  · rcases cd with _ | c
    rotate_left
    · obtain ⟨ci, h1, h2, h3⟩ := q3
      cases h2
    obtain ⟨w, e, hk⟩ := q3
    cases e
    obtain ⟨⟨r, rfl⟩, hat⟩ := hK _ _ hk
    refine am_i2l d_L_check_6 ?_
    refine am_last0 d_L_check_7 hat ?_
    refine am_goto (tgt := 14) d_L_check_8 (by decide) ?_
    refine am_iconst (v := nI 0) d_L_check_14 (by decide) ?_
    refine am_iret d_L_check_15 rfl ?_
    exact ⟨_, _, hk, rfl, rfl⟩
  · rcases cd with _ | c
    · obtain ⟨w, e, -⟩ := q3
      cases e
    · obtain ⟨ci, h1, h2, h3⟩ := q3
      cases h2
      subst h3
      rcases c with _ | c
      · cases h1
        refine am_catch (ci := 7) (a := (hl A S jo M f V).length) rfl (am_app_at _ _) [] [] rfl (fun q hq => by cases hq) ⟨by decide, by decide, by decide⟩ w_243 (by decide +kernel) ?_
        refine am_astore_n d_L_check_11 rfl (by decide) ?_
        refine am_iconst (v := nI 1) d_L_check_12 (by decide) ?_
        refine am_iret d_L_check_13 rfl ?_
        exact ⟨Nat.le_of_ble_eq_true rfl, 7, rfl, rfl⟩
      · cases h1
end LW
