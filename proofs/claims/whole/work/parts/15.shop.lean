/-! the shop's methods -/
section CSH
variable {G : am_G} {x : Int64} {t : Bool} {S : sh_T} {F : fl_T} {R : se_T} {P : pl_T} {W : am_H}
def sp_has (kd : Nat → Nat) : Nat → Nat → Bool
  | 0, _ => false
  | n + 1, k => sp_has kd n k || kd n == k
theorem sp_has_iff (kd : Nat → Nat) (k : Nat) : ∀ n, sp_has kd n k = true ↔ ∃ m, m < n ∧ kd m = k
  | 0 => by simp [sp_has]
  | n + 1 => by
    rw [sp_has, Bool.or_eq_true, sp_has_iff kd k n, beq_iff_eq]
    constructor
    · rintro (⟨m, h1, h2⟩ | h)
      · exact ⟨m, by omega, h2⟩
      · exact ⟨n, by omega, h⟩
    · rintro ⟨m, h1, h2⟩
      rcases Nat.lt_or_ge m n with q | q
      · exact Or.inl ⟨m, q, h2⟩
      · have : m = n := by omega
        subst this
        exact Or.inr h2
theorem sp_has_f {kd : Nat → Nat} {k n : Nat} (h : ∀ m, m < n → kd m ≠ k) : sp_has kd n k = false := by
  cases hb : sp_has kd n k with
  | false => rfl
  | true => obtain ⟨m, h1, h2⟩ := (sp_has_iff kd k n).mp hb; exact absurd h2 (h m h1)
theorem sp_has_t {kd : Nat → Nat} {k n m : Nat} (hm : m < n) (h : kd m = k) : sp_has kd n k = true := (sp_has_iff kd k n).mpr ⟨m, hm, h⟩
set_option maxRecDepth 20000 in
theorem c_S_hasMachine_l (hS : sh_ok S) (d bc bs k : Nat) (hk : k < 4) : ∀ (n i : Nat), i ≤ sh_mc S → sh_mc S - i < n → (∀ m, m < i → sh_kd S m ≠ k) →
    am_W G m_S_hasMachine d bc bs (fun o h' => o = .inl (some (.int (zI (sp_has (sh_kd S) (sh_mc S) k)))) ∧ h' = (hx x t S F R P W)) 2 [(0, .ref 2), (1, .int (nI k)), (2, .int (nI i))] [] (hx x t S F R P W) := by
  intro n
  obtain ⟨s1, s2, s3, s4, -⟩ := hS
  induction n with
  | zero => intro i _ h; omega
  | succ n ih =>
    intro i hi hn hno
    have hki := s4 i
    refine am_iload_n d_S_hasMachine_2 rfl rfl ?_
    refine am_aload_n d_S_hasMachine_3 rfl rfl ?_
    refine am_get F_S 0 (by decide) d_S_hasMachine_4 w_28 rfl rfl ?_
    refine am_icmpN_ge (tgt := 28) d_S_hasMachine_7 (by decide) (by omega) (by omega) (fun c7 => ?_) (fun c7 => ?_)
    · refine am_iconst (v := nI 0) d_S_hasMachine_28 (by decide) ?_
      refine am_zret d_S_hasMachine_29 rfl (by decide) ?_
      refine ⟨?_, rfl⟩
      rw [sp_has_f (fun m hm => hno m (by omega)), zI_f]
    · refine am_aload_n d_S_hasMachine_10 rfl rfl ?_
      refine am_get F_S 1 (by decide) d_S_hasMachine_11 w_31 rfl rfl ?_
      refine am_iload_n d_S_hasMachine_14 rfl rfl ?_
      refine am_ialdA d_S_hasMachine_15 rfl (by omega) (by decide) ?_
      refine am_iload_n d_S_hasMachine_16 rfl rfl ?_
      refine am_icmpN_ne (tgt := 22) d_S_hasMachine_17 (by decide) (by omega) (by omega) (fun c17 => ?_) (fun c17 => ?_)
      · refine am_iinc d_S_hasMachine_22 rfl (am_inc _) (by decide) ?_
        refine am_goto (tgt := 2) d_S_hasMachine_25 (by decide) ?_
        refine am_lo (L' := [(0, .ref 2), (1, .int (nI k)), (2, .int (nI (i + 1)))]) rfl ?_
        refine ih (i + 1) (by omega) (by omega) (fun m hm => ?_)
        rcases Nat.lt_or_ge m i with q | q
        · exact hno m q
        · have : m = i := by omega
          subst this
          exact c17
      · refine am_iconst (v := nI 1) d_S_hasMachine_20 (by decide) ?_
        refine am_zret d_S_hasMachine_21 rfl (by decide) ?_
        refine ⟨?_, rfl⟩
        rw [sp_has_t (m := i) (by omega) c17, zI_t]
theorem c_S_hasMachine (hS : sh_ok S) (d bc bs k : Nat) (hk : k < 4) : am_Fn G m_S_hasMachine d bc bs [.ref 2, .int (nI k)] (hx x t S F R P W) (some (.int (zI (sp_has (sh_kd S) (sh_mc S) k)))) (hx x t S F R P W) := by
  refine am_iconst (v := nI 0) d_S_hasMachine_0 (by decide) ?_
  refine am_istore_n d_S_hasMachine_1 rfl (by decide) ?_
  exact am_lo (L' := [(0, .ref 2), (1, .int (nI k)), (2, .int (nI 0))]) rfl (c_S_hasMachine_l hS d bc bs k hk (sh_mc S + 1) 0 (Nat.zero_le _) (by omega) (fun m hm => absurd hm (Nat.not_lt_zero m)))
def sp_fit (S : sh_T) (j : Nat) : Nat → Bool
  | 0 => true
  | n + 1 => sp_fit S j n && sp_has (sh_kd S) (sh_mc S) (sh_sk S (sh_sa S (j * 4 + n)))
theorem sp_fit_f {S : sh_T} {j i : Nat} (h : sp_has (sh_kd S) (sh_mc S) (sh_sk S (sh_sa S (j * 4 + i))) = false) : ∀ n, i < n → sp_fit S j n = false
  | 0, hi => absurd hi (Nat.not_lt_zero i)
  | n + 1, hi => by
    rw [sp_fit]
    rcases Nat.lt_or_ge i n with q | q
    · rw [sp_fit_f h n q]; rfl
    · have : i = n := by omega
      subst this
      rw [h, Bool.and_false]
def sp_fits (S : sh_T) (j : Nat) : Bool := sp_fit S j (sh_so S j)
def sp_all (S : sh_T) : Nat → Bool
  | 0 => true
  | n + 1 => sp_all S n && sp_fits S n
theorem sp_all_f {S : sh_T} {i : Nat} (h : sp_fits S i = false) : ∀ n, i < n → sp_all S n = false
  | 0, hi => absurd hi (Nat.not_lt_zero i)
  | n + 1, hi => by
    rw [sp_all]
    rcases Nat.lt_or_ge i n with q | q
    · rw [sp_all_f h n q]; rfl
    · have : i = n := by omega
      subst this
      rw [h, Bool.and_false]
set_option maxRecDepth 20000 in
theorem c_S_fits_l (hS : sh_ok S) (d bc bs j : Nat) (hj : j < 6) : ∀ (n i : Nat), i ≤ sh_so S j → sh_so S j - i < n → sp_fit S j i = true →
    am_W G m_S_fits (d + 1) bc bs (fun o h' => o = .inl (some (.int (zI (sp_fits S j)))) ∧ h' = (hx x t S F R P W)) 2 [(0, .ref 2), (1, .int (nI j)), (2, .int (nI i))] [] (hx x t S F R P W) := by
  intro n
  obtain ⟨s1, s2, s3, s4, s5, s6, s7, s8, s9, s10, s11, s12, s13, s14⟩ := id hS
  have t10 := s10 j
  induction n with
  | zero => intro i _ h; omega
  | succ n ih =>
    intro i hi hn hf
    have t11 := s11 (j * 4 + i)
    refine am_iload_n d_S_fits_2 rfl rfl ?_
    refine am_aload_n d_S_fits_3 rfl rfl ?_
    refine am_get F_S 8 (by decide) d_S_fits_4 w_51 rfl rfl ?_
    refine am_iload_n d_S_fits_7 rfl rfl ?_
    refine am_ialdA d_S_fits_8 rfl (by omega) (by decide) ?_
    refine am_icmpN_ge (tgt := 42) d_S_fits_9 (by decide) (by omega) (by omega) (fun c9 => ?_) (fun c9 => ?_)
    · refine am_iconst (v := nI 1) d_S_fits_42 (by decide) ?_
      refine am_zret d_S_fits_43 rfl (by decide) ?_
      refine ⟨?_, rfl⟩
      have : i = sh_so S j := by omega
      rw [show sp_fits S j = true from by rw [sp_fits, ← this]; exact hf, zI_t]
    · refine am_aload_n d_S_fits_12 rfl rfl ?_
      refine am_aload_n d_S_fits_13 rfl rfl ?_
      refine am_get F_S 11 (by decide) d_S_fits_14 w_61 rfl rfl ?_
      refine am_aload_n d_S_fits_17 rfl rfl ?_
      refine am_get F_S 9 (by decide) d_S_fits_18 w_55 rfl rfl ?_
      refine am_iload_n d_S_fits_21 rfl rfl ?_
      refine am_iconst (v := nI 4) d_S_fits_22 (by decide) ?_
      refine am_imulN d_S_fits_23 ?_
      refine am_iload_n d_S_fits_24 rfl rfl ?_
      refine am_iaddN d_S_fits_25 ?_
      refine am_ialdA d_S_fits_26 rfl (by omega) (by decide) ?_
      refine am_ialdA d_S_fits_27 rfl (by omega) (by decide) ?_
      refine am_callF 2 (am_recvV (z := m_S_hasMachine) rfl d_S_fits_28 w_428 w_430 ws_2 w_431 F_S.1 rfl (by decide) np_S_hasMachine) (by decide) (by decide) (Nat.le_of_ble_eq_true rfl) (Nat.le_of_ble_eq_true rfl) (Nat.zero_le _) (Nat.zero_le _) (c_S_hasMachine hS d _ _ _ (s12 _)) ?_
      refine am_ifZ_ne (tgt := 36) d_S_fits_31 (by decide) (fun c31 => ?_) (fun c31 => ?_)
      · refine am_iinc d_S_fits_36 rfl (am_inc _) (by decide) ?_
        refine am_goto (tgt := 2) d_S_fits_39 (by decide) ?_
        exact am_lo (L' := [(0, .ref 2), (1, .int (nI j)), (2, .int (nI (i + 1)))]) rfl (ih (i + 1) (by omega) (by omega) (by rw [sp_fit, hf, c31]; rfl))
      · refine am_iconst (v := nI 0) d_S_fits_34 (by decide) ?_
        refine am_zret d_S_fits_35 rfl (by decide) ?_
        refine ⟨?_, rfl⟩
        rw [show sp_fits S j = false from sp_fit_f c31 _ (by omega), zI_f]
theorem c_S_fits (hS : sh_ok S) (d bc bs j : Nat) (hj : j < 6) : am_Fn G m_S_fits (d + 1) bc bs [.ref 2, .int (nI j)] (hx x t S F R P W) (some (.int (zI (sp_fits S j)))) (hx x t S F R P W) := by
  refine am_iconst (v := nI 0) d_S_fits_0 (by decide) ?_
  refine am_istore_n d_S_fits_1 rfl (by decide) ?_
  exact am_lo (L' := [(0, .ref 2), (1, .int (nI j)), (2, .int (nI 0))]) rfl (c_S_fits_l hS d bc bs j hj (sh_so S j + 1) 0 (Nat.zero_le _) (by omega) rfl)
set_option maxRecDepth 20000 in
theorem c_S_allFit_l (hS : sh_ok S) (d bc bs : Nat) : ∀ (n i : Nat), i ≤ sh_jb S → sh_jb S - i < n → sp_all S i = true →
    am_W G m_S_allFit (d + 2) bc bs (fun o h' => o = .inl (some (.int (zI (sp_all S (sh_jb S))))) ∧ h' = (hx x t S F R P W)) 2 [(0, .ref 2), (1, .int (nI i))] [] (hx x t S F R P W) := by
  intro n
  obtain ⟨s1, s2, s3, s4, s5, s6, s7, s8, s9, s10, s11, s12, s13, s14⟩ := id hS
  induction n with
  | zero => intro i _ h; omega
  | succ n ih =>
    intro i hi hn hf
    refine am_iload_n d_S_allFit_2 rfl rfl ?_
    refine am_aload_n d_S_allFit_3 rfl rfl ?_
    refine am_get F_S 5 (by decide) d_S_allFit_4 w_43 rfl rfl ?_
    refine am_icmpN_ge (tgt := 26) d_S_allFit_7 (by decide) (by omega) (by omega) (fun c7 => ?_) (fun c7 => ?_)
    · refine am_iconst (v := nI 1) d_S_allFit_26 (by decide) ?_
      refine am_zret d_S_allFit_27 rfl (by decide) ?_
      refine ⟨?_, rfl⟩
      have : i = sh_jb S := by omega
      rw [show sp_all S (sh_jb S) = true from by rw [← this]; exact hf, zI_t]
    · refine am_aload_n d_S_allFit_10 rfl rfl ?_
      refine am_iload_n d_S_allFit_11 rfl rfl ?_
      refine am_callF 2 (am_recvV (z := m_S_fits) rfl d_S_allFit_12 w_424 w_425 w_426 w_427 F_S.1 rfl (by decide) np_S_fits) (by decide) (by decide) (Nat.le_of_ble_eq_true rfl) (Nat.le_of_ble_eq_true rfl) (Nat.zero_le _) (Nat.zero_le _) (c_S_fits hS d _ _ _ (by omega)) ?_
      refine am_ifZ_ne (tgt := 20) d_S_allFit_15 (by decide) (fun c15 => ?_) (fun c15 => ?_)
      · refine am_iinc d_S_allFit_20 rfl (am_inc _) (by decide) ?_
        refine am_goto (tgt := 2) d_S_allFit_23 (by decide) ?_
        exact am_lo (L' := [(0, .ref 2), (1, .int (nI (i + 1)))]) rfl (ih (i + 1) (by omega) (by omega) (by rw [sp_all, hf, c15]; rfl))
      · refine am_iconst (v := nI 0) d_S_allFit_18 (by decide) ?_
        refine am_zret d_S_allFit_19 rfl (by decide) ?_
        refine ⟨?_, rfl⟩
        rw [show sp_all S (sh_jb S) = false from sp_all_f c15 _ (by omega), zI_f]
theorem c_S_allFit (hS : sh_ok S) (d bc bs : Nat) : am_Fn G m_S_allFit (d + 2) bc bs [.ref 2] (hx x t S F R P W) (some (.int (zI (sp_all S (sh_jb S))))) (hx x t S F R P W) := by
  refine am_iconst (v := nI 0) d_S_allFit_0 (by decide) ?_
  refine am_istore_n d_S_allFit_1 rfl (by decide) ?_
  exact am_lo (L' := [(0, .ref 2), (1, .int (nI 0))]) rfl (c_S_allFit_l hS d bc bs (sh_jb S + 1) 0 (Nat.zero_le _) (by omega) rfl)
/-- the last step of a job, or NONE -/
def sp_last (S : sh_T) (j : Nat) : Int32 := if sh_so S j = 0 then -1 else nI (sh_sa S (j * 4 + sh_so S j - 1))
theorem c_S_lastStep (hS : sh_ok S) (d bc bs j : Nat) (hj : j < 6) : am_Fn G m_S_lastStep d bc bs [.ref 2, .int (nI j)] (hx x t S F R P W) (some (.int (sp_last S j))) (hx x t S F R P W) := by
  obtain ⟨s1, s2, s3, s4, s5, s6, s7, s8, s9, s10, s11, s12, s13, s14⟩ := id hS
  have t10 := s10 j
  refine am_aload_n d_S_lastStep_0 rfl rfl ?_
  refine am_get F_S 8 (by decide) d_S_lastStep_1 w_51 rfl rfl ?_
  refine am_iload_n d_S_lastStep_4 rfl rfl ?_
  refine am_ialdA d_S_lastStep_5 rfl (by omega) (by decide) ?_
  refine am_ifN_le (tgt := 29) d_S_lastStep_6 (by decide) (by omega) (fun c6 => ?_) (fun c6 => ?_)
  · refine am_iconst (v := -1) d_S_lastStep_29 (by decide) ?_
    refine am_iret d_S_lastStep_30 rfl ?_
    refine ⟨?_, rfl⟩
    first | rw [sp_last, if_pos c6] | rw [sp_last, if_neg (by omega)]
  · refine am_aload_n d_S_lastStep_9 rfl rfl ?_
    refine am_get F_S 9 (by decide) d_S_lastStep_10 w_55 rfl rfl ?_
    refine am_iload_n d_S_lastStep_13 rfl rfl ?_
    refine am_iconst (v := nI 4) d_S_lastStep_14 (by decide) ?_
    refine am_imulN d_S_lastStep_15 ?_
    refine am_aload_n d_S_lastStep_16 rfl rfl ?_
    refine am_get F_S 8 (by decide) d_S_lastStep_17 w_51 rfl rfl ?_
    refine am_iload_n d_S_lastStep_20 rfl rfl ?_
    refine am_ialdA d_S_lastStep_21 rfl (by omega) (by decide) ?_
    refine am_iaddN d_S_lastStep_22 ?_
    refine am_iconst (v := nI 1) d_S_lastStep_23 (by decide) ?_
    refine am_isubN d_S_lastStep_24 (by omega) ?_
    refine am_ialdA d_S_lastStep_25 rfl (by omega) (by decide) ?_
    refine am_goto (tgt := 30) d_S_lastStep_26 (by decide) ?_
    refine am_iret d_S_lastStep_30 rfl ?_
    refine ⟨?_, rfl⟩
    first | rw [sp_last, if_pos c6] | rw [sp_last, if_neg (by omega)]
theorem c_S_addMachine (hS : sh_ok S) (d bc bs k : Nat) (hm : sh_mc S < 6) : am_Fn G m_S_addMachine d bc bs [.ref 2, .int (nI k)] (hx x t S F R P W) (some (.int (nI (sh_mc S)))) (hx x t (sh_mc S + 1, nu (sh_kd S) (sh_mc S) k, S.2.2) F R P W) := by
  refine am_aload_n d_S_addMachine_0 rfl rfl ?_
  refine am_get F_S 0 (by decide) d_S_addMachine_1 w_28 rfl rfl ?_
  refine am_istore_n d_S_addMachine_4 rfl (by decide) ?_
  refine am_aload_n d_S_addMachine_5 rfl rfl ?_
  refine am_get F_S 1 (by decide) d_S_addMachine_6 w_31 rfl rfl ?_
  refine am_iload_n d_S_addMachine_9 rfl rfl ?_
  refine am_iload_n d_S_addMachine_10 rfl rfl ?_
  refine am_iastA d_S_addMachine_11 rfl (by omega) (by decide) ?_
  refine am_aload_n d_S_addMachine_12 rfl rfl ?_
  refine am_dup d_S_addMachine_13 rfl ?_
  refine am_get F_S 0 (by decide) d_S_addMachine_14 w_28 rfl rfl ?_
  refine am_iconst (v := nI 1) d_S_addMachine_17 (by decide) ?_
  refine am_iaddN d_S_addMachine_18 ?_
  refine am_put F_S 0 (by decide) d_S_addMachine_19 w_28 rfl rfl (Nat.le_of_ble_eq_true rfl) rfl rfl ?_
  refine am_iload_n d_S_addMachine_22 rfl rfl ?_
  refine am_iret d_S_addMachine_23 rfl ?_
  exact ⟨rfl, rfl⟩
theorem c_S_addSpan (hS : sh_ok S) (d bc bs m a b : Nat) (hm : m < 6) (hs : sh_sp S m < 8) : am_Fn G m_S_addSpan d bc bs [.ref 2, .int (nI m), .int (nI a), .int (nI b)] (hx x t S F R P W) (some (.int (nI (sh_sp S m + 1))))
    (hx x t (sh_mc S, sh_kd S, nu (sh_sp S) m (sh_sp S m + 1), nu (sh_sf S) (m * 8 + sh_sp S m) a, nu (sh_st S) (m * 8 + sh_sp S m) b, S.2.2.2.2.2) F R P W) := by
  refine am_iload_n d_S_addSpan_0 rfl rfl ?_
  refine am_bipush (v := nI 8) d_S_addSpan_1 (by decide) ?_
  refine am_imulN d_S_addSpan_3 ?_
  refine am_aload_n d_S_addSpan_4 rfl rfl ?_
  refine am_get F_S 2 (by decide) d_S_addSpan_5 w_33 rfl rfl ?_
  refine am_iload_n d_S_addSpan_8 rfl rfl ?_
  refine am_ialdA d_S_addSpan_9 rfl (by omega) (by decide) ?_
  refine am_iaddN d_S_addSpan_10 ?_
  refine am_istore d_S_addSpan_11 (by decide) ?_
  refine am_aload_n d_S_addSpan_13 rfl rfl ?_
  refine am_get F_S 3 (by decide) d_S_addSpan_14 w_37 rfl rfl ?_
  refine am_iload d_S_addSpan_17 rfl ?_
  refine am_iload_n d_S_addSpan_19 rfl rfl ?_
  refine am_iastA d_S_addSpan_20 rfl (by omega) (by decide) ?_
  refine am_aload_n d_S_addSpan_21 rfl rfl ?_
  refine am_get F_S 4 (by decide) d_S_addSpan_22 w_40 rfl rfl ?_
  refine am_iload d_S_addSpan_25 rfl ?_
  refine am_iload_n d_S_addSpan_27 rfl rfl ?_
  refine am_iastA d_S_addSpan_28 rfl (by omega) (by decide) ?_
  refine am_aload_n d_S_addSpan_29 rfl rfl ?_
  refine am_get F_S 2 (by decide) d_S_addSpan_30 w_33 rfl rfl ?_
  refine am_iload_n d_S_addSpan_33 rfl rfl ?_
  refine am_dup2 d_S_addSpan_34 rfl rfl ?_
  refine am_ialdA d_S_addSpan_35 rfl (by omega) (by decide) ?_
  refine am_iconst (v := nI 1) d_S_addSpan_36 (by decide) ?_
  refine am_iaddN d_S_addSpan_37 ?_
  refine am_iastA d_S_addSpan_38 rfl (by omega) (by decide) ?_
  refine am_aload_n d_S_addSpan_39 rfl rfl ?_
  refine am_get F_S 2 (by decide) d_S_addSpan_40 w_33 rfl rfl ?_
  refine am_iload_n d_S_addSpan_43 rfl rfl ?_
  refine am_ialdA d_S_addSpan_44 rfl (by omega) (by decide) ?_
  refine am_iret d_S_addSpan_45 rfl ?_
  refine ⟨?_, rfl⟩
  rw [nu_eq]
theorem c_S_addJob (hS : sh_ok S) (d bc bs a b : Nat) (hm : sh_jb S < 6) : am_Fn G m_S_addJob d bc bs [.ref 2, .int (nI a), .int (nI b)] (hx x t S F R P W) (some (.int (nI (sh_jb S))))
    (hx x t (sh_mc S, sh_kd S, sh_sp S, sh_sf S, sh_st S, sh_jb S + 1, nu (sh_du S) (sh_jb S) a, nu (sh_we S) (sh_jb S) b, S.2.2.2.2.2.2.2.2) F R P W) := by
  refine am_aload_n d_S_addJob_0 rfl rfl ?_
  refine am_get F_S 5 (by decide) d_S_addJob_1 w_43 rfl rfl ?_
  refine am_istore_n d_S_addJob_4 rfl (by decide) ?_
  refine am_aload_n d_S_addJob_5 rfl rfl ?_
  refine am_get F_S 6 (by decide) d_S_addJob_6 w_47 rfl rfl ?_
  refine am_iload_n d_S_addJob_9 rfl rfl ?_
  refine am_iload_n d_S_addJob_10 rfl rfl ?_
  refine am_iastA d_S_addJob_11 rfl (by omega) (by decide) ?_
  refine am_aload_n d_S_addJob_12 rfl rfl ?_
  refine am_get F_S 7 (by decide) d_S_addJob_13 w_50 rfl rfl ?_
  refine am_iload_n d_S_addJob_16 rfl rfl ?_
  refine am_iload_n d_S_addJob_17 rfl rfl ?_
  refine am_iastA d_S_addJob_18 rfl (by omega) (by decide) ?_
  refine am_aload_n d_S_addJob_19 rfl rfl ?_
  refine am_dup d_S_addJob_20 rfl ?_
  refine am_get F_S 5 (by decide) d_S_addJob_21 w_43 rfl rfl ?_
  refine am_iconst (v := nI 1) d_S_addJob_24 (by decide) ?_
  refine am_iaddN d_S_addJob_25 ?_
  refine am_put F_S 5 (by decide) d_S_addJob_26 w_43 rfl rfl (Nat.le_of_ble_eq_true rfl) rfl rfl ?_
  refine am_iload_n d_S_addJob_29 rfl rfl ?_
  refine am_iret d_S_addJob_30 rfl ?_
  exact ⟨rfl, rfl⟩
/-- what was told, with a step more -/
def sp_addStep (S : sh_T) (j k h w : Nat) : sh_T := (sh_mc S, sh_kd S, sh_sp S, sh_sf S, sh_st S, sh_jb S, sh_du S, sh_we S, nu (sh_so S) j (sh_so S j + 1), nu (sh_sa S) (j * 4 + sh_so S j) (sh_ss S), sh_ss S + 1, nu (sh_sk S) (sh_ss S) k, nu (sh_sh S) (sh_ss S) h, nu (sh_sw S) (sh_ss S) w, upd (sh_sb S) (sh_ss S) (sp_last S j))
theorem c_S_addStep (hS : sh_ok S) (d bc bs j k h w : Nat) (hj : j < 6) (hs : sh_ss S < 24) (hso : sh_so S j < 4) (hk : k < 4) (hh : h ≤ 100) (hw : w ≤ 100) : am_Fn G m_S_addStep (d + 1) bc bs [.ref 2, .int (nI j), .int (nI k), .int (nI h), .int (nI w)] (hx x t S F R P W) (some (.int (nI (sh_ss S))))
    (hx x t (sp_addStep S j k h w) F R P W) := by
  obtain ⟨s1, s2, s3, s4, s5, s6, s7, s8, s9, s10, s11, s12, s13, s14⟩ := id hS
  have hS1 : sh_ok (sh_mc S, sh_kd S, sh_sp S, sh_sf S, sh_st S, sh_jb S, sh_du S, sh_we S, sh_so S, sh_sa S, sh_ss S, nu (sh_sk S) (sh_ss S) k, nu (sh_sh S) (sh_ss S) h, nu (sh_sw S) (sh_ss S) w, sh_sb S) := by
    refine ⟨s1, s2, s3, s4, s5, s6, s7, s8, s9, s10, s11, fun i => ?_, fun i => ?_, fun i => ?_⟩
    · show nu (sh_sk S) (sh_ss S) k i < 4
      unfold nu; split
      · exact hk
      · exact s12 i
    · show nu (sh_sh S) (sh_ss S) h i ≤ 100
      unfold nu; split
      · exact hh
      · exact s13 i
    · show nu (sh_sw S) (sh_ss S) w i ≤ 100
      unfold nu; split
      · exact hw
      · exact s14 i
  refine am_aload_n d_S_addStep_0 rfl rfl ?_
  refine am_get F_S 10 (by decide) d_S_addStep_1 w_58 rfl rfl ?_
  refine am_istore d_S_addStep_4 (by decide) ?_
  refine am_aload_n d_S_addStep_6 rfl rfl ?_
  refine am_get F_S 11 (by decide) d_S_addStep_7 w_61 rfl rfl ?_
  refine am_iload d_S_addStep_10 rfl ?_
  refine am_iload_n d_S_addStep_12 rfl rfl ?_
  refine am_iastA d_S_addStep_13 rfl (by omega) (by decide) ?_
  refine am_aload_n d_S_addStep_14 rfl rfl ?_
  refine am_get F_S 12 (by decide) d_S_addStep_15 w_63 rfl rfl ?_
  refine am_iload d_S_addStep_18 rfl ?_
  refine am_iload_n d_S_addStep_20 rfl rfl ?_
  refine am_iastA d_S_addStep_21 rfl (by omega) (by decide) ?_
  refine am_aload_n d_S_addStep_22 rfl rfl ?_
  refine am_get F_S 13 (by decide) d_S_addStep_23 w_66 rfl rfl ?_
  refine am_iload d_S_addStep_26 rfl ?_
  refine am_iload d_S_addStep_28 rfl ?_
  refine am_iastA d_S_addStep_30 rfl (by omega) (by decide) ?_
  refine am_aload_n d_S_addStep_31 rfl rfl ?_
  refine am_get F_S 14 (by decide) d_S_addStep_32 w_69 rfl rfl ?_
  refine am_iload d_S_addStep_35 rfl ?_
  refine am_aload_n d_S_addStep_37 rfl rfl ?_
  refine am_iload_n d_S_addStep_38 rfl rfl ?_
  refine am_callF 2 (am_recvV (z := m_S_lastStep) rfl d_S_addStep_39 w_408 w_409 w_410 w_411 F_S.1 rfl (by decide) np_S_lastStep) (by decide) (by decide) (Nat.le_of_ble_eq_true rfl) (Nat.le_of_ble_eq_true rfl) (Nat.zero_le _) (Nat.zero_le _) (c_S_lastStep (S := (sh_mc S, sh_kd S, sh_sp S, sh_sf S, sh_st S, sh_jb S, sh_du S, sh_we S, sh_so S, sh_sa S, sh_ss S, nu (sh_sk S) (sh_ss S) k, nu (sh_sh S) (sh_ss S) h, nu (sh_sw S) (sh_ss S) w, sh_sb S)) hS1 _ _ _ j hj) ?_
  refine am_iastN _ d_S_addStep_42 rfl rfl (by omega) (by decide) ?_
  refine am_aload_n d_S_addStep_43 rfl rfl ?_
  refine am_get F_S 9 (by decide) d_S_addStep_44 w_55 rfl rfl ?_
  refine am_iload_n d_S_addStep_47 rfl rfl ?_
  refine am_iconst (v := nI 4) d_S_addStep_48 (by decide) ?_
  refine am_imulN d_S_addStep_49 ?_
  refine am_aload_n d_S_addStep_50 rfl rfl ?_
  refine am_get F_S 8 (by decide) d_S_addStep_51 w_51 rfl rfl ?_
  refine am_iload_n d_S_addStep_54 rfl rfl ?_
  refine am_ialdA d_S_addStep_55 rfl (by omega) (by decide) ?_
  refine am_iaddN d_S_addStep_56 ?_
  refine am_iload d_S_addStep_57 rfl ?_
  refine am_iastA d_S_addStep_59 rfl (by show j * 4 + sh_so S j < 24; omega) (by decide) ?_
  refine am_aload_n d_S_addStep_60 rfl rfl ?_
  refine am_get F_S 8 (by decide) d_S_addStep_61 w_51 rfl rfl ?_
  refine am_iload_n d_S_addStep_64 rfl rfl ?_
  refine am_dup2 d_S_addStep_65 rfl rfl ?_
  refine am_ialdA d_S_addStep_66 rfl (by omega) (by decide) ?_
  refine am_iconst (v := nI 1) d_S_addStep_67 (by decide) ?_
  refine am_iaddN d_S_addStep_68 ?_
  refine am_iastA d_S_addStep_69 rfl (by omega) (by decide) ?_
  refine am_aload_n d_S_addStep_70 rfl rfl ?_
  refine am_dup d_S_addStep_71 rfl ?_
  refine am_get F_S 10 (by decide) d_S_addStep_72 w_58 rfl rfl ?_
  refine am_iconst (v := nI 1) d_S_addStep_75 (by decide) ?_
  refine am_iaddN d_S_addStep_76 ?_
  refine am_put F_S 10 (by decide) d_S_addStep_77 w_58 rfl rfl (Nat.le_of_ble_eq_true rfl) rfl rfl ?_
  refine am_iload d_S_addStep_80 rfl ?_
  refine am_iret d_S_addStep_82 rfl ?_
  exact ⟨rfl, rfl⟩
theorem c_S_costOf (hS : sh_ok S) (d bc bs j e : Nat) (hj : j < 6) (he : e < 2 ^ 31) : am_Fn G m_S_costOf d bc bs [.ref 2, .int (nI j), .int (nI e)] (hx x t S F R P W) (some (.long (lN ((e - sh_du S j) * sh_we S j)))) (hx x t S F R P W) := by
  obtain ⟨s1, s2, s3, s4, s5, s6, s7, s8, s9, s10, s11, s12, s13, s14⟩ := id hS
  have t8 := s8 j
  have t9 := s9 j
  refine am_iload_n d_S_costOf_0 rfl rfl ?_
  refine am_i2lN d_S_costOf_1 (by omega) ?_
  refine am_aload_n d_S_costOf_2 rfl rfl ?_
  refine am_get F_S 6 (by decide) d_S_costOf_3 w_47 rfl rfl ?_
  refine am_iload_n d_S_costOf_6 rfl rfl ?_
  refine am_ialdA d_S_costOf_7 rfl (by omega) (by decide) ?_
  refine am_i2lN d_S_costOf_8 (by omega) ?_
  refine am_lsub d_S_costOf_9 ?_
  refine am_lstore_n d_S_costOf_10 rfl (by decide) ?_
  refine am_lload_n d_S_costOf_11 rfl rfl ?_
  refine am_lconst (v := 0) d_S_costOf_12 rfl ?_
  refine am_lcmp d_S_costOf_13 ?_
  refine am_if_le (tgt := 29) d_S_costOf_14 (by decide) (fun c14 => ?_) (fun c14 => ?_)
  · refine am_lconst (v := 0) d_S_costOf_29 rfl ?_
    refine am_lret d_S_costOf_30 rfl ?_
    refine ⟨?_, rfl⟩
    first | (have q := (l_late (by omega) (by omega)).mp ((lg_cmp_le _ _).mp c14); rw [Nat.sub_eq_zero_of_le q, Nat.zero_mul]; rfl) | (have q : sh_du S j < e := Nat.not_le.mp fun q => c14 ((lg_cmp_le _ _).mpr ((l_late (by omega) (by omega)).mpr q)); rw [lN_sub (Nat.le_of_lt q), lN_mul])
  · refine am_lload_n d_S_costOf_17 rfl rfl ?_
    refine am_aload_n d_S_costOf_18 rfl rfl ?_
    refine am_get F_S 7 (by decide) d_S_costOf_19 w_50 rfl rfl ?_
    refine am_iload_n d_S_costOf_22 rfl rfl ?_
    refine am_ialdA d_S_costOf_23 rfl (by omega) (by decide) ?_
    refine am_i2lN d_S_costOf_24 (by omega) ?_
    refine am_lmul d_S_costOf_25 ?_
    refine am_goto (tgt := 30) d_S_costOf_26 (by decide) ?_
    refine am_lret d_S_costOf_30 rfl ?_
    refine ⟨?_, rfl⟩
    first | (have q := (l_late (by omega) (by omega)).mp ((lg_cmp_le _ _).mp c14); rw [Nat.sub_eq_zero_of_le q, Nat.zero_mul]; rfl) | (have q : sh_du S j < e := Nat.not_le.mp fun q => c14 ((lg_cmp_le _ _).mpr ((l_late (by omega) (by omega)).mpr q)); rw [lN_sub (Nat.le_of_lt q), lN_mul])
end CSH
