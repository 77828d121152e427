/-! the face: contracts -/
theorem oA_6 : am_oA "WorkPlans" 57 "java/lang/IllegalArgumentException" := by unfold am_oA; decide +kernel
theorem oA_7 : am_oA "WorkPlans" 68 "java/lang/IllegalStateException" := by unfold am_oA; decide +kernel
theorem oA_8 : am_oA "WorkPlans" 77 "java/lang/IndexOutOfBoundsException" := by unfold am_oA; decide +kernel
theorem hx_app (x : Int64) (t : Bool) (S : sh_T) (F : fl_T) (R : se_T) (P : pl_T) (W : am_H) (e : am_E) : hx x t S F R P W ++ [e] = hx x t S F R P (W ++ [e]) := rfl
/-- how a call of the face ends: cd is the document's case, 0 if it answers; cs are the exceptions' kinds -/
def fQ (cs : List Nat) (cd : Nat) (h : am_H) (K : Option Value → am_H → Prop) : am_O → am_H → Prop := fun o h' =>
  match cd with
  | 0 => ∃ v, o = .inl v ∧ K v h'
  | c + 1 => ∃ ci, cs[c]? = some ci ∧ o = .inr (ci, h.length + 1) ∧ h' = h ++ [.inr (ci, [])]
theorem nI_rg {v : Int32} {a b : Nat} (ha : nI a ≤ v) (hb : v ≤ nI b) (hb2 : b < 2 ^ 31) (hab : a < 2 ^ 31) : ∃ n, v = nI n ∧ a ≤ n ∧ n ≤ b := by
  have h1 := Int32.le_iff_toInt_le.mp ha
  have h2 := Int32.le_iff_toInt_le.mp hb
  rw [nI_toInt hab] at h1
  rw [nI_toInt hb2] at h2
  refine ⟨v.toInt.toNat, ?_, by omega, by omega⟩
  apply Int32.toInt_inj.mp
  rw [nI_toInt (by omega)]
  omega
theorem i_nlt {a b : Int32} (h : ¬ a < b) : b ≤ a := by
  rw [Int32.lt_iff_toInt_lt] at h
  exact Int32.le_iff_toInt_le.mpr (by omega)
theorem i_nle {a b : Int32} (h : ¬ a ≤ b) : b < a := by
  rw [Int32.le_iff_toInt_le] at h
  exact Int32.lt_iff_toInt_lt.mpr (by omega)
theorem sp_in_t {v : Int32} {a b : Nat} (h : sp_in v (nI a) (nI b) = true) (ha : a < 2 ^ 31) (hb : b < 2 ^ 31) : ∃ n, v = nI n ∧ a ≤ n ∧ n ≤ b := by
  unfold sp_in at h
  rw [Bool.and_eq_true, decide_eq_true_iff, decide_eq_true_iff] at h
  exact nI_rg (i_nlt h.1) (i_nlt h.2) hb ha
theorem sp_ix_t {v : Int32} {a : Nat} (h : sp_in v (nI 0) (nI a - nI 1) = true) (ha : a < 2 ^ 31) : ∃ n, v = nI n ∧ n < a := by
  rcases Nat.eq_zero_or_pos a with e | e
  · subst e
    unfold sp_in at h
    rw [Bool.and_eq_true, decide_eq_true_iff, decide_eq_true_iff] at h
    have h1 := Int32.le_iff_toInt_le.mp (i_nlt h.1)
    have h2 := Int32.le_iff_toInt_le.mp (i_nlt h.2)
    have e1 : (nI 0 - nI 1).toInt = -1 := by decide
    have e2 : (nI 0).toInt = 0 := by decide
    omega
  · rw [pk_sub e] at h
    obtain ⟨n, h1, -, h3⟩ := sp_in_t h (by decide) (by omega)
    exact ⟨n, h1, by omega⟩
/-- the sum of the numbers of steps -/
def sh_su (S : sh_T) : Prop := sh_ss S = sh_so S 0 + sh_so S 1 + sh_so S 2 + sh_so S 3 + sh_so S 4 + sh_so S 5
theorem sh_su_lt {S : sh_T} (hS : sh_ok S) (hu : sh_su S) {j : Nat} (hj : j < 6) (h : sh_so S j < 4) : sh_ss S < 24 := by
  have s10 := hS.2.2.2.2.2.2.2.2.2.1
  have a0 := s10 0
  have a1 := s10 1
  have a2 := s10 2
  have a3 := s10 3
  have a4 := s10 4
  have a5 := s10 5
  unfold sh_su at hu
  have hc : j = 0 ∨ j = 1 ∨ j = 2 ∨ j = 3 ∨ j = 4 ∨ j = 5 := by omega
  rcases hc with rfl | rfl | rfl | rfl | rfl | rfl <;> omega
/-! the cases of a call, in the document's order -/
def cd_machine (S : sh_T) (k : Int32) : Nat := if sp_in k (nI 0) (nI 3) = true then if 6 ≤ sh_mc S then 2 else 0 else 1
def cd_out (S : sh_T) (m a b : Int32) : Nat := if sp_in m (nI 0) (nI (sh_mc S) - nI 1) = true then if sp_in a (nI 0) (nI 1000) = true ∧ ¬ b ≤ a ∧ b ≤ nI 2000 then if 8 ≤ sh_sp S m.toNatClampNeg then 3 else 0 else 2 else 1
def cd_job (S : sh_T) (a b : Int32) : Nat := if sp_in a (nI 0) (nI 10000) = true ∧ sp_in b (nI 0) (nI 100) = true then if 6 ≤ sh_jb S then 2 else 0 else 1
def cd_due (S : sh_T) (j a : Int32) : Nat := if sp_in j (nI 0) (nI (sh_jb S) - nI 1) = true then if sp_in a (nI 0) (nI 10000) = true then 0 else 2 else 1
def cd_step (S : sh_T) (j k h w : Int32) : Nat := if sp_in j (nI 0) (nI (sh_jb S) - nI 1) = true then if sp_in k (nI 0) (nI 3) = true ∧ sp_in h (nI 1) (nI 100) = true ∧ sp_in w (nI 0) (nI 100) = true then if 4 ≤ sh_so S j.toNatClampNeg then 3 else 0 else 2 else 1
def cd_run (S : sh_T) (n : Int32) : Nat := if sp_in n (nI 1) (nI 2000) = true then if sh_jb S = 0 ∨ sp_all S (sh_jb S) = false then 2 else 0 else 1
def cd_improve (P : pl_T) (t : Bool) (n : Int32) : Nat := if sp_in n (nI 0) (nI 100) = true then if 0 < pl_jb P ∧ t = false then 0 else 2 else 1
def cd_at (S : sh_T) (P : pl_T) (s w : Int32) : Nat := if sp_in s (nI 0) (nI (sh_ss S) - nI 1) = true ∧ sp_in w (nI 0) (nI 1) = true then if 0 < pl_jb P then 0 else 2 else 1
def cd_order (P : pl_T) (k : Int32) : Nat := if 0 < pl_jb P then if sp_in k (nI 0) (nI (pl_jb P) - nI 1) = true then 0 else 2 else 1
def cd_about (P : pl_T) (w : Int32) : Nat := if sp_in w (nI 0) (nI 3) = true then if 0 < pl_jb P then 0 else 2 else 1
def cd_alone (S : sh_T) (j : Int32) : Nat := if sp_in j (nI 0) (nI (sh_jb S) - nI 1) = true then if sp_fits S j.toNatClampNeg = true then 0 else 2 else 1
def cd_promise (S : sh_T) (P : pl_T) (t : Bool) (j : Int32) : Nat := if sp_in j (nI 0) (nI (sh_jb S) - nI 1) = true then if 0 < pl_jb P ∧ t = false then 0 else 2 else 1
def cd_clash (S : sh_T) (k : Int32) : Nat := if k < 0 then 1 else if sp_all S (sh_jb S) = true then 0 else 2
def cd_check (P : pl_T) : Nat := if 0 < pl_jb P then 0 else 1
section CXA
variable {G : am_G} {x : Int64} {t : Bool} {S : sh_T} {F : fl_T} {R : se_T} {P : pl_T} {W : am_H} {jo : Nat → Nat}
theorem c_X_demandJob_1 (d bc bs : Nat) (hd : 6 ≤ d) (hb1 : 1 ≤ bc) (hb2 : 6 ≤ bs) (j : Int32) (hj : sp_in j (nI 0) (nI (sh_jb S) - nI 1) = false) : am_Tn G m_X_demandJob (d + 1) bc bs [.ref 1, .int j] (hx x t S F R P W) 8 := by
  refine am_iload_n d_X_demandJob_0 rfl rfl ?_
  refine am_iconst (v := nI 0) d_X_demandJob_1 (by decide) ?_
  refine am_aload_n d_X_demandJob_2 rfl rfl ?_
  refine am_get F_X 0 (by decide) d_X_demandJob_3 w_217 rfl rfl ?_
  refine am_get F_S 5 (by decide) d_X_demandJob_6 w_46 rfl rfl ?_
  refine am_iconst (v := nI 1) d_X_demandJob_9 (by decide) ?_
  refine am_isub d_X_demandJob_10 ?_
  refine am_callF 3 (am_lkS (z := m_X_isWithin) d_X_demandJob_11 w_248 w_249 w_1 w_250 (by decide) np_X_isWithin) (by decide) (by decide) (Nat.le_of_ble_eq_true rfl) (Nat.le_of_ble_eq_true rfl) (Nat.zero_le _) (Nat.zero_le _) (c_X_isWithin _ _ _ _ _ _) ?_
  refine am_ifZ_ne (tgt := 27) d_X_demandJob_14 (by decide) (fun c14 => ?_) (fun c14 => ?_)
  · exact absurd (hj.symm.trans c14) (by decide)
  · refine am_throwS (ci := 8) (tx := "no such job") d_X_demandJob_17 d_X_demandJob_20 d_X_demandJob_21 d_X_demandJob_23 d_X_demandJob_26 rfl rfl w_347 w_348 w_12 (by decide) oA_8 (by decide +kernel) (by omega) (by omega) (by omega) (Nat.le_of_ble_eq_true rfl) rfl ?_
    exact ⟨rfl, rfl⟩
theorem c_X_demandJob_0 (d bc bs : Nat) (j : Int32) (hj : sp_in j (nI 0) (nI (sh_jb S) - nI 1) = true) : am_Fn G m_X_demandJob (d + 1) bc bs [.ref 1, .int j] (hx x t S F R P W) none (hx x t S F R P W) := by
  refine am_iload_n d_X_demandJob_0 rfl rfl ?_
  refine am_iconst (v := nI 0) d_X_demandJob_1 (by decide) ?_
  refine am_aload_n d_X_demandJob_2 rfl rfl ?_
  refine am_get F_X 0 (by decide) d_X_demandJob_3 w_217 rfl rfl ?_
  refine am_get F_S 5 (by decide) d_X_demandJob_6 w_46 rfl rfl ?_
  refine am_iconst (v := nI 1) d_X_demandJob_9 (by decide) ?_
  refine am_isub d_X_demandJob_10 ?_
  refine am_callF 3 (am_lkS (z := m_X_isWithin) d_X_demandJob_11 w_248 w_249 w_1 w_250 (by decide) np_X_isWithin) (by decide) (by decide) (Nat.le_of_ble_eq_true rfl) (Nat.le_of_ble_eq_true rfl) (Nat.zero_le _) (Nat.zero_le _) (c_X_isWithin _ _ _ _ _ _) ?_
  refine am_ifZ_ne (tgt := 27) d_X_demandJob_14 (by decide) (fun c14 => ?_) (fun c14 => ?_)
  · refine am_vret d_X_demandJob_27 rfl ?_
    exact ⟨rfl, rfl⟩
  · exact absurd (hj.symm.trans c14) (by decide)
theorem c_X_demandPlan_1 (hP : pl_ok P) (d bc bs : Nat) (hd : 6 ≤ d) (hb1 : 1 ≤ bc) (hb2 : 6 ≤ bs) (hj : pl_jb P = 0) : am_Tn G m_X_demandPlan (d + 1) bc bs [.ref 1] (hx x t S F R P W) 7 := by
  refine am_aload_n d_X_demandPlan_0 rfl rfl ?_
  refine am_get F_X 3 (by decide) d_X_demandPlan_1 w_220 rfl rfl ?_
  refine am_callF 1 (am_recvV (z := m_P_exists) rfl d_X_demandPlan_4 w_520 w_521 w_522 w_523 F_P.1 rfl (by decide) np_P_exists) (by decide) (by decide) (Nat.le_of_ble_eq_true rfl) (Nat.le_of_ble_eq_true rfl) (Nat.zero_le _) (Nat.zero_le _) (c_P_exists hP _ _ _) ?_
  refine am_ifZ_ne (tgt := 20) d_X_demandPlan_7 (by decide) (fun c7 => ?_) (fun c7 => ?_)
  · exact absurd (of_decide_eq_true c7) (by omega)
  · refine am_throwS (ci := 7) (tx := "no plan") d_X_demandPlan_10 d_X_demandPlan_13 d_X_demandPlan_14 d_X_demandPlan_16 d_X_demandPlan_19 rfl rfl w_319 w_320 w_11 (by decide) oA_7 (by decide +kernel) (by omega) (by omega) (by omega) (Nat.le_of_ble_eq_true rfl) rfl ?_
    exact ⟨rfl, rfl⟩
theorem c_X_demandPlan_0 (hP : pl_ok P) (d bc bs : Nat) (hj : 0 < pl_jb P) : am_Fn G m_X_demandPlan (d + 1) bc bs [.ref 1] (hx x t S F R P W) none (hx x t S F R P W) := by
  refine am_aload_n d_X_demandPlan_0 rfl rfl ?_
  refine am_get F_X 3 (by decide) d_X_demandPlan_1 w_220 rfl rfl ?_
  refine am_callF 1 (am_recvV (z := m_P_exists) rfl d_X_demandPlan_4 w_520 w_521 w_522 w_523 F_P.1 rfl (by decide) np_P_exists) (by decide) (by decide) (Nat.le_of_ble_eq_true rfl) (Nat.le_of_ble_eq_true rfl) (Nat.zero_le _) (Nat.zero_le _) (c_P_exists hP _ _ _) ?_
  refine am_ifZ_ne (tgt := 20) d_X_demandPlan_7 (by decide) (fun c7 => ?_) (fun c7 => ?_)
  · refine am_vret d_X_demandPlan_20 rfl ?_
    exact ⟨rfl, rfl⟩
  · exact absurd (of_decide_eq_false c7) (by omega)
theorem c_X_demandFreshPlan_1 (hP : pl_ok P) (d bc bs : Nat) (hd : 6 ≤ d) (hb1 : 1 ≤ bc) (hb2 : 6 ≤ bs) (hj : ¬ (0 < pl_jb P ∧ t = false)) : am_Tn G m_X_demandFreshPlan (d + 1) bc bs [.ref 1] (hx x t S F R P W) 7 := by
  refine am_aload_n d_X_demandFreshPlan_0 rfl rfl ?_
  refine am_get F_X 3 (by decide) d_X_demandFreshPlan_1 w_220 rfl rfl ?_
  refine am_callF 1 (am_recvV (z := m_P_exists) rfl d_X_demandFreshPlan_4 w_520 w_521 w_522 w_523 F_P.1 rfl (by decide) np_P_exists) (by decide) (by decide) (Nat.le_of_ble_eq_true rfl) (Nat.le_of_ble_eq_true rfl) (Nat.zero_le _) (Nat.zero_le _) (c_P_exists hP _ _ _) ?_
  refine am_ifZ_eq (tgt := 17) d_X_demandFreshPlan_7 (by decide) (fun c7 => ?_) (fun c7 => ?_)
  · refine am_throwS (ci := 7) (tx := "no plan, or something was told since") d_X_demandFreshPlan_17 d_X_demandFreshPlan_20 d_X_demandFreshPlan_21 d_X_demandFreshPlan_23 d_X_demandFreshPlan_26 rfl rfl w_319 w_320 w_11 (by decide) oA_7 (by decide +kernel) (by omega) (by omega) (by omega) (Nat.le_of_ble_eq_true rfl) rfl ?_
    exact ⟨rfl, rfl⟩
  · refine am_aload_n d_X_demandFreshPlan_10 rfl rfl ?_
    refine am_get F_X 5 (by decide) d_X_demandFreshPlan_11 w_222 rfl rfl ?_
    refine am_ifZ_eq (tgt := 27) d_X_demandFreshPlan_14 (by decide) (fun c14 => ?_) (fun c14 => ?_)
    · exact absurd ⟨of_decide_eq_true c7, c14⟩ hj
    · refine am_throwS (ci := 7) (tx := "no plan, or something was told since") d_X_demandFreshPlan_17 d_X_demandFreshPlan_20 d_X_demandFreshPlan_21 d_X_demandFreshPlan_23 d_X_demandFreshPlan_26 rfl rfl w_319 w_320 w_11 (by decide) oA_7 (by decide +kernel) (by omega) (by omega) (by omega) (Nat.le_of_ble_eq_true rfl) rfl ?_
      exact ⟨rfl, rfl⟩
theorem c_X_demandFreshPlan_0 (hP : pl_ok P) (d bc bs : Nat) (hj : 0 < pl_jb P ∧ t = false) : am_Fn G m_X_demandFreshPlan (d + 1) bc bs [.ref 1] (hx x t S F R P W) none (hx x t S F R P W) := by
  refine am_aload_n d_X_demandFreshPlan_0 rfl rfl ?_
  refine am_get F_X 3 (by decide) d_X_demandFreshPlan_1 w_220 rfl rfl ?_
  refine am_callF 1 (am_recvV (z := m_P_exists) rfl d_X_demandFreshPlan_4 w_520 w_521 w_522 w_523 F_P.1 rfl (by decide) np_P_exists) (by decide) (by decide) (Nat.le_of_ble_eq_true rfl) (Nat.le_of_ble_eq_true rfl) (Nat.zero_le _) (Nat.zero_le _) (c_P_exists hP _ _ _) ?_
  refine am_ifZ_eq (tgt := 17) d_X_demandFreshPlan_7 (by decide) (fun c7 => ?_) (fun c7 => ?_)
  · exact absurd (of_decide_eq_false c7) (by omega)
  · refine am_aload_n d_X_demandFreshPlan_10 rfl rfl ?_
    refine am_get F_X 5 (by decide) d_X_demandFreshPlan_11 w_222 rfl rfl ?_
    refine am_ifZ_eq (tgt := 27) d_X_demandFreshPlan_14 (by decide) (fun c14 => ?_) (fun c14 => ?_)
    · refine am_vret d_X_demandFreshPlan_27 rfl ?_
      exact ⟨rfl, rfl⟩
    · exact absurd (hj.2.symm.trans c14) (by decide)
set_option maxRecDepth 20000 in
theorem c_X_machine (hS : sh_ok S) (d bc bs : Nat) (hd : 6 ≤ d) (hb1 : 1 ≤ bc) (hb2 : 6 ≤ bs) (k : Int32) : am_W G m_X_machine (d + 1) bc bs (fQ [6, 7] (cd_machine S k) (hx x t S F R P W) (fun v h' => ∃ n, k = nI n ∧ n ≤ 3 ∧ v = some (.int (nI (sh_mc S))) ∧ h' = (hx x true (sh_mc S + 1, nu (sh_kd S) (sh_mc S) n, S.2.2) F R P W))) 0 (lv_args 0 [.ref 1, .int k]) [] (hx x t S F R P W) := by
  obtain ⟨s1, s2, s3, s4, s5, s6, s7, s8, s9, s10, s11, s12, s13, s14⟩ := id hS
  refine am_iload_n d_X_machine_0 rfl rfl ?_
  refine am_iconst (v := nI 0) d_X_machine_1 (by decide) ?_
  refine am_iconst (v := nI 3) d_X_machine_2 (by decide) ?_
  refine am_callF 3 (am_lkS (z := m_X_isWithin) d_X_machine_3 w_248 w_249 w_1 w_250 (by decide) np_X_isWithin) (by decide) (by decide) (Nat.le_of_ble_eq_true rfl) (Nat.le_of_ble_eq_true rfl) (Nat.zero_le _) (Nat.zero_le _) (c_X_isWithin _ _ _ _ _ _) ?_
  refine am_ifZ_ne (tgt := 19) d_X_machine_6 (by decide) (fun c6 => ?_) (fun c6 => ?_)
  · refine am_aload_n d_X_machine_19 rfl rfl ?_
    refine am_get F_X 0 (by decide) d_X_machine_20 w_217 rfl rfl ?_
    refine am_get F_S 0 (by decide) d_X_machine_23 w_30 rfl rfl ?_
    refine am_bipush (v := nI 6) d_X_machine_26 (by decide) ?_
    refine am_icmpN_lt (tgt := 41) d_X_machine_28 (by decide) (by omega) (by omega) (fun c28 => ?_) (fun c28 => ?_)
    · obtain ⟨n, rfl, -, h3⟩ := sp_in_t c6 (by decide) (by decide)
      refine am_aload_n d_X_machine_41 rfl rfl ?_
      refine am_iconst (v := zI true) d_X_machine_42 (by decide) ?_
      refine am_put F_X 5 (by decide) d_X_machine_43 w_222 rfl rfl (Nat.le_of_ble_eq_true rfl) rfl rfl ?_
      refine am_aload_n d_X_machine_46 rfl rfl ?_
      refine am_get F_X 0 (by decide) d_X_machine_47 w_217 rfl rfl ?_
      refine am_iload_n d_X_machine_50 rfl rfl ?_
      refine am_callF 2 (am_recvV (z := m_S_addMachine) rfl d_X_machine_51 w_335 w_336 w_337 w_338 F_S.1 rfl (by decide) np_S_addMachine) (by decide) (by decide) (Nat.le_of_ble_eq_true rfl) (Nat.le_of_ble_eq_true rfl) (Nat.zero_le _) (Nat.zero_le _) (c_S_addMachine (t := true) hS _ _ _ n (by omega)) ?_
      refine am_iret d_X_machine_54 rfl ?_
      have ec : cd_machine S (nI n) = 0 := by unfold cd_machine; (try simp only [ek]); (repeat' split) <;> first | rfl | omega | simp_all
      rw [ec]
      exact ⟨_, rfl, n, rfl, h3, rfl, rfl⟩
    · refine am_throwS (ci := 7) (tx := "no room for a machine") d_X_machine_31 d_X_machine_34 d_X_machine_35 d_X_machine_37 d_X_machine_40 rfl rfl w_319 w_320 w_11 (by decide) oA_7 (by decide +kernel) (by omega) (by omega) (by omega) (Nat.le_of_ble_eq_true rfl) rfl ?_
      have ec : cd_machine S k = 2 := by unfold cd_machine; (try simp only [ek]); (repeat' split) <;> first | rfl | omega | simp_all
      rw [ec]
      exact ⟨_, rfl, rfl, rfl⟩
  · refine am_throwS (ci := 6) (tx := "no such kind") d_X_machine_9 d_X_machine_12 d_X_machine_13 d_X_machine_15 d_X_machine_18 rfl rfl w_251 w_252 w_10 (by decide) oA_6 (by decide +kernel) (by omega) (by omega) (by omega) (Nat.le_of_ble_eq_true rfl) rfl ?_
    have ec : cd_machine S k = 1 := by unfold cd_machine; (try simp only [ek]); (repeat' split) <;> first | rfl | omega | simp_all
    rw [ec]
    exact ⟨_, rfl, rfl, rfl⟩
theorem nI_rg2 {v : Int32} {a b : Nat} (ha : ¬ v ≤ nI a) (hb : v ≤ nI b) (ha2 : a < 2 ^ 30) (hb2 : b < 2 ^ 30) : ∃ n, v = nI n ∧ a < n ∧ n ≤ b := by
  have h1 := Int32.lt_iff_toInt_lt.mp (i_nle ha)
  rw [nI_toInt (by omega)] at h1
  have h2 : nI (a + 1) ≤ v := Int32.le_iff_toInt_le.mpr (by rw [nI_toInt (by omega)]; omega)
  obtain ⟨n, e1, e2, e3⟩ := nI_rg h2 hb (by omega) (by omega)
  exact ⟨n, e1, by omega, e3⟩
set_option maxRecDepth 20000 in
theorem c_X_out (hS : sh_ok S) (d bc bs : Nat) (hd : 6 ≤ d) (hb1 : 1 ≤ bc) (hb2 : 6 ≤ bs) (m u w : Int32) : am_W G m_X_out (d + 1) bc bs (fQ [8, 6, 7] (cd_out S m u w) (hx x t S F R P W) (fun v h' => ∃ i a b, m = nI i ∧ u = nI a ∧ w = nI b ∧ i < sh_mc S ∧ a ≤ 1000 ∧ b ≤ 2000 ∧ v = some (.int (nI (sh_sp S i + 1))) ∧ h' = (hx x true (sh_mc S, sh_kd S, nu (sh_sp S) i (sh_sp S i + 1), nu (sh_sf S) (i * 8 + sh_sp S i) a, nu (sh_st S) (i * 8 + sh_sp S i) b, S.2.2.2.2.2) F R P W))) 0 (lv_args 0 [.ref 1, .int m, .int u, .int w]) [] (hx x t S F R P W) := by
  obtain ⟨s1, s2, s3, s4, s5, s6, s7, s8, s9, s10, s11, s12, s13, s14⟩ := id hS
  refine am_iload_n d_X_out_0 rfl rfl ?_
  refine am_iconst (v := nI 0) d_X_out_1 (by decide) ?_
  refine am_aload_n d_X_out_2 rfl rfl ?_
  refine am_get F_X 0 (by decide) d_X_out_3 w_217 rfl rfl ?_
  refine am_get F_S 0 (by decide) d_X_out_6 w_30 rfl rfl ?_
  refine am_iconst (v := nI 1) d_X_out_9 (by decide) ?_
  refine am_isub d_X_out_10 ?_
  refine am_callF 3 (am_lkS (z := m_X_isWithin) d_X_out_11 w_248 w_249 w_1 w_250 (by decide) np_X_isWithin) (by decide) (by decide) (Nat.le_of_ble_eq_true rfl) (Nat.le_of_ble_eq_true rfl) (Nat.zero_le _) (Nat.zero_le _) (c_X_isWithin _ _ _ _ _ _) ?_
  refine am_ifZ_ne (tgt := 27) d_X_out_14 (by decide) (fun c14 => ?_) (fun c14 => ?_)
  · obtain ⟨i, rfl, hi⟩ := sp_ix_t c14 (by omega)
    have ek : (nI i).toNatClampNeg = i := nI_clamp (by omega)
    have t5 := s5 i
    refine am_iload_n d_X_out_27 rfl rfl ?_
    refine am_iconst (v := nI 0) d_X_out_28 (by decide) ?_
    refine am_sipush (v := nI 1000) d_X_out_29 (by decide) ?_
    refine am_callF 3 (am_lkS (z := m_X_isWithin) d_X_out_32 w_248 w_249 w_1 w_250 (by decide) np_X_isWithin) (by decide) (by decide) (Nat.le_of_ble_eq_true rfl) (Nat.le_of_ble_eq_true rfl) (Nat.zero_le _) (Nat.zero_le _) (c_X_isWithin _ _ _ _ _ _) ?_
    refine am_ifZ_eq (tgt := 50) d_X_out_35 (by decide) (fun c35 => ?_) (fun c35 => ?_)
    · refine am_throwS (ci := 6) (tx := "no such span") d_X_out_50 d_X_out_53 d_X_out_54 d_X_out_56 d_X_out_59 rfl rfl w_251 w_252 w_10 (by decide) oA_6 (by decide +kernel) (by omega) (by omega) (by omega) (Nat.le_of_ble_eq_true rfl) rfl ?_
      have ec : cd_out S (nI i) u w = 2 := by unfold cd_out; (try simp only [ek]); (repeat' split) <;> first | rfl | omega | simp_all
      rw [ec]
      exact ⟨_, rfl, rfl, rfl⟩
    · refine am_iload_n d_X_out_38 rfl rfl ?_
      refine am_iload_n d_X_out_39 rfl rfl ?_
      refine am_icmp_le (tgt := 50) d_X_out_40 (by decide) (fun c40 => ?_) (fun c40 => ?_)
      · refine am_throwS (ci := 6) (tx := "no such span") d_X_out_50 d_X_out_53 d_X_out_54 d_X_out_56 d_X_out_59 rfl rfl w_251 w_252 w_10 (by decide) oA_6 (by decide +kernel) (by omega) (by omega) (by omega) (Nat.le_of_ble_eq_true rfl) rfl ?_
        have ec : cd_out S (nI i) u w = 2 := by unfold cd_out; (try simp only [ek]); (repeat' split) <;> first | rfl | omega | simp_all
        rw [ec]
        exact ⟨_, rfl, rfl, rfl⟩
      · refine am_iload_n d_X_out_43 rfl rfl ?_
        refine am_sipush (v := nI 2000) d_X_out_44 (by decide) ?_
        refine am_icmp_le (tgt := 60) d_X_out_47 (by decide) (fun c47 => ?_) (fun c47 => ?_)
        · obtain ⟨a, rfl, -, ha⟩ := sp_in_t c35 (by decide) (by decide)
          obtain ⟨b, rfl, hb⟩ := nI_rg2 c40 c47 (by omega) (by decide)
          refine am_aload_n d_X_out_60 rfl rfl ?_
          refine am_get F_X 0 (by decide) d_X_out_61 w_217 rfl rfl ?_
          refine am_get F_S 2 (by decide) d_X_out_64 w_35 rfl rfl ?_
          refine am_iload_n d_X_out_67 rfl rfl ?_
          refine am_ialdA d_X_out_68 rfl (by omega) (by decide) ?_
          refine am_bipush (v := nI 8) d_X_out_69 (by decide) ?_
          refine am_icmpN_lt (tgt := 84) d_X_out_71 (by decide) (by omega) (by omega) (fun c71 => ?_) (fun c71 => ?_)
          · refine am_aload_n d_X_out_84 rfl rfl ?_
            refine am_iconst (v := zI true) d_X_out_85 (by decide) ?_
            refine am_put F_X 5 (by decide) d_X_out_86 w_222 rfl rfl (Nat.le_of_ble_eq_true rfl) rfl rfl ?_
            refine am_aload_n d_X_out_89 rfl rfl ?_
            refine am_get F_X 0 (by decide) d_X_out_90 w_217 rfl rfl ?_
            refine am_iload_n d_X_out_93 rfl rfl ?_
            refine am_iload_n d_X_out_94 rfl rfl ?_
            refine am_iload_n d_X_out_95 rfl rfl ?_
            refine am_callF 4 (am_recvV (z := m_S_addSpan) rfl d_X_out_96 w_365 w_366 w_367 w_368 F_S.1 rfl (by decide) np_S_addSpan) (by decide) (by decide) (Nat.le_of_ble_eq_true rfl) (Nat.le_of_ble_eq_true rfl) (Nat.zero_le _) (Nat.zero_le _) (c_S_addSpan (t := true) hS _ _ _ i a b (by omega) (by omega)) ?_
            refine am_iret d_X_out_99 rfl ?_
            have ec : cd_out S (nI i) (nI a) (nI b) = 0 := by unfold cd_out; (try simp only [ek]); (repeat' split) <;> first | rfl | omega | simp_all
            rw [ec]
            exact ⟨_, rfl, i, a, b, rfl, rfl, rfl, hi, by omega, by omega, rfl, rfl⟩
          · refine am_throwS (ci := 7) (tx := "no room for a span") d_X_out_74 d_X_out_77 d_X_out_78 d_X_out_80 d_X_out_83 rfl rfl w_319 w_320 w_11 (by decide) oA_7 (by decide +kernel) (by omega) (by omega) (by omega) (Nat.le_of_ble_eq_true rfl) rfl ?_
            have ec : cd_out S (nI i) (nI a) (nI b) = 3 := by unfold cd_out; (try simp only [ek]); (repeat' split) <;> first | rfl | omega | simp_all
            rw [ec]
            exact ⟨_, rfl, rfl, rfl⟩
        · refine am_throwS (ci := 6) (tx := "no such span") d_X_out_50 d_X_out_53 d_X_out_54 d_X_out_56 d_X_out_59 rfl rfl w_251 w_252 w_10 (by decide) oA_6 (by decide +kernel) (by omega) (by omega) (by omega) (Nat.le_of_ble_eq_true rfl) rfl ?_
          have ec : cd_out S (nI i) u w = 2 := by unfold cd_out; (try simp only [ek]); (repeat' split) <;> first | rfl | omega | simp_all
          rw [ec]
          exact ⟨_, rfl, rfl, rfl⟩
  · refine am_throwS (ci := 8) (tx := "no such machine") d_X_out_17 d_X_out_20 d_X_out_21 d_X_out_23 d_X_out_26 rfl rfl w_347 w_348 w_12 (by decide) oA_8 (by decide +kernel) (by omega) (by omega) (by omega) (Nat.le_of_ble_eq_true rfl) rfl ?_
    have ec : cd_out S m u w = 1 := by unfold cd_out; (try simp only [ek]); (repeat' split) <;> first | rfl | omega | simp_all
    rw [ec]
    exact ⟨_, rfl, rfl, rfl⟩
set_option maxRecDepth 20000 in
theorem c_X_job (hS : sh_ok S) (d bc bs : Nat) (hd : 6 ≤ d) (hb1 : 1 ≤ bc) (hb2 : 6 ≤ bs) (u w : Int32) : am_W G m_X_job (d + 1) bc bs (fQ [6, 7] (cd_job S u w) (hx x t S F R P W) (fun v h' => ∃ a b, u = nI a ∧ w = nI b ∧ a ≤ 10000 ∧ b ≤ 100 ∧ v = some (.int (nI (sh_jb S))) ∧ h' = (hx x true (sh_mc S, sh_kd S, sh_sp S, sh_sf S, sh_st S, sh_jb S + 1, nu (sh_du S) (sh_jb S) a, nu (sh_we S) (sh_jb S) b, S.2.2.2.2.2.2.2.2) F R P W))) 0 (lv_args 0 [.ref 1, .int u, .int w]) [] (hx x t S F R P W) := by
  obtain ⟨s1, s2, s3, s4, s5, s6, s7, s8, s9, s10, s11, s12, s13, s14⟩ := id hS
  refine am_iload_n d_X_job_0 rfl rfl ?_
  refine am_iconst (v := nI 0) d_X_job_1 (by decide) ?_
  refine am_sipush (v := nI 10000) d_X_job_2 (by decide) ?_
  refine am_callF 3 (am_lkS (z := m_X_isWithin) d_X_job_5 w_248 w_249 w_1 w_250 (by decide) np_X_isWithin) (by decide) (by decide) (Nat.le_of_ble_eq_true rfl) (Nat.le_of_ble_eq_true rfl) (Nat.zero_le _) (Nat.zero_le _) (c_X_isWithin _ _ _ _ _ _) ?_
  refine am_ifZ_eq (tgt := 21) d_X_job_8 (by decide) (fun c8 => ?_) (fun c8 => ?_)
  · refine am_throwS (ci := 6) (tx := "no such due hour or weight") d_X_job_21 d_X_job_24 d_X_job_25 d_X_job_27 d_X_job_30 rfl rfl w_251 w_252 w_10 (by decide) oA_6 (by decide +kernel) (by omega) (by omega) (by omega) (Nat.le_of_ble_eq_true rfl) rfl ?_
    have ec : cd_job S u w = 1 := by unfold cd_job; (try simp only [ek]); (repeat' split) <;> first | rfl | omega | simp_all
    rw [ec]
    exact ⟨_, rfl, rfl, rfl⟩
  · refine am_iload_n d_X_job_11 rfl rfl ?_
    refine am_iconst (v := nI 0) d_X_job_12 (by decide) ?_
    refine am_bipush (v := nI 100) d_X_job_13 (by decide) ?_
    refine am_callF 3 (am_lkS (z := m_X_isWithin) d_X_job_15 w_248 w_249 w_1 w_250 (by decide) np_X_isWithin) (by decide) (by decide) (Nat.le_of_ble_eq_true rfl) (Nat.le_of_ble_eq_true rfl) (Nat.zero_le _) (Nat.zero_le _) (c_X_isWithin _ _ _ _ _ _) ?_
    refine am_ifZ_ne (tgt := 31) d_X_job_18 (by decide) (fun c18 => ?_) (fun c18 => ?_)
    · refine am_aload_n d_X_job_31 rfl rfl ?_
      refine am_get F_X 0 (by decide) d_X_job_32 w_217 rfl rfl ?_
      refine am_get F_S 5 (by decide) d_X_job_35 w_46 rfl rfl ?_
      refine am_bipush (v := nI 6) d_X_job_38 (by decide) ?_
      refine am_icmpN_lt (tgt := 53) d_X_job_40 (by decide) (by omega) (by omega) (fun c40 => ?_) (fun c40 => ?_)
      · obtain ⟨a, rfl, -, ha⟩ := sp_in_t c8 (by decide) (by decide)
        obtain ⟨b, rfl, -, hb⟩ := sp_in_t c18 (by decide) (by decide)
        refine am_aload_n d_X_job_53 rfl rfl ?_
        refine am_iconst (v := zI true) d_X_job_54 (by decide) ?_
        refine am_put F_X 5 (by decide) d_X_job_55 w_222 rfl rfl (Nat.le_of_ble_eq_true rfl) rfl rfl ?_
        refine am_aload_n d_X_job_58 rfl rfl ?_
        refine am_get F_X 0 (by decide) d_X_job_59 w_217 rfl rfl ?_
        refine am_iload_n d_X_job_62 rfl rfl ?_
        refine am_iload_n d_X_job_63 rfl rfl ?_
        refine am_callF 3 (am_recvV (z := m_S_addJob) rfl d_X_job_64 w_378 w_379 w_380 w_381 F_S.1 rfl (by decide) np_S_addJob) (by decide) (by decide) (Nat.le_of_ble_eq_true rfl) (Nat.le_of_ble_eq_true rfl) (Nat.zero_le _) (Nat.zero_le _) (c_S_addJob (t := true) hS _ _ _ a b (by omega)) ?_
        refine am_iret d_X_job_67 rfl ?_
        have ec : cd_job S (nI a) (nI b) = 0 := by unfold cd_job; (try simp only [ek]); (repeat' split) <;> first | rfl | omega | simp_all
        rw [ec]
        exact ⟨_, rfl, a, b, rfl, rfl, ha, hb, rfl, rfl⟩
      · refine am_throwS (ci := 7) (tx := "no room for a job") d_X_job_43 d_X_job_46 d_X_job_47 d_X_job_49 d_X_job_52 rfl rfl w_319 w_320 w_11 (by decide) oA_7 (by decide +kernel) (by omega) (by omega) (by omega) (Nat.le_of_ble_eq_true rfl) rfl ?_
        have ec : cd_job S u w = 2 := by unfold cd_job; (try simp only [ek]); (repeat' split) <;> first | rfl | omega | simp_all
        rw [ec]
        exact ⟨_, rfl, rfl, rfl⟩
    · refine am_throwS (ci := 6) (tx := "no such due hour or weight") d_X_job_21 d_X_job_24 d_X_job_25 d_X_job_27 d_X_job_30 rfl rfl w_251 w_252 w_10 (by decide) oA_6 (by decide +kernel) (by omega) (by omega) (by omega) (Nat.le_of_ble_eq_true rfl) rfl ?_
      have ec : cd_job S u w = 1 := by unfold cd_job; (try simp only [ek]); (repeat' split) <;> first | rfl | omega | simp_all
      rw [ec]
      exact ⟨_, rfl, rfl, rfl⟩
set_option maxRecDepth 20000 in
theorem c_X_due (hS : sh_ok S) (d bc bs : Nat) (hd : 6 ≤ d) (hb1 : 1 ≤ bc) (hb2 : 6 ≤ bs) (j u : Int32) : am_W G m_X_due (d + 2) bc bs (fQ [8, 6] (cd_due S j u) (hx x t S F R P W) (fun v h' => ∃ i a, j = nI i ∧ u = nI a ∧ i < sh_jb S ∧ a ≤ 10000 ∧ v = none ∧ h' = (hx x true (sh_mc S, sh_kd S, sh_sp S, sh_sf S, sh_st S, sh_jb S, nu (sh_du S) i a, S.2.2.2.2.2.2.2) F R P W))) 0 (lv_args 0 [.ref 1, .int j, .int u]) [] (hx x t S F R P W) := by
  obtain ⟨s1, s2, s3, s4, s5, s6, s7, s8, s9, s10, s11, s12, s13, s14⟩ := id hS
  cases hj : sp_in j (nI 0) (nI (sh_jb S) - nI 1) with
  | false =>
    refine am_aload_n d_X_due_0 rfl rfl ?_
    refine am_iload_n d_X_due_1 rfl rfl ?_
    refine am_callT 2 (am_recvV (z := m_X_demandJob) rfl d_X_due_2 w_389 w_391 ws_1 w_392 F_X.1 rfl (by decide) np_X_demandJob) (by decide) (by decide) (Nat.le_of_ble_eq_true rfl) (Nat.le_of_ble_eq_true rfl) (Nat.le_refl _) (Nat.le_refl _) (c_X_demandJob_1 d bc bs hd hb1 hb2 _ hj) ?_
    refine am_thr_out rfl ?_
    have ec : cd_due S j u = 1 := by unfold cd_due; (try simp only [ek]); (repeat' split) <;> first | rfl | omega | simp_all
    rw [ec]
    exact ⟨_, rfl, rfl, rfl⟩
  | true =>
    refine am_aload_n d_X_due_0 rfl rfl ?_
    refine am_iload_n d_X_due_1 rfl rfl ?_
    refine am_callF 2 (am_recvV (z := m_X_demandJob) rfl d_X_due_2 w_389 w_391 ws_1 w_392 F_X.1 rfl (by decide) np_X_demandJob) (by decide) (by decide) (Nat.le_of_ble_eq_true rfl) (Nat.le_of_ble_eq_true rfl) (Nat.zero_le _) (Nat.zero_le _) (c_X_demandJob_0 d _ _ _ hj) ?_
    refine am_iload_n d_X_due_5 rfl rfl ?_
    refine am_iconst (v := nI 0) d_X_due_6 (by decide) ?_
    refine am_sipush (v := nI 10000) d_X_due_7 (by decide) ?_
    refine am_callF 3 (am_lkS (z := m_X_isWithin) d_X_due_10 w_248 w_249 w_1 w_250 (by decide) np_X_isWithin) (by decide) (by decide) (Nat.le_of_ble_eq_true rfl) (Nat.le_of_ble_eq_true rfl) (Nat.zero_le _) (Nat.zero_le _) (c_X_isWithin _ _ _ _ _ _) ?_
    refine am_ifZ_ne (tgt := 26) d_X_due_13 (by decide) (fun c13 => ?_) (fun c13 => ?_)
    · obtain ⟨i, rfl, hi⟩ := sp_ix_t hj (by omega)
      obtain ⟨a, rfl, -, ha⟩ := sp_in_t c13 (by decide) (by decide)
      refine am_aload_n d_X_due_26 rfl rfl ?_
      refine am_iconst (v := zI true) d_X_due_27 (by decide) ?_
      refine am_put F_X 5 (by decide) d_X_due_28 w_222 rfl rfl (Nat.le_of_ble_eq_true rfl) rfl rfl ?_
      refine am_aload_n d_X_due_31 rfl rfl ?_
      refine am_get F_X 0 (by decide) d_X_due_32 w_217 rfl rfl ?_
      refine am_get F_S 6 (by decide) d_X_due_35 w_49 rfl rfl ?_
      refine am_iload_n d_X_due_38 rfl rfl ?_
      refine am_iload_n d_X_due_39 rfl rfl ?_
      refine am_iastA d_X_due_40 rfl (by omega) (by decide) ?_
      refine am_vret d_X_due_41 rfl ?_
      have ec : cd_due S (nI i) (nI a) = 0 := by unfold cd_due; (try simp only [ek]); (repeat' split) <;> first | rfl | omega | simp_all
      rw [ec]
      exact ⟨_, rfl, i, a, rfl, rfl, hi, ha, rfl, rfl⟩
    · refine am_throwS (ci := 6) (tx := "no such due hour") d_X_due_16 d_X_due_19 d_X_due_20 d_X_due_22 d_X_due_25 rfl rfl w_251 w_252 w_10 (by decide) oA_6 (by decide +kernel) (by omega) (by omega) (by omega) (Nat.le_of_ble_eq_true rfl) rfl ?_
      have ec : cd_due S j u = 2 := by unfold cd_due; (try simp only [ek]); (repeat' split) <;> first | rfl | omega | simp_all
      rw [ec]
      exact ⟨_, rfl, rfl, rfl⟩
set_option maxRecDepth 20000 in
theorem c_X_step (hS : sh_ok S) (hu : sh_su S) (d bc bs : Nat) (hd : 6 ≤ d) (hb1 : 1 ≤ bc) (hb2 : 6 ≤ bs) (j k h w : Int32) : am_W G m_X_step (d + 2) bc bs (fQ [8, 6, 7] (cd_step S j k h w) (hx x t S F R P W) (fun v h' => ∃ i a b c, j = nI i ∧ k = nI a ∧ h = nI b ∧ w = nI c ∧ i < sh_jb S ∧ a ≤ 3 ∧ 1 ≤ b ∧ b ≤ 100 ∧ c ≤ 100 ∧ v = some (.int (nI (sh_ss S))) ∧ h' = (hx x true (sp_addStep S i a b c) F R P W))) 0 (lv_args 0 [.ref 1, .int j, .int k, .int h, .int w]) [] (hx x t S F R P W) := by
  obtain ⟨s1, s2, s3, s4, s5, s6, s7, s8, s9, s10, s11, s12, s13, s14⟩ := id hS
  cases hj : sp_in j (nI 0) (nI (sh_jb S) - nI 1) with
  | false =>
    refine am_aload_n d_X_step_0 rfl rfl ?_
    refine am_iload_n d_X_step_1 rfl rfl ?_
    refine am_callT 2 (am_recvV (z := m_X_demandJob) rfl d_X_step_2 w_389 w_391 ws_1 w_392 F_X.1 rfl (by decide) np_X_demandJob) (by decide) (by decide) (Nat.le_of_ble_eq_true rfl) (Nat.le_of_ble_eq_true rfl) (Nat.le_refl _) (Nat.le_refl _) (c_X_demandJob_1 d bc bs hd hb1 hb2 _ hj) ?_
    refine am_thr_out rfl ?_
    have ec : cd_step S j k h w = 1 := by unfold cd_step; (try simp only [ek]); (repeat' split) <;> first | rfl | omega | simp_all
    rw [ec]
    exact ⟨_, rfl, rfl, rfl⟩
  | true =>
    refine am_aload_n d_X_step_0 rfl rfl ?_
    refine am_iload_n d_X_step_1 rfl rfl ?_
    refine am_callF 2 (am_recvV (z := m_X_demandJob) rfl d_X_step_2 w_389 w_391 ws_1 w_392 F_X.1 rfl (by decide) np_X_demandJob) (by decide) (by decide) (Nat.le_of_ble_eq_true rfl) (Nat.le_of_ble_eq_true rfl) (Nat.zero_le _) (Nat.zero_le _) (c_X_demandJob_0 d _ _ _ hj) ?_
    refine am_iload_n d_X_step_5 rfl rfl ?_
    refine am_iconst (v := nI 0) d_X_step_6 (by decide) ?_
    refine am_iconst (v := nI 3) d_X_step_7 (by decide) ?_
    refine am_callF 3 (am_lkS (z := m_X_isWithin) d_X_step_8 w_248 w_249 w_1 w_250 (by decide) np_X_isWithin) (by decide) (by decide) (Nat.le_of_ble_eq_true rfl) (Nat.le_of_ble_eq_true rfl) (Nat.zero_le _) (Nat.zero_le _) (c_X_isWithin _ _ _ _ _ _) ?_
    refine am_ifZ_eq (tgt := 35) d_X_step_11 (by decide) (fun c11 => ?_) (fun c11 => ?_)
    · refine am_throwS (ci := 6) (tx := "no such kind, hours or wait") d_X_step_35 d_X_step_38 d_X_step_39 d_X_step_41 d_X_step_44 rfl rfl w_251 w_252 w_10 (by decide) oA_6 (by decide +kernel) (by omega) (by omega) (by omega) (Nat.le_of_ble_eq_true rfl) rfl ?_
      have ec : cd_step S j k h w = 2 := by unfold cd_step; (try simp only [ek]); (repeat' split) <;> first | rfl | omega | simp_all
      rw [ec]
      exact ⟨_, rfl, rfl, rfl⟩
    · refine am_iload_n d_X_step_14 rfl rfl ?_
      refine am_iconst (v := nI 1) d_X_step_15 (by decide) ?_
      refine am_bipush (v := nI 100) d_X_step_16 (by decide) ?_
      refine am_callF 3 (am_lkS (z := m_X_isWithin) d_X_step_18 w_248 w_249 w_1 w_250 (by decide) np_X_isWithin) (by decide) (by decide) (Nat.le_of_ble_eq_true rfl) (Nat.le_of_ble_eq_true rfl) (Nat.zero_le _) (Nat.zero_le _) (c_X_isWithin _ _ _ _ _ _) ?_
      refine am_ifZ_eq (tgt := 35) d_X_step_21 (by decide) (fun c21 => ?_) (fun c21 => ?_)
      · refine am_throwS (ci := 6) (tx := "no such kind, hours or wait") d_X_step_35 d_X_step_38 d_X_step_39 d_X_step_41 d_X_step_44 rfl rfl w_251 w_252 w_10 (by decide) oA_6 (by decide +kernel) (by omega) (by omega) (by omega) (Nat.le_of_ble_eq_true rfl) rfl ?_
        have ec : cd_step S j k h w = 2 := by unfold cd_step; (try simp only [ek]); (repeat' split) <;> first | rfl | omega | simp_all
        rw [ec]
        exact ⟨_, rfl, rfl, rfl⟩
      · refine am_iload d_X_step_24 rfl ?_
        refine am_iconst (v := nI 0) d_X_step_26 (by decide) ?_
        refine am_bipush (v := nI 100) d_X_step_27 (by decide) ?_
        refine am_callF 3 (am_lkS (z := m_X_isWithin) d_X_step_29 w_248 w_249 w_1 w_250 (by decide) np_X_isWithin) (by decide) (by decide) (Nat.le_of_ble_eq_true rfl) (Nat.le_of_ble_eq_true rfl) (Nat.zero_le _) (Nat.zero_le _) (c_X_isWithin _ _ _ _ _ _) ?_
        refine am_ifZ_ne (tgt := 45) d_X_step_32 (by decide) (fun c32 => ?_) (fun c32 => ?_)
        · obtain ⟨i, rfl, hi⟩ := sp_ix_t hj (by omega)
          have ek : (nI i).toNatClampNeg = i := nI_clamp (by omega)
          have t10 := s10 i
          refine am_aload_n d_X_step_45 rfl rfl ?_
          refine am_get F_X 0 (by decide) d_X_step_46 w_217 rfl rfl ?_
          refine am_get F_S 8 (by decide) d_X_step_49 w_54 rfl rfl ?_
          refine am_iload_n d_X_step_52 rfl rfl ?_
          refine am_ialdA d_X_step_53 rfl (by omega) (by decide) ?_
          refine am_iconst (v := nI 4) d_X_step_54 (by decide) ?_
          refine am_icmpN_ge (tgt := 70) d_X_step_55 (by decide) (by omega) (by omega) (fun c55 => ?_) (fun c55 => ?_)
          · refine am_throwS (ci := 7) (tx := "no room for a step") d_X_step_70 d_X_step_73 d_X_step_74 d_X_step_76 d_X_step_79 rfl rfl w_319 w_320 w_11 (by decide) oA_7 (by decide +kernel) (by omega) (by omega) (by omega) (Nat.le_of_ble_eq_true rfl) rfl ?_
            have ec : cd_step S (nI i) k h w = 3 := by unfold cd_step; (try simp only [ek]); (repeat' split) <;> first | rfl | omega | simp_all
            rw [ec]
            exact ⟨_, rfl, rfl, rfl⟩
          · refine am_aload_n d_X_step_58 rfl rfl ?_
            refine am_get F_X 0 (by decide) d_X_step_59 w_217 rfl rfl ?_
            refine am_get F_S 10 (by decide) d_X_step_62 w_60 rfl rfl ?_
            refine am_bipush (v := nI 24) d_X_step_65 (by decide) ?_
            refine am_icmpN_lt (tgt := 80) d_X_step_67 (by decide) (by omega) (by omega) (fun c67 => ?_) (fun c67 => ?_)
            · obtain ⟨a, rfl, -, ha⟩ := sp_in_t c11 (by decide) (by decide)
              obtain ⟨b, rfl, hb0, hb⟩ := sp_in_t c21 (by decide) (by decide)
              obtain ⟨c, rfl, -, hc⟩ := sp_in_t c32 (by decide) (by decide)
              refine am_aload_n d_X_step_80 rfl rfl ?_
              refine am_iconst (v := zI true) d_X_step_81 (by decide) ?_
              refine am_put F_X 5 (by decide) d_X_step_82 w_222 rfl rfl (Nat.le_of_ble_eq_true rfl) rfl rfl ?_
              refine am_aload_n d_X_step_85 rfl rfl ?_
              refine am_get F_X 0 (by decide) d_X_step_86 w_217 rfl rfl ?_
              refine am_iload_n d_X_step_89 rfl rfl ?_
              refine am_iload_n d_X_step_90 rfl rfl ?_
              refine am_iload_n d_X_step_91 rfl rfl ?_
              refine am_iload d_X_step_92 rfl ?_
              refine am_callF 5 (am_recvV (z := m_S_addStep) rfl d_X_step_94 w_404 w_405 w_406 w_407 F_S.1 rfl (by decide) np_S_addStep) (by decide) (by decide) (Nat.le_of_ble_eq_true rfl) (Nat.le_of_ble_eq_true rfl) (Nat.zero_le _) (Nat.zero_le _) (c_S_addStep (t := true) hS _ _ _ i a b c (by omega) (by omega) (by omega) (by omega) hb hc) ?_
              refine am_iret d_X_step_97 rfl ?_
              have ec : cd_step S (nI i) (nI a) (nI b) (nI c) = 0 := by unfold cd_step; (try simp only [ek]); (repeat' split) <;> first | rfl | omega | simp_all
              rw [ec]
              exact ⟨_, rfl, i, a, b, c, rfl, rfl, rfl, rfl, hi, by omega, hb0, hb, hc, rfl, rfl⟩
            · refine am_throwS (ci := 7) (tx := "no room for a step") d_X_step_70 d_X_step_73 d_X_step_74 d_X_step_76 d_X_step_79 rfl rfl w_319 w_320 w_11 (by decide) oA_7 (by decide +kernel) (by omega) (by omega) (by omega) (Nat.le_of_ble_eq_true rfl) rfl ?_
              exact absurd c67 (by have := sh_su_lt hS hu (show i < 6 by omega) (by omega); omega)
        · refine am_throwS (ci := 6) (tx := "no such kind, hours or wait") d_X_step_35 d_X_step_38 d_X_step_39 d_X_step_41 d_X_step_44 rfl rfl w_251 w_252 w_10 (by decide) oA_6 (by decide +kernel) (by omega) (by omega) (by omega) (Nat.le_of_ble_eq_true rfl) rfl ?_
          have ec : cd_step S j k h w = 2 := by unfold cd_step; (try simp only [ek]); (repeat' split) <;> first | rfl | omega | simp_all
          rw [ec]
          exact ⟨_, rfl, rfl, rfl⟩
set_option maxRecDepth 20000 in
theorem c_X_at (hS : sh_ok S) (hP : pl_ok P) (d bc bs : Nat) (hd : 6 ≤ d) (hb1 : 1 ≤ bc) (hb2 : 6 ≤ bs) (s w : Int32) : am_W G m_X_at (d + 2) bc bs (fQ [8, 7] (cd_at S P s w) (hx x t S F R P W) (fun v h' => ∃ i a, s = nI i ∧ w = nI a ∧ i < sh_ss S ∧ a ≤ 1 ∧ v = some (.int (if i < pl_ss P then if a = 0 then nI (pl_bg P i) else nI (pl_ma P i) else -1)) ∧ h' = (hx x t S F R P W))) 0 (lv_args 0 [.ref 1, .int s, .int w]) [] (hx x t S F R P W) := by
  obtain ⟨s1, s2, s3, s4, s5, s6, s7, s8, s9, s10, s11, s12, s13, s14⟩ := id hS
  rcases Nat.eq_zero_or_pos (pl_jb P) with hp | hp
  · refine am_iload_n d_X_at_0 rfl rfl ?_
    refine am_iconst (v := nI 0) d_X_at_1 (by decide) ?_
    refine am_aload_n d_X_at_2 rfl rfl ?_
    refine am_get F_X 0 (by decide) d_X_at_3 w_217 rfl rfl ?_
    refine am_get F_S 10 (by decide) d_X_at_6 w_60 rfl rfl ?_
    refine am_iconst (v := nI 1) d_X_at_9 (by decide) ?_
    refine am_isub d_X_at_10 ?_
    refine am_callF 3 (am_lkS (z := m_X_isWithin) d_X_at_11 w_248 w_249 w_1 w_250 (by decide) np_X_isWithin) (by decide) (by decide) (Nat.le_of_ble_eq_true rfl) (Nat.le_of_ble_eq_true rfl) (Nat.zero_le _) (Nat.zero_le _) (c_X_isWithin _ _ _ _ _ _) ?_
    refine am_ifZ_eq (tgt := 26) d_X_at_14 (by decide) (fun c14 => ?_) (fun c14 => ?_)
    · refine am_throwS (ci := 8) (tx := "no such step or what") d_X_at_26 d_X_at_29 d_X_at_30 d_X_at_32 d_X_at_35 rfl rfl w_347 w_348 w_12 (by decide) oA_8 (by decide +kernel) (by omega) (by omega) (by omega) (Nat.le_of_ble_eq_true rfl) rfl ?_
      have ec : cd_at S P s w = 1 := by unfold cd_at; (try simp only [ek]); (repeat' split) <;> first | rfl | omega | simp_all
      rw [ec]
      exact ⟨_, rfl, rfl, rfl⟩
    · refine am_iload_n d_X_at_17 rfl rfl ?_
      refine am_iconst (v := nI 0) d_X_at_18 (by decide) ?_
      refine am_iconst (v := nI 1) d_X_at_19 (by decide) ?_
      refine am_callF 3 (am_lkS (z := m_X_isWithin) d_X_at_20 w_248 w_249 w_1 w_250 (by decide) np_X_isWithin) (by decide) (by decide) (Nat.le_of_ble_eq_true rfl) (Nat.le_of_ble_eq_true rfl) (Nat.zero_le _) (Nat.zero_le _) (c_X_isWithin _ _ _ _ _ _) ?_
      refine am_ifZ_ne (tgt := 36) d_X_at_23 (by decide) (fun c23 => ?_) (fun c23 => ?_)
      · refine am_aload_n d_X_at_36 rfl rfl ?_
        refine am_callT 1 (am_recvV (z := m_X_demandPlan) rfl d_X_at_37 w_547 w_549 ws_12 w_550 F_X.1 rfl (by decide) np_X_demandPlan) (by decide) (by decide) (Nat.le_of_ble_eq_true rfl) (Nat.le_of_ble_eq_true rfl) (Nat.le_refl _) (Nat.le_refl _) (c_X_demandPlan_1 hP d bc bs hd hb1 hb2 hp) ?_
        refine am_thr_out rfl ?_
        have ec : cd_at S P s w = 2 := by unfold cd_at; (try simp only [ek]); (repeat' split) <;> first | rfl | omega | simp_all
        rw [ec]
        exact ⟨_, rfl, rfl, rfl⟩
      · refine am_throwS (ci := 8) (tx := "no such step or what") d_X_at_26 d_X_at_29 d_X_at_30 d_X_at_32 d_X_at_35 rfl rfl w_347 w_348 w_12 (by decide) oA_8 (by decide +kernel) (by omega) (by omega) (by omega) (Nat.le_of_ble_eq_true rfl) rfl ?_
        have ec : cd_at S P s w = 1 := by unfold cd_at; (try simp only [ek]); (repeat' split) <;> first | rfl | omega | simp_all
        rw [ec]
        exact ⟨_, rfl, rfl, rfl⟩
  · refine am_iload_n d_X_at_0 rfl rfl ?_
    refine am_iconst (v := nI 0) d_X_at_1 (by decide) ?_
    refine am_aload_n d_X_at_2 rfl rfl ?_
    refine am_get F_X 0 (by decide) d_X_at_3 w_217 rfl rfl ?_
    refine am_get F_S 10 (by decide) d_X_at_6 w_60 rfl rfl ?_
    refine am_iconst (v := nI 1) d_X_at_9 (by decide) ?_
    refine am_isub d_X_at_10 ?_
    refine am_callF 3 (am_lkS (z := m_X_isWithin) d_X_at_11 w_248 w_249 w_1 w_250 (by decide) np_X_isWithin) (by decide) (by decide) (Nat.le_of_ble_eq_true rfl) (Nat.le_of_ble_eq_true rfl) (Nat.zero_le _) (Nat.zero_le _) (c_X_isWithin _ _ _ _ _ _) ?_
    refine am_ifZ_eq (tgt := 26) d_X_at_14 (by decide) (fun c14 => ?_) (fun c14 => ?_)
    · refine am_throwS (ci := 8) (tx := "no such step or what") d_X_at_26 d_X_at_29 d_X_at_30 d_X_at_32 d_X_at_35 rfl rfl w_347 w_348 w_12 (by decide) oA_8 (by decide +kernel) (by omega) (by omega) (by omega) (Nat.le_of_ble_eq_true rfl) rfl ?_
      have ec : cd_at S P s w = 1 := by unfold cd_at; (try simp only [ek]); (repeat' split) <;> first | rfl | omega | simp_all
      rw [ec]
      exact ⟨_, rfl, rfl, rfl⟩
    · refine am_iload_n d_X_at_17 rfl rfl ?_
      refine am_iconst (v := nI 0) d_X_at_18 (by decide) ?_
      refine am_iconst (v := nI 1) d_X_at_19 (by decide) ?_
      refine am_callF 3 (am_lkS (z := m_X_isWithin) d_X_at_20 w_248 w_249 w_1 w_250 (by decide) np_X_isWithin) (by decide) (by decide) (Nat.le_of_ble_eq_true rfl) (Nat.le_of_ble_eq_true rfl) (Nat.zero_le _) (Nat.zero_le _) (c_X_isWithin _ _ _ _ _ _) ?_
      refine am_ifZ_ne (tgt := 36) d_X_at_23 (by decide) (fun c23 => ?_) (fun c23 => ?_)
      · obtain ⟨i, rfl, hi⟩ := sp_ix_t c14 (by omega)
        obtain ⟨a, rfl, -, ha⟩ := sp_in_t c23 (by decide) (by decide)
        refine am_aload_n d_X_at_36 rfl rfl ?_
        refine am_callF 1 (am_recvV (z := m_X_demandPlan) rfl d_X_at_37 w_547 w_549 ws_12 w_550 F_X.1 rfl (by decide) np_X_demandPlan) (by decide) (by decide) (Nat.le_of_ble_eq_true rfl) (Nat.le_of_ble_eq_true rfl) (Nat.zero_le _) (Nat.zero_le _) (c_X_demandPlan_0 hP d _ _ hp) ?_
        refine am_aload_n d_X_at_40 rfl rfl ?_
        refine am_get F_X 3 (by decide) d_X_at_41 w_220 rfl rfl ?_
        refine am_iload_n d_X_at_44 rfl rfl ?_
        refine am_callF 2 (am_recvV (z := m_P_has) rfl d_X_at_45 w_552 w_504 w_505 w_506 F_P.1 rfl (by decide) np_P_has) (by decide) (by decide) (Nat.le_of_ble_eq_true rfl) (Nat.le_of_ble_eq_true rfl) (Nat.zero_le _) (Nat.zero_le _) (c_P_has _ _ _ _) ?_
        rw [sp_hs_N hP (by omega)]
        refine am_ifZ_ne (tgt := 53) d_X_at_48 (by decide) (fun c48 => ?_) (fun c48 => ?_)
        · refine am_iload_n d_X_at_53 rfl rfl ?_
          refine am_ifN_ne (tgt := 69) d_X_at_54 (by decide) (by omega) (fun c54 => ?_) (fun c54 => ?_)
          · refine am_aload_n d_X_at_69 rfl rfl ?_
            refine am_get F_X 3 (by decide) d_X_at_70 w_220 rfl rfl ?_
            refine am_get F_P 3 (by decide) d_X_at_73 w_184 rfl rfl ?_
            refine am_iload_n d_X_at_76 rfl rfl ?_
            refine am_ialdA d_X_at_77 rfl (by omega) (by decide) ?_
            refine am_iret d_X_at_78 rfl ?_
            have ec : cd_at S P (nI i) (nI a) = 0 := by unfold cd_at; (try simp only [ek]); (repeat' split) <;> first | rfl | omega | simp_all
            rw [ec]
            exact ⟨_, rfl, i, a, rfl, rfl, hi, ha, by rw [if_pos (of_decide_eq_true c48), if_neg (by omega)], rfl⟩
          · refine am_aload_n d_X_at_57 rfl rfl ?_
            refine am_get F_X 3 (by decide) d_X_at_58 w_220 rfl rfl ?_
            refine am_get F_P 2 (by decide) d_X_at_61 w_182 rfl rfl ?_
            refine am_iload_n d_X_at_64 rfl rfl ?_
            refine am_ialdA d_X_at_65 rfl (by omega) (by decide) ?_
            refine am_goto (tgt := 78) d_X_at_66 (by decide) ?_
            refine am_iret d_X_at_78 rfl ?_
            have ec : cd_at S P (nI i) (nI a) = 0 := by unfold cd_at; (try simp only [ek]); (repeat' split) <;> first | rfl | omega | simp_all
            rw [ec]
            exact ⟨_, rfl, i, a, rfl, rfl, hi, ha, by rw [if_pos (of_decide_eq_true c48), if_pos (by omega)], rfl⟩
        · refine am_iconst (v := -1) d_X_at_51 (by decide) ?_
          refine am_iret d_X_at_52 rfl ?_
          have ec : cd_at S P (nI i) (nI a) = 0 := by unfold cd_at; (try simp only [ek]); (repeat' split) <;> first | rfl | omega | simp_all
          rw [ec]
          exact ⟨_, rfl, i, a, rfl, rfl, hi, ha, by rw [if_neg (of_decide_eq_false c48)], rfl⟩
      · refine am_throwS (ci := 8) (tx := "no such step or what") d_X_at_26 d_X_at_29 d_X_at_30 d_X_at_32 d_X_at_35 rfl rfl w_347 w_348 w_12 (by decide) oA_8 (by decide +kernel) (by omega) (by omega) (by omega) (Nat.le_of_ble_eq_true rfl) rfl ?_
        have ec : cd_at S P s w = 1 := by unfold cd_at; (try simp only [ek]); (repeat' split) <;> first | rfl | omega | simp_all
        rw [ec]
        exact ⟨_, rfl, rfl, rfl⟩
set_option maxRecDepth 20000 in
theorem c_X_order (hS : sh_ok S) (hP : pl_ok P) (d bc bs : Nat) (hd : 6 ≤ d) (hb1 : 1 ≤ bc) (hb2 : 6 ≤ bs) (k : Int32) : am_W G m_X_order (d + 2) bc bs (fQ [7, 8] (cd_order P k) (hx x t S F R P W) (fun v h' => ∃ i, k = nI i ∧ i < pl_jb P ∧ v = some (.int (nI (pl_ja P i))) ∧ h' = (hx x t S F R P W))) 0 (lv_args 0 [.ref 1, .int k]) [] (hx x t S F R P W) := by
  obtain ⟨s1, s2, s3, s4, s5, s6, s7, s8, s9, s10, s11, s12, s13, s14⟩ := id hS
  have p1 := hP.1
  rcases Nat.eq_zero_or_pos (pl_jb P) with hp | hp
  · refine am_aload_n d_X_order_0 rfl rfl ?_
    refine am_callT 1 (am_recvV (z := m_X_demandPlan) rfl d_X_order_1 w_547 w_549 ws_12 w_550 F_X.1 rfl (by decide) np_X_demandPlan) (by decide) (by decide) (Nat.le_of_ble_eq_true rfl) (Nat.le_of_ble_eq_true rfl) (Nat.le_refl _) (Nat.le_refl _) (c_X_demandPlan_1 hP d bc bs hd hb1 hb2 hp) ?_
    refine am_thr_out rfl ?_
    have ec : cd_order P k = 1 := by unfold cd_order; (try simp only [ek]); (repeat' split) <;> first | rfl | omega | simp_all
    rw [ec]
    exact ⟨_, rfl, rfl, rfl⟩
  · refine am_aload_n d_X_order_0 rfl rfl ?_
    refine am_callF 1 (am_recvV (z := m_X_demandPlan) rfl d_X_order_1 w_547 w_549 ws_12 w_550 F_X.1 rfl (by decide) np_X_demandPlan) (by decide) (by decide) (Nat.le_of_ble_eq_true rfl) (Nat.le_of_ble_eq_true rfl) (Nat.zero_le _) (Nat.zero_le _) (c_X_demandPlan_0 hP d _ _ hp) ?_
    refine am_iload_n d_X_order_4 rfl rfl ?_
    refine am_iconst (v := nI 0) d_X_order_5 (by decide) ?_
    refine am_aload_n d_X_order_6 rfl rfl ?_
    refine am_get F_X 3 (by decide) d_X_order_7 w_220 rfl rfl ?_
    refine am_get F_P 4 (by decide) d_X_order_10 w_186 rfl rfl ?_
    refine am_iconst (v := nI 1) d_X_order_13 (by decide) ?_
    refine am_isub d_X_order_14 ?_
    refine am_callF 3 (am_lkS (z := m_X_isWithin) d_X_order_15 w_248 w_249 w_1 w_250 (by decide) np_X_isWithin) (by decide) (by decide) (Nat.le_of_ble_eq_true rfl) (Nat.le_of_ble_eq_true rfl) (Nat.zero_le _) (Nat.zero_le _) (c_X_isWithin _ _ _ _ _ _) ?_
    refine am_ifZ_ne (tgt := 31) d_X_order_18 (by decide) (fun c18 => ?_) (fun c18 => ?_)
    · obtain ⟨i, rfl, hi⟩ := sp_ix_t c18 (by omega)
      refine am_aload_n d_X_order_31 rfl rfl ?_
      refine am_get F_X 3 (by decide) d_X_order_32 w_220 rfl rfl ?_
      refine am_get F_P 1 (by decide) d_X_order_35 w_180 rfl rfl ?_
      refine am_iload_n d_X_order_38 rfl rfl ?_
      refine am_ialdA d_X_order_39 rfl (by omega) (by decide) ?_
      refine am_iret d_X_order_40 rfl ?_
      have ec : cd_order P (nI i) = 0 := by unfold cd_order; (try simp only [ek]); (repeat' split) <;> first | rfl | omega | simp_all
      rw [ec]
      exact ⟨_, rfl, i, rfl, hi, rfl, rfl⟩
    · refine am_throwS (ci := 8) (tx := "no such place") d_X_order_21 d_X_order_24 d_X_order_25 d_X_order_27 d_X_order_30 rfl rfl w_347 w_348 w_12 (by decide) oA_8 (by decide +kernel) (by omega) (by omega) (by omega) (Nat.le_of_ble_eq_true rfl) rfl ?_
      have ec : cd_order P k = 2 := by unfold cd_order; (try simp only [ek]); (repeat' split) <;> first | rfl | omega | simp_all
      rw [ec]
      exact ⟨_, rfl, rfl, rfl⟩
set_option maxRecDepth 20000 in
theorem c_X_about (hS : sh_ok S) (hP : pl_ok P) (hno : pl_no P < 2 ^ 31) (hmv : pl_mv P < 2 ^ 31) (d bc bs : Nat) (hd : 6 ≤ d) (hb1 : 1 ≤ bc) (hb2 : 6 ≤ bs) (w : Int32) : am_W G m_X_about (d + 2) bc bs (fQ [8, 7] (cd_about P w) (hx x t S F R P W) (fun v h' => ∃ a, w = nI a ∧ a ≤ 3 ∧ v = some (.long (lN (if a = 0 then pl_co P else if a = 1 then pl_bo P else if a = 2 then pl_no P else pl_mv P))) ∧ h' = (hx x t S F R P W))) 0 (lv_args 0 [.ref 1, .int w]) [] (hx x t S F R P W) := by
  obtain ⟨s1, s2, s3, s4, s5, s6, s7, s8, s9, s10, s11, s12, s13, s14⟩ := id hS
  rcases Nat.eq_zero_or_pos (pl_jb P) with hp | hp
  · refine am_iload_n d_X_about_0 rfl rfl ?_
    refine am_iconst (v := nI 0) d_X_about_1 (by decide) ?_
    refine am_iconst (v := nI 3) d_X_about_2 (by decide) ?_
    refine am_callF 3 (am_lkS (z := m_X_isWithin) d_X_about_3 w_248 w_249 w_1 w_250 (by decide) np_X_isWithin) (by decide) (by decide) (Nat.le_of_ble_eq_true rfl) (Nat.le_of_ble_eq_true rfl) (Nat.zero_le _) (Nat.zero_le _) (c_X_isWithin _ _ _ _ _ _) ?_
    refine am_ifZ_ne (tgt := 19) d_X_about_6 (by decide) (fun c6 => ?_) (fun c6 => ?_)
    · refine am_aload_n d_X_about_19 rfl rfl ?_
      refine am_callT 1 (am_recvV (z := m_X_demandPlan) rfl d_X_about_20 w_547 w_549 ws_12 w_550 F_X.1 rfl (by decide) np_X_demandPlan) (by decide) (by decide) (Nat.le_of_ble_eq_true rfl) (Nat.le_of_ble_eq_true rfl) (Nat.le_refl _) (Nat.le_refl _) (c_X_demandPlan_1 hP d bc bs hd hb1 hb2 hp) ?_
      refine am_thr_out rfl ?_
      have ec : cd_about P w = 2 := by unfold cd_about; (try simp only [ek]); (repeat' split) <;> first | rfl | omega | simp_all
      rw [ec]
      exact ⟨_, rfl, rfl, rfl⟩
    · refine am_throwS (ci := 8) (tx := "no such what") d_X_about_9 d_X_about_12 d_X_about_13 d_X_about_15 d_X_about_18 rfl rfl w_347 w_348 w_12 (by decide) oA_8 (by decide +kernel) (by omega) (by omega) (by omega) (Nat.le_of_ble_eq_true rfl) rfl ?_
      have ec : cd_about P w = 1 := by unfold cd_about; (try simp only [ek]); (repeat' split) <;> first | rfl | omega | simp_all
      rw [ec]
      exact ⟨_, rfl, rfl, rfl⟩
  · refine am_iload_n d_X_about_0 rfl rfl ?_
    refine am_iconst (v := nI 0) d_X_about_1 (by decide) ?_
    refine am_iconst (v := nI 3) d_X_about_2 (by decide) ?_
    refine am_callF 3 (am_lkS (z := m_X_isWithin) d_X_about_3 w_248 w_249 w_1 w_250 (by decide) np_X_isWithin) (by decide) (by decide) (Nat.le_of_ble_eq_true rfl) (Nat.le_of_ble_eq_true rfl) (Nat.zero_le _) (Nat.zero_le _) (c_X_isWithin _ _ _ _ _ _) ?_
    refine am_ifZ_ne (tgt := 19) d_X_about_6 (by decide) (fun c6 => ?_) (fun c6 => ?_)
    · refine am_aload_n d_X_about_19 rfl rfl ?_
      refine am_callF 1 (am_recvV (z := m_X_demandPlan) rfl d_X_about_20 w_547 w_549 ws_12 w_550 F_X.1 rfl (by decide) np_X_demandPlan) (by decide) (by decide) (Nat.le_of_ble_eq_true rfl) (Nat.le_of_ble_eq_true rfl) (Nat.zero_le _) (Nat.zero_le _) (c_X_demandPlan_0 hP d _ _ hp) ?_
      obtain ⟨a, rfl, -, ha⟩ := sp_in_t c6 (by decide) (by decide)
      have ec : cd_about P (nI a) = 0 := by unfold cd_about; rw [if_pos c6, if_pos hp]
      rw [ec]
      have hc : a = 0 ∨ a = 1 ∨ a = 2 ∨ a = 3 := by omega
      rcases hc with rfl | rfl | rfl | rfl
      · refine am_iload_n d_X_about_23 rfl rfl ?_
        refine am_tableIn (tgt := 52) d_X_about_24 (by decide) (by decide) rfl (by decide) ?_
        refine am_aload_n d_X_about_52 rfl rfl ?_
        refine am_get F_X 3 (by decide) d_X_about_53 w_220 rfl rfl ?_
        refine am_get F_P 6 (by decide) d_X_about_56 w_189 rfl rfl ?_
        refine am_lret d_X_about_59 rfl ?_
        exact ⟨_, rfl, 0, rfl, by omega, rfl, rfl⟩
      · refine am_iload_n d_X_about_23 rfl rfl ?_
        refine am_tableIn (tgt := 60) d_X_about_24 (by decide) (by decide) rfl (by decide) ?_
        refine am_aload_n d_X_about_60 rfl rfl ?_
        refine am_get F_X 3 (by decide) d_X_about_61 w_220 rfl rfl ?_
        refine am_get F_P 7 (by decide) d_X_about_64 w_191 rfl rfl ?_
        refine am_lret d_X_about_67 rfl ?_
        exact ⟨_, rfl, 1, rfl, by omega, rfl, rfl⟩
      · refine am_iload_n d_X_about_23 rfl rfl ?_
        refine am_tableIn (tgt := 68) d_X_about_24 (by decide) (by decide) rfl (by decide) ?_
        refine am_aload_n d_X_about_68 rfl rfl ?_
        refine am_get F_X 3 (by decide) d_X_about_69 w_220 rfl rfl ?_
        refine am_get F_P 8 (by decide) d_X_about_72 w_193 rfl rfl ?_
        refine am_i2lN d_X_about_75 (by omega) ?_
        refine am_lret d_X_about_76 rfl ?_
        exact ⟨_, rfl, 2, rfl, by omega, rfl, rfl⟩
      · refine am_iload_n d_X_about_23 rfl rfl ?_
        refine am_tableOut (tgt := 77) d_X_about_24 (Or.inr (by decide)) (by decide) ?_
        refine am_aload_n d_X_about_77 rfl rfl ?_
        refine am_get F_X 3 (by decide) d_X_about_78 w_220 rfl rfl ?_
        refine am_get F_P 9 (by decide) d_X_about_81 w_195 rfl rfl ?_
        refine am_i2lN d_X_about_84 (by omega) ?_
        refine am_lret d_X_about_85 rfl ?_
        exact ⟨_, rfl, 3, rfl, by omega, rfl, rfl⟩
    · refine am_throwS (ci := 8) (tx := "no such what") d_X_about_9 d_X_about_12 d_X_about_13 d_X_about_15 d_X_about_18 rfl rfl w_347 w_348 w_12 (by decide) oA_8 (by decide +kernel) (by omega) (by omega) (by omega) (Nat.le_of_ble_eq_true rfl) rfl ?_
      have ec : cd_about P w = 1 := by unfold cd_about; (try simp only [ek]); (repeat' split) <;> first | rfl | omega | simp_all
      rw [ec]
      exact ⟨_, rfl, rfl, rfl⟩
set_option maxRecDepth 20000 in
theorem c_X_alone (hS : sh_ok S) (d bc bs : Nat) (hd : 6 ≤ d) (hb1 : 1 ≤ bc) (hb2 : 6 ≤ bs) (j : Int32) : am_W G m_X_alone (d + 5) bc bs (fQ [8, 7] (cd_alone S j) (hx x t S F R P W) (fun v h' => ∃ i F', j = nI i ∧ i < sh_jb S ∧ sp_fits S i = true ∧ v = some (.long (lN (sp_al S i))) ∧ h' = (hx x t S F' R P W))) 0 (lv_args 0 [.ref 1, .int j]) [] (hx x t S F R P W) := by
  obtain ⟨s1, s2, s3, s4, s5, s6, s7, s8, s9, s10, s11, s12, s13, s14⟩ := id hS
  cases hj : sp_in j (nI 0) (nI (sh_jb S) - nI 1) with
  | false =>
    refine am_aload_n d_X_alone_0 rfl rfl ?_
    refine am_iload_n d_X_alone_1 rfl rfl ?_
    refine am_callT 2 (am_recvV (z := m_X_demandJob) rfl d_X_alone_2 w_389 w_391 ws_1 w_392 F_X.1 rfl (by decide) np_X_demandJob) (by decide) (by decide) (Nat.le_of_ble_eq_true rfl) (Nat.le_of_ble_eq_true rfl) (Nat.le_refl _) (Nat.le_refl _) (am_rm (d := d + 1) (by omega) (c_X_demandJob_1 d bc bs hd hb1 hb2 _ hj)) ?_
    refine am_thr_out rfl ?_
    have ec : cd_alone S j = 1 := by unfold cd_alone; (try simp only [ek]); (repeat' split) <;> first | rfl | omega | simp_all
    rw [ec]
    exact ⟨_, rfl, rfl, rfl⟩
  | true =>
    refine am_aload_n d_X_alone_0 rfl rfl ?_
    refine am_iload_n d_X_alone_1 rfl rfl ?_
    refine am_callF 2 (am_recvV (z := m_X_demandJob) rfl d_X_alone_2 w_389 w_391 ws_1 w_392 F_X.1 rfl (by decide) np_X_demandJob) (by decide) (by decide) (Nat.le_of_ble_eq_true rfl) (Nat.le_of_ble_eq_true rfl) (Nat.zero_le _) (Nat.zero_le _) (am_rm (d := d + 1) (by omega) (c_X_demandJob_0 d _ _ _ hj)) ?_
    obtain ⟨i, rfl, hi⟩ := sp_ix_t hj (by omega)
    have ek : (nI i).toNatClampNeg = i := nI_clamp (by omega)
    refine am_aload_n d_X_alone_5 rfl rfl ?_
    refine am_get F_X 0 (by decide) d_X_alone_6 w_217 rfl rfl ?_
    refine am_iload_n d_X_alone_9 rfl rfl ?_
    refine am_callF 2 (am_recvV (z := m_S_fits) rfl d_X_alone_10 w_576 w_425 w_426 w_427 F_S.1 rfl (by decide) np_S_fits) (by decide) (by decide) (Nat.le_of_ble_eq_true rfl) (Nat.le_of_ble_eq_true rfl) (Nat.zero_le _) (Nat.zero_le _) (am_rm (d := 1) (by omega) (c_S_fits hS 0 _ _ i (by omega))) ?_
    refine am_ifZ_ne (tgt := 26) d_X_alone_13 (by decide) (fun c13 => ?_) (fun c13 => ?_)
    · refine am_aload_n d_X_alone_26 rfl rfl ?_
      refine am_get F_X 1 (by decide) d_X_alone_27 w_218 rfl rfl ?_
      refine am_iload_n d_X_alone_30 rfl rfl ?_
      refine am_callF 2 (am_recvV (z := m_F_costAlone) rfl d_X_alone_31 w_578 w_438 w_439 w_440 F_F.1 rfl (by decide) np_F_costAlone) (by decide) (by decide) (Nat.le_of_ble_eq_true rfl) (Nat.le_of_ble_eq_true rfl) (Nat.zero_le _) (Nat.zero_le _) (am_rm (d := 4) (by omega) (c_F_costAlone hS 0 _ _ i (by omega) c13)) ?_
      rw [fl_al_eq hS _ c13]
      refine am_lret d_X_alone_34 rfl ?_
      have ec : cd_alone S (nI i) = 0 := by unfold cd_alone; (try simp only [ek]); (repeat' split) <;> first | rfl | omega | simp_all
      rw [ec]
      exact ⟨_, rfl, i, _, rfl, hi, c13, rfl, rfl⟩
    · refine am_throwS (ci := 7) (tx := "the job does not fit") d_X_alone_16 d_X_alone_19 d_X_alone_20 d_X_alone_22 d_X_alone_25 rfl rfl w_319 w_320 w_11 (by decide) oA_7 (by decide +kernel) (by omega) (by omega) (by omega) (Nat.le_of_ble_eq_true rfl) rfl ?_
      have ec : cd_alone S (nI i) = 2 := by unfold cd_alone; (try simp only [ek]); (repeat' split) <;> first | rfl | omega | simp_all
      rw [ec]
      exact ⟨_, rfl, rfl, rfl⟩
end CXA
