/-! the model: fits, the board, placing, costs -/
theorem arrV_cg (c : ClassId) {N : Nat} {f g : Nat → Value} (e : ∀ j, j < N → f j = g j) : arrV c N f = arrV c N g := by
  unfold arrV
  rw [show (fun (j : Fin N) => f j.val) = (fun (j : Fin N) => g j.val) from funext fun j => e j.val j.isLt]
/-- a row of ints counts only below its length -/
theorem am_cell {G : am_G} {y : am_M} {d bc bs : Nat} {Q : am_O → am_H → Prop} {pc : Nat} {L : List (Nat × Value)} {st : List Value} {h : am_H} {a n : Nat} {f : Nat → Int32} (g : Nat → Int32) (ha : h[a]? = some (.inl (0, n, .inl f))) (e : ∀ j, j < n → f j = g j) (k : am_W G y d bc bs Q pc L st (h.set a (.inl (0, n, .inl g)))) : am_W G y d bc bs Q pc L st h := by
  intro p en R s m args below meth c H locs cells slots ls C hR hh hS hl
  refine k p en R s m args below meth c H locs cells slots ls C hR (hh.set ha ?_ rfl (fun _ _ => rfl)) hS hl
  have h1 : H[am_gz G + a]? = some (vp_cell (am_gA G 0) (n, .inl f)) := hh.2 a _ (am_wsat ha)
  show H[am_gz G + a]? = some (vp_cell (am_gA G 0) (n, .inl g))
  rw [h1]
  show some (arrV (am_gA G 0) n (fun j => .int (f j))) = some (arrV (am_gA G 0) n (fun j => .int (g j)))
  rw [arrV_cg _ (fun j hj => by rw [e j hj])]
theorem am_sv {G : am_G} {y : am_M} {d bc bs : Nat} {Q : am_O → am_H → Prop} {pc : Nat} {L : List (Nat × Value)} {st : List Value} {h : am_H} {v v2 : Value} (e : v = v2) (k : am_W G y d bc bs Q pc L (v2 :: st) h) : am_W G y d bc bs Q pc L (v :: st) h := e ▸ k
theorem sp_has_s (kd : Nat → Nat) (n k : Nat) : sp_has kd (n + 1) k = (sp_has kd n k || kd n == k) := rfl
section CM3
variable {G : am_G} {A : ma_T} {S : sh_T} {jo : Nat → Nat} {M : mo_T} {V : am_H}
set_option maxRecDepth 20000 in
theorem c_M_fits_i {Q : am_O → am_H → Prop} (hS : sh_ok S) (d bc bs j k : Nat) (a : Bool) (hj : j < 6) (hk4 : k < 4) (hk : am_W G m_M_fits d bc bs Q 72 [(0, .ref 30), (1, .int (nI j)), (2, .int (zI a)), (3, .int (nI k)), (4, .int (zI (sp_has (sh_kd S) (sh_mc S) (sh_sk S (sh_sa S (j * 4 + k)))))), (5, .int (nI (sh_mc S)))] [] (hm A S jo M V)) : ∀ (n m : Nat), m ≤ sh_mc S → sh_mc S - m < n →
    am_W G m_M_fits d bc bs Q 20 [(0, .ref 30), (1, .int (nI j)), (2, .int (zI a)), (3, .int (nI k)), (4, .int (zI (sp_has (sh_kd S) m (sh_sk S (sh_sa S (j * 4 + k)))))), (5, .int (nI m))] [] (hm A S jo M V) := by
  intro n
  obtain ⟨s1, s2, s3, s4, s5, s6, s7, s8, s9, s10, s11, s12, s13, s14⟩ := id hS
  have t11 := s11 (j * 4 + k)
  have t12 := s12 (sh_sa S (j * 4 + k))
  induction n with
  | zero => intro i _ h; omega
  | succ n ih =>
    intro m hi hn
    have t4 := s4 m
    refine am_iload d_M_fits_20 rfl ?_
    refine am_aload_n d_M_fits_22 rfl rfl ?_
    refine am_get F_M 1 (by decide) d_M_fits_23 w_651 rfl rfl ?_
    refine am_icmpN_ge (tgt := 72) d_M_fits_26 (by decide) (by omega) (by omega) (fun c26 => ?_) (fun c26 => ?_)
    · have e : m = sh_mc S := by omega
      subst e
      exact hk
    · refine am_iload d_M_fits_29 rfl ?_
      refine am_ifZ_ne (tgt := 59) d_M_fits_31 (by decide) (fun c31 => ?_) (fun c31 => ?_)
      · refine am_iconst (v := zI true) d_M_fits_59 (by decide) ?_
        refine am_goto (tgt := 64) d_M_fits_60 (by decide) ?_
        refine am_istore d_M_fits_64 (by decide) ?_
        refine am_iinc d_M_fits_66 rfl (am_inc _) (by decide) ?_
        refine am_goto (tgt := 20) d_M_fits_69 (by decide) ?_
        exact am_lo (L' := [(0, .ref 30), (1, .int (nI j)), (2, .int (zI a)), (3, .int (nI k)), (4, .int (zI true)), (5, .int (nI (m + 1)))]) rfl (am_lq (L2 := [(0, .ref 30), (1, .int (nI j)), (2, .int (zI a)), (3, .int (nI k)), (4, .int (zI (sp_has (sh_kd S) (m + 1) (sh_sk S (sh_sa S (j * 4 + k)))))), (5, .int (nI (m + 1)))]) (by rw [sp_has_s, c31, Bool.true_or]) (ih (m + 1) (by omega) (by omega)))
      · refine am_aload_n d_M_fits_34 rfl rfl ?_
        refine am_get F_M 2 (by decide) d_M_fits_35 w_652 rfl rfl ?_
        refine am_iload d_M_fits_38 rfl ?_
        refine am_ialdA d_M_fits_40 rfl (by omega) (by decide) ?_
        refine am_aload_n d_M_fits_41 rfl rfl ?_
        refine am_get F_M 13 (by decide) d_M_fits_42 w_663 rfl rfl ?_
        refine am_aload_n d_M_fits_45 rfl rfl ?_
        refine am_get F_M 10 (by decide) d_M_fits_46 w_660 rfl rfl ?_
        refine am_iconst (v := nI 4) d_M_fits_49 (by decide) ?_
        refine am_iload_n d_M_fits_50 rfl rfl ?_
        refine am_imulC d_M_fits_51 ?_
        refine am_iload_n d_M_fits_52 rfl rfl ?_
        refine am_iaddN d_M_fits_53 ?_
        refine am_ialdA d_M_fits_54 rfl (by omega) (by decide) ?_
        refine am_ialdA d_M_fits_55 rfl (by omega) (by decide) ?_
        refine am_icmpN_ne (tgt := 63) d_M_fits_56 (by decide) (by omega) (by omega) (fun c56 => ?_) (fun c56 => ?_)
        · refine am_iconst (v := zI false) d_M_fits_63 (by decide) ?_
          refine am_istore d_M_fits_64 (by decide) ?_
          refine am_iinc d_M_fits_66 rfl (am_inc _) (by decide) ?_
          refine am_goto (tgt := 20) d_M_fits_69 (by decide) ?_
          exact am_lo (L' := [(0, .ref 30), (1, .int (nI j)), (2, .int (zI a)), (3, .int (nI k)), (4, .int (zI false)), (5, .int (nI (m + 1)))]) rfl (am_lq (L2 := [(0, .ref 30), (1, .int (nI j)), (2, .int (zI a)), (3, .int (nI k)), (4, .int (zI (sp_has (sh_kd S) (m + 1) (sh_sk S (sh_sa S (j * 4 + k)))))), (5, .int (nI (m + 1)))]) (by rw [sp_has_s, c31, Bool.false_or, beq_false_of_ne c56]) (ih (m + 1) (by omega) (by omega)))
        · refine am_iconst (v := zI true) d_M_fits_59 (by decide) ?_
          refine am_goto (tgt := 64) d_M_fits_60 (by decide) ?_
          refine am_istore d_M_fits_64 (by decide) ?_
          refine am_iinc d_M_fits_66 rfl (am_inc _) (by decide) ?_
          refine am_goto (tgt := 20) d_M_fits_69 (by decide) ?_
          exact am_lo (L' := [(0, .ref 30), (1, .int (nI j)), (2, .int (zI a)), (3, .int (nI k)), (4, .int (zI true)), (5, .int (nI (m + 1)))]) rfl (am_lq (L2 := [(0, .ref 30), (1, .int (nI j)), (2, .int (zI a)), (3, .int (nI k)), (4, .int (zI (sp_has (sh_kd S) (m + 1) (sh_sk S (sh_sa S (j * 4 + k)))))), (5, .int (nI (m + 1)))]) (by rw [sp_has_s, c31, c56, Bool.false_or, beq_self_eq_true]) (ih (m + 1) (by omega) (by omega)))
set_option maxRecDepth 20000 in
theorem c_M_fits_o (hS : sh_ok S) (d bc bs j : Nat) (hj : j < 6) : ∀ (n k : Nat), k ≤ sh_so S j → sh_so S j - k < n →
    am_W G m_M_fits d bc bs (fun o h' => o = .inl (some (.int (zI (sp_fits S j)))) ∧ h' = (hm A S jo M V)) 4 [(0, .ref 30), (1, .int (nI j)), (2, .int (zI (sp_fit S j k))), (3, .int (nI k))] [] (hm A S jo M V) := by
  intro n
  obtain ⟨s1, s2, s3, s4, s5, s6, s7, s8, s9, s10, s11, s12, s13, s14⟩ := id hS
  have t10 := s10 j
  induction n with
  | zero => intro i _ h; omega
  | succ n ih =>
    intro k hi hn
    refine am_iload_n d_M_fits_4 rfl rfl ?_
    refine am_aload_n d_M_fits_5 rfl rfl ?_
    refine am_get F_M 9 (by decide) d_M_fits_6 w_659 rfl rfl ?_
    refine am_iload_n d_M_fits_9 rfl rfl ?_
    refine am_ialdA d_M_fits_10 rfl (by omega) (by decide) ?_
    refine am_icmpN_ge (tgt := 93) d_M_fits_11 (by decide) (by omega) (by omega) (fun c11 => ?_) (fun c11 => ?_)
    · refine am_iload_n d_M_fits_93 rfl rfl ?_
      refine am_zret d_M_fits_94 rfl (zI_n _) ?_
      have e : k = sh_so S j := by omega
      subst e
      exact ⟨rfl, rfl⟩
    · refine am_iconst (v := zI false) d_M_fits_14 (by decide) ?_
      refine am_istore d_M_fits_15 (by decide) ?_
      refine am_iconst (v := nI 0) d_M_fits_17 (by decide) ?_
      refine am_istore d_M_fits_18 (by decide) ?_
      refine am_lo (L' := [(0, .ref 30), (1, .int (nI j)), (2, .int (zI (sp_fit S j k))), (3, .int (nI k)), (4, .int (zI false)), (5, .int (nI 0))]) rfl (c_M_fits_i hS d bc bs j k (sp_fit S j k) hj (by omega) ?_ (sh_mc S + 1) 0 (Nat.zero_le _) (by omega))
      refine am_iload_n d_M_fits_72 rfl rfl ?_
      refine am_ifZ_eq (tgt := 85) d_M_fits_73 (by decide) (fun c73 => ?_) (fun c73 => ?_)
      · refine am_iconst (v := zI false) d_M_fits_85 (by decide) ?_
        refine am_istore_n d_M_fits_86 rfl (by decide) ?_
        refine am_iinc d_M_fits_87 rfl (am_inc _) (by decide) ?_
        refine am_goto (tgt := 4) d_M_fits_90 (by decide) ?_
        exact am_lo (L' := [(0, .ref 30), (1, .int (nI j)), (2, .int (zI false)), (3, .int (nI (k + 1)))]) rfl (am_lq (L2 := [(0, .ref 30), (1, .int (nI j)), (2, .int (zI (sp_fit S j (k + 1)))), (3, .int (nI (k + 1)))]) (by rw [sp_fit, c73, Bool.false_and]) (ih (k + 1) (by omega) (by omega)))
      · refine am_iload d_M_fits_76 rfl ?_
        refine am_ifZ_eq (tgt := 85) d_M_fits_78 (by decide) (fun c78 => ?_) (fun c78 => ?_)
        · refine am_iconst (v := zI false) d_M_fits_85 (by decide) ?_
          refine am_istore_n d_M_fits_86 rfl (by decide) ?_
          refine am_iinc d_M_fits_87 rfl (am_inc _) (by decide) ?_
          refine am_goto (tgt := 4) d_M_fits_90 (by decide) ?_
          exact am_lo (L' := [(0, .ref 30), (1, .int (nI j)), (2, .int (zI false)), (3, .int (nI (k + 1)))]) rfl (am_lq (L2 := [(0, .ref 30), (1, .int (nI j)), (2, .int (zI (sp_fit S j (k + 1)))), (3, .int (nI (k + 1)))]) (by rw [sp_fit, c73, c78, Bool.true_and]) (ih (k + 1) (by omega) (by omega)))
        · refine am_iconst (v := zI true) d_M_fits_81 (by decide) ?_
          refine am_goto (tgt := 86) d_M_fits_82 (by decide) ?_
          refine am_istore_n d_M_fits_86 rfl (by decide) ?_
          refine am_iinc d_M_fits_87 rfl (am_inc _) (by decide) ?_
          refine am_goto (tgt := 4) d_M_fits_90 (by decide) ?_
          exact am_lo (L' := [(0, .ref 30), (1, .int (nI j)), (2, .int (zI true)), (3, .int (nI (k + 1)))]) rfl (am_lq (L2 := [(0, .ref 30), (1, .int (nI j)), (2, .int (zI (sp_fit S j (k + 1)))), (3, .int (nI (k + 1)))]) (by rw [sp_fit, c73, c78, Bool.true_and]) (ih (k + 1) (by omega) (by omega)))
theorem c_M_fits (hS : sh_ok S) (d bc bs j : Nat) (hj : j < 6) : am_Fn G m_M_fits d bc bs [.ref 30, .int (nI j)] (hm A S jo M V) (some (.int (zI (sp_fits S j)))) (hm A S jo M V) := by
  refine am_iconst (v := zI true) d_M_fits_0 (by decide) ?_
  refine am_istore_n d_M_fits_1 rfl (by decide) ?_
  refine am_iconst (v := nI 0) d_M_fits_2 (by decide) ?_
  refine am_istore_n d_M_fits_3 rfl (by decide) ?_
  exact am_lo (L' := [(0, .ref 30), (1, .int (nI j)), (2, .int (zI true)), (3, .int (nI 0))]) rfl (c_M_fits_o hS d bc bs j hj (sh_so S j + 1) 0 (Nat.zero_le _) (by omega))
set_option maxRecDepth 20000 in
theorem c_M_allFit_o (hS : sh_ok S) (d bc bs : Nat) : ∀ (n i : Nat), i ≤ sh_jb S → sh_jb S - i < n →
    am_W G m_M_allFit (d + 1) bc bs (fun o h' => o = .inl (some (.int (zI (sp_all S (sh_jb S))))) ∧ h' = (hm A S jo M V)) 4 [(0, .ref 30), (1, .int (zI (sp_all S i))), (2, .int (nI i))] [] (hm A S jo M V) := by
  intro n
  have s2 := hS.2.1
  induction n with
  | zero => intro i _ h; omega
  | succ n ih =>
    intro i hi hn
    refine am_iload_n d_M_allFit_4 rfl rfl ?_
    refine am_aload_n d_M_allFit_5 rfl rfl ?_
    refine am_get F_M 6 (by decide) d_M_allFit_6 w_656 rfl rfl ?_
    refine am_icmpN_ge (tgt := 36) d_M_allFit_9 (by decide) (by omega) (by omega) (fun c9 => ?_) (fun c9 => ?_)
    · refine am_iload_n d_M_allFit_36 rfl rfl ?_
      refine am_zret d_M_allFit_37 rfl (zI_n _) ?_
      have e : i = sh_jb S := by omega
      subst e
      exact ⟨rfl, rfl⟩
    · refine am_iload_n d_M_allFit_12 rfl rfl ?_
      refine am_ifZ_eq (tgt := 28) d_M_allFit_13 (by decide) (fun c13 => ?_) (fun c13 => ?_)
      · refine am_iconst (v := zI false) d_M_allFit_28 (by decide) ?_
        refine am_istore_n d_M_allFit_29 rfl (by decide) ?_
        refine am_iinc d_M_allFit_30 rfl (am_inc _) (by decide) ?_
        refine am_goto (tgt := 4) d_M_allFit_33 (by decide) ?_
        exact am_lo (L' := [(0, .ref 30), (1, .int (zI false)), (2, .int (nI (i + 1)))]) rfl (am_lq (L2 := [(0, .ref 30), (1, .int (zI (sp_all S (i + 1)))), (2, .int (nI (i + 1)))]) (by rw [sp_all, c13, Bool.false_and]) (ih (i + 1) (by omega) (by omega)))
      · refine am_aload_n d_M_allFit_16 rfl rfl ?_
        refine am_iload_n d_M_allFit_17 rfl rfl ?_
        refine am_callF 2 (am_recvV (z := m_M_fits) rfl d_M_allFit_18 w_788 w_790 ws_19 w_791 F_M.1 rfl (by decide) np_M_fits) (by decide) (by decide) (Nat.le_of_ble_eq_true rfl) (Nat.le_of_ble_eq_true rfl) (Nat.zero_le _) (Nat.zero_le _) (c_M_fits hS _ _ _ i (by omega)) ?_
        refine am_ifZ_eq (tgt := 28) d_M_allFit_21 (by decide) (fun c21 => ?_) (fun c21 => ?_)
        · refine am_iconst (v := zI false) d_M_allFit_28 (by decide) ?_
          refine am_istore_n d_M_allFit_29 rfl (by decide) ?_
          refine am_iinc d_M_allFit_30 rfl (am_inc _) (by decide) ?_
          refine am_goto (tgt := 4) d_M_allFit_33 (by decide) ?_
          exact am_lo (L' := [(0, .ref 30), (1, .int (zI false)), (2, .int (nI (i + 1)))]) rfl (am_lq (L2 := [(0, .ref 30), (1, .int (zI (sp_all S (i + 1)))), (2, .int (nI (i + 1)))]) (by rw [sp_all, c13, c21, Bool.true_and]) (ih (i + 1) (by omega) (by omega)))
        · refine am_iconst (v := zI true) d_M_allFit_24 (by decide) ?_
          refine am_goto (tgt := 29) d_M_allFit_25 (by decide) ?_
          refine am_istore_n d_M_allFit_29 rfl (by decide) ?_
          refine am_iinc d_M_allFit_30 rfl (am_inc _) (by decide) ?_
          refine am_goto (tgt := 4) d_M_allFit_33 (by decide) ?_
          exact am_lo (L' := [(0, .ref 30), (1, .int (zI true)), (2, .int (nI (i + 1)))]) rfl (am_lq (L2 := [(0, .ref 30), (1, .int (zI (sp_all S (i + 1)))), (2, .int (nI (i + 1)))]) (by rw [sp_all, c13, c21, Bool.true_and]) (ih (i + 1) (by omega) (by omega)))
theorem c_M_allFit (hS : sh_ok S) (d bc bs : Nat) : am_Fn G m_M_allFit (d + 1) bc bs [.ref 30] (hm A S jo M V) (some (.int (zI (sp_all S (sh_jb S))))) (hm A S jo M V) := by
  refine am_iconst (v := zI true) d_M_allFit_0 (by decide) ?_
  refine am_istore_n d_M_allFit_1 rfl (by decide) ?_
  refine am_iconst (v := nI 0) d_M_allFit_2 (by decide) ?_
  refine am_istore_n d_M_allFit_3 rfl (by decide) ?_
  exact am_lo (L' := [(0, .ref 30), (1, .int (zI true)), (2, .int (nI 0))]) rfl (c_M_allFit_o hS d bc bs (sh_jb S + 1) 0 (Nat.zero_le _) (by have := hS.2.1; omega))
theorem c_M_costOf (hS : sh_ok S) (d bc bs j e : Nat) (hj : j < 6) (he : e < 2 ^ 31) : am_Fn G m_M_costOf d bc bs [.ref 30, .int (nI j), .int (nI e)] (hm A S jo M V) (some (.long (lN ((e - sh_du S j) * sh_we S j)))) (hm A S jo M V) := by
  have t8 := hS.2.2.2.2.2.2.2.1 j
  have t9 := hS.2.2.2.2.2.2.2.2.1 j
  refine am_iload_n d_M_costOf_0 rfl rfl ?_
  refine am_aload_n d_M_costOf_1 rfl rfl ?_
  refine am_get F_M 7 (by decide) d_M_costOf_2 w_657 rfl rfl ?_
  refine am_iload_n d_M_costOf_5 rfl rfl ?_
  refine am_ialdA d_M_costOf_6 rfl (by omega) (by decide) ?_
  refine am_icmpN_le (tgt := 30) d_M_costOf_7 (by decide) (by omega) (by omega) (fun c7 => ?_) (fun c7 => ?_)
  · refine am_lconst (v := lN 0) d_M_costOf_30 rfl ?_
    refine am_lret d_M_costOf_31 rfl ?_
    exact ⟨by rw [show e - sh_du S j = 0 by omega, Nat.zero_mul], rfl⟩
  · refine am_aload_n d_M_costOf_10 rfl rfl ?_
    refine am_get F_M 8 (by decide) d_M_costOf_11 w_658 rfl rfl ?_
    refine am_iload_n d_M_costOf_14 rfl rfl ?_
    refine am_ialdA d_M_costOf_15 rfl (by omega) (by decide) ?_
    refine am_i2lN d_M_costOf_16 (by omega) ?_
    refine am_iload_n d_M_costOf_17 rfl rfl ?_
    refine am_aload_n d_M_costOf_18 rfl rfl ?_
    refine am_get F_M 7 (by decide) d_M_costOf_19 w_657 rfl rfl ?_
    refine am_iload_n d_M_costOf_22 rfl rfl ?_
    refine am_ialdA d_M_costOf_23 rfl (by omega) (by decide) ?_
    refine am_isubN d_M_costOf_24 (by omega) ?_
    refine am_i2lN d_M_costOf_25 (by omega) ?_
    refine am_lmulN d_M_costOf_26 ?_
    refine am_goto (tgt := 31) d_M_costOf_27 (by decide) ?_
    refine am_lret d_M_costOf_31 rfl ?_
    exact ⟨by rw [Nat.mul_comm], rfl⟩
/-- the first n are none -/
def cl_f (g : Nat → Int32) : Nat → Nat → Int32
  | 0 => g
  | n + 1 => upd (cl_f g n) n (-1)
theorem cl_f_lt {g : Nat → Int32} : ∀ {n k}, k < n → cl_f g n k = -1
  | 0, k, h => absurd h (Nat.not_lt_zero k)
  | n + 1, k, h => by
    unfold cl_f upd
    by_cases e : k = n
    · rw [if_pos e]
    · rw [if_neg e]; exact cl_f_lt (by omega)
set_option maxRecDepth 20000 in
theorem c_M_clearBoard_l (d bc bs : Nat) : ∀ (n i : Nat), i ≤ 24 → 24 - i < n →
    am_W G m_M_clearBoard d bc bs (fun o h' => o = .inl none ∧ h' = (hm A S jo (mo_cd M, mo_xx M, (fun _ => -1), (fun _ => -1), mo_pd M, mo_fr M, mo_pj M, mo_pn M, mo_ph M, mo_pm M, mo_wh M, mo_wm M, mo_co M, mo_bo M, mo_no M, mo_ch M, mo_ro M, mo_tr M, mo_us M) V)) 2 [(0, .ref 30), (1, .int (nI i))] [] (hm A S jo (mo_cd M, mo_xx M, (cl_f (mo_hr M) i), (cl_f (mo_mh M) i), mo_pd M, mo_fr M, mo_pj M, mo_pn M, mo_ph M, mo_pm M, mo_wh M, mo_wm M, mo_co M, mo_bo M, mo_no M, mo_ch M, mo_ro M, mo_tr M, mo_us M) V) := by
  intro n
  induction n with
  | zero => intro i _ h; omega
  | succ n ih =>
    intro i hi hn
    refine am_iload_n d_M_clearBoard_2 rfl rfl ?_
    refine am_bipush (v := nI 24) d_M_clearBoard_3 (by decide) ?_
    refine am_icmpN_ge (tgt := 28) d_M_clearBoard_5 (by decide) (by omega) (by omega) (fun c5 => ?_) (fun c5 => ?_)
    · have e : i = 24 := by omega
      subst e
      refine am_cell (a := 42) (fun _ => -1) rfl (fun j hj => cl_f_lt hj) ?_
      refine am_cell (a := 43) (fun _ => -1) rfl (fun j hj => cl_f_lt hj) ?_
      refine am_vret d_M_clearBoard_28 rfl ?_
      exact ⟨rfl, rfl⟩
    · refine am_aload_n d_M_clearBoard_8 rfl rfl ?_
      refine am_get F_M 17 (by decide) d_M_clearBoard_9 w_667 rfl rfl ?_
      refine am_iload_n d_M_clearBoard_12 rfl rfl ?_
      refine am_iconst (v := -1) d_M_clearBoard_13 (by decide) ?_
      refine am_iastN _ d_M_clearBoard_14 rfl rfl (by omega) (by decide) ?_
      refine am_aload_n d_M_clearBoard_15 rfl rfl ?_
      refine am_get F_M 18 (by decide) d_M_clearBoard_16 w_668 rfl rfl ?_
      refine am_iload_n d_M_clearBoard_19 rfl rfl ?_
      refine am_iconst (v := -1) d_M_clearBoard_20 (by decide) ?_
      refine am_iastN _ d_M_clearBoard_21 rfl rfl (by omega) (by decide) ?_
      refine am_iinc d_M_clearBoard_22 rfl (am_inc _) (by decide) ?_
      refine am_goto (tgt := 2) d_M_clearBoard_25 (by decide) ?_
      exact am_lo (L' := [(0, .ref 30), (1, .int (nI (i + 1)))]) rfl (ih (i + 1) (by omega) (by omega))
theorem c_M_clearBoard (d bc bs : Nat) : am_Fn G m_M_clearBoard d bc bs [.ref 30] (hm A S jo M V) none (hm A S jo (mo_cd M, mo_xx M, (fun _ => -1), (fun _ => -1), mo_pd M, mo_fr M, mo_pj M, mo_pn M, mo_ph M, mo_pm M, mo_wh M, mo_wm M, mo_co M, mo_bo M, mo_no M, mo_ch M, mo_ro M, mo_tr M, mo_us M) V) := by
  refine am_iconst (v := nI 0) d_M_clearBoard_0 (by decide) ?_
  refine am_istore_n d_M_clearBoard_1 rfl (by decide) ?_
  exact am_lo (L' := [(0, .ref 30), (1, .int (nI 0))]) rfl (c_M_clearBoard_l d bc bs 25 0 (Nat.zero_le _) (by omega))
theorem mm_pass_no {fr to : Nat → Nat} {n i h : Nat} (c : ¬ ((mm_pass fr to n i h).1 < to i ∧ fr i < (mm_pass fr to n i h).1 + n)) : mm_pass fr to n (i + 1) h = mm_pass fr to n i h := by rw [mm_pass, if_neg c]
theorem mm_pass_yes {fr to : Nat → Nat} {n i h : Nat} (c : (mm_pass fr to n i h).1 < to i ∧ fr i < (mm_pass fr to n i h).1 + n) : mm_pass fr to n (i + 1) h = (to i, true) := by rw [mm_pass, if_pos c]
theorem sp_meets_t {a b c e : Nat} (h : sp_meets a b c e = true) : a < e ∧ c < b := by
  unfold sp_meets at h
  rw [Bool.and_eq_true, decide_eq_true_iff, decide_eq_true_iff] at h
  exact h
theorem sp_meets_f {a b c e : Nat} (h : sp_meets a b c e = false) : ¬ (a < e ∧ c < b) := by
  intro q
  unfold sp_meets at h
  rw [decide_eq_true q.1, decide_eq_true q.2] at h
  cases h
theorem bd_to_bd {S : sh_T} {f : fl_T} {D : Nat → Bool} {m B : Nat} (hS : sh_ok S) (hB : ∀ s, s < sh_ss S → D s = true → fl_bg f s ≤ B ∧ fl_ma f s < sh_mc S) (h2 : 2000 ≤ B) (i : Nat) : bd_to S f D m i ≤ B + 100 ∧ bd_fr S f D m i ≤ B + 100 := by
  have t6 := hS.2.2.2.2.2.1 (m * 8 + (i - sh_ss S))
  have t7 := hS.2.2.2.2.2.2.1 (m * 8 + (i - sh_ss S))
  have t13 := hS.2.2.2.2.2.2.2.2.2.2.2.2.1 i
  unfold bd_to bd_fr
  by_cases hs : i < sh_ss S
  · rw [if_pos hs, if_pos hs]
    by_cases hc : D i = true ∧ fl_ma f i = m
    · rw [if_pos hc, if_pos hc]
      have := (hB i hs hc.1).1
      omega
    · rw [if_neg hc, if_neg hc]; omega
  · rw [if_neg hs, if_neg hs]; omega
set_option maxRecDepth 20000 in
theorem c_M_freeFrom_1 {f : fl_T} {D : Nat → Bool} {Q : am_O → am_H → Prop} (hS : sh_ok S) (d bc bs m r n h0 B : Nat) (hmc : m < sh_mc S) (hn : n ≤ 100) (hh0 : h0 ≤ B + 100) (hB : ∀ s, s < sh_ss S → D s = true → fl_bg f s ≤ B ∧ fl_ma f s < sh_mc S) (hB2 : 2000 ≤ B) (hB9 : B ≤ 900000)
    (hk : am_W G m_M_freeFrom (d + 1) bc bs Q 97 [(0, .ref 30), (1, .int (nI m)), (2, .int (nI r)), (3, .int (nI n)), (4, .int (nI (mm_pass (bd_fr S f D m) (bd_to S f D m) n (sh_ss S) h0).1)), (5, .int (zI (mm_pass (bd_fr S f D m) (bd_to S f D m) n (sh_ss S) h0).2)), (6, .int (nI (sh_ss S)))] [] (hm A S jo (mo_cd M, mo_xx M, (bd_h f D), (bd_m f D), mo_pd M, mo_fr M, mo_pj M, mo_pn M, mo_ph M, mo_pm M, mo_wh M, mo_wm M, mo_co M, mo_bo M, mo_no M, mo_ch M, mo_ro M, mo_tr M, mo_us M) V)) : ∀ (g i : Nat), i ≤ sh_ss S → sh_ss S - i < g →
    am_W G m_M_freeFrom (d + 1) bc bs Q 17 [(0, .ref 30), (1, .int (nI m)), (2, .int (nI r)), (3, .int (nI n)), (4, .int (nI (mm_pass (bd_fr S f D m) (bd_to S f D m) n i h0).1)), (5, .int (zI (mm_pass (bd_fr S f D m) (bd_to S f D m) n i h0).2)), (6, .int (nI i))] [] (hm A S jo (mo_cd M, mo_xx M, (bd_h f D), (bd_m f D), mo_pd M, mo_fr M, mo_pj M, mo_pn M, mo_ph M, mo_pm M, mo_wh M, mo_wm M, mo_co M, mo_bo M, mo_no M, mo_ch M, mo_ro M, mo_tr M, mo_us M) V) := by
  intro g
  obtain ⟨s1, s2, s3, s4, s5, s6, s7, s8, s9, s10, s11, s12, s13, s14⟩ := id hS
  induction g with
  | zero => intro i _ h; omega
  | succ g ih =>
    intro i hi hg
    have hpb := mm_pass_bd (bd_fr S f D m) (bd_to S f D m) n h0 (B + 100) hh0 i (fun k _ => (bd_to_bd hS hB hB2 k).1)
    refine am_iload d_M_freeFrom_17 rfl ?_
    refine am_aload_n d_M_freeFrom_19 rfl rfl ?_
    refine am_get F_M 11 (by decide) d_M_freeFrom_20 w_661 rfl rfl ?_
    refine am_icmpN_ge (tgt := 97) d_M_freeFrom_23 (by decide) (by omega) (by omega) (fun c23 => ?_) (fun c23 => ?_)
    · have e : i = sh_ss S := by omega
      subst e
      exact hk
    · have hskip : ¬ bd_m f D i = nI m → ¬ ((mm_pass (bd_fr S f D m) (bd_to S f D m) n i h0).1 < bd_to S f D m i ∧ bd_fr S f D m i < (mm_pass (bd_fr S f D m) (bd_to S f D m) n i h0).1 + n) := fun c => by
        have hne : ¬ (D i = true ∧ fl_ma f i = m) := fun q => c (by unfold bd_m; rw [if_pos q.1, q.2])
        unfold bd_to; rw [if_pos (by omega), if_neg hne]; omega
      have hhit : bd_m f D i = nI m → D i = true ∧ fl_ma f i = m := fun c => by
        unfold bd_m at c
        cases hDi : D i with
        | false => rw [hDi, if_neg (by decide)] at c; exact absurd c.symm (nI_m1 (by omega))
        | true => rw [hDi, if_pos rfl] at c; exact ⟨rfl, nI_inj (by have := (hB i (by omega) hDi).2; omega) (by omega) c⟩
      refine am_aload_n d_M_freeFrom_26 rfl rfl ?_
      refine am_get F_M 18 (by decide) d_M_freeFrom_27 w_668 rfl rfl ?_
      refine am_iload d_M_freeFrom_30 rfl ?_
      refine am_ialdN i d_M_freeFrom_32 rfl rfl (by omega) (by decide) ?_
      refine am_iload_n d_M_freeFrom_33 rfl rfl ?_
      refine am_icmp_ne (tgt := 91) d_M_freeFrom_34 (by decide) (fun c34 => ?_) (fun c34 => ?_)
      · refine am_iinc d_M_freeFrom_91 rfl (am_inc _) (by decide) ?_
        refine am_goto (tgt := 17) d_M_freeFrom_94 (by decide) ?_
        exact am_lo (L' := [(0, .ref 30), (1, .int (nI m)), (2, .int (nI r)), (3, .int (nI n)), (4, .int (nI (mm_pass (bd_fr S f D m) (bd_to S f D m) n i h0).1)), (5, .int (zI (mm_pass (bd_fr S f D m) (bd_to S f D m) n i h0).2)), (6, .int (nI (i + 1)))]) rfl (am_lq (L2 := [(0, .ref 30), (1, .int (nI m)), (2, .int (nI r)), (3, .int (nI n)), (4, .int (nI (mm_pass (bd_fr S f D m) (bd_to S f D m) n (i + 1) h0).1)), (5, .int (zI (mm_pass (bd_fr S f D m) (bd_to S f D m) n (i + 1) h0).2)), (6, .int (nI (i + 1)))]) (by rw [mm_pass_no (hskip c34)]) (ih (i + 1) (by omega) (by omega)))
      · obtain ⟨hDi, hmi⟩ := hhit c34
        have hBi := (hB i (by omega) hDi).1
        have t13 := s13 i
        have hbh : bd_h f D i = nI (fl_bg f i) := if_pos hDi
        have hto : bd_to S f D m i = fl_bg f i + sh_sh S i := by unfold bd_to; rw [if_pos (by omega), if_pos ⟨hDi, hmi⟩]
        have hfr : bd_fr S f D m i = fl_bg f i := by unfold bd_fr; rw [if_pos (by omega), if_pos ⟨hDi, hmi⟩]
        refine am_iload d_M_freeFrom_37 rfl ?_
        refine am_iload d_M_freeFrom_39 rfl ?_
        refine am_iload_n d_M_freeFrom_41 rfl rfl ?_
        refine am_iaddN d_M_freeFrom_42 ?_
        refine am_aload_n d_M_freeFrom_43 rfl rfl ?_
        refine am_get F_M 17 (by decide) d_M_freeFrom_44 w_667 rfl rfl ?_
        refine am_iload d_M_freeFrom_47 rfl ?_
        refine am_ialdN i d_M_freeFrom_49 rfl rfl (by omega) (by decide) ?_
        refine am_sv (congrArg Value.int hbh) ?_
        refine am_aload_n d_M_freeFrom_50 rfl rfl ?_
        refine am_get F_M 17 (by decide) d_M_freeFrom_51 w_667 rfl rfl ?_
        refine am_iload d_M_freeFrom_54 rfl ?_
        refine am_ialdN i d_M_freeFrom_56 rfl rfl (by omega) (by decide) ?_
        refine am_sv (congrArg Value.int hbh) ?_
        refine am_aload_n d_M_freeFrom_57 rfl rfl ?_
        refine am_get F_M 14 (by decide) d_M_freeFrom_58 w_664 rfl rfl ?_
        refine am_iload d_M_freeFrom_61 rfl ?_
        refine am_ialdA d_M_freeFrom_63 rfl (by omega) (by decide) ?_
        refine am_iaddN d_M_freeFrom_64 ?_
        refine am_callF 4 (am_lkS (z := m_M_meets) d_M_freeFrom_65 w_820 w_821 w_6 w_822 (by decide) np_M_meets) (by decide) (by decide) (Nat.le_of_ble_eq_true rfl) (Nat.le_of_ble_eq_true rfl) (Nat.zero_le _) (Nat.zero_le _) (c_M_meets _ _ _ _ _ _ _ (by omega) (by omega) (by omega) (by omega)) ?_
        refine am_ifZ_eq (tgt := 91) d_M_freeFrom_68 (by decide) (fun c68 => ?_) (fun c68 => ?_)
        · refine am_iinc d_M_freeFrom_91 rfl (am_inc _) (by decide) ?_
          refine am_goto (tgt := 17) d_M_freeFrom_94 (by decide) ?_
          exact am_lo (L' := [(0, .ref 30), (1, .int (nI m)), (2, .int (nI r)), (3, .int (nI n)), (4, .int (nI (mm_pass (bd_fr S f D m) (bd_to S f D m) n i h0).1)), (5, .int (zI (mm_pass (bd_fr S f D m) (bd_to S f D m) n i h0).2)), (6, .int (nI (i + 1)))]) rfl (am_lq (L2 := [(0, .ref 30), (1, .int (nI m)), (2, .int (nI r)), (3, .int (nI n)), (4, .int (nI (mm_pass (bd_fr S f D m) (bd_to S f D m) n (i + 1) h0).1)), (5, .int (zI (mm_pass (bd_fr S f D m) (bd_to S f D m) n (i + 1) h0).2)), (6, .int (nI (i + 1)))]) (by rw [mm_pass_no (by rw [hto, hfr]; exact sp_meets_f c68)]) (ih (i + 1) (by omega) (by omega)))
        · refine am_aload_n d_M_freeFrom_71 rfl rfl ?_
          refine am_get F_M 17 (by decide) d_M_freeFrom_72 w_667 rfl rfl ?_
          refine am_iload d_M_freeFrom_75 rfl ?_
          refine am_ialdN i d_M_freeFrom_77 rfl rfl (by omega) (by decide) ?_
          refine am_sv (congrArg Value.int hbh) ?_
          refine am_aload_n d_M_freeFrom_78 rfl rfl ?_
          refine am_get F_M 14 (by decide) d_M_freeFrom_79 w_664 rfl rfl ?_
          refine am_iload d_M_freeFrom_82 rfl ?_
          refine am_ialdA d_M_freeFrom_84 rfl (by omega) (by decide) ?_
          refine am_iaddN d_M_freeFrom_85 ?_
          refine am_istore d_M_freeFrom_86 (by decide) ?_
          refine am_iconst (v := zI true) d_M_freeFrom_88 (by decide) ?_
          refine am_istore d_M_freeFrom_89 (by decide) ?_
          refine am_iinc d_M_freeFrom_91 rfl (am_inc _) (by decide) ?_
          refine am_goto (tgt := 17) d_M_freeFrom_94 (by decide) ?_
          exact am_lo (L' := [(0, .ref 30), (1, .int (nI m)), (2, .int (nI r)), (3, .int (nI n)), (4, .int (nI (fl_bg f i + sh_sh S i))), (5, .int (zI true)), (6, .int (nI (i + 1)))]) rfl (am_lq (L2 := [(0, .ref 30), (1, .int (nI m)), (2, .int (nI r)), (3, .int (nI n)), (4, .int (nI (mm_pass (bd_fr S f D m) (bd_to S f D m) n (i + 1) h0).1)), (5, .int (zI (mm_pass (bd_fr S f D m) (bd_to S f D m) n (i + 1) h0).2)), (6, .int (nI (i + 1)))]) (by rw [mm_pass_yes (by rw [hto, hfr]; exact sp_meets_t c68), hto]) (ih (i + 1) (by omega) (by omega)))
set_option maxRecDepth 20000 in
theorem c_M_freeFrom_2 {f : fl_T} {D : Nat → Bool} {Q : am_O → am_H → Prop} (hS : sh_ok S) (d bc bs m r n h0 B : Nat) (hmc : m < sh_mc S) (hn : n ≤ 100) (hh0 : h0 ≤ B + 100) (hB : ∀ s, s < sh_ss S → D s = true → fl_bg f s ≤ B ∧ fl_ma f s < sh_mc S) (hB2 : 2000 ≤ B) (hB9 : B ≤ 900000)
    (hk : am_W G m_M_freeFrom (d + 1) bc bs Q 163 [(0, .ref 30), (1, .int (nI m)), (2, .int (nI r)), (3, .int (nI n)), (4, .int (nI (mm_pass (bd_fr S f D m) (bd_to S f D m) n (sh_ss S + sh_sp S m) h0).1)), (5, .int (zI (mm_pass (bd_fr S f D m) (bd_to S f D m) n (sh_ss S + sh_sp S m) h0).2))] [] (hm A S jo (mo_cd M, mo_xx M, (bd_h f D), (bd_m f D), mo_pd M, mo_fr M, mo_pj M, mo_pn M, mo_ph M, mo_pm M, mo_wh M, mo_wm M, mo_co M, mo_bo M, mo_no M, mo_ch M, mo_ro M, mo_tr M, mo_us M) V)) : ∀ (g i : Nat), i ≤ sh_sp S m → sh_sp S m - i < g →
    am_W G m_M_freeFrom (d + 1) bc bs Q 103 [(0, .ref 30), (1, .int (nI m)), (2, .int (nI r)), (3, .int (nI n)), (4, .int (nI (mm_pass (bd_fr S f D m) (bd_to S f D m) n (sh_ss S + i) h0).1)), (5, .int (zI (mm_pass (bd_fr S f D m) (bd_to S f D m) n (sh_ss S + i) h0).2)), (6, .int (nI (m * 8 + i)))] [] (hm A S jo (mo_cd M, mo_xx M, (bd_h f D), (bd_m f D), mo_pd M, mo_fr M, mo_pj M, mo_pn M, mo_ph M, mo_pm M, mo_wh M, mo_wm M, mo_co M, mo_bo M, mo_no M, mo_ch M, mo_ro M, mo_tr M, mo_us M) V) := by
  intro g
  obtain ⟨s1, s2, s3, s4, s5, s6, s7, s8, s9, s10, s11, s12, s13, s14⟩ := id hS
  have t5 := s5 m
  induction g with
  | zero => intro i _ h; omega
  | succ g ih =>
    intro i hi hg
    have hpb := mm_pass_bd (bd_fr S f D m) (bd_to S f D m) n h0 (B + 100) hh0 (sh_ss S + i) (fun k _ => (bd_to_bd hS hB hB2 k).1)
    refine am_iload d_M_freeFrom_103 rfl ?_
    refine am_bipush (v := nI 8) d_M_freeFrom_105 (by decide) ?_
    refine am_iload_n d_M_freeFrom_107 rfl rfl ?_
    refine am_imulC d_M_freeFrom_108 ?_
    refine am_aload_n d_M_freeFrom_109 rfl rfl ?_
    refine am_get F_M 3 (by decide) d_M_freeFrom_110 w_653 rfl rfl ?_
    refine am_iload_n d_M_freeFrom_113 rfl rfl ?_
    refine am_ialdA d_M_freeFrom_114 rfl (by omega) (by decide) ?_
    refine am_iaddN d_M_freeFrom_115 ?_
    refine am_icmpN_ge (tgt := 163) d_M_freeFrom_116 (by decide) (by omega) (by omega) (fun c116 => ?_) (fun c116 => ?_)
    · have e : i = sh_sp S m := by omega
      subst e
      exact am_lo (L' := [(0, .ref 30), (1, .int (nI m)), (2, .int (nI r)), (3, .int (nI n)), (4, .int (nI (mm_pass (bd_fr S f D m) (bd_to S f D m) n (sh_ss S + sh_sp S m) h0).1)), (5, .int (zI (mm_pass (bd_fr S f D m) (bd_to S f D m) n (sh_ss S + sh_sp S m) h0).2))]) rfl hk
    · have t6 := s6 (m * 8 + i)
      have t7 := s7 (m * 8 + i)
      have hto : bd_to S f D m (sh_ss S + i) = sh_st S (m * 8 + i) := by unfold bd_to; rw [if_neg (by omega), Nat.add_sub_cancel_left]
      have hfr : bd_fr S f D m (sh_ss S + i) = sh_sf S (m * 8 + i) := by unfold bd_fr; rw [if_neg (by omega), Nat.add_sub_cancel_left]
      refine am_iload d_M_freeFrom_119 rfl ?_
      refine am_iload d_M_freeFrom_121 rfl ?_
      refine am_iload_n d_M_freeFrom_123 rfl rfl ?_
      refine am_iaddN d_M_freeFrom_124 ?_
      refine am_aload_n d_M_freeFrom_125 rfl rfl ?_
      refine am_get F_M 4 (by decide) d_M_freeFrom_126 w_654 rfl rfl ?_
      refine am_iload d_M_freeFrom_129 rfl ?_
      refine am_ialdA d_M_freeFrom_131 rfl (by omega) (by decide) ?_
      refine am_aload_n d_M_freeFrom_132 rfl rfl ?_
      refine am_get F_M 5 (by decide) d_M_freeFrom_133 w_655 rfl rfl ?_
      refine am_iload d_M_freeFrom_136 rfl ?_
      refine am_ialdA d_M_freeFrom_138 rfl (by omega) (by decide) ?_
      refine am_callF 4 (am_lkS (z := m_M_meets) d_M_freeFrom_139 w_820 w_821 w_6 w_822 (by decide) np_M_meets) (by decide) (by decide) (Nat.le_of_ble_eq_true rfl) (Nat.le_of_ble_eq_true rfl) (Nat.zero_le _) (Nat.zero_le _) (c_M_meets _ _ _ _ _ _ _ (by omega) (by omega) (by omega) (by omega)) ?_
      refine am_ifZ_eq (tgt := 157) d_M_freeFrom_142 (by decide) (fun c142 => ?_) (fun c142 => ?_)
      · refine am_iinc d_M_freeFrom_157 rfl (am_inc _) (by decide) ?_
        refine am_goto (tgt := 103) d_M_freeFrom_160 (by decide) ?_
        exact am_lo (L' := [(0, .ref 30), (1, .int (nI m)), (2, .int (nI r)), (3, .int (nI n)), (4, .int (nI (mm_pass (bd_fr S f D m) (bd_to S f D m) n (sh_ss S + i) h0).1)), (5, .int (zI (mm_pass (bd_fr S f D m) (bd_to S f D m) n (sh_ss S + i) h0).2)), (6, .int (nI (m * 8 + (i + 1))))]) rfl (am_lq (L2 := [(0, .ref 30), (1, .int (nI m)), (2, .int (nI r)), (3, .int (nI n)), (4, .int (nI (mm_pass (bd_fr S f D m) (bd_to S f D m) n (sh_ss S + i + 1) h0).1)), (5, .int (zI (mm_pass (bd_fr S f D m) (bd_to S f D m) n (sh_ss S + i + 1) h0).2)), (6, .int (nI (m * 8 + (i + 1))))]) (by rw [mm_pass_no (by rw [hto, hfr]; exact sp_meets_f c142)]) (ih (i + 1) (by omega) (by omega)))
      · refine am_aload_n d_M_freeFrom_145 rfl rfl ?_
        refine am_get F_M 5 (by decide) d_M_freeFrom_146 w_655 rfl rfl ?_
        refine am_iload d_M_freeFrom_149 rfl ?_
        refine am_ialdA d_M_freeFrom_151 rfl (by omega) (by decide) ?_
        refine am_istore d_M_freeFrom_152 (by decide) ?_
        refine am_iconst (v := zI true) d_M_freeFrom_154 (by decide) ?_
        refine am_istore d_M_freeFrom_155 (by decide) ?_
        refine am_iinc d_M_freeFrom_157 rfl (am_inc _) (by decide) ?_
        refine am_goto (tgt := 103) d_M_freeFrom_160 (by decide) ?_
        exact am_lo (L' := [(0, .ref 30), (1, .int (nI m)), (2, .int (nI r)), (3, .int (nI n)), (4, .int (nI (sh_st S (m * 8 + i)))), (5, .int (zI true)), (6, .int (nI (m * 8 + (i + 1))))]) rfl (am_lq (L2 := [(0, .ref 30), (1, .int (nI m)), (2, .int (nI r)), (3, .int (nI n)), (4, .int (nI (mm_pass (bd_fr S f D m) (bd_to S f D m) n (sh_ss S + i + 1) h0).1)), (5, .int (zI (mm_pass (bd_fr S f D m) (bd_to S f D m) n (sh_ss S + i + 1) h0).2)), (6, .int (nI (m * 8 + (i + 1))))]) (by rw [mm_pass_yes (by rw [hto, hfr]; exact sp_meets_t c142), hto]) (ih (i + 1) (by omega) (by omega)))
set_option maxRecDepth 20000 in
theorem c_M_freeFrom_3 {f : fl_T} {D : Nat → Bool} {Q : am_O → am_H → Prop} (hS : sh_ok S) (d bc bs m r n B : Nat) (hmc : m < sh_mc S) (hn : n ≤ 100) (hB : ∀ s, s < sh_ss S → D s = true → fl_bg f s ≤ B ∧ fl_ma f s < sh_mc S) (hB2 : 2000 ≤ B) (hB9 : B ≤ 900000) : ∀ (g h0 : Nat), h0 ≤ B + 100 → mm_left (bd_to S f D m) (sh_ss S + sh_sp S m) h0 < g →
    Q (.inl (some (.int (nI (mm_it (bd_fr S f D m) (bd_to S f D m) (sh_ss S + sh_sp S m) n g h0))))) (hm A S jo (mo_cd M, mo_xx M, (bd_h f D), (bd_m f D), mo_pd M, mo_fr M, mo_pj M, mo_pn M, mo_ph M, mo_pm M, mo_wh M, mo_wm M, mo_co M, mo_bo M, mo_no M, mo_ch M, mo_ro M, mo_tr M, mo_us M) V) → am_W G m_M_freeFrom (d + 1) bc bs Q 6 [(0, .ref 30), (1, .int (nI m)), (2, .int (nI r)), (3, .int (nI n)), (4, .int (nI h0)), (5, .int (zI true))] [] (hm A S jo (mo_cd M, mo_xx M, (bd_h f D), (bd_m f D), mo_pd M, mo_fr M, mo_pj M, mo_pn M, mo_ph M, mo_pm M, mo_wh M, mo_wm M, mo_co M, mo_bo M, mo_no M, mo_ch M, mo_ro M, mo_tr M, mo_us M) V) := by
  intro g
  obtain ⟨s1, s2, s3, s4, s5, s6, s7, s8, s9, s10, s11, s12, s13, s14⟩ := id hS
  have t5 := s5 m
  induction g with
  | zero => intro h0 _ h; omega
  | succ g ih =>
    intro h0 hh0 hg hq
    refine am_iload d_M_freeFrom_6 rfl ?_
    refine am_ifZ_eq (tgt := 166) d_M_freeFrom_8 (by decide) (fun c8 => ?_) (fun c8 => ?_)
    · exact absurd c8 (by decide)
    · refine am_iconst (v := zI false) d_M_freeFrom_11 (by decide) ?_
      refine am_istore d_M_freeFrom_12 (by decide) ?_
      refine am_iconst (v := nI 0) d_M_freeFrom_14 (by decide) ?_
      refine am_istore d_M_freeFrom_15 (by decide) ?_
      refine am_lo (L' := [(0, .ref 30), (1, .int (nI m)), (2, .int (nI r)), (3, .int (nI n)), (4, .int (nI h0)), (5, .int (zI false)), (6, .int (nI 0))]) rfl (c_M_freeFrom_1 hS d bc bs m r n h0 B hmc hn hh0 hB hB2 hB9 ?_ (sh_ss S + 1) 0 (Nat.zero_le _) (by omega))
      refine am_bipush (v := nI 8) d_M_freeFrom_97 (by decide) ?_
      refine am_iload_n d_M_freeFrom_99 rfl rfl ?_
      refine am_imulC d_M_freeFrom_100 ?_
      refine am_istore d_M_freeFrom_101 (by decide) ?_
      refine am_lo (L' := [(0, .ref 30), (1, .int (nI m)), (2, .int (nI r)), (3, .int (nI n)), (4, .int (nI (mm_pass (bd_fr S f D m) (bd_to S f D m) n (sh_ss S) h0).1)), (5, .int (zI (mm_pass (bd_fr S f D m) (bd_to S f D m) n (sh_ss S) h0).2)), (6, .int (nI (m * 8 + 0)))]) rfl (c_M_freeFrom_2 hS d bc bs m r n h0 B hmc hn hh0 hB hB2 hB9 ?_ (sh_sp S m + 1) 0 (Nat.zero_le _) (by omega))
      refine am_goto (tgt := 6) d_M_freeFrom_163 (by decide) ?_
      have hb : (mm_pass (bd_fr S f D m) (bd_to S f D m) n (sh_ss S + sh_sp S m) h0).1 ≤ B + 100 := mm_pass_bd _ _ _ _ _ hh0 _ (fun k _ => (bd_to_bd hS hB hB2 k).1)
      cases hmv : (mm_pass (bd_fr S f D m) (bd_to S f D m) n (sh_ss S + sh_sp S m) h0).2 with
      | true =>
        refine ih (mm_pass (bd_fr S f D m) (bd_to S f D m) n (sh_ss S + sh_sp S m) h0).1 hb (by have := mm_pass_falls _ _ _ _ _ hmv; omega) ?_
        have e : (mm_it (bd_fr S f D m) (bd_to S f D m) (sh_ss S + sh_sp S m) n (g + 1) h0) = (mm_it (bd_fr S f D m) (bd_to S f D m) (sh_ss S + sh_sp S m) n g (mm_pass (bd_fr S f D m) (bd_to S f D m) n (sh_ss S + sh_sp S m) h0).1) := by rw [mm_it, hmv, if_pos rfl]
        rw [e] at hq
        exact hq
      | false =>
        obtain ⟨he, -⟩ := mm_pass_false _ _ _ _ _ hmv
        rw [he]
        have e : (mm_it (bd_fr S f D m) (bd_to S f D m) (sh_ss S + sh_sp S m) n (g + 1) h0) = h0 := by rw [mm_it, hmv]; exact if_neg (by decide)
        rw [e] at hq
        refine am_iload d_M_freeFrom_6 rfl ?_
        refine am_ifZ_eq (tgt := 166) d_M_freeFrom_8 (by decide) (fun c8 => ?_) (fun c8 => ?_)
        · refine am_iload d_M_freeFrom_166 rfl ?_
          refine am_iret d_M_freeFrom_168 rfl ?_
          exact hq
        · exact absurd c8 (by decide)
theorem c_M_freeFrom {f : fl_T} {D : Nat → Bool} (hS : sh_ok S) (d bc bs m r n B : Nat) (hmc : m < sh_mc S) (hn : n ≤ 100) (hr : r ≤ B) (h : (∀ m, m < sh_mc S → fl_bc f m ≤ 32) ∧ (∀ m, m < sh_mc S → fl_bc f m ≤ 32) ∧ fl_D S f D ∧ (∀ s, s < sh_ss S → D s = true → fl_bg f s ≤ B ∧ fl_ma f s < sh_mc S)) (hB2 : 2000 ≤ B) (hB9 : B ≤ 900000) : am_Fn G m_M_freeFrom (d + 1) bc bs [.ref 30, .int (nI m), .int (nI r), .int (nI n)] (hm A S jo (mo_cd M, mo_xx M, (bd_h f D), (bd_m f D), mo_pd M, mo_fr M, mo_pj M, mo_pn M, mo_ph M, mo_pm M, mo_wh M, mo_wm M, mo_co M, mo_bo M, mo_no M, mo_ch M, mo_ro M, mo_tr M, mo_us M) V) (some (.int (nI (fl_first f m r n)))) (hm A S jo (mo_cd M, mo_xx M, (bd_h f D), (bd_m f D), mo_pd M, mo_fr M, mo_pj M, mo_pn M, mo_ph M, mo_pm M, mo_wh M, mo_wm M, mo_co M, mo_bo M, mo_no M, mo_ch M, mo_ro M, mo_tr M, mo_us M) V) := by
  refine am_iload_n d_M_freeFrom_0 rfl rfl ?_
  refine am_istore d_M_freeFrom_1 (by decide) ?_
  refine am_iconst (v := zI true) d_M_freeFrom_3 (by decide) ?_
  refine am_istore d_M_freeFrom_4 (by decide) ?_
  exact am_lo (L' := [(0, .ref 30), (1, .int (nI m)), (2, .int (nI r)), (3, .int (nI n)), (4, .int (nI r)), (5, .int (zI true))]) rfl (c_M_freeFrom_3 hS d bc bs m r n B hmc hn h.2.2.2 hB2 hB9 _ r (by omega) (Nat.lt_succ_self _) ⟨by rw [bd_first h.2.2.1 hmc (by have := h.2.1 m hmc; omega) (Nat.lt_succ_self _)], rfl⟩)
end CM3
