/-! the model: what is told, plain questions -/
theorem nI_inj {a b : Nat} (ha : a < 2 ^ 31) (hb : b < 2 ^ 31) (e : nI a = nI b) : a = b := (nI_eq ha hb).mp e
section CM2
variable {G : am_G} {A : ma_T} {S : sh_T} {jo : Nat → Nat} {M : mo_T} {V : am_H}
set_option maxRecDepth 20000 in
theorem c_M_out (hS : sh_ok S) (d bc bs : Nat) (m u w : Int32) : am_W G m_M_out (d + 1) bc bs (mQ (cd_out S m u w) (some (.int (nI 0))) (hm A S jo ((cd_out S m u w), mo_xx M, mo_hr M, mo_mh M, mo_pd M, mo_fr M, mo_pj M, mo_pn M, mo_ph M, mo_pm M, mo_wh M, mo_wm M, mo_co M, mo_bo M, mo_no M, mo_ch M, mo_ro M, mo_tr M, mo_us M) V) (fun v h' => ∀ i a b, i < sh_mc S → a ≤ 1000 → b ≤ 2000 → m = nI i → u = nI a → w = nI b → v = some (.int (nI (sh_sp S i + 1))) ∧ h' = (hm A (sh_mc S, sh_kd S, nu (sh_sp S) i (sh_sp S i + 1), nu (sh_sf S) (i * 8 + sh_sp S i) a, nu (sh_st S) (i * 8 + sh_sp S i) b, S.2.2.2.2.2) jo (0, mo_xx M, mo_hr M, mo_mh M, mo_pd M, false, mo_pj M, mo_pn M, mo_ph M, mo_pm M, mo_wh M, mo_wm M, mo_co M, mo_bo M, mo_no M, mo_ch M, mo_ro M, mo_tr M, mo_us M) V))) 0 (lv_args 0 [.ref 30, .int m, .int u, .int w]) [] (hm A S jo M V) := by
  obtain ⟨s1, s2, s3, s4, s5, s6, s7, s8, s9, s10, s11, s12, s13, s14⟩ := id hS
  refine am_aload_n d_M_out_0 rfl rfl ?_
  refine am_iload_n d_M_out_1 rfl rfl ?_
  refine am_iconst (v := nI 0) d_M_out_2 (by decide) ?_
  refine am_aload_n d_M_out_3 rfl rfl ?_
  refine am_get F_M 1 (by decide) d_M_out_4 w_651 rfl rfl ?_
  refine am_iconst (v := nI 1) d_M_out_7 (by decide) ?_
  refine am_isub d_M_out_8 ?_
  refine am_callF 3 (am_lkS (z := m_M_in) d_M_out_9 w_761 w_762 w_6 w_763 (by decide) np_M_in) (by decide) (by decide) (Nat.le_of_ble_eq_true rfl) (Nat.le_of_ble_eq_true rfl) (Nat.zero_le _) (Nat.zero_le _) (c_M_in _ _ _ _ _ _) ?_
  refine am_ifZ_ne (tgt := 19) d_M_out_12 (by decide) (fun c12 => ?_) (fun c12 => ?_)
  · obtain ⟨i, rfl, hi⟩ := sp_ix_t c12 (by omega)
    have ek : (nI i).toNatClampNeg = i := nI_clamp (by omega)
    have t5 := s5 i
    refine am_iload_n d_M_out_19 rfl rfl ?_
    refine am_iconst (v := nI 0) d_M_out_20 (by decide) ?_
    refine am_sipush (v := nI 1000) d_M_out_21 (by decide) ?_
    refine am_callF 3 (am_lkS (z := m_M_in) d_M_out_24 w_761 w_762 w_6 w_763 (by decide) np_M_in) (by decide) (by decide) (Nat.le_of_ble_eq_true rfl) (Nat.le_of_ble_eq_true rfl) (Nat.zero_le _) (Nat.zero_le _) (c_M_in _ _ _ _ _ _) ?_
    refine am_ifZ_eq (tgt := 42) d_M_out_27 (by decide) (fun c27 => ?_) (fun c27 => ?_)
    · refine am_iconst (v := nI 2) d_M_out_42 (by decide) ?_
      refine am_goto (tgt := 62) d_M_out_43 (by decide) ?_
      refine am_put F_M 0 (by decide) d_M_out_62 w_650 rfl rfl (Nat.le_of_ble_eq_true rfl) rfl rfl ?_
      refine am_aload_n d_M_out_65 rfl rfl ?_
      refine am_get F_M 0 (by decide) d_M_out_66 w_650 rfl rfl ?_
      refine am_ifN_le (tgt := 74) d_M_out_69 (by decide) (by decide) (fun z => absurd z (by decide)) (fun _ => ?_)
      refine am_iconst (v := nI 0) d_M_out_72 (by decide) ?_
      refine am_iret d_M_out_73 rfl ?_
      have ec : cd_out S (nI i) u w = 2 := by unfold cd_out; (try simp only [ek]); (repeat' split) <;> first | rfl | omega | simp_all
      rw [ec]
      exact ⟨rfl, rfl⟩
    · refine am_iload_n d_M_out_30 rfl rfl ?_
      refine am_iload_n d_M_out_31 rfl rfl ?_
      refine am_icmp_le (tgt := 42) d_M_out_32 (by decide) (fun c32 => ?_) (fun c32 => ?_)
      · refine am_iconst (v := nI 2) d_M_out_42 (by decide) ?_
        refine am_goto (tgt := 62) d_M_out_43 (by decide) ?_
        refine am_put F_M 0 (by decide) d_M_out_62 w_650 rfl rfl (Nat.le_of_ble_eq_true rfl) rfl rfl ?_
        refine am_aload_n d_M_out_65 rfl rfl ?_
        refine am_get F_M 0 (by decide) d_M_out_66 w_650 rfl rfl ?_
        refine am_ifN_le (tgt := 74) d_M_out_69 (by decide) (by decide) (fun z => absurd z (by decide)) (fun _ => ?_)
        refine am_iconst (v := nI 0) d_M_out_72 (by decide) ?_
        refine am_iret d_M_out_73 rfl ?_
        have ec : cd_out S (nI i) u w = 2 := by unfold cd_out; (try simp only [ek]); (repeat' split) <;> first | rfl | omega | simp_all
        rw [ec]
        exact ⟨rfl, rfl⟩
      · refine am_iload_n d_M_out_35 rfl rfl ?_
        refine am_sipush (v := nI 2000) d_M_out_36 (by decide) ?_
        refine am_icmp_le (tgt := 46) d_M_out_39 (by decide) (fun c39 => ?_) (fun c39 => ?_)
        · refine am_aload_n d_M_out_46 rfl rfl ?_
          refine am_get F_M 3 (by decide) d_M_out_47 w_653 rfl rfl ?_
          refine am_iload_n d_M_out_50 rfl rfl ?_
          refine am_ialdA d_M_out_51 rfl (by omega) (by decide) ?_
          refine am_bipush (v := nI 8) d_M_out_52 (by decide) ?_
          refine am_icmpN_ne (tgt := 61) d_M_out_54 (by decide) (by omega) (by omega) (fun c54 => ?_) (fun c54 => ?_)
          · obtain ⟨a, rfl, -, ha⟩ := sp_in_t c27 (by decide) (by decide)
            obtain ⟨b, rfl, hb⟩ := nI_rg2 c32 c39 (by omega) (by decide)
            refine am_iconst (v := nI 0) d_M_out_61 (by decide) ?_
            refine am_put F_M 0 (by decide) d_M_out_62 w_650 rfl rfl (Nat.le_of_ble_eq_true rfl) rfl rfl ?_
            refine am_aload_n d_M_out_65 rfl rfl ?_
            refine am_get F_M 0 (by decide) d_M_out_66 w_650 rfl rfl ?_
            refine am_ifN_le (tgt := 74) d_M_out_69 (by decide) (by decide) (fun _ => ?_) (fun z => absurd z (by decide))
            refine am_aload_n d_M_out_74 rfl rfl ?_
            refine am_get F_M 4 (by decide) d_M_out_75 w_654 rfl rfl ?_
            refine am_bipush (v := nI 8) d_M_out_78 (by decide) ?_
            refine am_iload_n d_M_out_80 rfl rfl ?_
            refine am_imulC d_M_out_81 ?_
            refine am_aload_n d_M_out_82 rfl rfl ?_
            refine am_get F_M 3 (by decide) d_M_out_83 w_653 rfl rfl ?_
            refine am_iload_n d_M_out_86 rfl rfl ?_
            refine am_ialdA d_M_out_87 rfl (by omega) (by decide) ?_
            refine am_iaddN d_M_out_88 ?_
            refine am_iload_n d_M_out_89 rfl rfl ?_
            refine am_iastA d_M_out_90 rfl (by omega) (by decide) ?_
            refine am_aload_n d_M_out_91 rfl rfl ?_
            refine am_get F_M 5 (by decide) d_M_out_92 w_655 rfl rfl ?_
            refine am_bipush (v := nI 8) d_M_out_95 (by decide) ?_
            refine am_iload_n d_M_out_97 rfl rfl ?_
            refine am_imulC d_M_out_98 ?_
            refine am_aload_n d_M_out_99 rfl rfl ?_
            refine am_get F_M 3 (by decide) d_M_out_100 w_653 rfl rfl ?_
            refine am_iload_n d_M_out_103 rfl rfl ?_
            refine am_ialdA d_M_out_104 rfl (by omega) (by decide) ?_
            refine am_iaddN d_M_out_105 ?_
            refine am_iload_n d_M_out_106 rfl rfl ?_
            refine am_iastA d_M_out_107 rfl (by omega) (by decide) ?_
            refine am_aload_n d_M_out_108 rfl rfl ?_
            refine am_get F_M 3 (by decide) d_M_out_109 w_653 rfl rfl ?_
            refine am_iload_n d_M_out_112 rfl rfl ?_
            refine am_dup2 d_M_out_113 rfl rfl ?_
            refine am_ialdA d_M_out_114 rfl (by omega) (by decide) ?_
            refine am_iconst (v := nI 1) d_M_out_115 (by decide) ?_
            refine am_iaddN d_M_out_116 ?_
            refine am_iastA d_M_out_117 rfl (by omega) (by decide) ?_
            refine am_aload_n d_M_out_118 rfl rfl ?_
            refine am_iconst (v := zI false) d_M_out_119 (by decide) ?_
            refine am_put F_M 20 (by decide) d_M_out_120 w_670 rfl rfl (Nat.le_of_ble_eq_true rfl) rfl rfl ?_
            refine am_aload_n d_M_out_123 rfl rfl ?_
            refine am_get F_M 3 (by decide) d_M_out_124 w_653 rfl rfl ?_
            refine am_iload_n d_M_out_127 rfl rfl ?_
            refine am_ialdA d_M_out_128 rfl (by omega) (by decide) ?_
            refine am_iret d_M_out_129 rfl ?_
            rw [nu_eq]
            have ec : cd_out S (nI i) (nI a) (nI b) = 0 := by unfold cd_out; (try simp only [ek]); (repeat' split) <;> first | rfl | omega | simp_all
            rw [ec]
            exact ⟨_, rfl, fun i'  a'  b' z0 z1 z2 e0 e1 e2 => by obtain rfl := nI_inj (by omega) (by omega) e0; obtain rfl := nI_inj (by omega) (by omega) e1; obtain rfl := nI_inj (by omega) (by omega) e2; exact ⟨rfl, rfl⟩⟩
          · refine am_iconst (v := nI 3) d_M_out_57 (by decide) ?_
            refine am_goto (tgt := 62) d_M_out_58 (by decide) ?_
            refine am_put F_M 0 (by decide) d_M_out_62 w_650 rfl rfl (Nat.le_of_ble_eq_true rfl) rfl rfl ?_
            refine am_aload_n d_M_out_65 rfl rfl ?_
            refine am_get F_M 0 (by decide) d_M_out_66 w_650 rfl rfl ?_
            refine am_ifN_le (tgt := 74) d_M_out_69 (by decide) (by decide) (fun z => absurd z (by decide)) (fun _ => ?_)
            refine am_iconst (v := nI 0) d_M_out_72 (by decide) ?_
            refine am_iret d_M_out_73 rfl ?_
            have ec : cd_out S (nI i) u w = 3 := by unfold cd_out; (try simp only [ek]); (repeat' split) <;> first | rfl | omega | simp_all
            rw [ec]
            exact ⟨rfl, rfl⟩
        · refine am_iconst (v := nI 2) d_M_out_42 (by decide) ?_
          refine am_goto (tgt := 62) d_M_out_43 (by decide) ?_
          refine am_put F_M 0 (by decide) d_M_out_62 w_650 rfl rfl (Nat.le_of_ble_eq_true rfl) rfl rfl ?_
          refine am_aload_n d_M_out_65 rfl rfl ?_
          refine am_get F_M 0 (by decide) d_M_out_66 w_650 rfl rfl ?_
          refine am_ifN_le (tgt := 74) d_M_out_69 (by decide) (by decide) (fun z => absurd z (by decide)) (fun _ => ?_)
          refine am_iconst (v := nI 0) d_M_out_72 (by decide) ?_
          refine am_iret d_M_out_73 rfl ?_
          have ec : cd_out S (nI i) u w = 2 := by unfold cd_out; (try simp only [ek]); (repeat' split) <;> first | rfl | omega | simp_all
          rw [ec]
          exact ⟨rfl, rfl⟩
  · refine am_iconst (v := nI 1) d_M_out_15 (by decide) ?_
    refine am_goto (tgt := 62) d_M_out_16 (by decide) ?_
    refine am_put F_M 0 (by decide) d_M_out_62 w_650 rfl rfl (Nat.le_of_ble_eq_true rfl) rfl rfl ?_
    refine am_aload_n d_M_out_65 rfl rfl ?_
    refine am_get F_M 0 (by decide) d_M_out_66 w_650 rfl rfl ?_
    refine am_ifN_le (tgt := 74) d_M_out_69 (by decide) (by decide) (fun z => absurd z (by decide)) (fun _ => ?_)
    refine am_iconst (v := nI 0) d_M_out_72 (by decide) ?_
    refine am_iret d_M_out_73 rfl ?_
    have ec : cd_out S m u w = 1 := by unfold cd_out; (try simp only [ek]); (repeat' split) <;> first | rfl | omega | simp_all
    rw [ec]
    exact ⟨rfl, rfl⟩
set_option maxRecDepth 20000 in
theorem c_M_job (hS : sh_ok S) (d bc bs : Nat) (u w : Int32) : am_W G m_M_job (d + 1) bc bs (mQ (cd_job S u w) (some (.int (nI 0))) (hm A S jo ((cd_job S u w), mo_xx M, mo_hr M, mo_mh M, mo_pd M, mo_fr M, mo_pj M, mo_pn M, mo_ph M, mo_pm M, mo_wh M, mo_wm M, mo_co M, mo_bo M, mo_no M, mo_ch M, mo_ro M, mo_tr M, mo_us M) V) (fun v h' => ∀ a b, a ≤ 10000 → b ≤ 100 → u = nI a → w = nI b → v = some (.int (nI (sh_jb S))) ∧ h' = (hm A (sh_mc S, sh_kd S, sh_sp S, sh_sf S, sh_st S, sh_jb S + 1, nu (sh_du S) (sh_jb S) a, nu (sh_we S) (sh_jb S) b, S.2.2.2.2.2.2.2.2) jo (0, mo_xx M, mo_hr M, mo_mh M, mo_pd M, false, mo_pj M, mo_pn M, mo_ph M, mo_pm M, mo_wh M, mo_wm M, mo_co M, mo_bo M, mo_no M, mo_ch M, mo_ro M, mo_tr M, mo_us M) V))) 0 (lv_args 0 [.ref 30, .int u, .int w]) [] (hm A S jo M V) := by
  obtain ⟨s1, s2, s3, s4, s5, s6, s7, s8, s9, s10, s11, s12, s13, s14⟩ := id hS
  refine am_aload_n d_M_job_0 rfl rfl ?_
  refine am_iload_n d_M_job_1 rfl rfl ?_
  refine am_iconst (v := nI 0) d_M_job_2 (by decide) ?_
  refine am_sipush (v := nI 10000) d_M_job_3 (by decide) ?_
  refine am_callF 3 (am_lkS (z := m_M_in) d_M_job_6 w_761 w_762 w_6 w_763 (by decide) np_M_in) (by decide) (by decide) (Nat.le_of_ble_eq_true rfl) (Nat.le_of_ble_eq_true rfl) (Nat.zero_le _) (Nat.zero_le _) (c_M_in _ _ _ _ _ _) ?_
  refine am_ifZ_eq (tgt := 22) d_M_job_9 (by decide) (fun c9 => ?_) (fun c9 => ?_)
  · refine am_iconst (v := nI 1) d_M_job_22 (by decide) ?_
    refine am_goto (tgt := 40) d_M_job_23 (by decide) ?_
    refine am_put F_M 0 (by decide) d_M_job_40 w_650 rfl rfl (Nat.le_of_ble_eq_true rfl) rfl rfl ?_
    refine am_aload_n d_M_job_43 rfl rfl ?_
    refine am_get F_M 0 (by decide) d_M_job_44 w_650 rfl rfl ?_
    refine am_ifN_le (tgt := 52) d_M_job_47 (by decide) (by decide) (fun z => absurd z (by decide)) (fun _ => ?_)
    refine am_iconst (v := nI 0) d_M_job_50 (by decide) ?_
    refine am_iret d_M_job_51 rfl ?_
    have ec : cd_job S u w = 1 := by unfold cd_job; (try simp only [ek]); (repeat' split) <;> first | rfl | omega | simp_all
    rw [ec]
    exact ⟨rfl, rfl⟩
  · refine am_iload_n d_M_job_12 rfl rfl ?_
    refine am_iconst (v := nI 0) d_M_job_13 (by decide) ?_
    refine am_bipush (v := nI 100) d_M_job_14 (by decide) ?_
    refine am_callF 3 (am_lkS (z := m_M_in) d_M_job_16 w_761 w_762 w_6 w_763 (by decide) np_M_in) (by decide) (by decide) (Nat.le_of_ble_eq_true rfl) (Nat.le_of_ble_eq_true rfl) (Nat.zero_le _) (Nat.zero_le _) (c_M_in _ _ _ _ _ _) ?_
    refine am_ifZ_ne (tgt := 26) d_M_job_19 (by decide) (fun c19 => ?_) (fun c19 => ?_)
    · refine am_aload_n d_M_job_26 rfl rfl ?_
      refine am_get F_M 6 (by decide) d_M_job_27 w_656 rfl rfl ?_
      refine am_bipush (v := nI 6) d_M_job_30 (by decide) ?_
      refine am_icmpN_ne (tgt := 39) d_M_job_32 (by decide) (by omega) (by omega) (fun c32 => ?_) (fun c32 => ?_)
      · obtain ⟨a, rfl, -, ha⟩ := sp_in_t c9 (by decide) (by decide)
        obtain ⟨b, rfl, -, hb⟩ := sp_in_t c19 (by decide) (by decide)
        refine am_iconst (v := nI 0) d_M_job_39 (by decide) ?_
        refine am_put F_M 0 (by decide) d_M_job_40 w_650 rfl rfl (Nat.le_of_ble_eq_true rfl) rfl rfl ?_
        refine am_aload_n d_M_job_43 rfl rfl ?_
        refine am_get F_M 0 (by decide) d_M_job_44 w_650 rfl rfl ?_
        refine am_ifN_le (tgt := 52) d_M_job_47 (by decide) (by decide) (fun _ => ?_) (fun z => absurd z (by decide))
        refine am_aload_n d_M_job_52 rfl rfl ?_
        refine am_get F_M 7 (by decide) d_M_job_53 w_657 rfl rfl ?_
        refine am_aload_n d_M_job_56 rfl rfl ?_
        refine am_get F_M 6 (by decide) d_M_job_57 w_656 rfl rfl ?_
        refine am_iload_n d_M_job_60 rfl rfl ?_
        refine am_iastA d_M_job_61 rfl (by omega) (by decide) ?_
        refine am_aload_n d_M_job_62 rfl rfl ?_
        refine am_get F_M 8 (by decide) d_M_job_63 w_658 rfl rfl ?_
        refine am_aload_n d_M_job_66 rfl rfl ?_
        refine am_get F_M 6 (by decide) d_M_job_67 w_656 rfl rfl ?_
        refine am_iload_n d_M_job_70 rfl rfl ?_
        refine am_iastA d_M_job_71 rfl (by omega) (by decide) ?_
        refine am_aload_n d_M_job_72 rfl rfl ?_
        refine am_dup d_M_job_73 rfl ?_
        refine am_get F_M 6 (by decide) d_M_job_74 w_656 rfl rfl ?_
        refine am_iconst (v := nI 1) d_M_job_77 (by decide) ?_
        refine am_iaddN d_M_job_78 ?_
        refine am_put F_M 6 (by decide) d_M_job_79 w_656 rfl rfl (Nat.le_of_ble_eq_true rfl) rfl rfl ?_
        refine am_aload_n d_M_job_82 rfl rfl ?_
        refine am_iconst (v := zI false) d_M_job_83 (by decide) ?_
        refine am_put F_M 20 (by decide) d_M_job_84 w_670 rfl rfl (Nat.le_of_ble_eq_true rfl) rfl rfl ?_
        refine am_aload_n d_M_job_87 rfl rfl ?_
        refine am_get F_M 6 (by decide) d_M_job_88 w_656 rfl rfl ?_
        refine am_iconst (v := nI 1) d_M_job_91 (by decide) ?_
        refine am_isubS (c := sh_jb S) d_M_job_92 (by omega) ?_
        refine am_iret d_M_job_93 rfl ?_
        have ec : cd_job S (nI a) (nI b) = 0 := by unfold cd_job; (try simp only [ek]); (repeat' split) <;> first | rfl | omega | simp_all
        rw [ec]
        exact ⟨_, rfl, fun a'  b' z0 z1 e0 e1 => by obtain rfl := nI_inj (by omega) (by omega) e0; obtain rfl := nI_inj (by omega) (by omega) e1; exact ⟨rfl, rfl⟩⟩
      · refine am_iconst (v := nI 2) d_M_job_35 (by decide) ?_
        refine am_goto (tgt := 40) d_M_job_36 (by decide) ?_
        refine am_put F_M 0 (by decide) d_M_job_40 w_650 rfl rfl (Nat.le_of_ble_eq_true rfl) rfl rfl ?_
        refine am_aload_n d_M_job_43 rfl rfl ?_
        refine am_get F_M 0 (by decide) d_M_job_44 w_650 rfl rfl ?_
        refine am_ifN_le (tgt := 52) d_M_job_47 (by decide) (by decide) (fun z => absurd z (by decide)) (fun _ => ?_)
        refine am_iconst (v := nI 0) d_M_job_50 (by decide) ?_
        refine am_iret d_M_job_51 rfl ?_
        have ec : cd_job S u w = 2 := by unfold cd_job; (try simp only [ek]); (repeat' split) <;> first | rfl | omega | simp_all
        rw [ec]
        exact ⟨rfl, rfl⟩
    · refine am_iconst (v := nI 1) d_M_job_22 (by decide) ?_
      refine am_goto (tgt := 40) d_M_job_23 (by decide) ?_
      refine am_put F_M 0 (by decide) d_M_job_40 w_650 rfl rfl (Nat.le_of_ble_eq_true rfl) rfl rfl ?_
      refine am_aload_n d_M_job_43 rfl rfl ?_
      refine am_get F_M 0 (by decide) d_M_job_44 w_650 rfl rfl ?_
      refine am_ifN_le (tgt := 52) d_M_job_47 (by decide) (by decide) (fun z => absurd z (by decide)) (fun _ => ?_)
      refine am_iconst (v := nI 0) d_M_job_50 (by decide) ?_
      refine am_iret d_M_job_51 rfl ?_
      have ec : cd_job S u w = 1 := by unfold cd_job; (try simp only [ek]); (repeat' split) <;> first | rfl | omega | simp_all
      rw [ec]
      exact ⟨rfl, rfl⟩
set_option maxRecDepth 20000 in
theorem c_M_due (hS : sh_ok S) (d bc bs : Nat) (j u : Int32) : am_W G m_M_due (d + 1) bc bs (mQ (cd_due S j u) none (hm A S jo ((cd_due S j u), mo_xx M, mo_hr M, mo_mh M, mo_pd M, mo_fr M, mo_pj M, mo_pn M, mo_ph M, mo_pm M, mo_wh M, mo_wm M, mo_co M, mo_bo M, mo_no M, mo_ch M, mo_ro M, mo_tr M, mo_us M) V) (fun v h' => ∀ i a, i < sh_jb S → a ≤ 10000 → j = nI i → u = nI a → v = none ∧ h' = (hm A (sh_mc S, sh_kd S, sh_sp S, sh_sf S, sh_st S, sh_jb S, nu (sh_du S) i a, S.2.2.2.2.2.2.2) jo (0, mo_xx M, mo_hr M, mo_mh M, mo_pd M, false, mo_pj M, mo_pn M, mo_ph M, mo_pm M, mo_wh M, mo_wm M, mo_co M, mo_bo M, mo_no M, mo_ch M, mo_ro M, mo_tr M, mo_us M) V))) 0 (lv_args 0 [.ref 30, .int j, .int u]) [] (hm A S jo M V) := by
  obtain ⟨s1, s2, s3, s4, s5, s6, s7, s8, s9, s10, s11, s12, s13, s14⟩ := id hS
  refine am_aload_n d_M_due_0 rfl rfl ?_
  refine am_iload_n d_M_due_1 rfl rfl ?_
  refine am_iconst (v := nI 0) d_M_due_2 (by decide) ?_
  refine am_aload_n d_M_due_3 rfl rfl ?_
  refine am_get F_M 6 (by decide) d_M_due_4 w_656 rfl rfl ?_
  refine am_iconst (v := nI 1) d_M_due_7 (by decide) ?_
  refine am_isub d_M_due_8 ?_
  refine am_callF 3 (am_lkS (z := m_M_in) d_M_due_9 w_761 w_762 w_6 w_763 (by decide) np_M_in) (by decide) (by decide) (Nat.le_of_ble_eq_true rfl) (Nat.le_of_ble_eq_true rfl) (Nat.zero_le _) (Nat.zero_le _) (c_M_in _ _ _ _ _ _) ?_
  refine am_ifZ_ne (tgt := 19) d_M_due_12 (by decide) (fun c12 => ?_) (fun c12 => ?_)
  · refine am_iload_n d_M_due_19 rfl rfl ?_
    refine am_iconst (v := nI 0) d_M_due_20 (by decide) ?_
    refine am_sipush (v := nI 10000) d_M_due_21 (by decide) ?_
    refine am_callF 3 (am_lkS (z := m_M_in) d_M_due_24 w_761 w_762 w_6 w_763 (by decide) np_M_in) (by decide) (by decide) (Nat.le_of_ble_eq_true rfl) (Nat.le_of_ble_eq_true rfl) (Nat.zero_le _) (Nat.zero_le _) (c_M_in _ _ _ _ _ _) ?_
    refine am_ifZ_ne (tgt := 34) d_M_due_27 (by decide) (fun c27 => ?_) (fun c27 => ?_)
    · obtain ⟨i, rfl, hi⟩ := sp_ix_t c12 (by omega)
      obtain ⟨a, rfl, -, ha⟩ := sp_in_t c27 (by decide) (by decide)
      refine am_iconst (v := nI 0) d_M_due_34 (by decide) ?_
      refine am_put F_M 0 (by decide) d_M_due_35 w_650 rfl rfl (Nat.le_of_ble_eq_true rfl) rfl rfl ?_
      refine am_aload_n d_M_due_38 rfl rfl ?_
      refine am_get F_M 0 (by decide) d_M_due_39 w_650 rfl rfl ?_
      refine am_ifN_ne (tgt := 57) d_M_due_42 (by decide) (by decide) (fun z => absurd z (by decide)) (fun _ => ?_)
      refine am_aload_n d_M_due_45 rfl rfl ?_
      refine am_get F_M 7 (by decide) d_M_due_46 w_657 rfl rfl ?_
      refine am_iload_n d_M_due_49 rfl rfl ?_
      refine am_iload_n d_M_due_50 rfl rfl ?_
      refine am_iastA d_M_due_51 rfl (by omega) (by decide) ?_
      refine am_aload_n d_M_due_52 rfl rfl ?_
      refine am_iconst (v := zI false) d_M_due_53 (by decide) ?_
      refine am_put F_M 20 (by decide) d_M_due_54 w_670 rfl rfl (Nat.le_of_ble_eq_true rfl) rfl rfl ?_
      refine am_vret d_M_due_57 rfl ?_
      have ec : cd_due S (nI i) (nI a) = 0 := by unfold cd_due; (try simp only [ek]); (repeat' split) <;> first | rfl | omega | simp_all
      rw [ec]
      exact ⟨_, rfl, fun i'  a' z0 z1 e0 e1 => by obtain rfl := nI_inj (by omega) (by omega) e0; obtain rfl := nI_inj (by omega) (by omega) e1; exact ⟨rfl, rfl⟩⟩
    · refine am_iconst (v := nI 2) d_M_due_30 (by decide) ?_
      refine am_goto (tgt := 35) d_M_due_31 (by decide) ?_
      refine am_put F_M 0 (by decide) d_M_due_35 w_650 rfl rfl (Nat.le_of_ble_eq_true rfl) rfl rfl ?_
      refine am_aload_n d_M_due_38 rfl rfl ?_
      refine am_get F_M 0 (by decide) d_M_due_39 w_650 rfl rfl ?_
      refine am_ifN_ne (tgt := 57) d_M_due_42 (by decide) (by decide) (fun _ => ?_) (fun z => absurd z (by decide))
      refine am_vret d_M_due_57 rfl ?_
      have ec : cd_due S j u = 2 := by unfold cd_due; (try simp only [ek]); (repeat' split) <;> first | rfl | omega | simp_all
      rw [ec]
      exact ⟨rfl, rfl⟩
  · refine am_iconst (v := nI 1) d_M_due_15 (by decide) ?_
    refine am_goto (tgt := 35) d_M_due_16 (by decide) ?_
    refine am_put F_M 0 (by decide) d_M_due_35 w_650 rfl rfl (Nat.le_of_ble_eq_true rfl) rfl rfl ?_
    refine am_aload_n d_M_due_38 rfl rfl ?_
    refine am_get F_M 0 (by decide) d_M_due_39 w_650 rfl rfl ?_
    refine am_ifN_ne (tgt := 57) d_M_due_42 (by decide) (by decide) (fun _ => ?_) (fun z => absurd z (by decide))
    refine am_vret d_M_due_57 rfl ?_
    have ec : cd_due S j u = 1 := by unfold cd_due; (try simp only [ek]); (repeat' split) <;> first | rfl | omega | simp_all
    rw [ec]
    exact ⟨rfl, rfl⟩
set_option maxRecDepth 20000 in
theorem c_M_step (hS : sh_ok S) (hu : sh_su S) (d bc bs : Nat) (j k h w : Int32) : am_W G m_M_step (d + 1) bc bs (mQ (cd_step S j k h w) (some (.int (nI 0))) (hm A S jo ((cd_step S j k h w), mo_xx M, mo_hr M, mo_mh M, mo_pd M, mo_fr M, mo_pj M, mo_pn M, mo_ph M, mo_pm M, mo_wh M, mo_wm M, mo_co M, mo_bo M, mo_no M, mo_ch M, mo_ro M, mo_tr M, mo_us M) V) (fun v h' => ∀ i a b c, i < sh_jb S → a ≤ 3 → 1 ≤ b → b ≤ 100 → c ≤ 100 → j = nI i → k = nI a → h = nI b → w = nI c → v = some (.int (nI (sh_ss S))) ∧ h' = (hm A (sp_addStep S i a b c) (nu jo (sh_ss S) i) (0, mo_xx M, mo_hr M, mo_mh M, mo_pd M, false, mo_pj M, mo_pn M, mo_ph M, mo_pm M, mo_wh M, mo_wm M, mo_co M, mo_bo M, mo_no M, mo_ch M, mo_ro M, mo_tr M, mo_us M) V))) 0 (lv_args 0 [.ref 30, .int j, .int k, .int h, .int w]) [] (hm A S jo M V) := by
  obtain ⟨s1, s2, s3, s4, s5, s6, s7, s8, s9, s10, s11, s12, s13, s14⟩ := id hS
  refine am_aload_n d_M_step_0 rfl rfl ?_
  refine am_iload_n d_M_step_1 rfl rfl ?_
  refine am_iconst (v := nI 0) d_M_step_2 (by decide) ?_
  refine am_aload_n d_M_step_3 rfl rfl ?_
  refine am_get F_M 6 (by decide) d_M_step_4 w_656 rfl rfl ?_
  refine am_iconst (v := nI 1) d_M_step_7 (by decide) ?_
  refine am_isub d_M_step_8 ?_
  refine am_callF 3 (am_lkS (z := m_M_in) d_M_step_9 w_761 w_762 w_6 w_763 (by decide) np_M_in) (by decide) (by decide) (Nat.le_of_ble_eq_true rfl) (Nat.le_of_ble_eq_true rfl) (Nat.zero_le _) (Nat.zero_le _) (c_M_in _ _ _ _ _ _) ?_
  refine am_ifZ_ne (tgt := 19) d_M_step_12 (by decide) (fun c12 => ?_) (fun c12 => ?_)
  · refine am_iload_n d_M_step_19 rfl rfl ?_
    refine am_iconst (v := nI 0) d_M_step_20 (by decide) ?_
    refine am_iconst (v := nI 3) d_M_step_21 (by decide) ?_
    refine am_callF 3 (am_lkS (z := m_M_in) d_M_step_22 w_761 w_762 w_6 w_763 (by decide) np_M_in) (by decide) (by decide) (Nat.le_of_ble_eq_true rfl) (Nat.le_of_ble_eq_true rfl) (Nat.zero_le _) (Nat.zero_le _) (c_M_in _ _ _ _ _ _) ?_
    refine am_ifZ_eq (tgt := 49) d_M_step_25 (by decide) (fun c25 => ?_) (fun c25 => ?_)
    · refine am_iconst (v := nI 2) d_M_step_49 (by decide) ?_
      refine am_goto (tgt := 68) d_M_step_50 (by decide) ?_
      refine am_put F_M 0 (by decide) d_M_step_68 w_650 rfl rfl (Nat.le_of_ble_eq_true rfl) rfl rfl ?_
      refine am_aload_n d_M_step_71 rfl rfl ?_
      refine am_get F_M 0 (by decide) d_M_step_72 w_650 rfl rfl ?_
      refine am_ifN_le (tgt := 80) d_M_step_75 (by decide) (by decide) (fun z => absurd z (by decide)) (fun _ => ?_)
      refine am_iconst (v := nI 0) d_M_step_78 (by decide) ?_
      refine am_iret d_M_step_79 rfl ?_
      have ec : cd_step S j k h w = 2 := by unfold cd_step; (try simp only [ek]); (repeat' split) <;> first | rfl | omega | simp_all
      rw [ec]
      exact ⟨rfl, rfl⟩
    · refine am_iload_n d_M_step_28 rfl rfl ?_
      refine am_iconst (v := nI 1) d_M_step_29 (by decide) ?_
      refine am_bipush (v := nI 100) d_M_step_30 (by decide) ?_
      refine am_callF 3 (am_lkS (z := m_M_in) d_M_step_32 w_761 w_762 w_6 w_763 (by decide) np_M_in) (by decide) (by decide) (Nat.le_of_ble_eq_true rfl) (Nat.le_of_ble_eq_true rfl) (Nat.zero_le _) (Nat.zero_le _) (c_M_in _ _ _ _ _ _) ?_
      refine am_ifZ_eq (tgt := 49) d_M_step_35 (by decide) (fun c35 => ?_) (fun c35 => ?_)
      · refine am_iconst (v := nI 2) d_M_step_49 (by decide) ?_
        refine am_goto (tgt := 68) d_M_step_50 (by decide) ?_
        refine am_put F_M 0 (by decide) d_M_step_68 w_650 rfl rfl (Nat.le_of_ble_eq_true rfl) rfl rfl ?_
        refine am_aload_n d_M_step_71 rfl rfl ?_
        refine am_get F_M 0 (by decide) d_M_step_72 w_650 rfl rfl ?_
        refine am_ifN_le (tgt := 80) d_M_step_75 (by decide) (by decide) (fun z => absurd z (by decide)) (fun _ => ?_)
        refine am_iconst (v := nI 0) d_M_step_78 (by decide) ?_
        refine am_iret d_M_step_79 rfl ?_
        have ec : cd_step S j k h w = 2 := by unfold cd_step; (try simp only [ek]); (repeat' split) <;> first | rfl | omega | simp_all
        rw [ec]
        exact ⟨rfl, rfl⟩
      · refine am_iload d_M_step_38 rfl ?_
        refine am_iconst (v := nI 0) d_M_step_40 (by decide) ?_
        refine am_bipush (v := nI 100) d_M_step_41 (by decide) ?_
        refine am_callF 3 (am_lkS (z := m_M_in) d_M_step_43 w_761 w_762 w_6 w_763 (by decide) np_M_in) (by decide) (by decide) (Nat.le_of_ble_eq_true rfl) (Nat.le_of_ble_eq_true rfl) (Nat.zero_le _) (Nat.zero_le _) (c_M_in _ _ _ _ _ _) ?_
        refine am_ifZ_ne (tgt := 53) d_M_step_46 (by decide) (fun c46 => ?_) (fun c46 => ?_)
        · obtain ⟨i, rfl, hi⟩ := sp_ix_t c12 (by omega)
          have ek : (nI i).toNatClampNeg = i := nI_clamp (by omega)
          have t10 := s10 i
          refine am_aload_n d_M_step_53 rfl rfl ?_
          refine am_get F_M 9 (by decide) d_M_step_54 w_659 rfl rfl ?_
          refine am_iload_n d_M_step_57 rfl rfl ?_
          refine am_ialdA d_M_step_58 rfl (by omega) (by decide) ?_
          refine am_iconst (v := nI 4) d_M_step_59 (by decide) ?_
          refine am_icmpN_ne (tgt := 67) d_M_step_60 (by decide) (by omega) (by omega) (fun c60 => ?_) (fun c60 => ?_)
          · obtain ⟨a, rfl, -, ha⟩ := sp_in_t c25 (by decide) (by decide)
            obtain ⟨b, rfl, hb0, hb⟩ := sp_in_t c35 (by decide) (by decide)
            obtain ⟨c, rfl, -, hc⟩ := sp_in_t c46 (by decide) (by decide)
            have hss := sh_su_lt hS hu (show i < 6 by omega) (by omega)
            refine am_iconst (v := nI 0) d_M_step_67 (by decide) ?_
            refine am_put F_M 0 (by decide) d_M_step_68 w_650 rfl rfl (Nat.le_of_ble_eq_true rfl) rfl rfl ?_
            refine am_aload_n d_M_step_71 rfl rfl ?_
            refine am_get F_M 0 (by decide) d_M_step_72 w_650 rfl rfl ?_
            refine am_ifN_le (tgt := 80) d_M_step_75 (by decide) (by decide) (fun _ => ?_) (fun z => absurd z (by decide))
            refine am_aload_n d_M_step_80 rfl rfl ?_
            refine am_get F_M 12 (by decide) d_M_step_81 w_662 rfl rfl ?_
            refine am_aload_n d_M_step_84 rfl rfl ?_
            refine am_get F_M 11 (by decide) d_M_step_85 w_661 rfl rfl ?_
            refine am_iload_n d_M_step_88 rfl rfl ?_
            refine am_iastA d_M_step_89 rfl (by omega) (by decide) ?_
            refine am_aload_n d_M_step_90 rfl rfl ?_
            refine am_get F_M 13 (by decide) d_M_step_91 w_663 rfl rfl ?_
            refine am_aload_n d_M_step_94 rfl rfl ?_
            refine am_get F_M 11 (by decide) d_M_step_95 w_661 rfl rfl ?_
            refine am_iload_n d_M_step_98 rfl rfl ?_
            refine am_iastA d_M_step_99 rfl (by omega) (by decide) ?_
            refine am_aload_n d_M_step_100 rfl rfl ?_
            refine am_get F_M 14 (by decide) d_M_step_101 w_664 rfl rfl ?_
            refine am_aload_n d_M_step_104 rfl rfl ?_
            refine am_get F_M 11 (by decide) d_M_step_105 w_661 rfl rfl ?_
            refine am_iload_n d_M_step_108 rfl rfl ?_
            refine am_iastA d_M_step_109 rfl (by omega) (by decide) ?_
            refine am_aload_n d_M_step_110 rfl rfl ?_
            refine am_get F_M 15 (by decide) d_M_step_111 w_665 rfl rfl ?_
            refine am_aload_n d_M_step_114 rfl rfl ?_
            refine am_get F_M 11 (by decide) d_M_step_115 w_661 rfl rfl ?_
            refine am_iload d_M_step_118 rfl ?_
            refine am_iastA d_M_step_120 rfl (by omega) (by decide) ?_
            refine am_aload_n d_M_step_121 rfl rfl ?_
            refine am_get F_M 10 (by decide) d_M_step_122 w_660 rfl rfl ?_
            refine am_iconst (v := nI 4) d_M_step_125 (by decide) ?_
            refine am_iload_n d_M_step_126 rfl rfl ?_
            refine am_imulC d_M_step_127 ?_
            refine am_aload_n d_M_step_128 rfl rfl ?_
            refine am_get F_M 9 (by decide) d_M_step_129 w_659 rfl rfl ?_
            refine am_iload_n d_M_step_132 rfl rfl ?_
            refine am_ialdA d_M_step_133 rfl (by omega) (by decide) ?_
            refine am_iaddN d_M_step_134 ?_
            refine am_aload_n d_M_step_135 rfl rfl ?_
            refine am_get F_M 11 (by decide) d_M_step_136 w_661 rfl rfl ?_
            refine am_iastA d_M_step_139 rfl (by omega) (by decide) ?_
            refine am_aload_n d_M_step_140 rfl rfl ?_
            refine am_get F_M 9 (by decide) d_M_step_141 w_659 rfl rfl ?_
            refine am_iload_n d_M_step_144 rfl rfl ?_
            refine am_dup2 d_M_step_145 rfl rfl ?_
            refine am_ialdA d_M_step_146 rfl (by omega) (by decide) ?_
            refine am_iconst (v := nI 1) d_M_step_147 (by decide) ?_
            refine am_iaddN d_M_step_148 ?_
            refine am_iastA d_M_step_149 rfl (by omega) (by decide) ?_
            refine am_aload_n d_M_step_150 rfl rfl ?_
            refine am_dup d_M_step_151 rfl ?_
            refine am_get F_M 11 (by decide) d_M_step_152 w_661 rfl rfl ?_
            refine am_iconst (v := nI 1) d_M_step_155 (by decide) ?_
            refine am_iaddN d_M_step_156 ?_
            refine am_put F_M 11 (by decide) d_M_step_157 w_661 rfl rfl (Nat.le_of_ble_eq_true rfl) rfl rfl ?_
            refine am_aload_n d_M_step_160 rfl rfl ?_
            refine am_iconst (v := zI false) d_M_step_161 (by decide) ?_
            refine am_put F_M 20 (by decide) d_M_step_162 w_670 rfl rfl (Nat.le_of_ble_eq_true rfl) rfl rfl ?_
            refine am_aload_n d_M_step_165 rfl rfl ?_
            refine am_get F_M 11 (by decide) d_M_step_166 w_661 rfl rfl ?_
            refine am_iconst (v := nI 1) d_M_step_169 (by decide) ?_
            refine am_isubS (c := sh_ss S) d_M_step_170 (by omega) ?_
            refine am_iret d_M_step_171 rfl ?_
            have ec : cd_step S (nI i) (nI a) (nI b) (nI c) = 0 := by unfold cd_step; (try simp only [ek]); (repeat' split) <;> first | rfl | omega | simp_all
            rw [ec]
            exact ⟨_, rfl, fun i'  a'  b'  c' z0 z1 z2 z3 z4 e0 e1 e2 e3 => by obtain rfl := nI_inj (by omega) (by omega) e0; obtain rfl := nI_inj (by omega) (by omega) e1; obtain rfl := nI_inj (by omega) (by omega) e2; obtain rfl := nI_inj (by omega) (by omega) e3; exact ⟨rfl, rfl⟩⟩
          · refine am_iconst (v := nI 3) d_M_step_63 (by decide) ?_
            refine am_goto (tgt := 68) d_M_step_64 (by decide) ?_
            refine am_put F_M 0 (by decide) d_M_step_68 w_650 rfl rfl (Nat.le_of_ble_eq_true rfl) rfl rfl ?_
            refine am_aload_n d_M_step_71 rfl rfl ?_
            refine am_get F_M 0 (by decide) d_M_step_72 w_650 rfl rfl ?_
            refine am_ifN_le (tgt := 80) d_M_step_75 (by decide) (by decide) (fun z => absurd z (by decide)) (fun _ => ?_)
            refine am_iconst (v := nI 0) d_M_step_78 (by decide) ?_
            refine am_iret d_M_step_79 rfl ?_
            have ec : cd_step S (nI i) k h w = 3 := by unfold cd_step; (try simp only [ek]); (repeat' split) <;> first | rfl | omega | simp_all
            rw [ec]
            exact ⟨rfl, rfl⟩
        · refine am_iconst (v := nI 2) d_M_step_49 (by decide) ?_
          refine am_goto (tgt := 68) d_M_step_50 (by decide) ?_
          refine am_put F_M 0 (by decide) d_M_step_68 w_650 rfl rfl (Nat.le_of_ble_eq_true rfl) rfl rfl ?_
          refine am_aload_n d_M_step_71 rfl rfl ?_
          refine am_get F_M 0 (by decide) d_M_step_72 w_650 rfl rfl ?_
          refine am_ifN_le (tgt := 80) d_M_step_75 (by decide) (by decide) (fun z => absurd z (by decide)) (fun _ => ?_)
          refine am_iconst (v := nI 0) d_M_step_78 (by decide) ?_
          refine am_iret d_M_step_79 rfl ?_
          have ec : cd_step S j k h w = 2 := by unfold cd_step; (try simp only [ek]); (repeat' split) <;> first | rfl | omega | simp_all
          rw [ec]
          exact ⟨rfl, rfl⟩
  · refine am_iconst (v := nI 1) d_M_step_15 (by decide) ?_
    refine am_goto (tgt := 68) d_M_step_16 (by decide) ?_
    refine am_put F_M 0 (by decide) d_M_step_68 w_650 rfl rfl (Nat.le_of_ble_eq_true rfl) rfl rfl ?_
    refine am_aload_n d_M_step_71 rfl rfl ?_
    refine am_get F_M 0 (by decide) d_M_step_72 w_650 rfl rfl ?_
    refine am_ifN_le (tgt := 80) d_M_step_75 (by decide) (by decide) (fun z => absurd z (by decide)) (fun _ => ?_)
    refine am_iconst (v := nI 0) d_M_step_78 (by decide) ?_
    refine am_iret d_M_step_79 rfl ?_
    have ec : cd_step S j k h w = 1 := by unfold cd_step; (try simp only [ek]); (repeat' split) <;> first | rfl | omega | simp_all
    rw [ec]
    exact ⟨rfl, rfl⟩
set_option maxRecDepth 20000 in
theorem c_M_at (hS : sh_ok S) {P : pl_T} (hpd : mo_pd M = decide (0 < pl_jb P)) (d bc bs : Nat) (s w : Int32) : am_W G m_M_at (d + 1) bc bs (mQ (cd_at S P s w) (some (.int (nI 0))) (hm A S jo ((cd_at S P s w), mo_xx M, mo_hr M, mo_mh M, mo_pd M, mo_fr M, mo_pj M, mo_pn M, mo_ph M, mo_pm M, mo_wh M, mo_wm M, mo_co M, mo_bo M, mo_no M, mo_ch M, mo_ro M, mo_tr M, mo_us M) V) (fun v h' => ∀ i a, i < sh_ss S → a ≤ 1 → s = nI i → w = nI a → v = some (.int (if a = 0 then mo_ph M i else mo_pm M i)) ∧ h' = (hm A S jo (0, mo_xx M, mo_hr M, mo_mh M, mo_pd M, mo_fr M, mo_pj M, mo_pn M, mo_ph M, mo_pm M, mo_wh M, mo_wm M, mo_co M, mo_bo M, mo_no M, mo_ch M, mo_ro M, mo_tr M, mo_us M) V))) 0 (lv_args 0 [.ref 30, .int s, .int w]) [] (hm A S jo M V) := by
  obtain ⟨s1, s2, s3, s4, s5, s6, s7, s8, s9, s10, s11, s12, s13, s14⟩ := id hS
  refine am_aload_n d_M_at_0 rfl rfl ?_
  refine am_iload_n d_M_at_1 rfl rfl ?_
  refine am_iconst (v := nI 0) d_M_at_2 (by decide) ?_
  refine am_aload_n d_M_at_3 rfl rfl ?_
  refine am_get F_M 11 (by decide) d_M_at_4 w_661 rfl rfl ?_
  refine am_iconst (v := nI 1) d_M_at_7 (by decide) ?_
  refine am_isub d_M_at_8 ?_
  refine am_callF 3 (am_lkS (z := m_M_in) d_M_at_9 w_761 w_762 w_6 w_763 (by decide) np_M_in) (by decide) (by decide) (Nat.le_of_ble_eq_true rfl) (Nat.le_of_ble_eq_true rfl) (Nat.zero_le _) (Nat.zero_le _) (c_M_in _ _ _ _ _ _) ?_
  refine am_ifZ_eq (tgt := 24) d_M_at_12 (by decide) (fun c12 => ?_) (fun c12 => ?_)
  · refine am_iconst (v := nI 1) d_M_at_24 (by decide) ?_
    refine am_goto (tgt := 40) d_M_at_25 (by decide) ?_
    refine am_put F_M 0 (by decide) d_M_at_40 w_650 rfl rfl (Nat.le_of_ble_eq_true rfl) rfl rfl ?_
    refine am_aload_n d_M_at_43 rfl rfl ?_
    refine am_get F_M 0 (by decide) d_M_at_44 w_650 rfl rfl ?_
    refine am_ifN_le (tgt := 54) d_M_at_47 (by decide) (by decide) (fun z => absurd z (by decide)) (fun _ => ?_)
    refine am_iconst (v := nI 0) d_M_at_50 (by decide) ?_
    refine am_goto (tgt := 73) d_M_at_51 (by decide) ?_
    refine am_iret d_M_at_73 rfl ?_
    have ec : cd_at S P s w = 1 := by unfold cd_at; (try simp only [ek]); (repeat' split) <;> first | rfl | omega | simp_all
    rw [ec]
    exact ⟨rfl, rfl⟩
  · refine am_iload_n d_M_at_15 rfl rfl ?_
    refine am_iconst (v := nI 0) d_M_at_16 (by decide) ?_
    refine am_iconst (v := nI 1) d_M_at_17 (by decide) ?_
    refine am_callF 3 (am_lkS (z := m_M_in) d_M_at_18 w_761 w_762 w_6 w_763 (by decide) np_M_in) (by decide) (by decide) (Nat.le_of_ble_eq_true rfl) (Nat.le_of_ble_eq_true rfl) (Nat.zero_le _) (Nat.zero_le _) (c_M_in _ _ _ _ _ _) ?_
    refine am_ifZ_ne (tgt := 28) d_M_at_21 (by decide) (fun c21 => ?_) (fun c21 => ?_)
    · refine am_aload_n d_M_at_28 rfl rfl ?_
      refine am_get F_M 19 (by decide) d_M_at_29 w_669 rfl rfl ?_
      refine am_ifZ_ne (tgt := 39) d_M_at_32 (by decide) (fun c32 => ?_) (fun c32 => ?_)
      · obtain ⟨i, rfl, hi⟩ := sp_ix_t c12 (by omega)
        obtain ⟨a, rfl, -, ha⟩ := sp_in_t c21 (by decide) (by decide)
        rw [hpd] at c32
        have c32 := of_decide_eq_true c32
        refine am_iconst (v := nI 0) d_M_at_39 (by decide) ?_
        refine am_put F_M 0 (by decide) d_M_at_40 w_650 rfl rfl (Nat.le_of_ble_eq_true rfl) rfl rfl ?_
        refine am_aload_n d_M_at_43 rfl rfl ?_
        refine am_get F_M 0 (by decide) d_M_at_44 w_650 rfl rfl ?_
        refine am_ifN_le (tgt := 54) d_M_at_47 (by decide) (by decide) (fun _ => ?_) (fun z => absurd z (by decide))
        refine am_iload_n d_M_at_54 rfl rfl ?_
        refine am_ifN_ne (tgt := 67) d_M_at_55 (by decide) (by omega) (fun c55 => ?_) (fun c55 => ?_)
        · refine am_aload_n d_M_at_67 rfl rfl ?_
          refine am_get F_M 24 (by decide) d_M_at_68 w_674 rfl rfl ?_
          refine am_iload_n d_M_at_71 rfl rfl ?_
          refine am_ialdN _ d_M_at_72 rfl rfl (by omega) (by decide) ?_
          refine am_iret d_M_at_73 rfl ?_
          have ec : cd_at S P (nI i) (nI a) = 0 := by unfold cd_at; (try simp only [ek]); (repeat' split) <;> first | rfl | omega | simp_all
          rw [ec]
          exact ⟨_, rfl, fun i'  a' z0 z1 e0 e1 => by obtain rfl := nI_inj (by omega) (by omega) e0; obtain rfl := nI_inj (by omega) (by omega) e1; exact ⟨by first | rw [if_pos (by omega)] | rw [if_neg (by omega)], rfl⟩⟩
        · refine am_aload_n d_M_at_58 rfl rfl ?_
          refine am_get F_M 23 (by decide) d_M_at_59 w_673 rfl rfl ?_
          refine am_iload_n d_M_at_62 rfl rfl ?_
          refine am_ialdN _ d_M_at_63 rfl rfl (by omega) (by decide) ?_
          refine am_goto (tgt := 73) d_M_at_64 (by decide) ?_
          refine am_iret d_M_at_73 rfl ?_
          have ec : cd_at S P (nI i) (nI a) = 0 := by unfold cd_at; (try simp only [ek]); (repeat' split) <;> first | rfl | omega | simp_all
          rw [ec]
          exact ⟨_, rfl, fun i'  a' z0 z1 e0 e1 => by obtain rfl := nI_inj (by omega) (by omega) e0; obtain rfl := nI_inj (by omega) (by omega) e1; exact ⟨by first | rw [if_pos (by omega)] | rw [if_neg (by omega)], rfl⟩⟩
      · rw [hpd] at c32
        have c32 := of_decide_eq_false c32
        refine am_iconst (v := nI 2) d_M_at_35 (by decide) ?_
        refine am_goto (tgt := 40) d_M_at_36 (by decide) ?_
        refine am_put F_M 0 (by decide) d_M_at_40 w_650 rfl rfl (Nat.le_of_ble_eq_true rfl) rfl rfl ?_
        refine am_aload_n d_M_at_43 rfl rfl ?_
        refine am_get F_M 0 (by decide) d_M_at_44 w_650 rfl rfl ?_
        refine am_ifN_le (tgt := 54) d_M_at_47 (by decide) (by decide) (fun z => absurd z (by decide)) (fun _ => ?_)
        refine am_iconst (v := nI 0) d_M_at_50 (by decide) ?_
        refine am_goto (tgt := 73) d_M_at_51 (by decide) ?_
        refine am_iret d_M_at_73 rfl ?_
        have ec : cd_at S P s w = 2 := by unfold cd_at; (try simp only [ek]); (repeat' split) <;> first | rfl | omega | simp_all
        rw [ec]
        exact ⟨rfl, rfl⟩
    · refine am_iconst (v := nI 1) d_M_at_24 (by decide) ?_
      refine am_goto (tgt := 40) d_M_at_25 (by decide) ?_
      refine am_put F_M 0 (by decide) d_M_at_40 w_650 rfl rfl (Nat.le_of_ble_eq_true rfl) rfl rfl ?_
      refine am_aload_n d_M_at_43 rfl rfl ?_
      refine am_get F_M 0 (by decide) d_M_at_44 w_650 rfl rfl ?_
      refine am_ifN_le (tgt := 54) d_M_at_47 (by decide) (by decide) (fun z => absurd z (by decide)) (fun _ => ?_)
      refine am_iconst (v := nI 0) d_M_at_50 (by decide) ?_
      refine am_goto (tgt := 73) d_M_at_51 (by decide) ?_
      refine am_iret d_M_at_73 rfl ?_
      have ec : cd_at S P s w = 1 := by unfold cd_at; (try simp only [ek]); (repeat' split) <;> first | rfl | omega | simp_all
      rw [ec]
      exact ⟨rfl, rfl⟩
set_option maxRecDepth 20000 in
theorem c_M_order (hS : sh_ok S) {P : pl_T} (hpd : mo_pd M = decide (0 < pl_jb P)) (hpj : mo_pj M = pl_jb P) (hP : pl_ok P) (d bc bs : Nat) (k : Int32) : am_W G m_M_order (d + 1) bc bs (mQ (cd_order P k) (some (.int (nI 0))) (hm A S jo ((cd_order P k), mo_xx M, mo_hr M, mo_mh M, mo_pd M, mo_fr M, mo_pj M, mo_pn M, mo_ph M, mo_pm M, mo_wh M, mo_wm M, mo_co M, mo_bo M, mo_no M, mo_ch M, mo_ro M, mo_tr M, mo_us M) V) (fun v h' => ∀ i, i < pl_jb P → k = nI i → v = some (.int (nI (mo_pn M i))) ∧ h' = (hm A S jo (0, mo_xx M, mo_hr M, mo_mh M, mo_pd M, mo_fr M, mo_pj M, mo_pn M, mo_ph M, mo_pm M, mo_wh M, mo_wm M, mo_co M, mo_bo M, mo_no M, mo_ch M, mo_ro M, mo_tr M, mo_us M) V))) 0 (lv_args 0 [.ref 30, .int k]) [] (hm A S jo M V) := by
  obtain ⟨s1, s2, s3, s4, s5, s6, s7, s8, s9, s10, s11, s12, s13, s14⟩ := id hS
  have p1 := hP.1
  refine am_aload_n d_M_order_0 rfl rfl ?_
  refine am_aload_n d_M_order_1 rfl rfl ?_
  refine am_get F_M 19 (by decide) d_M_order_2 w_669 rfl rfl ?_
  refine am_ifZ_ne (tgt := 12) d_M_order_5 (by decide) (fun c5 => ?_) (fun c5 => ?_)
  · rw [hpd] at c5
    have c5 := of_decide_eq_true c5
    refine am_iload_n d_M_order_12 rfl rfl ?_
    refine am_iconst (v := nI 0) d_M_order_13 (by decide) ?_
    refine am_aload_n d_M_order_14 rfl rfl ?_
    refine am_get F_M 21 (by decide) d_M_order_15 w_671 rfl rfl ?_
    refine am_iconst (v := nI 1) d_M_order_18 (by decide) ?_
    refine am_isub d_M_order_19 ?_
    refine am_callF 3 (am_lkS (z := m_M_in) d_M_order_20 w_761 w_762 w_6 w_763 (by decide) np_M_in) (by decide) (by decide) (Nat.le_of_ble_eq_true rfl) (Nat.le_of_ble_eq_true rfl) (Nat.zero_le _) (Nat.zero_le _) (c_M_in _ _ _ _ _ _) ?_
    refine am_ifZ_ne (tgt := 30) d_M_order_23 (by decide) (fun c23 => ?_) (fun c23 => ?_)
    · rw [hpj] at c23
      obtain ⟨i, rfl, hi⟩ := sp_ix_t c23 (by omega)
      refine am_iconst (v := nI 0) d_M_order_30 (by decide) ?_
      refine am_put F_M 0 (by decide) d_M_order_31 w_650 rfl rfl (Nat.le_of_ble_eq_true rfl) rfl rfl ?_
      refine am_aload_n d_M_order_34 rfl rfl ?_
      refine am_get F_M 0 (by decide) d_M_order_35 w_650 rfl rfl ?_
      refine am_ifN_le (tgt := 45) d_M_order_38 (by decide) (by decide) (fun _ => ?_) (fun z => absurd z (by decide))
      refine am_aload_n d_M_order_45 rfl rfl ?_
      refine am_get F_M 22 (by decide) d_M_order_46 w_672 rfl rfl ?_
      refine am_iload_n d_M_order_49 rfl rfl ?_
      refine am_ialdA d_M_order_50 rfl (by omega) (by decide) ?_
      refine am_iret d_M_order_51 rfl ?_
      have ec : cd_order P (nI i) = 0 := by unfold cd_order; (try simp only [ek]); (repeat' split) <;> first | rfl | omega | simp_all
      rw [ec]
      exact ⟨_, rfl, fun i' z0 e0 => by obtain rfl := nI_inj (by omega) (by omega) e0; exact ⟨rfl, rfl⟩⟩
    · rw [hpj] at c23
      refine am_iconst (v := nI 2) d_M_order_26 (by decide) ?_
      refine am_goto (tgt := 31) d_M_order_27 (by decide) ?_
      refine am_put F_M 0 (by decide) d_M_order_31 w_650 rfl rfl (Nat.le_of_ble_eq_true rfl) rfl rfl ?_
      refine am_aload_n d_M_order_34 rfl rfl ?_
      refine am_get F_M 0 (by decide) d_M_order_35 w_650 rfl rfl ?_
      refine am_ifN_le (tgt := 45) d_M_order_38 (by decide) (by decide) (fun z => absurd z (by decide)) (fun _ => ?_)
      refine am_iconst (v := nI 0) d_M_order_41 (by decide) ?_
      refine am_goto (tgt := 51) d_M_order_42 (by decide) ?_
      refine am_iret d_M_order_51 rfl ?_
      have ec : cd_order P k = 2 := by unfold cd_order; (try simp only [ek]); (repeat' split) <;> first | rfl | omega | simp_all
      rw [ec]
      exact ⟨rfl, rfl⟩
  · rw [hpd] at c5
    have c5 := of_decide_eq_false c5
    refine am_iconst (v := nI 1) d_M_order_8 (by decide) ?_
    refine am_goto (tgt := 31) d_M_order_9 (by decide) ?_
    refine am_put F_M 0 (by decide) d_M_order_31 w_650 rfl rfl (Nat.le_of_ble_eq_true rfl) rfl rfl ?_
    refine am_aload_n d_M_order_34 rfl rfl ?_
    refine am_get F_M 0 (by decide) d_M_order_35 w_650 rfl rfl ?_
    refine am_ifN_le (tgt := 45) d_M_order_38 (by decide) (by decide) (fun z => absurd z (by decide)) (fun _ => ?_)
    refine am_iconst (v := nI 0) d_M_order_41 (by decide) ?_
    refine am_goto (tgt := 51) d_M_order_42 (by decide) ?_
    refine am_iret d_M_order_51 rfl ?_
    have ec : cd_order P k = 1 := by unfold cd_order; (try simp only [ek]); (repeat' split) <;> first | rfl | omega | simp_all
    rw [ec]
    exact ⟨rfl, rfl⟩
set_option maxRecDepth 20000 in
theorem c_M_about (hS : sh_ok S) {P : pl_T} (hpd : mo_pd M = decide (0 < pl_jb P)) (hno : mo_no M < 2 ^ 31) (hch : mo_ch M < 2 ^ 31) (d bc bs : Nat) (w : Int32) : am_W G m_M_about (d + 1) bc bs (mQ (cd_about P w) (some (.long (lN 0))) (hm A S jo ((cd_about P w), mo_xx M, mo_hr M, mo_mh M, mo_pd M, mo_fr M, mo_pj M, mo_pn M, mo_ph M, mo_pm M, mo_wh M, mo_wm M, mo_co M, mo_bo M, mo_no M, mo_ch M, mo_ro M, mo_tr M, mo_us M) V) (fun v h' => ∀ a, a ≤ 3 → w = nI a → v = some (.long (lN (if a = 0 then mo_co M else if a = 1 then mo_bo M else if a = 2 then mo_no M else mo_ch M))) ∧ h' = (hm A S jo (0, mo_xx M, mo_hr M, mo_mh M, mo_pd M, mo_fr M, mo_pj M, mo_pn M, mo_ph M, mo_pm M, mo_wh M, mo_wm M, mo_co M, mo_bo M, mo_no M, mo_ch M, mo_ro M, mo_tr M, mo_us M) V))) 0 (lv_args 0 [.ref 30, .int w]) [] (hm A S jo M V) := by
  obtain ⟨s1, s2, s3, s4, s5, s6, s7, s8, s9, s10, s11, s12, s13, s14⟩ := id hS
  refine am_aload_n d_M_about_0 rfl rfl ?_
  refine am_iload_n d_M_about_1 rfl rfl ?_
  refine am_iconst (v := nI 0) d_M_about_2 (by decide) ?_
  refine am_iconst (v := nI 3) d_M_about_3 (by decide) ?_
  refine am_callF 3 (am_lkS (z := m_M_in) d_M_about_4 w_761 w_762 w_6 w_763 (by decide) np_M_in) (by decide) (by decide) (Nat.le_of_ble_eq_true rfl) (Nat.le_of_ble_eq_true rfl) (Nat.zero_le _) (Nat.zero_le _) (c_M_in _ _ _ _ _ _) ?_
  refine am_ifZ_ne (tgt := 14) d_M_about_7 (by decide) (fun c7 => ?_) (fun c7 => ?_)
  · refine am_aload_n d_M_about_14 rfl rfl ?_
    refine am_get F_M 19 (by decide) d_M_about_15 w_669 rfl rfl ?_
    refine am_ifZ_ne (tgt := 25) d_M_about_18 (by decide) (fun c18 => ?_) (fun c18 => ?_)
    · rw [hpd] at c18
      have c18 := of_decide_eq_true c18
      refine am_iconst (v := nI 0) d_M_about_25 (by decide) ?_
      refine am_put F_M 0 (by decide) d_M_about_26 w_650 rfl rfl (Nat.le_of_ble_eq_true rfl) rfl rfl ?_
      refine am_aload_n d_M_about_29 rfl rfl ?_
      refine am_get F_M 0 (by decide) d_M_about_30 w_650 rfl rfl ?_
      refine am_ifN_le (tgt := 40) d_M_about_33 (by decide) (by decide) (fun _ => ?_) (fun z => absurd z (by decide))
      obtain ⟨a, rfl, -, ha⟩ := sp_in_t c7 (by decide) (by decide)
      have ec : cd_about P (nI a) = 0 := by unfold cd_about; rw [if_pos c7, if_pos c18]
      rw [ec]
      have hc : a = 0 ∨ a = 1 ∨ a = 2 ∨ a = 3 := by omega
      rcases hc with rfl | rfl | rfl | rfl
      · refine am_iload_n d_M_about_40 rfl rfl ?_
        refine am_ifN_ne (tgt := 51) d_M_about_41 (by decide) (by first | decide | omega) (fun c41 => ?_) (fun c41 => ?_)
        · exact absurd c41 (by decide)
        · refine am_aload_n d_M_about_44 rfl rfl ?_
          refine am_get F_M 27 (by decide) d_M_about_45 w_677 rfl rfl ?_
          refine am_goto (tgt := 81) d_M_about_48 (by decide) ?_
          refine am_lret d_M_about_81 rfl ?_
          exact ⟨_, rfl, fun a' h e => by obtain rfl := nI_inj (by omega) (by omega) e; exact ⟨rfl, rfl⟩⟩
      · refine am_iload_n d_M_about_40 rfl rfl ?_
        refine am_ifN_ne (tgt := 51) d_M_about_41 (by decide) (by first | decide | omega) (fun c41 => ?_) (fun c41 => ?_)
        · refine am_iload_n d_M_about_51 rfl rfl ?_
          refine am_iconst (v := nI 1) d_M_about_52 (by decide) ?_
          refine am_icmpN_ne (tgt := 63) d_M_about_53 (by decide) (by first | decide | omega) (by first | decide | omega) (fun c53 => ?_) (fun c53 => ?_)
          · exact absurd c53 (by decide)
          · refine am_aload_n d_M_about_56 rfl rfl ?_
            refine am_get F_M 28 (by decide) d_M_about_57 w_678 rfl rfl ?_
            refine am_goto (tgt := 81) d_M_about_60 (by decide) ?_
            refine am_lret d_M_about_81 rfl ?_
            exact ⟨_, rfl, fun a' h e => by obtain rfl := nI_inj (by omega) (by omega) e; exact ⟨rfl, rfl⟩⟩
        · exact absurd c41 (by decide)
      · refine am_iload_n d_M_about_40 rfl rfl ?_
        refine am_ifN_ne (tgt := 51) d_M_about_41 (by decide) (by first | decide | omega) (fun c41 => ?_) (fun c41 => ?_)
        · refine am_iload_n d_M_about_51 rfl rfl ?_
          refine am_iconst (v := nI 1) d_M_about_52 (by decide) ?_
          refine am_icmpN_ne (tgt := 63) d_M_about_53 (by decide) (by first | decide | omega) (by first | decide | omega) (fun c53 => ?_) (fun c53 => ?_)
          · refine am_iload_n d_M_about_63 rfl rfl ?_
            refine am_iconst (v := nI 2) d_M_about_64 (by decide) ?_
            refine am_icmpN_ne (tgt := 76) d_M_about_65 (by decide) (by first | decide | omega) (by first | decide | omega) (fun c65 => ?_) (fun c65 => ?_)
            · exact absurd c65 (by decide)
            · refine am_aload_n d_M_about_68 rfl rfl ?_
              refine am_get F_M 29 (by decide) d_M_about_69 w_679 rfl rfl ?_
              refine am_i2lN d_M_about_72 (by first | decide | omega) ?_
              refine am_goto (tgt := 81) d_M_about_73 (by decide) ?_
              refine am_lret d_M_about_81 rfl ?_
              exact ⟨_, rfl, fun a' h e => by obtain rfl := nI_inj (by omega) (by omega) e; exact ⟨rfl, rfl⟩⟩
          · exact absurd c53 (by decide)
        · exact absurd c41 (by decide)
      · refine am_iload_n d_M_about_40 rfl rfl ?_
        refine am_ifN_ne (tgt := 51) d_M_about_41 (by decide) (by first | decide | omega) (fun c41 => ?_) (fun c41 => ?_)
        · refine am_iload_n d_M_about_51 rfl rfl ?_
          refine am_iconst (v := nI 1) d_M_about_52 (by decide) ?_
          refine am_icmpN_ne (tgt := 63) d_M_about_53 (by decide) (by first | decide | omega) (by first | decide | omega) (fun c53 => ?_) (fun c53 => ?_)
          · refine am_iload_n d_M_about_63 rfl rfl ?_
            refine am_iconst (v := nI 2) d_M_about_64 (by decide) ?_
            refine am_icmpN_ne (tgt := 76) d_M_about_65 (by decide) (by first | decide | omega) (by first | decide | omega) (fun c65 => ?_) (fun c65 => ?_)
            · refine am_aload_n d_M_about_76 rfl rfl ?_
              refine am_get F_M 30 (by decide) d_M_about_77 w_680 rfl rfl ?_
              refine am_i2lN d_M_about_80 (by first | decide | omega) ?_
              refine am_lret d_M_about_81 rfl ?_
              exact ⟨_, rfl, fun a' h e => by obtain rfl := nI_inj (by omega) (by omega) e; exact ⟨rfl, rfl⟩⟩
            · exact absurd c65 (by decide)
          · exact absurd c53 (by decide)
        · exact absurd c41 (by decide)
    · rw [hpd] at c18
      have c18 := of_decide_eq_false c18
      refine am_iconst (v := nI 2) d_M_about_21 (by decide) ?_
      refine am_goto (tgt := 26) d_M_about_22 (by decide) ?_
      refine am_put F_M 0 (by decide) d_M_about_26 w_650 rfl rfl (Nat.le_of_ble_eq_true rfl) rfl rfl ?_
      refine am_aload_n d_M_about_29 rfl rfl ?_
      refine am_get F_M 0 (by decide) d_M_about_30 w_650 rfl rfl ?_
      refine am_ifN_le (tgt := 40) d_M_about_33 (by decide) (by decide) (fun z => absurd z (by decide)) (fun _ => ?_)
      refine am_lconst (v := lN 0) d_M_about_36 rfl ?_
      refine am_goto (tgt := 81) d_M_about_37 (by decide) ?_
      refine am_lret d_M_about_81 rfl ?_
      have ec : cd_about P w = 2 := by unfold cd_about; (try simp only [ek]); (repeat' split) <;> first | rfl | omega | simp_all
      rw [ec]
      exact ⟨rfl, rfl⟩
  · refine am_iconst (v := nI 1) d_M_about_10 (by decide) ?_
    refine am_goto (tgt := 26) d_M_about_11 (by decide) ?_
    refine am_put F_M 0 (by decide) d_M_about_26 w_650 rfl rfl (Nat.le_of_ble_eq_true rfl) rfl rfl ?_
    refine am_aload_n d_M_about_29 rfl rfl ?_
    refine am_get F_M 0 (by decide) d_M_about_30 w_650 rfl rfl ?_
    refine am_ifN_le (tgt := 40) d_M_about_33 (by decide) (by decide) (fun z => absurd z (by decide)) (fun _ => ?_)
    refine am_lconst (v := lN 0) d_M_about_36 rfl ?_
    refine am_goto (tgt := 81) d_M_about_37 (by decide) ?_
    refine am_lret d_M_about_81 rfl ?_
    have ec : cd_about P w = 1 := by unfold cd_about; (try simp only [ek]); (repeat' split) <;> first | rfl | omega | simp_all
    rw [ec]
    exact ⟨rfl, rfl⟩
end CM2
