/-! the model: alone, promise, clash -/
section CM8
variable {G : am_G} {A : ma_T} {S : sh_T} {jo : Nat → Nat} {M : mo_T} {V : am_H}
set_option maxRecDepth 20000 in
theorem c_M_alone (hS : sh_ok S) (hsk : sh_k S jo) (d bc bs : Nat) (j : Int32) : am_W G m_M_alone (d + 4) bc bs (mQ (cd_alone S j) (some (.long (lN 0))) (hm A S jo ((cd_alone S j), mo_xx M, mo_hr M, mo_mh M, mo_pd M, mo_fr M, mo_pj M, mo_pn M, mo_ph M, mo_pm M, mo_wh M, mo_wm M, mo_co M, mo_bo M, mo_no M, mo_ch M, mo_ro M, mo_tr M, mo_us M) V) (fun v h' => ∀ i, i < sh_jb S → j = nI i → ∃ (H1 H2 : Nat → Int32), v = some (.long (lN (sp_al S i))) ∧ h' = (hm A S jo (0, mo_xx M, H1, H2, mo_pd M, mo_fr M, mo_pj M, mo_pn M, mo_ph M, mo_pm M, mo_wh M, mo_wm M, mo_co M, mo_bo M, mo_no M, mo_ch M, mo_ro M, mo_tr M, mo_us M) V))) 0 (lv_args 0 [.ref 30, .int j]) [] (hm A S jo M V) := by
  obtain ⟨s1, s2, s3, s4, s5, s6, s7, s8, s9, s10, s11, s12, s13, s14⟩ := id hS
  refine am_aload_n d_M_alone_0 rfl rfl ?_
  refine am_iload_n d_M_alone_1 rfl rfl ?_
  refine am_iconst (v := nI 0) d_M_alone_2 (by decide) ?_
  refine am_aload_n d_M_alone_3 rfl rfl ?_
  refine am_get F_M 6 (by decide) d_M_alone_4 w_656 rfl rfl ?_
  refine am_iconst (v := nI 1) d_M_alone_7 (by decide) ?_
  refine am_isub d_M_alone_8 ?_
  refine am_callF 3 (am_lkS (z := m_M_in) d_M_alone_9 w_761 w_762 w_6 w_763 (by decide) np_M_in) (by decide) (by decide) (Nat.le_of_ble_eq_true rfl) (Nat.le_of_ble_eq_true rfl) (Nat.zero_le _) (Nat.zero_le _) (c_M_in _ _ _ _ _ _) ?_
  refine am_ifZ_ne (tgt := 19) d_M_alone_12 (by decide) (fun c12 => ?_) (fun c12 => ?_)
  · obtain ⟨i, rfl, hi⟩ := sp_ix_t c12 (by omega)
    have ek : (nI i).toNatClampNeg = i := nI_clamp (by omega)
    refine am_aload_n d_M_alone_19 rfl rfl ?_
    refine am_iload_n d_M_alone_20 rfl rfl ?_
    refine am_callF 2 (am_recvV (z := m_M_fits) rfl d_M_alone_21 w_788 w_790 ws_19 w_791 F_M.1 rfl (by decide) np_M_fits) (by decide) (by decide) (Nat.le_of_ble_eq_true rfl) (Nat.le_of_ble_eq_true rfl) (Nat.zero_le _) (Nat.zero_le _) (c_M_fits hS _ _ _ i (by omega)) ?_
    refine am_ifZ_ne (tgt := 31) d_M_alone_24 (by decide) (fun c24 => ?_) (fun c24 => ?_)
    · refine am_iconst (v := nI 0) d_M_alone_31 (by decide) ?_
      refine am_put F_M 0 (by decide) d_M_alone_32 w_650 rfl rfl (Nat.le_of_ble_eq_true rfl) rfl rfl ?_
      refine am_hq (hm_cd _) ?_
      refine am_aload_n d_M_alone_35 rfl rfl ?_
      refine am_get F_M 0 (by decide) d_M_alone_36 w_650 rfl rfl ?_
      refine am_sv (v2 := .int (nI 0)) rfl ?_
      refine am_ifN_le (tgt := 46) d_M_alone_39 (by decide) (by decide) (fun _ => ?_) (fun z => absurd z (by decide))
      refine am_aload_n d_M_alone_46 rfl rfl ?_
      refine am_iload_n d_M_alone_47 rfl rfl ?_
      refine am_callQ 2 (am_recvV (z := m_M_aloneOf) rfl d_M_alone_48 w_835 w_837 ws_30 w_838 F_M.1 rfl (by decide) np_M_aloneOf) (by decide) (by decide) (Nat.le_of_ble_eq_true rfl) (Nat.le_of_ble_eq_true rfl) (Nat.zero_le _) (Nat.zero_le _) (c_M_aloneOf hS hsk d _ _ i hi c24) (fun v48 h48 q48 => ?_) (fun x48 h48 q48 => ?_)
      · obtain ⟨H1, H2, q1, rfl⟩ := q48
        cases q1
        refine am_lret d_M_alone_51 rfl ?_
        have ec : cd_alone S (nI i) = 0 := by unfold cd_alone; (try simp only [ek]); (repeat' split) <;> first | rfl | omega | simp_all
        rw [ec]
        exact ⟨_, rfl, fun i' e1 e2 => by obtain rfl := nI_inj (by omega) (by omega) e2; exact ⟨H1, H2, rfl, rfl⟩⟩
      · obtain ⟨H1, H2, q1, -⟩ := q48
        cases q1
    · refine am_iconst (v := nI 2) d_M_alone_27 (by decide) ?_
      refine am_goto (tgt := 32) d_M_alone_28 (by decide) ?_
      refine am_put F_M 0 (by decide) d_M_alone_32 w_650 rfl rfl (Nat.le_of_ble_eq_true rfl) rfl rfl ?_
      refine am_hq (hm_cd _) ?_
      refine am_aload_n d_M_alone_35 rfl rfl ?_
      refine am_get F_M 0 (by decide) d_M_alone_36 w_650 rfl rfl ?_
      refine am_sv (v2 := .int (nI 2)) rfl ?_
      refine am_ifN_le (tgt := 46) d_M_alone_39 (by decide) (by decide) (fun z => absurd z (by decide)) (fun _ => ?_)
      refine am_lconst (v := lN 0) d_M_alone_42 rfl ?_
      refine am_goto (tgt := 51) d_M_alone_43 (by decide) ?_
      refine am_lret d_M_alone_51 rfl ?_
      have ec : cd_alone S (nI i) = 2 := by unfold cd_alone; (try simp only [ek]); (repeat' split) <;> first | rfl | omega | simp_all
      rw [ec]
      exact ⟨rfl, rfl⟩
  · refine am_iconst (v := nI 1) d_M_alone_15 (by decide) ?_
    refine am_goto (tgt := 32) d_M_alone_16 (by decide) ?_
    refine am_put F_M 0 (by decide) d_M_alone_32 w_650 rfl rfl (Nat.le_of_ble_eq_true rfl) rfl rfl ?_
    refine am_hq (hm_cd _) ?_
    refine am_aload_n d_M_alone_35 rfl rfl ?_
    refine am_get F_M 0 (by decide) d_M_alone_36 w_650 rfl rfl ?_
    refine am_sv (v2 := .int (nI 1)) rfl ?_
    refine am_ifN_le (tgt := 46) d_M_alone_39 (by decide) (by decide) (fun z => absurd z (by decide)) (fun _ => ?_)
    refine am_lconst (v := lN 0) d_M_alone_42 rfl ?_
    refine am_goto (tgt := 51) d_M_alone_43 (by decide) ?_
    refine am_lret d_M_alone_51 rfl ?_
    have ec : cd_alone S j = 1 := by unfold cd_alone; (try simp only [ek]); (repeat' split) <;> first | rfl | omega | simp_all
    rw [ec]
    exact ⟨rfl, rfl⟩
set_option maxRecDepth 20000 in
theorem c_M_promise_l {Q : am_O → am_H → Prop} {P : pl_T} (hS : sh_ok S) (hsk : sh_k S jo) (hP : pl_ok P) (hss : pl_ss P = sh_ss S) (hfm : ∀ s, s < sh_ss S → pl_ma P s < sh_mc S) (hph : mo_ph M = pq (pl_ss P) (pl_bg P)) (hpm : mo_pm M = pq (pl_ss P) (pl_ma P)) (d bc bs i : Nat) (hi6 : i < sh_jb S)
    (hk : am_W G m_M_promise d bc bs Q 128 [(0, .ref 30), (1, .int (nI i)), (2, .int (nI 24))] [] (hm A S jo (mo_cd M, mo_xx M, (bd_h (ly S P i (fl_clear S fl_0) (sh_jb S)) (ly_D S i (sh_jb S))), (bd_m (ly S P i (fl_clear S fl_0) (sh_jb S)) (ly_D S i (sh_jb S))), mo_pd M, mo_fr M, mo_pj M, mo_pn M, mo_ph M, mo_pm M, mo_wh M, mo_wm M, mo_co M, mo_bo M, mo_no M, mo_ch M, mo_ro M, mo_tr M, mo_us M) V)) : ∀ (n s : Nat), s ≤ 24 → 24 - s < n → ∀ (hr mh : Nat → Int32), (∀ q, q < s → hr q = bd_h (ly S P i (fl_clear S fl_0) (sh_jb S)) (ly_D S i (sh_jb S)) q) → (∀ q, q < s → mh q = bd_m (ly S P i (fl_clear S fl_0) (sh_jb S)) (ly_D S i (sh_jb S)) q) →
    am_W G m_M_promise d bc bs Q 52 [(0, .ref 30), (1, .int (nI i)), (2, .int (nI s))] [] (hm A S jo (mo_cd M, mo_xx M, hr, mh, mo_pd M, mo_fr M, mo_pj M, mo_pn M, mo_ph M, mo_pm M, mo_wh M, mo_wm M, mo_co M, mo_bo M, mo_no M, mo_ch M, mo_ro M, mo_tr M, mo_us M) V) := by
  intro n
  have s2 := hS.2.1
  have s3 := hS.2.2.1
  obtain ⟨-, -, hv⟩ := ly_D_I hS hsk hfm hi6 (sh_jb S) (Nat.le_refl _)
  have hjo : ∀ s, s < sh_ss S → jo s < 6 := fun s hs => by have := (hsk.2.2.1 s hs).1; omega
  induction n with
  | zero => intro i _ h; omega
  | succ n ih =>
    intro s hi hn hr mh h1 h2
    have hjs := hjo s
    have hds : ((ly_D S i (sh_jb S)) s = true ↔ s < sh_ss S ∧ jo s ≠ i) := ly_D_jb hsk
    have hva : ¬ (s < sh_ss S ∧ jo s ≠ i) → (-1 : Int32) = bd_h (ly S P i (fl_clear S fl_0) (sh_jb S)) (ly_D S i (sh_jb S)) s ∧ (-1 : Int32) = bd_m (ly S P i (fl_clear S fl_0) (sh_jb S)) (ly_D S i (sh_jb S)) s := fun c => ⟨(if_neg (fun q => c (hds.mp q))).symm, (if_neg (fun q => c (hds.mp q))).symm⟩
    have hvb : (s < sh_ss S ∧ jo s ≠ i) → mo_ph M s = bd_h (ly S P i (fl_clear S fl_0) (sh_jb S)) (ly_D S i (sh_jb S)) s ∧ mo_pm M s = bd_m (ly S P i (fl_clear S fl_0) (sh_jb S)) (ly_D S i (sh_jb S)) s := fun c => by
      obtain ⟨g1, g2⟩ := hv s (hds.mpr c)
      rw [hph, hpm, hss, pq_lt c.1, pq_lt c.1]
      unfold bd_h bd_m
      rw [if_pos (hds.mpr c), if_pos (hds.mpr c), g1, g2]
      exact ⟨rfl, rfl⟩
    have hvc : sh_ss S ≤ s → mo_ph M s = -1 ∧ mo_pm M s = -1 := fun c => by
      rw [hph, hpm, pq_ge (by omega), pq_ge (by omega)]
      exact ⟨rfl, rfl⟩
    refine am_iload_n d_M_promise_52 rfl rfl ?_
    refine am_bipush (v := nI 24) d_M_promise_53 (by decide) ?_
    refine am_icmpN_ge (tgt := 128) d_M_promise_55 (by decide) (by omega) (by omega) (fun c55 => ?_) (fun c55 => ?_)
    · have e : s = 24 := by omega
      subst e
      refine am_cell (a := 42) (bd_h (ly S P i (fl_clear S fl_0) (sh_jb S)) (ly_D S i (sh_jb S))) rfl h1 ?_
      refine am_hq (hm_hr _) ?_
      refine am_cell (a := 43) (bd_m (ly S P i (fl_clear S fl_0) (sh_jb S)) (ly_D S i (sh_jb S))) rfl h2 ?_
      refine am_hq (hm_mh _) ?_
      exact hk
    · refine am_iload_n d_M_promise_58 rfl rfl ?_
      refine am_aload_n d_M_promise_59 rfl rfl ?_
      refine am_get F_M 11 (by decide) d_M_promise_60 w_661 rfl rfl ?_
      refine am_icmpN_ge (tgt := 80) d_M_promise_63 (by decide) (by omega) (by omega) (fun c63 => ?_) (fun c63 => ?_)
      · refine am_iconst (v := zI false) d_M_promise_80 (by decide) ?_
        refine am_istore_n d_M_promise_81 rfl (by decide) ?_
        refine am_aload_n d_M_promise_82 rfl rfl ?_
        refine am_get F_M 17 (by decide) d_M_promise_83 w_667 rfl rfl ?_
        refine am_iload_n d_M_promise_86 rfl rfl ?_
        refine am_iload_n d_M_promise_87 rfl rfl ?_
        refine am_ifZ_eq (tgt := 95) d_M_promise_88 (by decide) (fun c88 => ?_) (fun c88 => ?_)
        · refine am_aload_n d_M_promise_95 rfl rfl ?_
          refine am_get F_M 23 (by decide) d_M_promise_96 w_673 rfl rfl ?_
          refine am_iload_n d_M_promise_99 rfl rfl ?_
          refine am_ialdN _ d_M_promise_100 rfl rfl (by omega) (by decide) ?_
          refine am_iastN _ d_M_promise_101 rfl rfl (by omega) (by decide) ?_
          refine am_hq (hm_hr _) ?_
          refine am_aload_n d_M_promise_102 rfl rfl ?_
          refine am_get F_M 18 (by decide) d_M_promise_103 w_668 rfl rfl ?_
          refine am_iload_n d_M_promise_106 rfl rfl ?_
          refine am_iload_n d_M_promise_107 rfl rfl ?_
          refine am_ifZ_eq (tgt := 115) d_M_promise_108 (by decide) (fun c108 => ?_) (fun c108 => ?_)
          · refine am_aload_n d_M_promise_115 rfl rfl ?_
            refine am_get F_M 24 (by decide) d_M_promise_116 w_674 rfl rfl ?_
            refine am_iload_n d_M_promise_119 rfl rfl ?_
            refine am_ialdN _ d_M_promise_120 rfl rfl (by omega) (by decide) ?_
            refine am_iastN _ d_M_promise_121 rfl rfl (by omega) (by decide) ?_
            refine am_hq (hm_mh _) ?_
            refine am_iinc d_M_promise_122 rfl (am_inc _) (by decide) ?_
            refine am_goto (tgt := 52) d_M_promise_125 (by decide) ?_
            exact am_lo (L' := [(0, .ref 30), (1, .int (nI i)), (2, .int (nI (s + 1)))]) rfl (ih (s + 1) (by omega) (by omega) _ _ (up_all2 h1 ((hvc c63).1.trans (hva (by omega)).1)) (up_all2 h2 ((hvc c63).2.trans (hva (by omega)).2)))
          · exact absurd c108 (by decide)
        · exact absurd c88 (by decide)
      · refine am_aload_n d_M_promise_66 rfl rfl ?_
        refine am_get F_M 12 (by decide) d_M_promise_67 w_662 rfl rfl ?_
        refine am_iload_n d_M_promise_70 rfl rfl ?_
        refine am_ialdA d_M_promise_71 rfl (by omega) (by decide) ?_
        refine am_iload_n d_M_promise_72 rfl rfl ?_
        refine am_icmpN_ne (tgt := 80) d_M_promise_73 (by decide) (by omega) (by omega) (fun c73 => ?_) (fun c73 => ?_)
        · refine am_iconst (v := zI false) d_M_promise_80 (by decide) ?_
          refine am_istore_n d_M_promise_81 rfl (by decide) ?_
          refine am_aload_n d_M_promise_82 rfl rfl ?_
          refine am_get F_M 17 (by decide) d_M_promise_83 w_667 rfl rfl ?_
          refine am_iload_n d_M_promise_86 rfl rfl ?_
          refine am_iload_n d_M_promise_87 rfl rfl ?_
          refine am_ifZ_eq (tgt := 95) d_M_promise_88 (by decide) (fun c88 => ?_) (fun c88 => ?_)
          · refine am_aload_n d_M_promise_95 rfl rfl ?_
            refine am_get F_M 23 (by decide) d_M_promise_96 w_673 rfl rfl ?_
            refine am_iload_n d_M_promise_99 rfl rfl ?_
            refine am_ialdN _ d_M_promise_100 rfl rfl (by omega) (by decide) ?_
            refine am_iastN _ d_M_promise_101 rfl rfl (by omega) (by decide) ?_
            refine am_hq (hm_hr _) ?_
            refine am_aload_n d_M_promise_102 rfl rfl ?_
            refine am_get F_M 18 (by decide) d_M_promise_103 w_668 rfl rfl ?_
            refine am_iload_n d_M_promise_106 rfl rfl ?_
            refine am_iload_n d_M_promise_107 rfl rfl ?_
            refine am_ifZ_eq (tgt := 115) d_M_promise_108 (by decide) (fun c108 => ?_) (fun c108 => ?_)
            · refine am_aload_n d_M_promise_115 rfl rfl ?_
              refine am_get F_M 24 (by decide) d_M_promise_116 w_674 rfl rfl ?_
              refine am_iload_n d_M_promise_119 rfl rfl ?_
              refine am_ialdN _ d_M_promise_120 rfl rfl (by omega) (by decide) ?_
              refine am_iastN _ d_M_promise_121 rfl rfl (by omega) (by decide) ?_
              refine am_hq (hm_mh _) ?_
              refine am_iinc d_M_promise_122 rfl (am_inc _) (by decide) ?_
              refine am_goto (tgt := 52) d_M_promise_125 (by decide) ?_
              exact am_lo (L' := [(0, .ref 30), (1, .int (nI i)), (2, .int (nI (s + 1)))]) rfl (ih (s + 1) (by omega) (by omega) _ _ (up_all2 h1 (hvb (by omega)).1) (up_all2 h2 (hvb (by omega)).2))
            · exact absurd c108 (by decide)
          · exact absurd c88 (by decide)
        · refine am_iconst (v := zI true) d_M_promise_76 (by decide) ?_
          refine am_goto (tgt := 81) d_M_promise_77 (by decide) ?_
          refine am_istore_n d_M_promise_81 rfl (by decide) ?_
          refine am_aload_n d_M_promise_82 rfl rfl ?_
          refine am_get F_M 17 (by decide) d_M_promise_83 w_667 rfl rfl ?_
          refine am_iload_n d_M_promise_86 rfl rfl ?_
          refine am_iload_n d_M_promise_87 rfl rfl ?_
          refine am_ifZ_eq (tgt := 95) d_M_promise_88 (by decide) (fun c88 => ?_) (fun c88 => ?_)
          · exact absurd c88 (by decide)
          · refine am_iconst (v := -1) d_M_promise_91 (by decide) ?_
            refine am_goto (tgt := 101) d_M_promise_92 (by decide) ?_
            refine am_iastN _ d_M_promise_101 rfl rfl (by omega) (by decide) ?_
            refine am_hq (hm_hr _) ?_
            refine am_aload_n d_M_promise_102 rfl rfl ?_
            refine am_get F_M 18 (by decide) d_M_promise_103 w_668 rfl rfl ?_
            refine am_iload_n d_M_promise_106 rfl rfl ?_
            refine am_iload_n d_M_promise_107 rfl rfl ?_
            refine am_ifZ_eq (tgt := 115) d_M_promise_108 (by decide) (fun c108 => ?_) (fun c108 => ?_)
            · exact absurd c108 (by decide)
            · refine am_iconst (v := -1) d_M_promise_111 (by decide) ?_
              refine am_goto (tgt := 121) d_M_promise_112 (by decide) ?_
              refine am_iastN _ d_M_promise_121 rfl rfl (by omega) (by decide) ?_
              refine am_hq (hm_mh _) ?_
              refine am_iinc d_M_promise_122 rfl (am_inc _) (by decide) ?_
              refine am_goto (tgt := 52) d_M_promise_125 (by decide) ?_
              exact am_lo (L' := [(0, .ref 30), (1, .int (nI i)), (2, .int (nI (s + 1)))]) rfl (ih (s + 1) (by omega) (by omega) _ _ (up_all2 h1 (hva (by omega)).1) (up_all2 h2 (hva (by omega)).2))
set_option maxRecDepth 20000 in
theorem c_M_promise {P : pl_T} {t : Bool} (hS : sh_ok S) (hsk : sh_k S jo) (hP : pl_ok P) (hpd : mo_pd M = decide (0 < pl_jb P)) (hfr : 0 < pl_jb P → mo_fr M = !t) (hph : mo_ph M = pq (pl_ss P) (pl_bg P)) (hpm : mo_pm M = pq (pl_ss P) (pl_ma P)) (hf : 0 < pl_jb P → t = false → pl_jb P = sh_jb S ∧ pl_ss P = sh_ss S ∧ sp_all S (sh_jb S) = true ∧ ∀ s, s < sh_ss S → pl_ma P s < sh_mc S) (d bc bs : Nat) (j : Int32) :
    am_W G m_M_promise (d + 3) bc bs (mQ (cd_promise S P t j) (some (.int (nI 0))) (hm A S jo ((cd_promise S P t j), mo_xx M, mo_hr M, mo_mh M, mo_pd M, mo_fr M, mo_pj M, mo_pn M, mo_ph M, mo_pm M, mo_wh M, mo_wm M, mo_co M, mo_bo M, mo_no M, mo_ch M, mo_ro M, mo_tr M, mo_us M) V) (fun v h' => ∀ i, i < sh_jb S → j = nI i → ∃ (H1 H2 : Nat → Int32), v = some (.int (nI (pr_v S P i))) ∧ h' = (hm A S jo (0, mo_xx M, H1, H2, mo_pd M, mo_fr M, mo_pj M, mo_pn M, mo_ph M, mo_pm M, mo_wh M, mo_wm M, mo_co M, mo_bo M, mo_no M, mo_ch M, mo_ro M, mo_tr M, mo_us M) V))) 0 (lv_args 0 [.ref 30, .int j]) [] (hm A S jo M V) := by
  obtain ⟨s1, s2, s3, s4, s5, s6, s7, s8, s9, s10, s11, s12, s13, s14⟩ := id hS
  refine am_aload_n d_M_promise_0 rfl rfl ?_
  refine am_iload_n d_M_promise_1 rfl rfl ?_
  refine am_iconst (v := nI 0) d_M_promise_2 (by decide) ?_
  refine am_aload_n d_M_promise_3 rfl rfl ?_
  refine am_get F_M 6 (by decide) d_M_promise_4 w_656 rfl rfl ?_
  refine am_iconst (v := nI 1) d_M_promise_7 (by decide) ?_
  refine am_isub d_M_promise_8 ?_
  refine am_callF 3 (am_lkS (z := m_M_in) d_M_promise_9 w_761 w_762 w_6 w_763 (by decide) np_M_in) (by decide) (by decide) (Nat.le_of_ble_eq_true rfl) (Nat.le_of_ble_eq_true rfl) (Nat.zero_le _) (Nat.zero_le _) (c_M_in _ _ _ _ _ _) ?_
  refine am_ifZ_ne (tgt := 19) d_M_promise_12 (by decide) (fun c12 => ?_) (fun c12 => ?_)
  · refine am_aload_n d_M_promise_19 rfl rfl ?_
    refine am_get F_M 19 (by decide) d_M_promise_20 w_669 rfl rfl ?_
    refine am_ifZ_eq (tgt := 33) d_M_promise_23 (by decide) (fun c23 => ?_) (fun c23 => ?_)
    · rw [hpd] at c23
      have c23 := of_decide_eq_false c23
      refine am_iconst (v := nI 2) d_M_promise_33 (by decide) ?_
      refine am_goto (tgt := 38) d_M_promise_34 (by decide) ?_
      refine am_put F_M 0 (by decide) d_M_promise_38 w_650 rfl rfl (Nat.le_of_ble_eq_true rfl) rfl rfl ?_
      refine am_hq (hm_cd _) ?_
      refine am_aload_n d_M_promise_41 rfl rfl ?_
      refine am_get F_M 0 (by decide) d_M_promise_42 w_650 rfl rfl ?_
      refine am_sv (v2 := .int (nI 2)) rfl ?_
      refine am_ifN_le (tgt := 50) d_M_promise_45 (by decide) (by decide) (fun z => absurd z (by decide)) (fun _ => ?_)
      refine am_iconst (v := nI 0) d_M_promise_48 (by decide) ?_
      refine am_iret d_M_promise_49 rfl ?_
      have ec : cd_promise S P t j = 2 := by unfold cd_promise; (try simp only [ek]); (repeat' split) <;> first | rfl | omega | simp_all
      rw [ec]
      exact ⟨rfl, rfl⟩
    · rw [hpd] at c23
      have c23 := of_decide_eq_true c23
      refine am_aload_n d_M_promise_26 rfl rfl ?_
      refine am_get F_M 20 (by decide) d_M_promise_27 w_670 rfl rfl ?_
      refine am_ifZ_ne (tgt := 37) d_M_promise_30 (by decide) (fun c30 => ?_) (fun c30 => ?_)
      · refine am_iconst (v := nI 0) d_M_promise_37 (by decide) ?_
        refine am_put F_M 0 (by decide) d_M_promise_38 w_650 rfl rfl (Nat.le_of_ble_eq_true rfl) rfl rfl ?_
        refine am_hq (hm_cd _) ?_
        refine am_aload_n d_M_promise_41 rfl rfl ?_
        refine am_get F_M 0 (by decide) d_M_promise_42 w_650 rfl rfl ?_
        refine am_sv (v2 := .int (nI 0)) rfl ?_
        refine am_ifN_le (tgt := 50) d_M_promise_45 (by decide) (by decide) (fun _ => ?_) (fun z => absurd z (by decide))
        have ht : t = false := by have := hfr c23; rw [c30] at this; cases t; rfl; cases this
        obtain ⟨i, rfl, hi⟩ := sp_ix_t c12 (by omega)
        obtain ⟨hjb, hss, hal, hfm⟩ := hf c23 ht
        have hall := sp_all_at hal
        have hno : ∀ k, k < sh_so S i → (ly_D S i (sh_jb S)) (sh_sa S (i * 4 + k)) = false := fun k hk => by
          cases hb : (ly_D S i (sh_jb S)) (sh_sa S (i * 4 + k)) with
          | false => rfl
          | true => exact absurd (hsk.1 i k hi hk).2 ((ly_D_jb hsk).mp hb).2
        refine am_iconst (v := nI 0) d_M_promise_50 (by decide) ?_
        refine am_istore_n d_M_promise_51 rfl (by decide) ?_
        refine am_lo (L' := [(0, .ref 30), (1, .int (nI i)), (2, .int (nI 0))]) rfl (c_M_promise_l (M := (0, mo_xx M, mo_hr M, mo_mh M, mo_pd M, mo_fr M, mo_pj M, mo_pn M, mo_ph M, mo_pm M, mo_wh M, mo_wm M, mo_co M, mo_bo M, mo_no M, mo_ch M, mo_ro M, mo_tr M, mo_us M)) hS hsk hP hss hfm hph hpm (d + 3) bc bs i hi ?_ 25 0 (Nat.zero_le _) (by omega) _ _ (fun q hq => absurd hq (Nat.not_lt_zero q)) (fun q hq => absurd hq (Nat.not_lt_zero q)))
        refine am_aload_n d_M_promise_128 rfl rfl ?_
        refine am_iload_n d_M_promise_129 rfl rfl ?_
        refine am_callF 2 (am_recvV (z := m_M_place) rfl d_M_promise_130 w_812 w_814 ws_25 w_815 F_M.1 rfl (by decide) np_M_place) (by decide) (by decide) (Nat.le_of_ble_eq_true rfl) (Nat.le_of_ble_eq_true rfl) (Nat.zero_le _) (Nat.zero_le _) (am_rm (d := 2) (by omega) (c_M_place (M := (0, mo_xx M, mo_hr M, mo_mh M, mo_pd M, mo_fr M, mo_pj M, mo_pn M, mo_ph M, mo_pm M, mo_wh M, mo_wm M, mo_co M, mo_bo M, mo_no M, mo_ch M, mo_ro M, mo_tr M, mo_us M)) (f := (ly S P i (fl_clear S fl_0) (sh_jb S))) (D := (ly_D S i (sh_jb S))) hS hsk 0 _ _ i 8000 hi (hall i hi) (ly_bd_I hS hsk hP hfm hi) hno (by omega) (by omega))) ?_
        refine am_iret d_M_promise_133 rfl ?_
        have ec : cd_promise S P t (nI i) = 0 := by unfold cd_promise; (try simp only [ek]); (repeat' split) <;> first | rfl | omega | simp_all
        rw [ec]
        exact ⟨_, rfl, fun i' e1 e2 => by obtain rfl := nI_inj (by omega) (by omega) e2; exact ⟨_, _, by rw [pr_v, hjb], rfl⟩⟩
      · have ht : t = true := by have := hfr c23; rw [c30] at this; cases t; cases this; rfl
        refine am_iconst (v := nI 2) d_M_promise_33 (by decide) ?_
        refine am_goto (tgt := 38) d_M_promise_34 (by decide) ?_
        refine am_put F_M 0 (by decide) d_M_promise_38 w_650 rfl rfl (Nat.le_of_ble_eq_true rfl) rfl rfl ?_
        refine am_hq (hm_cd _) ?_
        refine am_aload_n d_M_promise_41 rfl rfl ?_
        refine am_get F_M 0 (by decide) d_M_promise_42 w_650 rfl rfl ?_
        refine am_sv (v2 := .int (nI 2)) rfl ?_
        refine am_ifN_le (tgt := 50) d_M_promise_45 (by decide) (by decide) (fun z => absurd z (by decide)) (fun _ => ?_)
        refine am_iconst (v := nI 0) d_M_promise_48 (by decide) ?_
        refine am_iret d_M_promise_49 rfl ?_
        have ec : cd_promise S P t j = 2 := by unfold cd_promise; (try simp only [ek]); (repeat' split) <;> first | rfl | omega | simp_all
        rw [ec]
        exact ⟨rfl, rfl⟩
  · refine am_iconst (v := nI 1) d_M_promise_15 (by decide) ?_
    refine am_goto (tgt := 38) d_M_promise_16 (by decide) ?_
    refine am_put F_M 0 (by decide) d_M_promise_38 w_650 rfl rfl (Nat.le_of_ble_eq_true rfl) rfl rfl ?_
    refine am_hq (hm_cd _) ?_
    refine am_aload_n d_M_promise_41 rfl rfl ?_
    refine am_get F_M 0 (by decide) d_M_promise_42 w_650 rfl rfl ?_
    refine am_sv (v2 := .int (nI 1)) rfl ?_
    refine am_ifN_le (tgt := 50) d_M_promise_45 (by decide) (by decide) (fun z => absurd z (by decide)) (fun _ => ?_)
    refine am_iconst (v := nI 0) d_M_promise_48 (by decide) ?_
    refine am_iret d_M_promise_49 rfl ?_
    have ec : cd_promise S P t j = 1 := by unfold cd_promise; (try simp only [ek]); (repeat' split) <;> first | rfl | omega | simp_all
    rw [ec]
    exact ⟨rfl, rfl⟩
set_option maxRecDepth 20000 in
theorem c_M_canBoth (hS : sh_ok S) (hsk : sh_k S jo) (hall : ∀ j, j < sh_jb S → sp_fits S j = true) (d bc bs a b : Nat) (ha : a < sh_jb S) (hb : b < sh_jb S) (hab : a ≠ b) : am_W G m_M_canBoth (d + 4) bc bs (fun o h' => ∃ (H1 H2 : Nat → Int32), o = .inl (some (.int (zI (decide (sp_tw S a b = 0))))) ∧ h' = (hm A S jo (mo_cd M, mo_xx M, H1, H2, mo_pd M, mo_fr M, mo_pj M, mo_pn M, mo_ph M, mo_pm M, mo_wh M, mo_wm M, mo_co M, mo_bo M, mo_no M, mo_ch M, (nu (nu (mo_ro M) 0 a) 1 b), mo_tr M, mo_us M) V)) 0 (lv_args 0 [.ref 30, .int (nI a), .int (nI b)]) [] (hm A S jo M V) := by
  have s2 := hS.2.1
  have hg : ∀ k, k < 2 → (nu (nu (mo_ro M) 0 a) 1 b) k < sh_jb S ∧ sp_fits S ((nu (nu (mo_ro M) 0 a) 1 b) k) = true := fun k hk => by
    have e : k = 0 ∨ k = 1 := by omega
    rcases e with rfl | rfl
    · rw [nu_ne _ _ (by omega), nu_eq]; exact ⟨ha, hall a ha⟩
    · rw [nu_eq]; exact ⟨hb, hall b hb⟩
  have hij : se_ij (nu (nu (mo_ro M) 0 a) 1 b) 2 := fun i k h1 h2 => by
    have e1 : i = 0 := by omega
    have e2 : k = 1 := by omega
    subst e1; subst e2
    rw [nu_eq, nu_ne _ _ (by omega), nu_eq]
    exact hab
  have htw : sp_tw S a b < 2 ^ 31 := by
    have := fl_tw_bd hS fl_0 (hall a ha) (hall b hb)
    unfold sp_tw
    omega
  refine am_aload_n d_M_canBoth_0 rfl rfl ?_
  refine am_get F_M 31 (by decide) d_M_canBoth_1 w_681 rfl rfl ?_
  refine am_iconst (v := nI 0) d_M_canBoth_4 (by decide) ?_
  refine am_iload_n d_M_canBoth_5 rfl rfl ?_
  refine am_iastA d_M_canBoth_6 rfl (by omega) (by decide) ?_
  refine am_hq (hm_ro _) ?_
  refine am_aload_n d_M_canBoth_7 rfl rfl ?_
  refine am_get F_M 31 (by decide) d_M_canBoth_8 w_681 rfl rfl ?_
  refine am_iconst (v := nI 1) d_M_canBoth_11 (by decide) ?_
  refine am_iload_n d_M_canBoth_12 rfl rfl ?_
  refine am_iastA d_M_canBoth_13 rfl (by omega) (by decide) ?_
  refine am_hq (hm_ro _) ?_
  refine am_aload_n d_M_canBoth_14 rfl rfl ?_
  refine am_iconst (v := nI 2) d_M_canBoth_15 (by decide) ?_
  refine am_callF 2 (am_recvV (z := m_M_costOfRow) rfl d_M_canBoth_16 w_804 w_806 ws_23 w_807 F_M.1 rfl (by decide) np_M_costOfRow) (by decide) (by decide) (Nat.le_of_ble_eq_true rfl) (Nat.le_of_ble_eq_true rfl) (Nat.zero_le _) (Nat.zero_le _) (am_rm (d := 3) (by omega) (c_M_costOfRow (M := (mo_cd M, mo_xx M, mo_hr M, mo_mh M, mo_pd M, mo_fr M, mo_pj M, mo_pn M, mo_ph M, mo_pm M, mo_wh M, mo_wm M, mo_co M, mo_bo M, mo_no M, mo_ch M, (nu (nu (mo_ro M) 0 a) 1 b), mo_tr M, mo_us M)) hS hsk 0 _ _ 2 (by omega) hg hij)) ?_
  refine am_sv (v2 := .long (lN (sp_tw S a b))) (congrArg (fun z => Value.long (lN z)) (sp_co_2 S (nu (nu (mo_ro M) 0 a) 1 b))) ?_
  refine am_lconst (v := lN 0) d_M_canBoth_19 rfl ?_
  refine am_lc_ne (tgt := 28) d_M_canBoth_20 d_M_canBoth_21 (by decide) (by omega) (by omega) (fun c21 => ?_) (fun c21 => ?_)
  · refine am_iconst (v := zI false) d_M_canBoth_28 (by decide) ?_
    refine am_zret d_M_canBoth_29 rfl (zI_n _) ?_
    exact ⟨_, _, by rw [decide_eq_false c21], rfl⟩
  · refine am_iconst (v := zI true) d_M_canBoth_24 (by decide) ?_
    refine am_goto (tgt := 29) d_M_canBoth_25 (by decide) ?_
    refine am_zret d_M_canBoth_29 rfl (zI_n _) ?_
    exact ⟨_, _, by rw [decide_eq_true c21], rfl⟩
set_option maxRecDepth 20000 in
theorem c_M_clash_i {Q : am_O → am_H → Prop} (hS : sh_ok S) (hsk : sh_k S jo) (hall : ∀ j, j < sh_jb S → sp_fits S j = true) (d bc bs k l : Nat) (hk31 : k < 2 ^ 31) (hl : l < sh_jb S) : ∀ (n o s : Nat), o + n = sh_jb S → s ≤ 8 * l + o ∧ l < o → ∀ (H1 H2 : Nat → Int32) (ro : Nat → Nat),
    (∀ (H1 H2 : Nat → Int32) (ro : Nat → Nat) (s' : Nat), cl_in S k l n o s = .inl s' → s' ≤ 8 * l + 8 → am_W G m_M_clash (d + 5) bc bs Q 120 [(0, .ref 30), (1, .int (nI k)), (2, .int (nI s')), (3, .int (nI l))] [] (hm A S jo (0, mo_xx M, H1, H2, mo_pd M, mo_fr M, mo_pj M, mo_pn M, mo_ph M, mo_pm M, mo_wh M, mo_wm M, mo_co M, mo_bo M, mo_no M, mo_ch M, ro, mo_tr M, mo_us M) V)) → (∀ v, cl_in S k l n o s = .inr v → ∀ (H1 H2 : Nat → Int32) (ro : Nat → Nat), Q (.inl (some (.int (nI v)))) (hm A S jo (0, mo_xx M, H1, H2, mo_pd M, mo_fr M, mo_pj M, mo_pn M, mo_ph M, mo_pm M, mo_wh M, mo_wm M, mo_co M, mo_bo M, mo_no M, mo_ch M, ro, mo_tr M, mo_us M) V)) →
    am_W G m_M_clash (d + 5) bc bs Q 48 [(0, .ref 30), (1, .int (nI k)), (2, .int (nI s)), (3, .int (nI l)), (4, .int (nI o))] [] (hm A S jo (0, mo_xx M, H1, H2, mo_pd M, mo_fr M, mo_pj M, mo_pn M, mo_ph M, mo_pm M, mo_wh M, mo_wm M, mo_co M, mo_bo M, mo_no M, mo_ch M, ro, mo_tr M, mo_us M) V) := by
  intro n
  have s2 := hS.2.1
  induction n with
  | zero =>
    intro o s ho hs H1 H2 ro hk hq
    refine am_iload d_M_clash_48 rfl ?_
    refine am_aload_n d_M_clash_50 rfl rfl ?_
    refine am_get F_M 6 (by decide) d_M_clash_51 w_656 rfl rfl ?_
    refine am_icmpN_ge (tgt := 120) d_M_clash_54 (by decide) (by omega) (by omega) (fun c54 => ?_) (fun c54 => ?_)
    · exact am_lo (L' := [(0, .ref 30), (1, .int (nI k)), (2, .int (nI s)), (3, .int (nI l))]) rfl (hk _ _ _ s rfl (by omega))
    · exact absurd c54 (by omega)
  | succ n ih =>
    intro o s ho hs H1 H2 ro hk hq
    refine am_iload d_M_clash_48 rfl ?_
    refine am_aload_n d_M_clash_50 rfl rfl ?_
    refine am_get F_M 6 (by decide) d_M_clash_51 w_656 rfl rfl ?_
    refine am_icmpN_ge (tgt := 120) d_M_clash_54 (by decide) (by omega) (by omega) (fun c54 => ?_) (fun c54 => ?_)
    · exact absurd c54 (by omega)
    · have hal : sp_al S l < 2 ^ 31 := by have : sp_al S l ≤ 280000 := fl_al_bd hS fl_0 (hall l (by omega)); omega
      have hao : sp_al S o < 2 ^ 31 := by have : sp_al S o ≤ 280000 := fl_al_bd hS fl_0 (hall o (by omega)); omega
      refine am_aload_n d_M_clash_57 rfl rfl ?_
      refine am_iload_n d_M_clash_58 rfl rfl ?_
      refine am_callQ 2 (am_recvV (z := m_M_aloneOf) rfl d_M_clash_59 w_835 w_837 ws_30 w_838 F_M.1 rfl (by decide) np_M_aloneOf) (by decide) (by decide) (Nat.le_of_ble_eq_true rfl) (Nat.le_of_ble_eq_true rfl) (Nat.zero_le _) (Nat.zero_le _) (am_rm (d := 3) (by omega) (c_M_aloneOf (M := (0, mo_xx M, H1, H2, mo_pd M, mo_fr M, mo_pj M, mo_pn M, mo_ph M, mo_pm M, mo_wh M, mo_wm M, mo_co M, mo_bo M, mo_no M, mo_ch M, ro, mo_tr M, mo_us M)) hS hsk 0 _ _ l (by omega) (hall l (by omega)))) (fun v59 h59 q59 => ?_) (fun x59 h59 q59 => ?_)
      · obtain ⟨H3, H4, z59, rfl⟩ := q59
        cases z59
        refine am_lconst (v := lN 0) d_M_clash_62 rfl ?_
        refine am_lc_ne (tgt := 114) d_M_clash_63 d_M_clash_64 (by decide) (by omega) (by omega) (fun c64 => ?_) (fun c64 => ?_)
        · refine am_iinc d_M_clash_114 rfl (am_inc _) (by decide) ?_
          refine am_goto (tgt := 48) d_M_clash_117 (by decide) ?_
          have e : sp_cl S l o = false := decide_eq_false (fun q => c64 q.1)
          rw [cl_1 e] at hk hq
          exact am_lo (L' := [(0, .ref 30), (1, .int (nI k)), (2, .int (nI s)), (3, .int (nI l)), (4, .int (nI (o + 1)))]) rfl (ih (o + 1) s (by omega) (by omega) _ _ _ hk hq)
        · refine am_aload_n d_M_clash_67 rfl rfl ?_
          refine am_iload d_M_clash_68 rfl ?_
          refine am_callQ 2 (am_recvV (z := m_M_aloneOf) rfl d_M_clash_70 w_835 w_837 ws_30 w_838 F_M.1 rfl (by decide) np_M_aloneOf) (by decide) (by decide) (Nat.le_of_ble_eq_true rfl) (Nat.le_of_ble_eq_true rfl) (Nat.zero_le _) (Nat.zero_le _) (am_rm (d := 3) (by omega) (c_M_aloneOf (M := (0, mo_xx M, H3, H4, mo_pd M, mo_fr M, mo_pj M, mo_pn M, mo_ph M, mo_pm M, mo_wh M, mo_wm M, mo_co M, mo_bo M, mo_no M, mo_ch M, ro, mo_tr M, mo_us M)) hS hsk 0 _ _ o (by omega) (hall o (by omega)))) (fun v70 h70 q70 => ?_) (fun x70 h70 q70 => ?_)
          · obtain ⟨H5, H6, z70, rfl⟩ := q70
            cases z70
            refine am_lconst (v := lN 0) d_M_clash_73 rfl ?_
            refine am_lc_ne (tgt := 114) d_M_clash_74 d_M_clash_75 (by decide) (by omega) (by omega) (fun c75 => ?_) (fun c75 => ?_)
            · refine am_iinc d_M_clash_114 rfl (am_inc _) (by decide) ?_
              refine am_goto (tgt := 48) d_M_clash_117 (by decide) ?_
              have e : sp_cl S l o = false := decide_eq_false (fun q => c75 q.2.1)
              rw [cl_1 e] at hk hq
              exact am_lo (L' := [(0, .ref 30), (1, .int (nI k)), (2, .int (nI s)), (3, .int (nI l)), (4, .int (nI (o + 1)))]) rfl (ih (o + 1) s (by omega) (by omega) _ _ _ hk hq)
            · refine am_aload_n d_M_clash_78 rfl rfl ?_
              refine am_iload_n d_M_clash_79 rfl rfl ?_
              refine am_iload d_M_clash_80 rfl ?_
              refine am_callQ 3 (am_recvV (z := m_M_canBoth) rfl d_M_clash_82 w_881 w_883 ws_34 w_884 F_M.1 rfl (by decide) np_M_canBoth) (by decide) (by decide) (Nat.le_of_ble_eq_true rfl) (Nat.le_of_ble_eq_true rfl) (Nat.zero_le _) (Nat.zero_le _) (am_rm (d := 4) (by omega) (c_M_canBoth (M := (0, mo_xx M, H5, H6, mo_pd M, mo_fr M, mo_pj M, mo_pn M, mo_ph M, mo_pm M, mo_wh M, mo_wm M, mo_co M, mo_bo M, mo_no M, mo_ch M, ro, mo_tr M, mo_us M)) hS hsk hall 0 _ _ l o (by omega) (by omega) (by omega))) (fun v82 h82 q82 => ?_) (fun x82 h82 q82 => ?_)
              · obtain ⟨H7, H8, z82, rfl⟩ := q82
                cases z82
                refine am_ifZ_ne (tgt := 114) d_M_clash_85 (by decide) (fun c85 => ?_) (fun c85 => ?_)
                · refine am_iinc d_M_clash_114 rfl (am_inc _) (by decide) ?_
                  refine am_goto (tgt := 48) d_M_clash_117 (by decide) ?_
                  have e : sp_cl S l o = false := decide_eq_false (fun q => by have := of_decide_eq_true c85; have := q.2.2.1; omega)
                  rw [cl_1 e] at hk hq
                  exact am_lo (L' := [(0, .ref 30), (1, .int (nI k)), (2, .int (nI s)), (3, .int (nI l)), (4, .int (nI (o + 1)))]) rfl (ih (o + 1) s (by omega) (by omega) _ _ _ hk hq)
                · refine am_aload_n d_M_clash_88 rfl rfl ?_
                  refine am_iload d_M_clash_89 rfl ?_
                  refine am_iload_n d_M_clash_91 rfl rfl ?_
                  refine am_callQ 3 (am_recvV (z := m_M_canBoth) rfl d_M_clash_92 w_881 w_883 ws_34 w_884 F_M.1 rfl (by decide) np_M_canBoth) (by decide) (by decide) (Nat.le_of_ble_eq_true rfl) (Nat.le_of_ble_eq_true rfl) (Nat.zero_le _) (Nat.zero_le _) (am_rm (d := 4) (by omega) (c_M_canBoth (M := (0, mo_xx M, H7, H8, mo_pd M, mo_fr M, mo_pj M, mo_pn M, mo_ph M, mo_pm M, mo_wh M, mo_wm M, mo_co M, mo_bo M, mo_no M, mo_ch M, (nu (nu ro 0 l) 1 o), mo_tr M, mo_us M)) hS hsk hall 0 _ _ o l (by omega) (by omega) (by omega))) (fun v92 h92 q92 => ?_) (fun x92 h92 q92 => ?_)
                  · obtain ⟨H9, H10, z92, rfl⟩ := q92
                    cases z92
                    refine am_ifZ_ne (tgt := 114) d_M_clash_95 (by decide) (fun c95 => ?_) (fun c95 => ?_)
                    · refine am_iinc d_M_clash_114 rfl (am_inc _) (by decide) ?_
                      refine am_goto (tgt := 48) d_M_clash_117 (by decide) ?_
                      have e : sp_cl S l o = false := decide_eq_false (fun q => by have := of_decide_eq_true c95; have := q.2.2.2; omega)
                      rw [cl_1 e] at hk hq
                      exact am_lo (L' := [(0, .ref 30), (1, .int (nI k)), (2, .int (nI s)), (3, .int (nI l)), (4, .int (nI (o + 1)))]) rfl (ih (o + 1) s (by omega) (by omega) _ _ _ hk hq)
                    · refine am_iload_n d_M_clash_98 rfl rfl ?_
                      refine am_iload_n d_M_clash_99 rfl rfl ?_
                      refine am_icmpN_ne (tgt := 111) d_M_clash_100 (by decide) (by omega) (by omega) (fun c100 => ?_) (fun c100 => ?_)
                      · refine am_iinc d_M_clash_111 rfl (am_inc _) (by decide) ?_
                        refine am_iinc d_M_clash_114 rfl (am_inc _) (by decide) ?_
                        refine am_goto (tgt := 48) d_M_clash_117 (by decide) ?_
                        have e : sp_cl S l o = true := decide_eq_true ⟨c64, c75, by have := of_decide_eq_false c85; omega, by have := of_decide_eq_false c95; omega⟩
                        rw [cl_2 e c100] at hk hq
                        exact am_lo (L' := [(0, .ref 30), (1, .int (nI k)), (2, .int (nI (s + 1))), (3, .int (nI l)), (4, .int (nI (o + 1)))]) rfl (ih (o + 1) (s + 1) (by omega) (by omega) _ _ _ hk hq)
                      · refine am_bipush (v := nI 8) d_M_clash_103 (by decide) ?_
                        refine am_iload_n d_M_clash_105 rfl rfl ?_
                        refine am_imulC d_M_clash_106 ?_
                        refine am_iload d_M_clash_107 rfl ?_
                        refine am_iaddN d_M_clash_109 ?_
                        refine am_iret d_M_clash_110 rfl ?_
                        have e : sp_cl S l o = true := decide_eq_true ⟨c64, c75, by have := of_decide_eq_false c85; omega, by have := of_decide_eq_false c95; omega⟩
                        rw [Nat.mul_comm l 8]
                        exact hq _ (cl_3 e c100) _ _ _
                  · obtain ⟨H9, H10, z92, -⟩ := q92
                    cases z92
              · obtain ⟨H7, H8, z82, -⟩ := q82
                cases z82
          · obtain ⟨H5, H6, z70, -⟩ := q70
            cases z70
      · obtain ⟨H3, H4, z59, -⟩ := q59
        cases z59
set_option maxRecDepth 20000 in
theorem c_M_clash_o {Q : am_O → am_H → Prop} (hS : sh_ok S) (hsk : sh_k S jo) (hall : ∀ j, j < sh_jb S → sp_fits S j = true) (d bc bs k : Nat) (hk31 : k < 2 ^ 31) : ∀ (m l s : Nat), l + m = sh_jb S → s ≤ 8 * l → ∀ (H1 H2 : Nat → Int32) (ro : Nat → Nat),
    (∀ (H1 H2 : Nat → Int32) (ro : Nat → Nat), Q (.inl (some (.int (oI (cl_out S k m l s))))) (hm A S jo (0, mo_xx M, H1, H2, mo_pd M, mo_fr M, mo_pj M, mo_pn M, mo_ph M, mo_pm M, mo_wh M, mo_wm M, mo_co M, mo_bo M, mo_no M, mo_ch M, ro, mo_tr M, mo_us M) V)) → am_W G m_M_clash (d + 5) bc bs Q 28 [(0, .ref 30), (1, .int (nI k)), (2, .int (nI s)), (3, .int (nI l))] [] (hm A S jo (0, mo_xx M, H1, H2, mo_pd M, mo_fr M, mo_pj M, mo_pn M, mo_ph M, mo_pm M, mo_wh M, mo_wm M, mo_co M, mo_bo M, mo_no M, mo_ch M, ro, mo_tr M, mo_us M) V) := by
  intro m
  have s2 := hS.2.1
  induction m with
  | zero =>
    intro l s hl hs H1 H2 ro hq
    refine am_iload_n d_M_clash_28 rfl rfl ?_
    refine am_aload_n d_M_clash_29 rfl rfl ?_
    refine am_get F_M 6 (by decide) d_M_clash_30 w_656 rfl rfl ?_
    refine am_icmpN_ge (tgt := 126) d_M_clash_33 (by decide) (by omega) (by omega) (fun c33 => ?_) (fun c33 => ?_)
    · refine am_aload_n d_M_clash_126 rfl rfl ?_
      refine am_get F_M 0 (by decide) d_M_clash_127 w_650 rfl rfl ?_
      refine am_sv (v2 := .int (nI 0)) rfl ?_
      refine am_ifN_le (tgt := 137) d_M_clash_130 (by decide) (by decide) (fun _ => ?_) (fun z => absurd z (by decide))
      refine am_iconst (v := -1) d_M_clash_137 (by decide) ?_
      refine am_iret d_M_clash_138 rfl ?_
      exact hq _ _ _
    · exact absurd c33 (by omega)
  | succ m ih =>
    intro l s hl hs H1 H2 ro hq
    refine am_iload_n d_M_clash_28 rfl rfl ?_
    refine am_aload_n d_M_clash_29 rfl rfl ?_
    refine am_get F_M 6 (by decide) d_M_clash_30 w_656 rfl rfl ?_
    refine am_icmpN_ge (tgt := 126) d_M_clash_33 (by decide) (by omega) (by omega) (fun c33 => ?_) (fun c33 => ?_)
    · exact absurd c33 (by omega)
    · refine am_aload_n d_M_clash_36 rfl rfl ?_
      refine am_get F_M 0 (by decide) d_M_clash_37 w_650 rfl rfl ?_
      refine am_sv (v2 := .int (nI 0)) rfl ?_
      refine am_ifN_ne (tgt := 126) d_M_clash_40 (by decide) (by decide) (fun z => absurd z (by decide)) (fun _ => ?_)
      refine am_iload_n d_M_clash_43 rfl rfl ?_
      refine am_iconst (v := nI 1) d_M_clash_44 (by decide) ?_
      refine am_iaddN d_M_clash_45 ?_
      refine am_istore d_M_clash_46 (by decide) ?_
      refine am_lo (L' := [(0, .ref 30), (1, .int (nI k)), (2, .int (nI s)), (3, .int (nI l)), (4, .int (nI (l + 1)))]) rfl (c_M_clash_i (M := M) hS hsk hall d bc bs k l hk31 (by omega) (sh_jb S - (l + 1)) (l + 1) s (by omega) (by omega) _ _ _ (fun H1 H2 ro s' e hs' => ?_) (fun v e H1 H2 ro => ?_))
      · rw [cl_o1 e] at hq
        refine am_iinc d_M_clash_120 rfl (am_inc _) (by decide) ?_
        refine am_goto (tgt := 28) d_M_clash_123 (by decide) ?_
        exact am_lo (L' := [(0, .ref 30), (1, .int (nI k)), (2, .int (nI s')), (3, .int (nI (l + 1)))]) rfl (ih (l + 1) s' (by omega) (by omega) _ _ _ hq)
      · rw [cl_o2 e] at hq
        exact hq _ _ _
set_option maxRecDepth 20000 in
theorem c_M_clash (hS : sh_ok S) (hsk : sh_k S jo) (d bc bs : Nat) (v : Int32) : am_W G m_M_clash (d + 5) bc bs (mQ (cd_clash S v) (some (.int (nI 0))) (hm A S jo ((cd_clash S v), mo_xx M, mo_hr M, mo_mh M, mo_pd M, mo_fr M, mo_pj M, mo_pn M, mo_ph M, mo_pm M, mo_wh M, mo_wm M, mo_co M, mo_bo M, mo_no M, mo_ch M, mo_ro M, mo_tr M, mo_us M) V) (fun o h' => ∀ k, k < 2 ^ 31 → v = nI k → ∃ (H1 H2 : Nat → Int32) (ro : Nat → Nat), o = some (.int (cl_v S k)) ∧ h' = (hm A S jo (0, mo_xx M, H1, H2, mo_pd M, mo_fr M, mo_pj M, mo_pn M, mo_ph M, mo_pm M, mo_wh M, mo_wm M, mo_co M, mo_bo M, mo_no M, mo_ch M, ro, mo_tr M, mo_us M) V))) 0 (lv_args 0 [.ref 30, .int v]) [] (hm A S jo M V) := by
  have s2 := hS.2.1
  refine am_aload_n d_M_clash_0 rfl rfl ?_
  refine am_iload_n d_M_clash_1 rfl rfl ?_
  refine am_if_ge (tgt := 9) d_M_clash_2 (by decide) (fun c2 => ?_) (fun c2 => ?_)
  · have hv0 : ¬ v < 0 := fun q => by rw [Int32.lt_iff_toInt_lt] at q; rw [Int32.le_iff_toInt_le] at c2; omega
    refine am_aload_n d_M_clash_9 rfl rfl ?_
    refine am_callF 1 (am_recvV (z := m_M_allFit) rfl d_M_clash_10 w_784 w_786 ws_18 w_787 F_M.1 rfl (by decide) np_M_allFit) (by decide) (by decide) (Nat.le_of_ble_eq_true rfl) (Nat.le_of_ble_eq_true rfl) (Nat.zero_le _) (Nat.zero_le _) (am_rm (d := 1) (by omega) (c_M_allFit hS 0 _ _)) ?_
    refine am_ifZ_ne (tgt := 20) d_M_clash_13 (by decide) (fun c13 => ?_) (fun c13 => ?_)
    · obtain ⟨k, hk31, rfl⟩ := nI_of hv0
      have ec : cd_clash S (nI k) = 0 := by unfold cd_clash; rw [if_neg hv0, if_pos c13]
      rw [ec]
      refine am_iconst (v := nI 0) d_M_clash_20 (by decide) ?_
      refine am_put F_M 0 (by decide) d_M_clash_21 w_650 rfl rfl (Nat.le_of_ble_eq_true rfl) rfl rfl ?_
      refine am_hq (hm_cd _) ?_
      refine am_iconst (v := nI 0) d_M_clash_24 (by decide) ?_
      refine am_istore_n d_M_clash_25 rfl (by decide) ?_
      refine am_iconst (v := nI 0) d_M_clash_26 (by decide) ?_
      refine am_istore_n d_M_clash_27 rfl (by decide) ?_
      exact am_lo (L' := [(0, .ref 30), (1, .int (nI k)), (2, .int (nI 0)), (3, .int (nI 0))]) rfl (c_M_clash_o (M := M) hS hsk (sp_all_at c13) d bc bs k hk31 (sh_jb S) 0 0 (by omega) (by omega) _ _ _ (fun H1 H2 ro => ⟨_, rfl, fun k' e1 e2 => by obtain rfl := nI_inj (by omega) (by omega) e2; exact ⟨H1, H2, ro, rfl, rfl⟩⟩))
    · refine am_iconst (v := nI 2) d_M_clash_16 (by decide) ?_
      refine am_goto (tgt := 21) d_M_clash_17 (by decide) ?_
      refine am_put F_M 0 (by decide) d_M_clash_21 w_650 rfl rfl (Nat.le_of_ble_eq_true rfl) rfl rfl ?_
      refine am_hq (hm_cd _) ?_
      refine am_iconst (v := nI 0) d_M_clash_24 (by decide) ?_
      refine am_istore_n d_M_clash_25 rfl (by decide) ?_
      refine am_iconst (v := nI 0) d_M_clash_26 (by decide) ?_
      refine am_istore_n d_M_clash_27 rfl (by decide) ?_
      refine am_iload_n d_M_clash_28 rfl rfl ?_
      refine am_aload_n d_M_clash_29 rfl rfl ?_
      refine am_get F_M 6 (by decide) d_M_clash_30 w_656 rfl rfl ?_
      refine am_icmpN_ge (tgt := 126) d_M_clash_33 (by decide) (by omega) (by omega) (fun c33 => ?_) (fun c33 => ?_)
      · refine am_aload_n d_M_clash_126 rfl rfl ?_
        refine am_get F_M 0 (by decide) d_M_clash_127 w_650 rfl rfl ?_
        refine am_sv (v2 := .int (nI 2)) rfl ?_
        refine am_ifN_le (tgt := 137) d_M_clash_130 (by decide) (by decide) (fun z => absurd z (by decide)) (fun _ => ?_)
        refine am_iconst (v := nI 0) d_M_clash_133 (by decide) ?_
        refine am_goto (tgt := 138) d_M_clash_134 (by decide) ?_
        refine am_iret d_M_clash_138 rfl ?_
        have ec : cd_clash S v = 2 := by unfold cd_clash; rw [if_neg hv0, if_neg (by rw [c13]; decide)]
        rw [ec]
        exact ⟨rfl, rfl⟩
      · refine am_aload_n d_M_clash_36 rfl rfl ?_
        refine am_get F_M 0 (by decide) d_M_clash_37 w_650 rfl rfl ?_
        refine am_sv (v2 := .int (nI 2)) rfl ?_
        refine am_ifN_ne (tgt := 126) d_M_clash_40 (by decide) (by decide) (fun _ => ?_) (fun z => absurd z (by decide))
        refine am_aload_n d_M_clash_126 rfl rfl ?_
        refine am_get F_M 0 (by decide) d_M_clash_127 w_650 rfl rfl ?_
        refine am_sv (v2 := .int (nI 2)) rfl ?_
        refine am_ifN_le (tgt := 137) d_M_clash_130 (by decide) (by decide) (fun z => absurd z (by decide)) (fun _ => ?_)
        refine am_iconst (v := nI 0) d_M_clash_133 (by decide) ?_
        refine am_goto (tgt := 138) d_M_clash_134 (by decide) ?_
        refine am_iret d_M_clash_138 rfl ?_
        have ec : cd_clash S v = 2 := by unfold cd_clash; rw [if_neg hv0, if_neg (by rw [c13]; decide)]
        rw [ec]
        exact ⟨rfl, rfl⟩
  · refine am_iconst (v := nI 1) d_M_clash_5 (by decide) ?_
    refine am_goto (tgt := 21) d_M_clash_6 (by decide) ?_
    refine am_put F_M 0 (by decide) d_M_clash_21 w_650 rfl rfl (Nat.le_of_ble_eq_true rfl) rfl rfl ?_
    refine am_hq (hm_cd _) ?_
    refine am_iconst (v := nI 0) d_M_clash_24 (by decide) ?_
    refine am_istore_n d_M_clash_25 rfl (by decide) ?_
    refine am_iconst (v := nI 0) d_M_clash_26 (by decide) ?_
    refine am_istore_n d_M_clash_27 rfl (by decide) ?_
    refine am_iload_n d_M_clash_28 rfl rfl ?_
    refine am_aload_n d_M_clash_29 rfl rfl ?_
    refine am_get F_M 6 (by decide) d_M_clash_30 w_656 rfl rfl ?_
    refine am_icmpN_ge (tgt := 126) d_M_clash_33 (by decide) (by omega) (by omega) (fun c33 => ?_) (fun c33 => ?_)
    · refine am_aload_n d_M_clash_126 rfl rfl ?_
      refine am_get F_M 0 (by decide) d_M_clash_127 w_650 rfl rfl ?_
      refine am_sv (v2 := .int (nI 1)) rfl ?_
      refine am_ifN_le (tgt := 137) d_M_clash_130 (by decide) (by decide) (fun z => absurd z (by decide)) (fun _ => ?_)
      refine am_iconst (v := nI 0) d_M_clash_133 (by decide) ?_
      refine am_goto (tgt := 138) d_M_clash_134 (by decide) ?_
      refine am_iret d_M_clash_138 rfl ?_
      have ec : cd_clash S v = 1 := if_pos (i_nle c2)
      rw [ec]
      exact ⟨rfl, rfl⟩
    · refine am_aload_n d_M_clash_36 rfl rfl ?_
      refine am_get F_M 0 (by decide) d_M_clash_37 w_650 rfl rfl ?_
      refine am_sv (v2 := .int (nI 1)) rfl ?_
      refine am_ifN_ne (tgt := 126) d_M_clash_40 (by decide) (by decide) (fun _ => ?_) (fun z => absurd z (by decide))
      refine am_aload_n d_M_clash_126 rfl rfl ?_
      refine am_get F_M 0 (by decide) d_M_clash_127 w_650 rfl rfl ?_
      refine am_sv (v2 := .int (nI 1)) rfl ?_
      refine am_ifN_le (tgt := 137) d_M_clash_130 (by decide) (by decide) (fun z => absurd z (by decide)) (fun _ => ?_)
      refine am_iconst (v := nI 0) d_M_clash_133 (by decide) ?_
      refine am_goto (tgt := 138) d_M_clash_134 (by decide) ?_
      refine am_iret d_M_clash_138 rfl ?_
      have ec : cd_clash S v = 1 := if_pos (i_nle c2)
      rw [ec]
      exact ⟨rfl, rfl⟩
end CM8
