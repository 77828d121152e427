/-! the model: placing, costs -/
def tr_h (q : Nat × Option Nat) : Nat := match q.2 with
  | none => 0
  | some _ => q.1
theorem fl_try_ne {S : sh_T} {f : fl_T} {s r m : Nat} (h : sh_kd S m ≠ sh_sk S s) : fl_try S f s r (m + 1) = fl_try S f s r m := by rw [fl_try, if_neg h]
theorem fl_try_t {S : sh_T} {f : fl_T} {s r m : Nat} (h : sh_kd S m = sh_sk S s) (h2 : (fl_try S f s r m).2 = none ∨ fl_first f m r (sh_sh S s) < (fl_try S f s r m).1) : fl_try S f s r (m + 1) = (fl_first f m r (sh_sh S s), some m) := by rw [fl_try, if_pos h, if_pos h2]
theorem fl_try_k {S : sh_T} {f : fl_T} {s r m : Nat} (h : sh_kd S m = sh_sk S s) (h2 : ¬ ((fl_try S f s r m).2 = none ∨ fl_first f m r (sh_sh S s) < (fl_try S f s r m).1)) : fl_try S f s r (m + 1) = fl_try S f s r m := by rw [fl_try, if_pos h, if_neg h2]
section CM4
variable {G : am_G} {A : ma_T} {S : sh_T} {jo : Nat → Nat} {M : mo_T} {V : am_H}
set_option maxRecDepth 20000 in
theorem c_M_place_i {f : fl_T} {D : Nat → Bool} {Q : am_O → am_H → Prop} (hS : sh_ok S) (d bc bs j k s r en B : Nat) (hs : s < 24) (hr : r ≤ B) (hsm : fl_sm (sh_mc S) f B) (hI : (∀ m, m < sh_mc S → fl_bc f m ≤ 32) ∧ (∀ m, m < sh_mc S → fl_bc f m ≤ 32) ∧ fl_D S f D ∧ (∀ s, s < sh_ss S → D s = true → fl_bg f s ≤ B ∧ fl_ma f s < sh_mc S)) (hB2 : 2000 ≤ B) (hB9 : B ≤ 900000)
    (hk : am_W G m_M_place (d + 2) bc bs Q 130 [(0, .ref 30), (1, .int (nI j)), (2, .int (nI r)), (3, .int (nI en)), (4, .int (nI k)), (5, .int (nI s)), (6, .int (oI (fl_try S f s r (sh_mc S)).2)), (7, .int (nI (tr_h (fl_try S f s r (sh_mc S))))), (8, .int (nI (sh_mc S)))] [] (hm A S jo (mo_cd M, mo_xx M, (bd_h f D), (bd_m f D), mo_pd M, mo_fr M, mo_pj M, mo_pn M, mo_ph M, mo_pm M, mo_wh M, mo_wm M, mo_co M, mo_bo M, mo_no M, mo_ch M, mo_ro M, mo_tr M, mo_us M) V)) : ∀ (n m : Nat), m ≤ sh_mc S → sh_mc S - m < n →
    am_W G m_M_place (d + 2) bc bs Q 40 [(0, .ref 30), (1, .int (nI j)), (2, .int (nI r)), (3, .int (nI en)), (4, .int (nI k)), (5, .int (nI s)), (6, .int (oI (fl_try S f s r m).2)), (7, .int (nI (tr_h (fl_try S f s r m)))), (8, .int (nI m))] [] (hm A S jo (mo_cd M, mo_xx M, (bd_h f D), (bd_m f D), mo_pd M, mo_fr M, mo_pj M, mo_pn M, mo_ph M, mo_pm M, mo_wh M, mo_wm M, mo_co M, mo_bo M, mo_no M, mo_ch M, mo_ro M, mo_tr M, mo_us M) V) := by
  intro n
  obtain ⟨s1, s2, s3, s4, s5, s6, s7, s8, s9, s10, s11, s12, s13, s14⟩ := id hS
  induction n with
  | zero => intro i _ h; omega
  | succ n ih =>
    intro m hi hn
    refine am_iload d_M_place_40 rfl ?_
    refine am_aload_n d_M_place_42 rfl rfl ?_
    refine am_get F_M 1 (by decide) d_M_place_43 w_651 rfl rfl ?_
    refine am_icmpN_ge (tgt := 130) d_M_place_46 (by decide) (by omega) (by omega) (fun c46 => ?_) (fun c46 => ?_)
    · have e : m = sh_mc S := by omega
      subst e
      exact hk
    · have hmm : m < sh_mc S := by omega
      have t4 := s4 m
      have t12 := s12 s
      have hfb := fl_first_bd (n := sh_sh S s) hmm hsm hr
      have hnone : oI (fl_try S f s r m).2 = -1 → (fl_try S f s r m).2 = none := fun c => by
        cases ho : (fl_try S f s r m).2 with
        | none => rfl
        | some q => rw [ho] at c; exact absurd c (nI_m1 (by have := (fl_try_bd (S := S) (s := s) hsm hr m (by omega)).2 q ho; omega))
      have hsome : ¬ oI (fl_try S f s r m).2 = -1 → tr_h (fl_try S f s r m) = (fl_try S f s r m).1 ∧ (fl_try S f s r m).2 ≠ none := fun c => by
        cases ho : (fl_try S f s r m).2 with
        | none => rw [ho] at c; exact absurd rfl c
        | some q => exact ⟨by unfold tr_h; rw [ho], by intro e; cases e⟩
      have htb : tr_h (fl_try S f s r m) ≤ B := by
        unfold tr_h; split
        · omega
        · exact (fl_try_bd (S := S) (s := s) hsm hr m (by omega)).1
      have hkeep : ¬ oI (fl_try S f s r m).2 = -1 → tr_h (fl_try S f s r m) ≤ fl_first f m r (sh_sh S s) → ¬ ((fl_try S f s r m).2 = none ∨ fl_first f m r (sh_sh S s) < (fl_try S f s r m).1) := fun c c2 q => by
        obtain ⟨h1, h2⟩ := hsome c
        rcases q with q | q
        · exact h2 q
        · omega
      have htake : ¬ oI (fl_try S f s r m).2 = -1 → fl_first f m r (sh_sh S s) < tr_h (fl_try S f s r m) → fl_first f m r (sh_sh S s) < (fl_try S f s r m).1 := fun c c2 => by
        obtain ⟨h1, h2⟩ := hsome c
        omega
      refine am_aload_n d_M_place_49 rfl rfl ?_
      refine am_get F_M 2 (by decide) d_M_place_50 w_652 rfl rfl ?_
      refine am_iload d_M_place_53 rfl ?_
      refine am_ialdA d_M_place_55 rfl (by omega) (by decide) ?_
      refine am_aload_n d_M_place_56 rfl rfl ?_
      refine am_get F_M 13 (by decide) d_M_place_57 w_663 rfl rfl ?_
      refine am_iload d_M_place_60 rfl ?_
      refine am_ialdA d_M_place_62 rfl (by omega) (by decide) ?_
      refine am_icmpN_ne (tgt := 83) d_M_place_63 (by decide) (by omega) (by omega) (fun c63 => ?_) (fun c63 => ?_)
      · refine am_iconst (v := nI 0) d_M_place_83 (by decide) ?_
        refine am_istore d_M_place_84 (by decide) ?_
        refine am_aload_n d_M_place_86 rfl rfl ?_
        refine am_get F_M 2 (by decide) d_M_place_87 w_652 rfl rfl ?_
        refine am_iload d_M_place_90 rfl ?_
        refine am_ialdA d_M_place_92 rfl (by omega) (by decide) ?_
        refine am_aload_n d_M_place_93 rfl rfl ?_
        refine am_get F_M 13 (by decide) d_M_place_94 w_663 rfl rfl ?_
        refine am_iload d_M_place_97 rfl ?_
        refine am_ialdA d_M_place_99 rfl (by omega) (by decide) ?_
        refine am_icmpN_ne (tgt := 124) d_M_place_100 (by decide) (by omega) (by omega) (fun c100 => ?_) (fun c100 => ?_)
        · refine am_iinc d_M_place_124 rfl (am_inc _) (by decide) ?_
          refine am_goto (tgt := 40) d_M_place_127 (by decide) ?_
          exact am_lo (L' := [(0, .ref 30), (1, .int (nI j)), (2, .int (nI r)), (3, .int (nI en)), (4, .int (nI k)), (5, .int (nI s)), (6, .int (oI (fl_try S f s r m).2)), (7, .int (nI (tr_h (fl_try S f s r m)))), (8, .int (nI (m + 1)))]) rfl (am_lq (L2 := [(0, .ref 30), (1, .int (nI j)), (2, .int (nI r)), (3, .int (nI en)), (4, .int (nI k)), (5, .int (nI s)), (6, .int (oI (fl_try S f s r (m + 1)).2)), (7, .int (nI (tr_h (fl_try S f s r (m + 1))))), (8, .int (nI (m + 1)))]) (by rw [fl_try_ne c63]) (ih (m + 1) (by omega) (by omega)))
        · exact absurd c100 c63
      · refine am_aload_n d_M_place_66 rfl rfl ?_
        refine am_iload d_M_place_67 rfl ?_
        refine am_iload_n d_M_place_69 rfl rfl ?_
        refine am_aload_n d_M_place_70 rfl rfl ?_
        refine am_get F_M 14 (by decide) d_M_place_71 w_664 rfl rfl ?_
        refine am_iload d_M_place_74 rfl ?_
        refine am_ialdA d_M_place_76 rfl (by omega) (by decide) ?_
        refine am_callF 4 (am_recvV (z := m_M_freeFrom) rfl d_M_place_77 w_816 w_818 ws_26 w_819 F_M.1 rfl (by decide) np_M_freeFrom) (by decide) (by decide) (Nat.le_of_ble_eq_true rfl) (Nat.le_of_ble_eq_true rfl) (Nat.zero_le _) (Nat.zero_le _) (c_M_freeFrom hS d _ _ m r _ B hmm (s13 s) hr hI hB2 hB9) ?_
        refine am_goto (tgt := 84) d_M_place_80 (by decide) ?_
        refine am_istore d_M_place_84 (by decide) ?_
        refine am_aload_n d_M_place_86 rfl rfl ?_
        refine am_get F_M 2 (by decide) d_M_place_87 w_652 rfl rfl ?_
        refine am_iload d_M_place_90 rfl ?_
        refine am_ialdA d_M_place_92 rfl (by omega) (by decide) ?_
        refine am_aload_n d_M_place_93 rfl rfl ?_
        refine am_get F_M 13 (by decide) d_M_place_94 w_663 rfl rfl ?_
        refine am_iload d_M_place_97 rfl ?_
        refine am_ialdA d_M_place_99 rfl (by omega) (by decide) ?_
        refine am_icmpN_ne (tgt := 124) d_M_place_100 (by decide) (by omega) (by omega) (fun c100 => ?_) (fun c100 => ?_)
        · refine am_iinc d_M_place_124 rfl (am_inc _) (by decide) ?_
          refine am_goto (tgt := 40) d_M_place_127 (by decide) ?_
          exact absurd c63 c100
        · refine am_iload d_M_place_103 rfl ?_
          refine am_iconst (v := -1) d_M_place_105 (by decide) ?_
          refine am_icmp_eq (tgt := 116) d_M_place_106 (by decide) (fun c106 => ?_) (fun c106 => ?_)
          · refine am_iload d_M_place_116 rfl ?_
            refine am_istore d_M_place_118 (by decide) ?_
            refine am_iload d_M_place_120 rfl ?_
            refine am_istore d_M_place_122 (by decide) ?_
            refine am_iinc d_M_place_124 rfl (am_inc _) (by decide) ?_
            refine am_goto (tgt := 40) d_M_place_127 (by decide) ?_
            exact am_lo (L' := [(0, .ref 30), (1, .int (nI j)), (2, .int (nI r)), (3, .int (nI en)), (4, .int (nI k)), (5, .int (nI s)), (6, .int (nI m)), (7, .int (nI (fl_first f m r (sh_sh S s)))), (8, .int (nI (m + 1)))]) rfl (am_lq (L2 := [(0, .ref 30), (1, .int (nI j)), (2, .int (nI r)), (3, .int (nI en)), (4, .int (nI k)), (5, .int (nI s)), (6, .int (oI (fl_try S f s r (m + 1)).2)), (7, .int (nI (tr_h (fl_try S f s r (m + 1))))), (8, .int (nI (m + 1)))]) (by rw [fl_try_t c63 (Or.inl (hnone c106))]; rfl) (ih (m + 1) (by omega) (by omega)))
          · refine am_iload d_M_place_109 rfl ?_
            refine am_iload d_M_place_111 rfl ?_
            refine am_icmpN_ge (tgt := 124) d_M_place_113 (by decide) (by omega) (by omega) (fun c113 => ?_) (fun c113 => ?_)
            · refine am_iinc d_M_place_124 rfl (am_inc _) (by decide) ?_
              refine am_goto (tgt := 40) d_M_place_127 (by decide) ?_
              exact am_lo (L' := [(0, .ref 30), (1, .int (nI j)), (2, .int (nI r)), (3, .int (nI en)), (4, .int (nI k)), (5, .int (nI s)), (6, .int (oI (fl_try S f s r m).2)), (7, .int (nI (tr_h (fl_try S f s r m)))), (8, .int (nI (m + 1)))]) rfl (am_lq (L2 := [(0, .ref 30), (1, .int (nI j)), (2, .int (nI r)), (3, .int (nI en)), (4, .int (nI k)), (5, .int (nI s)), (6, .int (oI (fl_try S f s r (m + 1)).2)), (7, .int (nI (tr_h (fl_try S f s r (m + 1))))), (8, .int (nI (m + 1)))]) (by rw [fl_try_k c63 (hkeep c106 c113)]) (ih (m + 1) (by omega) (by omega)))
            · refine am_iload d_M_place_116 rfl ?_
              refine am_istore d_M_place_118 (by decide) ?_
              refine am_iload d_M_place_120 rfl ?_
              refine am_istore d_M_place_122 (by decide) ?_
              refine am_iinc d_M_place_124 rfl (am_inc _) (by decide) ?_
              refine am_goto (tgt := 40) d_M_place_127 (by decide) ?_
              exact am_lo (L' := [(0, .ref 30), (1, .int (nI j)), (2, .int (nI r)), (3, .int (nI en)), (4, .int (nI k)), (5, .int (nI s)), (6, .int (nI m)), (7, .int (nI (fl_first f m r (sh_sh S s)))), (8, .int (nI (m + 1)))]) rfl (am_lq (L2 := [(0, .ref 30), (1, .int (nI j)), (2, .int (nI r)), (3, .int (nI en)), (4, .int (nI k)), (5, .int (nI s)), (6, .int (oI (fl_try S f s r (m + 1)).2)), (7, .int (nI (tr_h (fl_try S f s r (m + 1))))), (8, .int (nI (m + 1)))]) (by rw [fl_try_t c63 (Or.inr (htake c106 c113))]; rfl) (ih (m + 1) (by omega) (by omega)))
set_option maxRecDepth 20000 in
theorem c_M_place_o {f : fl_T} {D : Nat → Bool} (hS : sh_ok S) (hsk : sh_k S jo) (d bc bs j B : Nat) (hj : j < sh_jb S) (hf : sp_fits S j = true) (h : bd_I S f D B) (hD0 : ∀ i, i < sh_so S j → D (sh_sa S (j * 4 + i)) = false) (hB2 : 2000 ≤ B) (hB9 : B ≤ 800000) : ∀ (n k : Nat), k ≤ sh_so S j → sh_so S j - k < n →
    am_W G m_M_place (d + 2) bc bs (fun o h' => o = .inl (some (.int (nI (fl_end S j f)))) ∧ h' = (hm A S jo (mo_cd M, mo_xx M, (bd_h (fl_place S j f) (bd_D S j D (sh_so S j))), (bd_m (fl_place S j f) (bd_D S j D (sh_so S j))), mo_pd M, mo_fr M, mo_pj M, mo_pn M, mo_ph M, mo_pm M, mo_wh M, mo_wm M, mo_co M, mo_bo M, mo_no M, mo_ch M, mo_ro M, mo_tr M, mo_us M) V)) 7 [(0, .ref 30), (1, .int (nI j)), (2, .int (nI (fl_pj S j f k).2.2)), (3, .int (nI (fl_pj S j f k).2.1)), (4, .int (nI k))] [] (hm A S jo (mo_cd M, mo_xx M, (bd_h (fl_pj S j f k).1 (bd_D S j D k)), (bd_m (fl_pj S j f k).1 (bd_D S j D k)), mo_pd M, mo_fr M, mo_pj M, mo_pn M, mo_ph M, mo_pm M, mo_wh M, mo_wm M, mo_co M, mo_bo M, mo_no M, mo_ch M, mo_ro M, mo_tr M, mo_us M) V) := by
  intro n
  obtain ⟨s1, s2, s3, s4, s5, s6, s7, s8, s9, s10, s11, s12, s13, s14⟩ := id hS
  have t10 := s10 j
  induction n with
  | zero => intro i _ h; omega
  | succ n ih =>
    intro k hi hn
    refine am_iload d_M_place_7 rfl ?_
    refine am_aload_n d_M_place_9 rfl rfl ?_
    refine am_get F_M 9 (by decide) d_M_place_10 w_659 rfl rfl ?_
    refine am_iload_n d_M_place_13 rfl rfl ?_
    refine am_ialdA d_M_place_14 rfl (by omega) (by decide) ?_
    refine am_icmpN_ge (tgt := 175) d_M_place_15 (by decide) (by omega) (by omega) (fun c15 => ?_) (fun c15 => ?_)
    · refine am_iload_n d_M_place_175 rfl rfl ?_
      refine am_iret d_M_place_176 rfl ?_
      have e : k = sh_so S j := by omega
      subst e
      exact ⟨rfl, rfl⟩
    · refine am_aload_n d_M_place_18 rfl rfl ?_
      refine am_get F_M 10 (by decide) d_M_place_19 w_660 rfl rfl ?_
      refine am_iconst (v := nI 4) d_M_place_22 (by decide) ?_
      refine am_iload_n d_M_place_23 rfl rfl ?_
      refine am_imulC d_M_place_24 ?_
      refine am_iload d_M_place_25 rfl ?_
      refine am_iaddN d_M_place_27 ?_
      refine am_ialdA d_M_place_28 rfl (by omega) (by decide) ?_
      refine am_istore d_M_place_29 (by decide) ?_
      refine am_iconst (v := -1) d_M_place_31 (by decide) ?_
      refine am_istore d_M_place_32 (by decide) ?_
      refine am_iconst (v := nI 0) d_M_place_34 (by decide) ?_
      refine am_istore d_M_place_35 (by decide) ?_
      refine am_iconst (v := nI 0) d_M_place_37 (by decide) ?_
      refine am_istore d_M_place_38 (by decide) ?_
      have t11 := s11 (j * 4 + k)
      obtain ⟨g1, g2, g3⟩ := fl_pj_sm hS hf h.1 k (by omega)
      obtain ⟨a1, a2, a3⟩ := fl_pj_I hS hsk hj hf h hD0 k (by omega)
      have h32 : ∀ m, m < sh_mc S → fl_bc (fl_pj S j f k).1 m ≤ 32 := g1.1
      obtain ⟨hb1, hb2⟩ := fl_try_bd (S := S) (s := (sh_sa S (j * 4 + k))) g1 g3 (sh_mc S) (Nat.le_refl _)
      have hso := fl_try_some (S := S) (f := (fl_pj S j f k).1) (s := (sh_sa S (j * 4 + k))) (r := (fl_pj S j f k).2.2) (sh_mc S) (sp_fit_has hf (by omega))
      obtain ⟨m0, hq⟩ := Option.ne_none_iff_exists'.mp hso
      have hm0 := hb2 m0 hq
      have t13 := s13 (sh_sa S (j * 4 + k))
      have t14 := s14 (sh_sa S (j * 4 + k))
      have e0 : (fl_pj S j f (k + 1)).1 = fl_put S (fl_pj S j f k).1 (sh_sa S (j * 4 + k)) m0 (fl_try S (fl_pj S j f k).1 (sh_sa S (j * 4 + k)) (fl_pj S j f k).2.2 (sh_mc S)).1 := by
        rw [fl_pj]; unfold fl_stp; rw [hq]; rfl
      refine am_lo (L' := [(0, .ref 30), (1, .int (nI j)), (2, .int (nI (fl_pj S j f k).2.2)), (3, .int (nI (fl_pj S j f k).2.1)), (4, .int (nI k)), (5, .int (nI (sh_sa S (j * 4 + k)))), (6, .int (-1)), (7, .int (nI 0)), (8, .int (nI 0))]) rfl (c_M_place_i hS d bc bs j k (sh_sa S (j * 4 + k)) _ _ (B + 200 * k) t11 g3 g1 ⟨h32, h32, a1, a2⟩ (by omega) (by omega) ?_ (sh_mc S + 1) 0 (Nat.zero_le _) (by omega))
      rw [show tr_h (fl_try S (fl_pj S j f k).1 (sh_sa S (j * 4 + k)) (fl_pj S j f k).2.2 (sh_mc S)) = (fl_try S (fl_pj S j f k).1 (sh_sa S (j * 4 + k)) (fl_pj S j f k).2.2 (sh_mc S)).1 by unfold tr_h; rw [hq], hq]
      refine am_aload_n d_M_place_130 rfl rfl ?_
      refine am_get F_M 17 (by decide) d_M_place_131 w_667 rfl rfl ?_
      refine am_iload d_M_place_134 rfl ?_
      refine am_iload d_M_place_136 rfl ?_
      refine am_iastN _ d_M_place_138 rfl rfl (by omega) (by decide) ?_
      refine am_aload_n d_M_place_139 rfl rfl ?_
      refine am_get F_M 18 (by decide) d_M_place_140 w_668 rfl rfl ?_
      refine am_iload d_M_place_143 rfl ?_
      refine am_iload d_M_place_145 rfl ?_
      refine am_iastN _ d_M_place_147 rfl rfl (by omega) (by decide) ?_
      refine am_iload d_M_place_148 rfl ?_
      refine am_aload_n d_M_place_150 rfl rfl ?_
      refine am_get F_M 14 (by decide) d_M_place_151 w_664 rfl rfl ?_
      refine am_iload d_M_place_154 rfl ?_
      refine am_ialdA d_M_place_156 rfl (by omega) (by decide) ?_
      refine am_iaddN d_M_place_157 ?_
      refine am_istore_n d_M_place_158 rfl (by decide) ?_
      refine am_iload_n d_M_place_159 rfl rfl ?_
      refine am_aload_n d_M_place_160 rfl rfl ?_
      refine am_get F_M 15 (by decide) d_M_place_161 w_665 rfl rfl ?_
      refine am_iload d_M_place_164 rfl ?_
      refine am_ialdA d_M_place_166 rfl (by omega) (by decide) ?_
      refine am_iaddN d_M_place_167 ?_
      refine am_istore_n d_M_place_168 rfl (by decide) ?_
      refine am_iinc d_M_place_169 rfl (am_inc _) (by decide) ?_
      refine am_goto (tgt := 7) d_M_place_172 (by decide) ?_
      exact am_lo (L' := [(0, .ref 30), (1, .int (nI j)), (2, .int (nI ((fl_try S (fl_pj S j f k).1 (sh_sa S (j * 4 + k)) (fl_pj S j f k).2.2 (sh_mc S)).1 + sh_sh S (sh_sa S (j * 4 + k)) + sh_sw S (sh_sa S (j * 4 + k))))), (3, .int (nI ((fl_try S (fl_pj S j f k).1 (sh_sa S (j * 4 + k)) (fl_pj S j f k).2.2 (sh_mc S)).1 + sh_sh S (sh_sa S (j * 4 + k))))), (4, .int (nI (k + 1)))]) rfl (am_lq (L2 := [(0, .ref 30), (1, .int (nI j)), (2, .int (nI (fl_pj S j f (k + 1)).2.2)), (3, .int (nI (fl_pj S j f (k + 1)).2.1)), (4, .int (nI (k + 1)))]) rfl (am_hq (h2 := (hm A S jo (mo_cd M, mo_xx M, (bd_h (fl_pj S j f (k + 1)).1 (bd_D S j D (k + 1))), (bd_m (fl_pj S j f (k + 1)).1 (bd_D S j D (k + 1))), mo_pd M, mo_fr M, mo_pj M, mo_pn M, mo_ph M, mo_pm M, mo_wh M, mo_wm M, mo_co M, mo_bo M, mo_no M, mo_ch M, mo_ro M, mo_tr M, mo_us M) V)) (by rw [e0, bd_D, ← bd_h_put, ← bd_m_put]; rfl) (ih (k + 1) (by omega) (by omega))))
theorem c_M_place {f : fl_T} {D : Nat → Bool} (hS : sh_ok S) (hsk : sh_k S jo) (d bc bs j B : Nat) (hj : j < sh_jb S) (hf : sp_fits S j = true) (h : bd_I S f D B) (hD0 : ∀ i, i < sh_so S j → D (sh_sa S (j * 4 + i)) = false) (hB2 : 2000 ≤ B) (hB9 : B ≤ 800000) : am_Fn G m_M_place (d + 2) bc bs [.ref 30, .int (nI j)] (hm A S jo (mo_cd M, mo_xx M, (bd_h f D), (bd_m f D), mo_pd M, mo_fr M, mo_pj M, mo_pn M, mo_ph M, mo_pm M, mo_wh M, mo_wm M, mo_co M, mo_bo M, mo_no M, mo_ch M, mo_ro M, mo_tr M, mo_us M) V) (some (.int (nI (fl_end S j f)))) (hm A S jo (mo_cd M, mo_xx M, (bd_h (fl_place S j f) (bd_D S j D (sh_so S j))), (bd_m (fl_place S j f) (bd_D S j D (sh_so S j))), mo_pd M, mo_fr M, mo_pj M, mo_pn M, mo_ph M, mo_pm M, mo_wh M, mo_wm M, mo_co M, mo_bo M, mo_no M, mo_ch M, mo_ro M, mo_tr M, mo_us M) V) := by
  refine am_iconst (v := nI 0) d_M_place_0 (by decide) ?_
  refine am_istore_n d_M_place_1 rfl (by decide) ?_
  refine am_iconst (v := nI 0) d_M_place_2 (by decide) ?_
  refine am_istore_n d_M_place_3 rfl (by decide) ?_
  refine am_iconst (v := nI 0) d_M_place_4 (by decide) ?_
  refine am_istore d_M_place_5 (by decide) ?_
  exact am_lo (L' := [(0, .ref 30), (1, .int (nI j)), (2, .int (nI 0)), (3, .int (nI 0)), (4, .int (nI 0))]) rfl (c_M_place_o hS hsk d bc bs j B hj hf h hD0 hB2 hB9 (sh_so S j + 1) 0 (Nat.zero_le _) (by omega))
set_option maxRecDepth 20000 in
theorem c_M_costOfRow_l (hS : sh_ok S) (hsk : sh_k S jo) (d bc bs n : Nat) (hn : n ≤ sh_jb S) (hg : ∀ k, k < n → mo_ro M k < sh_jb S ∧ sp_fits S (mo_ro M k) = true) (hij : se_ij (mo_ro M) n) : ∀ (q k : Nat), k ≤ n → n - k < q →
    am_W G m_M_costOfRow (d + 3) bc bs (fun o h' => o = .inl (some (.long (lN (sp_co S (mo_ro M) n)))) ∧ h' = (hm A S jo (mo_cd M, mo_xx M, (bd_h (fl_co S (mo_ro M) (fl_clear S fl_0) n).1 (bd_C S (mo_ro M) n)), (bd_m (fl_co S (mo_ro M) (fl_clear S fl_0) n).1 (bd_C S (mo_ro M) n)), mo_pd M, mo_fr M, mo_pj M, mo_pn M, mo_ph M, mo_pm M, mo_wh M, mo_wm M, mo_co M, mo_bo M, mo_no M, mo_ch M, mo_ro M, mo_tr M, mo_us M) V)) 9 [(0, .ref 30), (1, .int (nI n)), (2, .long (lN (fl_co S (mo_ro M) (fl_clear S fl_0) k).2)), (4, .int (nI k))] [] (hm A S jo (mo_cd M, mo_xx M, (bd_h (fl_co S (mo_ro M) (fl_clear S fl_0) k).1 (bd_C S (mo_ro M) k)), (bd_m (fl_co S (mo_ro M) (fl_clear S fl_0) k).1 (bd_C S (mo_ro M) k)), mo_pd M, mo_fr M, mo_pj M, mo_pn M, mo_ph M, mo_pm M, mo_wh M, mo_wm M, mo_co M, mo_bo M, mo_no M, mo_ch M, mo_ro M, mo_tr M, mo_us M) V) := by
  intro q
  have s2 := hS.2.1
  induction q with
  | zero => intro i _ h; omega
  | succ q ih =>
    intro k hk hq
    refine am_iload d_M_costOfRow_9 rfl ?_
    refine am_iload_n d_M_costOfRow_11 rfl rfl ?_
    refine am_icmpN_ge (tgt := 46) d_M_costOfRow_12 (by decide) (by omega) (by omega) (fun c12 => ?_) (fun c12 => ?_)
    · refine am_lload_n d_M_costOfRow_46 rfl rfl ?_
      refine am_lret d_M_costOfRow_47 rfl ?_
      have e : k = n := by omega
      subst e
      exact ⟨rfl, rfl⟩
    · have hgk := hg k (by omega)
      have hbi := fl_co_bI (g := mo_ro M) hS hsk (show k < sh_jb S by omega) (fun q hq => hg q (by omega)) (fun a b h1 h2 => hij a b h1 (by omega))
      have hno := bd_C_no (n := k) hsk (fun q hq => (hg q (by omega)).1) (fun a b h1 h2 => hij a b h1 (by omega))
      obtain ⟨-, hend⟩ := fl_place_sm hS hgk.2 hbi.1
      have hro6 : mo_ro M k < 6 := by omega
      have hend31 : fl_end S (mo_ro M k) (fl_co S (mo_ro M) (fl_clear S fl_0) k).1 < 2 ^ 31 := by omega
      refine am_lload_n d_M_costOfRow_15 rfl rfl ?_
      refine am_aload_n d_M_costOfRow_16 rfl rfl ?_
      refine am_aload_n d_M_costOfRow_17 rfl rfl ?_
      refine am_get F_M 31 (by decide) d_M_costOfRow_18 w_681 rfl rfl ?_
      refine am_iload d_M_costOfRow_21 rfl ?_
      refine am_ialdA d_M_costOfRow_23 rfl (by omega) (by decide) ?_
      refine am_aload_n d_M_costOfRow_24 rfl rfl ?_
      refine am_aload_n d_M_costOfRow_25 rfl rfl ?_
      refine am_get F_M 31 (by decide) d_M_costOfRow_26 w_681 rfl rfl ?_
      refine am_iload d_M_costOfRow_29 rfl ?_
      refine am_ialdA d_M_costOfRow_31 rfl (by omega) (by decide) ?_
      refine am_callF 2 (am_recvV (z := m_M_place) rfl d_M_costOfRow_32 w_812 w_814 ws_25 w_815 F_M.1 rfl (by decide) np_M_place) (by decide) (by decide) (Nat.le_of_ble_eq_true rfl) (Nat.le_of_ble_eq_true rfl) (Nat.zero_le _) (Nat.zero_le _) (c_M_place (f := (fl_co S (mo_ro M) (fl_clear S fl_0) k).1) (D := bd_C S (mo_ro M) k) hS hsk d _ _ _ (2000 + 800 * k) hgk.1 hgk.2 hbi hno (by omega) (by omega)) ?_
      refine am_callF 3 (am_recvV (z := m_M_costOf) rfl d_M_costOfRow_35 w_823 w_825 ws_27 w_826 F_M.1 rfl (by decide) np_M_costOf) (by decide) (by decide) (Nat.le_of_ble_eq_true rfl) (Nat.le_of_ble_eq_true rfl) (Nat.zero_le _) (Nat.zero_le _) (c_M_costOf hS _ _ _ _ _ hro6 hend31) ?_
      refine am_laddN d_M_costOfRow_38 ?_
      refine am_lstore_n d_M_costOfRow_39 rfl (by decide) ?_
      refine am_iinc d_M_costOfRow_40 rfl (am_inc _) (by decide) ?_
      refine am_goto (tgt := 9) d_M_costOfRow_43 (by decide) ?_
      exact am_lo (L' := [(0, .ref 30), (1, .int (nI n)), (2, .long (lN (fl_co S (mo_ro M) (fl_clear S fl_0) (k + 1)).2)), (4, .int (nI (k + 1)))]) rfl (ih (k + 1) (by omega) (by omega))
theorem c_M_costOfRow (hS : sh_ok S) (hsk : sh_k S jo) (d bc bs n : Nat) (hn : n ≤ sh_jb S) (hg : ∀ k, k < n → mo_ro M k < sh_jb S ∧ sp_fits S (mo_ro M k) = true) (hij : se_ij (mo_ro M) n) : am_Fn G m_M_costOfRow (d + 3) bc bs [.ref 30, .int (nI n)] (hm A S jo M V) (some (.long (lN (sp_co S (mo_ro M) n)))) (hm A S jo (mo_cd M, mo_xx M, (bd_h (fl_co S (mo_ro M) (fl_clear S fl_0) n).1 (bd_C S (mo_ro M) n)), (bd_m (fl_co S (mo_ro M) (fl_clear S fl_0) n).1 (bd_C S (mo_ro M) n)), mo_pd M, mo_fr M, mo_pj M, mo_pn M, mo_ph M, mo_pm M, mo_wh M, mo_wm M, mo_co M, mo_bo M, mo_no M, mo_ch M, mo_ro M, mo_tr M, mo_us M) V) := by
  refine am_aload_n d_M_costOfRow_0 rfl rfl ?_
  refine am_callF 1 (am_recvV (z := m_M_clearBoard) rfl d_M_costOfRow_1 w_808 w_810 ws_24 w_811 F_M.1 rfl (by decide) np_M_clearBoard) (by decide) (by decide) (Nat.le_of_ble_eq_true rfl) (Nat.le_of_ble_eq_true rfl) (Nat.zero_le _) (Nat.zero_le _) (c_M_clearBoard _ _ _) ?_
  refine am_lconst (v := lN 0) d_M_costOfRow_4 rfl ?_
  refine am_lstore_n d_M_costOfRow_5 rfl (by decide) ?_
  refine am_iconst (v := nI 0) d_M_costOfRow_6 (by decide) ?_
  refine am_istore d_M_costOfRow_7 (by decide) ?_
  exact am_lo (L' := [(0, .ref 30), (1, .int (nI n)), (2, .long (lN 0)), (4, .int (nI 0))]) rfl (c_M_costOfRow_l hS hsk d bc bs n hn hg hij (n + 1) 0 (Nat.zero_le _) (by have := hS.2.1; omega))
theorem c_M_aloneOf (hS : sh_ok S) (hsk : sh_k S jo) (d bc bs j : Nat) (hj : j < sh_jb S) (hf : sp_fits S j = true) : am_W G m_M_aloneOf (d + 3) bc bs (fun o h' => ∃ H1 H2, o = .inl (some (.long (lN (sp_al S j)))) ∧ h' = (hm A S jo (mo_cd M, mo_xx M, H1, H2, mo_pd M, mo_fr M, mo_pj M, mo_pn M, mo_ph M, mo_pm M, mo_wh M, mo_wm M, mo_co M, mo_bo M, mo_no M, mo_ch M, mo_ro M, mo_tr M, mo_us M) V)) 0 (lv_args 0 [.ref 30, .int (nI j)]) [] (hm A S jo M V) := by
  have s2 := hS.2.1
  have hbi : bd_I S (fl_clear S fl_0) (fun _ => false) 2000 := ⟨fl_clear_sm fl_0 hS, fun m hm => by have := fl_clear_ct hS fl_0 (sh_mc S) m hm; exact Nat.le_trans this (by omega), fl_D_clear hS fl_0, fun s _ h => by cases h⟩
  obtain ⟨-, hend⟩ := fl_place_sm hS hf hbi.1
  refine am_aload_n d_M_aloneOf_0 rfl rfl ?_
  refine am_callF 1 (am_recvV (z := m_M_clearBoard) rfl d_M_aloneOf_1 w_808 w_810 ws_24 w_811 F_M.1 rfl (by decide) np_M_clearBoard) (by decide) (by decide) (Nat.le_of_ble_eq_true rfl) (Nat.le_of_ble_eq_true rfl) (Nat.zero_le _) (Nat.zero_le _) (c_M_clearBoard _ _ _) ?_
  refine am_aload_n d_M_aloneOf_4 rfl rfl ?_
  refine am_iload_n d_M_aloneOf_5 rfl rfl ?_
  refine am_aload_n d_M_aloneOf_6 rfl rfl ?_
  refine am_iload_n d_M_aloneOf_7 rfl rfl ?_
  refine am_callF 2 (am_recvV (z := m_M_place) rfl d_M_aloneOf_8 w_812 w_814 ws_25 w_815 F_M.1 rfl (by decide) np_M_place) (by decide) (by decide) (Nat.le_of_ble_eq_true rfl) (Nat.le_of_ble_eq_true rfl) (Nat.zero_le _) (Nat.zero_le _) (c_M_place (f := fl_clear S fl_0) (D := fun _ => false) hS hsk d _ _ j 2000 hj hf hbi (fun _ _ => rfl) (by omega) (by omega)) ?_
  refine am_callF 3 (am_recvV (z := m_M_costOf) rfl d_M_aloneOf_11 w_823 w_825 ws_27 w_826 F_M.1 rfl (by decide) np_M_costOf) (by decide) (by decide) (Nat.le_of_ble_eq_true rfl) (Nat.le_of_ble_eq_true rfl) (Nat.zero_le _) (Nat.zero_le _) (c_M_costOf hS _ _ _ j _ (by omega) (by omega)) ?_
  refine am_lret d_M_aloneOf_14 rfl ?_
  exact ⟨_, _, rfl, rfl⟩
def is_r (g : Nat → Nat) (j : Nat) : Nat → Bool
  | 0 => false
  | k + 1 => is_r g j k || g k == j
theorem is_r_iff (g : Nat → Nat) (j : Nat) : ∀ n, is_r g j n = true ↔ ∃ k, k < n ∧ g k = j
  | 0 => ⟨fun h => Bool.noConfusion (show false = true from h), fun ⟨k, hk, _⟩ => absurd hk (Nat.not_lt_zero k)⟩
  | n + 1 => by
    rw [is_r, Bool.or_eq_true, is_r_iff g j n, beq_iff_eq]
    constructor
    · rintro (⟨k, h1, h2⟩ | h)
      · exact ⟨k, by omega, h2⟩
      · exact ⟨n, by omega, h⟩
    · rintro ⟨k, h1, h2⟩
      rcases Nat.lt_or_ge k n with q | q
      · exact Or.inl ⟨k, q, h2⟩
      · have e : k = n := by omega
        subst e
        exact Or.inr h2
set_option maxRecDepth 20000 in
theorem c_M_least_i {Q : am_O → am_H → Prop} (d bc bs n j sm : Nat) (hn : n ≤ 6) (hj : j < 6) (hg : ∀ k, k < n → mo_ro M k < 6) (hk : am_W G m_M_least d bc bs Q 60 [(0, .ref 30), (1, .int (nI n)), (2, .long (lN sm)), (4, .int (nI j)), (5, .int (zI (is_r (mo_ro M) j n))), (6, .int (nI n))] [] (hm A S jo M V)) : ∀ (q k : Nat), k ≤ n → n - k < q →
    am_W G m_M_least d bc bs Q 24 [(0, .ref 30), (1, .int (nI n)), (2, .long (lN sm)), (4, .int (nI j)), (5, .int (zI (is_r (mo_ro M) j k))), (6, .int (nI k))] [] (hm A S jo M V) := by
  intro q
  induction q with
  | zero => intro i _ h; omega
  | succ q ih =>
    intro k hi hn
    have hgk := hg k
    refine am_iload d_M_least_24 rfl ?_
    refine am_iload_n d_M_least_26 rfl rfl ?_
    refine am_icmpN_ge (tgt := 60) d_M_least_27 (by decide) (by omega) (by omega) (fun c27 => ?_) (fun c27 => ?_)
    · have e : k = n := by omega
      subst e
      exact hk
    · refine am_iload d_M_least_30 rfl ?_
      refine am_ifZ_ne (tgt := 47) d_M_least_32 (by decide) (fun c32 => ?_) (fun c32 => ?_)
      · refine am_iconst (v := zI true) d_M_least_47 (by decide) ?_
        refine am_goto (tgt := 52) d_M_least_48 (by decide) ?_
        refine am_istore d_M_least_52 (by decide) ?_
        refine am_iinc d_M_least_54 rfl (am_inc _) (by decide) ?_
        refine am_goto (tgt := 24) d_M_least_57 (by decide) ?_
        exact am_lo (L' := [(0, .ref 30), (1, .int (nI n)), (2, .long (lN sm)), (4, .int (nI j)), (5, .int (zI true)), (6, .int (nI (k + 1)))]) rfl (am_lq (L2 := [(0, .ref 30), (1, .int (nI n)), (2, .long (lN sm)), (4, .int (nI j)), (5, .int (zI (is_r (mo_ro M) j (k + 1)))), (6, .int (nI (k + 1)))]) (by rw [is_r, c32, Bool.true_or]) (ih (k + 1) (by omega) (by omega)))
      · refine am_aload_n d_M_least_35 rfl rfl ?_
        refine am_get F_M 31 (by decide) d_M_least_36 w_681 rfl rfl ?_
        refine am_iload d_M_least_39 rfl ?_
        refine am_ialdA d_M_least_41 rfl (by omega) (by decide) ?_
        refine am_iload d_M_least_42 rfl ?_
        refine am_icmpN_ne (tgt := 51) d_M_least_44 (by decide) (by omega) (by omega) (fun c44 => ?_) (fun c44 => ?_)
        · refine am_iconst (v := zI false) d_M_least_51 (by decide) ?_
          refine am_istore d_M_least_52 (by decide) ?_
          refine am_iinc d_M_least_54 rfl (am_inc _) (by decide) ?_
          refine am_goto (tgt := 24) d_M_least_57 (by decide) ?_
          exact am_lo (L' := [(0, .ref 30), (1, .int (nI n)), (2, .long (lN sm)), (4, .int (nI j)), (5, .int (zI false)), (6, .int (nI (k + 1)))]) rfl (am_lq (L2 := [(0, .ref 30), (1, .int (nI n)), (2, .long (lN sm)), (4, .int (nI j)), (5, .int (zI (is_r (mo_ro M) j (k + 1)))), (6, .int (nI (k + 1)))]) (by rw [is_r, c32, Bool.false_or, beq_false_of_ne c44]) (ih (k + 1) (by omega) (by omega)))
        · refine am_iconst (v := zI true) d_M_least_47 (by decide) ?_
          refine am_goto (tgt := 52) d_M_least_48 (by decide) ?_
          refine am_istore d_M_least_52 (by decide) ?_
          refine am_iinc d_M_least_54 rfl (am_inc _) (by decide) ?_
          refine am_goto (tgt := 24) d_M_least_57 (by decide) ?_
          exact am_lo (L' := [(0, .ref 30), (1, .int (nI n)), (2, .long (lN sm)), (4, .int (nI j)), (5, .int (zI true)), (6, .int (nI (k + 1)))]) rfl (am_lq (L2 := [(0, .ref 30), (1, .int (nI n)), (2, .long (lN sm)), (4, .int (nI j)), (5, .int (zI (is_r (mo_ro M) j (k + 1)))), (6, .int (nI (k + 1)))]) (by rw [is_r, c32, c44, Bool.false_or, beq_self_eq_true]) (ih (k + 1) (by omega) (by omega)))
set_option maxRecDepth 20000 in
theorem c_M_least_o (hS : sh_ok S) (hsk : sh_k S jo) (hall : ∀ j, j < sh_jb S → sp_fits S j = true) (d bc bs n : Nat) (u : Nat → Bool) (hn : n ≤ sh_jb S) (hg : ∀ k, k < n → mo_ro M k < sh_jb S ∧ sp_fits S (mo_ro M k) = true) (hu : ∀ j, j < sh_jb S → (u j = true ↔ ∃ k, k < n ∧ mo_ro M k = j)) : ∀ (q j : Nat), j ≤ sh_jb S → sh_jb S - j < q → ∀ H1 H2,
    am_W G m_M_least (d + 4) bc bs (fun o h' => ∃ H1 H2, o = .inl (some (.long (lN (sp_co S (mo_ro M) n + sp_rs S u (sh_jb S))))) ∧ h' = (hm A S jo (mo_cd M, mo_xx M, H1, H2, mo_pd M, mo_fr M, mo_pj M, mo_pn M, mo_ph M, mo_pm M, mo_wh M, mo_wm M, mo_co M, mo_bo M, mo_no M, mo_ch M, mo_ro M, mo_tr M, mo_us M) V)) 9 [(0, .ref 30), (1, .int (nI n)), (2, .long (lN (sp_co S (mo_ro M) n + sp_rs S u j))), (4, .int (nI j))] [] (hm A S jo (mo_cd M, mo_xx M, H1, H2, mo_pd M, mo_fr M, mo_pj M, mo_pn M, mo_ph M, mo_pm M, mo_wh M, mo_wm M, mo_co M, mo_bo M, mo_no M, mo_ch M, mo_ro M, mo_tr M, mo_us M) V) := by
  intro q
  have s2 := hS.2.1
  induction q with
  | zero => intro i _ h; omega
  | succ q ih =>
    intro j hi hq H1 H2
    refine am_iload d_M_least_9 rfl ?_
    refine am_aload_n d_M_least_11 rfl rfl ?_
    refine am_get F_M 6 (by decide) d_M_least_12 w_656 rfl rfl ?_
    refine am_icmpN_ge (tgt := 84) d_M_least_15 (by decide) (by omega) (by omega) (fun c15 => ?_) (fun c15 => ?_)
    · refine am_lload_n d_M_least_84 rfl rfl ?_
      refine am_lret d_M_least_85 rfl ?_
      have e : j = sh_jb S := by omega
      subst e
      exact ⟨_, _, rfl, rfl⟩
    · refine am_iconst (v := zI false) d_M_least_18 (by decide) ?_
      refine am_istore d_M_least_19 (by decide) ?_
      refine am_iconst (v := nI 0) d_M_least_21 (by decide) ?_
      refine am_istore d_M_least_22 (by decide) ?_
      have huj : u j = is_r (mo_ro M) j n := Bool.eq_iff_iff.mpr ((hu j (by omega)).trans (is_r_iff (mo_ro M) j n).symm)
      refine am_lo (L' := [(0, .ref 30), (1, .int (nI n)), (2, .long (lN (sp_co S (mo_ro M) n + sp_rs S u j))), (4, .int (nI j)), (5, .int (zI false)), (6, .int (nI 0))]) rfl (c_M_least_i (M := (mo_cd M, mo_xx M, H1, H2, mo_pd M, mo_fr M, mo_pj M, mo_pn M, mo_ph M, mo_pm M, mo_wh M, mo_wm M, mo_co M, mo_bo M, mo_no M, mo_ch M, mo_ro M, mo_tr M, mo_us M)) (d + 4) bc bs n j _ (by omega) (by omega) (fun k hk => Nat.lt_of_lt_of_le (hg k hk).1 s2) ?_ (n + 1) 0 (Nat.zero_le _) (by omega))
      refine am_lload_n d_M_least_60 rfl rfl ?_
      refine am_iload d_M_least_61 rfl ?_
      refine am_ifZ_eq (tgt := 70) d_M_least_63 (by decide) (fun c63 => ?_) (fun c63 => ?_)
      · refine am_aload_n d_M_least_70 rfl rfl ?_
        refine am_iload d_M_least_71 rfl ?_
        refine am_callQ 2 (am_recvV (z := m_M_aloneOf) rfl d_M_least_73 w_835 w_837 ws_30 w_838 F_M.1 rfl (by decide) np_M_aloneOf) (by decide) (by decide) (Nat.le_of_ble_eq_true rfl) (Nat.le_of_ble_eq_true rfl) (Nat.zero_le _) (Nat.zero_le _) (c_M_aloneOf (M := (mo_cd M, mo_xx M, H1, H2, mo_pd M, mo_fr M, mo_pj M, mo_pn M, mo_ph M, mo_pm M, mo_wh M, mo_wm M, mo_co M, mo_bo M, mo_no M, mo_ch M, mo_ro M, mo_tr M, mo_us M)) hS hsk d _ _ j (by omega) (hall j (by omega))) (fun v73 h73 q73 => ?_) (fun x73 h73 q73 => ?_)
        · obtain ⟨H3, H4, q1, rfl⟩ := q73
          cases q1
          refine am_laddN d_M_least_76 ?_
          refine am_lstore_n d_M_least_77 rfl (by decide) ?_
          refine am_iinc d_M_least_78 rfl (am_inc _) (by decide) ?_
          refine am_goto (tgt := 9) d_M_least_81 (by decide) ?_
          exact am_lo (L' := [(0, .ref 30), (1, .int (nI n)), (2, .long (lN ((sp_co S (mo_ro M) n + sp_rs S u j) + sp_al S j))), (4, .int (nI (j + 1)))]) rfl (am_lq (L2 := [(0, .ref 30), (1, .int (nI n)), (2, .long (lN (sp_co S (mo_ro M) n + sp_rs S u (j + 1)))), (4, .int (nI (j + 1)))]) (by rw [sp_rs, huj, c63]; show _ = [(0, Value.ref 30), (1, Value.int (nI n)), (2, Value.long (lN (sp_co S (mo_ro M) n + (sp_rs S u j + sp_al S j)))), _]; rw [Nat.add_assoc]) (ih (j + 1) (by omega) (by omega) _ _))
        · obtain ⟨H3, H4, q1, -⟩ := q73
          cases q1
      · refine am_lconst (v := lN 0) d_M_least_66 rfl ?_
        refine am_goto (tgt := 76) d_M_least_67 (by decide) ?_
        refine am_laddN d_M_least_76 ?_
        refine am_lstore_n d_M_least_77 rfl (by decide) ?_
        refine am_iinc d_M_least_78 rfl (am_inc _) (by decide) ?_
        refine am_goto (tgt := 9) d_M_least_81 (by decide) ?_
        exact am_lo (L' := [(0, .ref 30), (1, .int (nI n)), (2, .long (lN ((sp_co S (mo_ro M) n + sp_rs S u j) + 0))), (4, .int (nI (j + 1)))]) rfl (am_lq (L2 := [(0, .ref 30), (1, .int (nI n)), (2, .long (lN (sp_co S (mo_ro M) n + sp_rs S u (j + 1)))), (4, .int (nI (j + 1)))]) (by rw [sp_rs, huj, c63]; rfl) (ih (j + 1) (by omega) (by omega) _ _))
theorem c_M_least (hS : sh_ok S) (hsk : sh_k S jo) (hall : ∀ j, j < sh_jb S → sp_fits S j = true) (d bc bs n : Nat) (u : Nat → Bool) (hn : n ≤ sh_jb S) (hg : ∀ k, k < n → mo_ro M k < sh_jb S ∧ sp_fits S (mo_ro M k) = true) (hij : se_ij (mo_ro M) n) (hu : ∀ j, j < sh_jb S → (u j = true ↔ ∃ k, k < n ∧ mo_ro M k = j)) :
    am_W G m_M_least (d + 4) bc bs (fun o h' => ∃ H1 H2, o = .inl (some (.long (lN (sp_co S (mo_ro M) n + sp_rs S u (sh_jb S))))) ∧ h' = (hm A S jo (mo_cd M, mo_xx M, H1, H2, mo_pd M, mo_fr M, mo_pj M, mo_pn M, mo_ph M, mo_pm M, mo_wh M, mo_wm M, mo_co M, mo_bo M, mo_no M, mo_ch M, mo_ro M, mo_tr M, mo_us M) V)) 0 (lv_args 0 [.ref 30, .int (nI n)]) [] (hm A S jo M V) := by
  have s2 := hS.2.1
  refine am_aload_n d_M_least_0 rfl rfl ?_
  refine am_iload_n d_M_least_1 rfl rfl ?_
  refine am_callF 2 (am_recvV (z := m_M_costOfRow) rfl d_M_least_2 w_804 w_806 ws_23 w_807 F_M.1 rfl (by decide) np_M_costOfRow) (by decide) (by decide) (Nat.le_of_ble_eq_true rfl) (Nat.le_of_ble_eq_true rfl) (Nat.zero_le _) (Nat.zero_le _) (am_rm (d := 3) (by omega) (c_M_costOfRow hS hsk 0 _ _ n hn hg hij)) ?_
  refine am_lstore_n d_M_least_5 rfl (by decide) ?_
  refine am_iconst (v := nI 0) d_M_least_6 (by decide) ?_
  refine am_istore d_M_least_7 (by decide) ?_
  exact am_lo (L' := [(0, .ref 30), (1, .int (nI n)), (2, .long (lN (sp_co S (mo_ro M) n + sp_rs S u 0))), (4, .int (nI 0))]) rfl (c_M_least_o hS hsk hall d bc bs n u hn hg hu (sh_jb S + 1) 0 (Nat.zero_le _) (by omega) _ _)
end CM4
