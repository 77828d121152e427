/-! the law's blocks, one for each call -/
theorem l_up0 (f : Nat → Int64) (v : Int64) : vp_updL f 0 v 0 = v := by unfold vp_updL; simp
theorem lg_cmp_same (x : Int64) : lg_cmp x x = 0 := by unfold lg_cmp; simp
theorem am_lc_same {G : am_G} {y : am_M} {d bc bs : Nat} {Q : am_O → am_H → Prop} {pc : Nat} {L : List (Nat × Value)} {st : List Value} {h : am_H} {x : Int64} {off : Int} {tgt : Nat} (hd : decode y.2.1 pc = .ok (.lcmp, 1)) (hd2 : decode y.2.1 (pc + 1) = .ok (.ifCond .eq off, 3)) (ht : ((pc + 1 : Nat) : Int) + off = (tgt : Int)) (k : am_W G y d bc bs Q tgt L st h) : am_W G y d bc bs Q pc L (.long x :: .long x :: st) h := by
  refine am_lcmp hd ?_
  rw [lg_cmp_same]
  exact am_if_eq hd2 ht (fun _ => k) (fun q => absurd rfl q)
theorem mQ_no {cd : Nat} {z : Option Value} {h1 : am_H} {K : Option Value → am_H → Prop} {q : Nat × Nat} {h : am_H} (h2 : mQ cd z h1 K (.inr q) h) : False := by
  cases cd with
  | zero => obtain ⟨v, e, -⟩ := h2; cases e
  | succ c => obtain ⟨e, -⟩ := h2; cases e
theorem lQ_no {cd : Nat} {f : Nat → Int64} {h : am_H} {K : Option Value → am_H → Prop} {q : Nat × Nat} {h2 : am_H} (h3 : lQ cd f h K (.inr q) h2) : False := by
  rcases lQ_c h3 with ⟨-, w, h', -, e, -⟩ | ⟨c, ci, -, -, e, -⟩ <;> cases e
theorem lV_no {cd : Nat} {h : am_H} {K : Option Value → am_H → Prop} {q : Nat × Nat} {h2 : am_H} (h3 : lV cd h K (.inr q) h2) : False := by
  rcases lV_c h3 with ⟨-, -, e⟩ | ⟨c, ci, -, -, e, -⟩ <;> cases e
theorem iv_M_st {x : Int64} {t : Bool} {P : pl_T} {M : mo_T} (h : iv_M x t P M) : iv_M x true P (0, mo_xx M, mo_hr M, mo_mh M, mo_pd M, false, mo_pj M, mo_pn M, mo_ph M, mo_pm M, mo_wh M, mo_wm M, mo_co M, mo_bo M, mo_no M, mo_ch M, mo_ro M, mo_tr M, mo_us M) := ⟨h.1, h.2.1, fun _ => rfl, h.2.2.2⟩
theorem iv_run {t : Bool} {S : sh_T} {R : se_T} {P : pl_T} {jo : Nat → Nat} {i : Nat} (h : iv_X t S R P jo) (hal : sp_all S (sh_jb S) = true) (hi : i ≤ 2000) : iv_X false S (rn_q S R i).2 (rn_P S R P i) jo := by
  obtain ⟨hS, hk, hu, hr, hP, -⟩ := id h
  have hall := sp_all_at hal
  obtain ⟨a1, a2, a3⟩ := rn_ok (n := i) hS hall hi hr
  obtain ⟨r1, r2, r3, r4, r5, r6⟩ := id a1
  have hR : se_r (rn_q S R i).2 := ⟨r5, r6, fun k => by rw [a2.2.2.2.1]; exact hr.2.2 k⟩
  have hm := tk_m_le P (fl_C S (se_bs (rn_q S R i).2)) (sh_ss S)
  have s3 := hS.2.2.1
  exact iv_take hS hk hu hR hP hal a3 r6 rfl a2.2.1 (by omega) (by omega)
theorem iv_M_run {t : Bool} {S : sh_T} {R : se_T} {P : pl_T} {jo : Nat → Nat} {i : Nat} {x : Int64} {M : mo_T} {H1 H2 : Nat → Int32} {pn ro tr : Nat → Nat} {us : Nat → Bool} (h : iv_X t S R P jo) (hM : iv_M x t P M) (hal : sp_all S (sh_jb S) = true) (hi : i ≤ 2000) (h1 : 0 < sh_jb S) (hpn : ∀ k, k < sh_jb S → pn k = se_bs (rn_q S R i).2 k) :
    iv_M x false (rn_P S R P i) (0, mo_xx M, H1, H2, true, true, (sh_jb S), pn, (pq (sh_ss S) (fl_bg (fl_C S (se_bs (rn_q S R i).2)))), (pq (sh_ss S) (fl_ma (fl_C S (se_bs (rn_q S R i).2)))), (mo_ph M), (mo_pm M), (sp_co S (se_bs (rn_q S R i).2) (sh_jb S)), (se_sum S (sh_jb S)), (se_no (rn_q S R i).2), (tk_m P (fl_C S (se_bs (rn_q S R i).2)) (sh_ss S)), ro, tr, us) := by
  have hall := sp_all_at hal
  obtain ⟨a1, a2, a3⟩ := rn_ok (n := i) h.1 hall hi h.2.2.2.1
  have s2 := h.1.2.1
  refine ⟨hM.1, (decide_eq_true h1).symm, fun _ => rfl, rfl, rfl, a2.2.1.symm, rfl, rfl, fun k hk => ?_, pq_tk.symm, pq_tk.symm⟩
  have hk' : k < sh_jb S := hk
  exact (hpn k hk').trans (va_cpy_lt (by omega)).symm
theorem iv_imp {S : sh_T} {R : se_T} {P : pl_T} {jo : Nat → Nat} {i : Nat} {x : Int64} (h : iv_X false S R P jo) (h0 : 0 < pl_jb P) : iv_X false S R (im_P S (im_it S (x, P, 0) i).2.1) jo := by
  obtain ⟨hS, hk, hu, hr, hP, hno, -, hf⟩ := id h
  obtain ⟨hI, hss, hal, hco, hbo, hma⟩ := hf h0 rfl
  have hall := sp_all_at hal
  have h1 : 1 ≤ sh_jb S := by have := hI.2.2; omega
  obtain ⟨g1, g2⟩ := im_it_I (q := (x, P, 0)) hS hall h1 hI i
  obtain ⟨m1, m2, m3, m4, m5⟩ := im_it_sm (S := S) (q := (x, P, 0)) i
  have hm := tk_m_le (im_it S (x, P, 0) i).2.1 (fl_C S (pl_ja (im_it S (x, P, 0) i).2.1)) (sh_ss S)
  have s3 := hS.2.2.1
  exact iv_take (P := (im_it S (x, P, 0) i).2.1) hS hk hu hr g1.1 hal g1.2.1 g1.1.2.2.2.1 rfl (m4.trans hbo) (by rw [m5]; exact hno) (by omega)
theorem iv_M_imp {S : sh_T} {R : se_T} {P : pl_T} {jo : Nat → Nat} {i : Nat} {x : Int64} {M : mo_T} {H1 H2 : Nat → Int32} {pn ro : Nat → Nat} (h : iv_X false S R P jo) (hM : iv_M x false P M) (h0 : 0 < pl_jb P) (hpn : ∀ k, k < sh_jb S → pn k = pl_ja (im_it S (x, P, 0) i).2.1 k) :
    iv_M (im_it S (x, P, 0) i).1 false (im_P S (im_it S (x, P, 0) i).2.1) (0, (im_it S (x, P, 0) i).1, H1, H2, true, true, (sh_jb S), pn, (pq (sh_ss S) (fl_bg (fl_C S (pl_ja (im_it S (x, P, 0) i).2.1)))), (pq (sh_ss S) (fl_ma (fl_C S (pl_ja (im_it S (x, P, 0) i).2.1)))), (mo_ph M), (mo_pm M), (sp_co S (pl_ja (im_it S (x, P, 0) i).2.1) (sh_jb S)), (se_sum S (sh_jb S)), mo_no M, (tk_m P (fl_C S (pl_ja (im_it S (x, P, 0) i).2.1)) (sh_ss S)), ro, mo_tr M, mo_us M) := by
  obtain ⟨hS, hk, hu, hr, hP, hno, -, hf⟩ := id h
  obtain ⟨hI, hss, hal, hco, hbo, hma⟩ := hf h0 rfl
  obtain ⟨m1, m2, m3, m4, m5⟩ := im_it_sm (S := S) (q := (x, P, 0)) i
  have h1 : 0 < sh_jb S := by have := hI.2.2; omega
  have s2 := hS.2.1
  refine ⟨rfl, (decide_eq_true h1).symm, fun _ => rfl, rfl, rfl, (m4.trans hbo).symm, ?_, ?_, fun k hk => ?_, pq_tk.symm, pq_tk.symm⟩
  · show mo_no M = pl_no (im_it S (x, P, 0) i).2.1
    rw [m5]
    exact hM.2.2.2.2.2.2.1
  · exact (tk_m_P m1 m2 m3 _).symm
  · have hk' : k < sh_jb S := hk
    exact (hpn k hk').trans (va_cpy_lt (by omega)).symm
theorem hx_hl (x : Int64) (t : Bool) (S : sh_T) (F : fl_T) (R : se_T) (P : pl_T) (S0 : sh_T) (jo : Nat → Nat) (M : mo_T) (f : Nat → Int64) (V : am_H) : hx x t S F R P (mo_c S0 jo M ++ (.inl (1, 1, .inr (.inl f)) :: V)) = hm (x, t, S, F, R, P) S0 jo M (.inl (1, 1, .inr (.inl f)) :: V) := rfl
theorem hl_set (x : Int64) (t : Bool) (S : sh_T) (F : fl_T) (R : se_T) (P : pl_T) (S0 : sh_T) (jo : Nat → Nat) (M : mo_T) (f g : Nat → Int64) (V : am_H) : (hx x t S F R P (mo_c S0 jo M ++ (.inl (1, 1, .inr (.inl f)) :: V))).set 52 (.inl (1, 1, .inr (.inl g))) = hm (x, t, S, F, R, P) S0 jo M (.inl (1, 1, .inr (.inl g)) :: V) := rfl
theorem hl_at (x : Int64) (t : Bool) (S : sh_T) (F : fl_T) (R : se_T) (P : pl_T) (S0 : sh_T) (jo : Nat → Nat) (M : mo_T) (f : Nat → Int64) (V : am_H) : (hx x t S F R P (mo_c S0 jo M ++ (.inl (1, 1, .inr (.inl f)) :: V)))[52]? = some (.inl (1, 1, .inr (.inl f))) := rfl
theorem hm_at (A : ma_T) (S0 : sh_T) (jo : Nat → Nat) (M : mo_T) (f : Nat → Int64) (V : am_H) : (hm A S0 jo M (.inl (1, 1, .inr (.inl f)) :: V))[52]? = some (.inl (1, 1, .inr (.inl f))) := rfl
theorem hl_app (A : ma_T) (S : sh_T) (jo : Nat → Nat) (M : mo_T) (f : Nat → Int64) (V : am_H) (e : am_E) : hl A S jo M f V ++ [e] = hm A S jo M (.inl (1, 1, .inr (.inl f)) :: (V ++ [e])) := rfl
section LB
variable {G : am_G} {x : Int64} {t : Bool} {S : sh_T} {F : fl_T} {R : se_T} {P : pl_T} {jo : Nat → Nat} {M : mo_T} {f : Nat → Int64} {V : am_H}
set_option maxRecDepth 20000 in
set_option maxHeartbeats 1000000 in
theorem c_L_b_machine {Q : am_O → am_H → Prop} (bc bs i : Nat) (hbc : 1 ≤ bc) (hbs : 6 ≤ bs) (hi : i + 5 ≤ am_gn G) (hn : am_gn G < 2 ^ 31) (hI : iv_X t S R P jo) (hM : iv_M x t P M) (hk : ∀ (x : Int64) (t : Bool) (S : sh_T) (F : fl_T) (R : se_T) (P : pl_T) (jo : Nat → Nat) (M : mo_T) (f : Nat → Int64) (V : am_H), iv_X t S R P jo → iv_M x t P M → am_W G m_L_law 33 (bc - 1) (bs - 6) Q 966 [(0, .ref 0), (1, .ref 1), (2, .ref 30), (3, .ref 53), (4, .int (nI i))] [] (hl (x, t, S, F, R, P) S jo M f V)) :
    am_W G m_L_law 33 bc bs Q 120 [(0, .ref 0), (1, .ref 1), (2, .ref 30), (3, .ref 53), (4, .int (nI i))] [] (hl (x, t, S, F, R, P) S jo M f V) := by
  refine am_aload_n d_L_law_120 rfl rfl ?_
  refine am_aload_n d_L_law_121 rfl rfl ?_
  refine am_iload d_L_law_122 rfl ?_
  refine am_iconst (v := nI 1) d_L_law_124 (by decide) ?_
  refine am_iaddN d_L_law_125 ?_
  refine am_sld d_L_law_126 (vp_in_nI (by omega) (by omega)) ?_
  refine am_sv (v2 := .int (am_gx G (i + 1))) (by rw [nI_clamp (by omega)]) ?_
  refine am_aload_n d_L_law_127 rfl rfl ?_
  refine am_callQ 3 (am_lkS (z := m_L_machine) d_L_law_128 w_239 w_240 w_0 w_241 (by decide) np_L_machine) (by decide) (by decide) (Nat.le_of_ble_eq_true rfl) (Nat.le_of_ble_eq_true rfl) (by omega) (by omega) (am_rm (d := 8) (by omega) (c_L_machine (A := (x, t, S, F, R, P)) (S := S) (jo := jo) (M := M) (f := f) (V := V) 7 _ (c_X_machine (x := x) (t := t) (S := S) (F := F) (R := R) (P := P) (W := (mo_c S jo M ++ (.inl (1, 1, .inr (.inl f)) :: V))) hI.1 6 1 6 (by omega) (by omega) (by omega) _) (fun w h' hq => by obtain ⟨n, hkk, hn, rfl, rfl⟩ := hq; exact ⟨⟨_, rfl⟩, hl_at _ _ _ _ _ _ _ _ _ _ _⟩))) (fun v128 h128 q128 => ?_) (fun x128 h128 q128 => ?_)
  · rcases lQ_c q128 with ⟨e0, w, h0, hk1, hv, rfl⟩ | ⟨c, ci, e0, hc3, hv, rfl⟩
    · cases hv
      obtain ⟨n, hkk, hn, rfl, rfl⟩ := hk1
      refine am_hq (hl_set _ _ _ _ _ _ _ _ _ _ _ _) ?_
      refine am_istore d_L_law_131 (by decide) ?_
      refine am_aload_n d_L_law_133 rfl rfl ?_
      refine am_aload_n d_L_law_134 rfl rfl ?_
      refine am_iload d_L_law_135 rfl ?_
      refine am_iconst (v := nI 1) d_L_law_137 (by decide) ?_
      refine am_iaddN d_L_law_138 ?_
      refine am_sld d_L_law_139 (vp_in_nI (by omega) (by omega)) ?_
      refine am_sv (v2 := .int (am_gx G (i + 1))) (by rw [nI_clamp (by omega)]) ?_
      refine am_callQ 2 (am_recvV (z := m_M_machine) rfl d_L_law_140 w_757 w_758 w_759 w_760 F_M.1 rfl (by decide) np_M_machine) (by decide) (by decide) (Nat.le_of_ble_eq_true rfl) (Nat.le_of_ble_eq_true rfl) (Nat.zero_le _) (Nat.zero_le _) (am_rm (d := 1) (by omega) (c_M_machine (A := (x, true, (sh_mc S + 1, nu (sh_kd S) (sh_mc S) n, S.2.2), F, R, P)) (S := S) (jo := jo) (M := M) hI.1 0 _ _ _)) (fun v140 h140 q140 => ?_) (fun x140 h140 q140 => ?_)
      · rw [e0] at q140
        obtain ⟨v2, ev, hk2⟩ := q140
        cases ev
        obtain ⟨rfl, rfl⟩ := hk2 n hn hkk
        refine am_istore d_L_law_143 (by decide) ?_
        refine am_aload_n d_L_law_145 rfl rfl ?_
        refine am_callF 1 (am_recvV (z := m_M_thrown) rfl d_L_law_146 w_753 w_754 w_755 w_756 F_M.1 rfl (by decide) np_M_thrown) (by decide) (by decide) (Nat.le_of_ble_eq_true rfl) (Nat.le_of_ble_eq_true rfl) (Nat.zero_le _) (Nat.zero_le _) (c_M_thrown _ _ _) ?_
        refine am_iload d_L_law_149 rfl ?_
        refine am_icmp_eq (tgt := 156) d_L_law_151 (by decide) (fun c151 => ?_) (fun c151 => ?_)
        · refine am_iload d_L_law_156 rfl ?_
          refine am_ifN_ne (tgt := 173) d_L_law_158 (by decide) (by omega) (fun c158 => ?_) (fun c158 => ?_)
          · exact absurd c158 (by decide)
          · refine am_aload_n d_L_law_161 rfl rfl ?_
            refine am_iconst (v := nI 0) d_L_law_162 (by decide) ?_
            refine am_lald0 d_L_law_163 (hm_at _ _ _ _ _ _) ?_
            refine am_sv (v2 := .long (nI (sh_mc S)).toInt64) (congrArg Value.long ((l_up0 _ _).trans rfl)) ?_
            refine am_iload d_L_law_164 rfl ?_
            refine am_i2l d_L_law_166 ?_
            refine am_lc_same (tgt := 173) d_L_law_167 d_L_law_168 (by decide) ?_
            refine am_goto (tgt := 966) d_L_law_173 (by decide) ?_
            refine am_lo (L' := [(0, .ref 0), (1, .ref 1), (2, .ref 30), (3, .ref 53), (4, .int (nI i))]) rfl ?_
            refine hk x true (sh_mc S + 1, nu (sh_kd S) (sh_mc S) n, S.2.2) F R P jo _ _ _ ?_ ?_
            · exact (iv_machine hI e0 hn)
            · exact (iv_M_st hM)
        · exact absurd rfl c151
      · exact (mQ_no q140).elim
    · cases hv
      refine am_hq (hl_app _ _ _ _ _ _ _) ?_
      refine am_istore d_L_law_131 (by decide) ?_
      refine am_aload_n d_L_law_133 rfl rfl ?_
      refine am_aload_n d_L_law_134 rfl rfl ?_
      refine am_iload d_L_law_135 rfl ?_
      refine am_iconst (v := nI 1) d_L_law_137 (by decide) ?_
      refine am_iaddN d_L_law_138 ?_
      refine am_sld d_L_law_139 (vp_in_nI (by omega) (by omega)) ?_
      refine am_sv (v2 := .int (am_gx G (i + 1))) (by rw [nI_clamp (by omega)]) ?_
      refine am_callQ 2 (am_recvV (z := m_M_machine) rfl d_L_law_140 w_757 w_758 w_759 w_760 F_M.1 rfl (by decide) np_M_machine) (by decide) (by decide) (Nat.le_of_ble_eq_true rfl) (Nat.le_of_ble_eq_true rfl) (Nat.zero_le _) (Nat.zero_le _) (am_rm (d := 1) (by omega) (c_M_machine (A := (x, t, S, F, R, P)) (S := S) (jo := jo) (M := M) hI.1 0 _ _ _)) (fun v140 h140 q140 => ?_) (fun x140 h140 q140 => ?_)
      · rw [e0] at q140
        obtain ⟨ev, rfl⟩ := q140
        cases ev
        refine am_istore d_L_law_143 (by decide) ?_
        refine am_aload_n d_L_law_145 rfl rfl ?_
        refine am_callF 1 (am_recvV (z := m_M_thrown) rfl d_L_law_146 w_753 w_754 w_755 w_756 F_M.1 rfl (by decide) np_M_thrown) (by decide) (by decide) (Nat.le_of_ble_eq_true rfl) (Nat.le_of_ble_eq_true rfl) (Nat.zero_le _) (Nat.zero_le _) (c_M_thrown _ _ _) ?_
        refine am_iload d_L_law_149 rfl ?_
        refine am_icmp_eq (tgt := 156) d_L_law_151 (by decide) (fun c151 => ?_) (fun c151 => ?_)
        · refine am_iload d_L_law_156 rfl ?_
          refine am_ifN_ne (tgt := 173) d_L_law_158 (by decide) (by omega) (fun c158 => ?_) (fun c158 => ?_)
          · refine am_goto (tgt := 966) d_L_law_173 (by decide) ?_
            refine am_lo (L' := [(0, .ref 0), (1, .ref 1), (2, .ref 30), (3, .ref 53), (4, .int (nI i))]) rfl ?_
            refine hk x t S F R P jo _ _ _ ?_ ?_
            · exact hI
            · exact hM
          · exact absurd c158 (by omega)
        · exact absurd rfl c151
      · exact (mQ_no q140).elim
  · exact (lQ_no q128).elim
set_option maxRecDepth 20000 in
set_option maxHeartbeats 1000000 in
theorem c_L_b_out {Q : am_O → am_H → Prop} (bc bs i : Nat) (hbc : 1 ≤ bc) (hbs : 6 ≤ bs) (hi : i + 5 ≤ am_gn G) (hn : am_gn G < 2 ^ 31) (hI : iv_X t S R P jo) (hM : iv_M x t P M) (hk : ∀ (x : Int64) (t : Bool) (S : sh_T) (F : fl_T) (R : se_T) (P : pl_T) (jo : Nat → Nat) (M : mo_T) (f : Nat → Int64) (V : am_H), iv_X t S R P jo → iv_M x t P M → am_W G m_L_law 33 (bc - 1) (bs - 6) Q 966 [(0, .ref 0), (1, .ref 1), (2, .ref 30), (3, .ref 53), (4, .int (nI i))] [] (hl (x, t, S, F, R, P) S jo M f V)) :
    am_W G m_L_law 33 bc bs Q 176 [(0, .ref 0), (1, .ref 1), (2, .ref 30), (3, .ref 53), (4, .int (nI i))] [] (hl (x, t, S, F, R, P) S jo M f V) := by
  refine am_aload_n d_L_law_176 rfl rfl ?_
  refine am_aload_n d_L_law_177 rfl rfl ?_
  refine am_iload d_L_law_178 rfl ?_
  refine am_iconst (v := nI 1) d_L_law_180 (by decide) ?_
  refine am_iaddN d_L_law_181 ?_
  refine am_sld d_L_law_182 (vp_in_nI (by omega) (by omega)) ?_
  refine am_sv (v2 := .int (am_gx G (i + 1))) (by rw [nI_clamp (by omega)]) ?_
  refine am_aload_n d_L_law_183 rfl rfl ?_
  refine am_iload d_L_law_184 rfl ?_
  refine am_iconst (v := nI 2) d_L_law_186 (by decide) ?_
  refine am_iaddN d_L_law_187 ?_
  refine am_sld d_L_law_188 (vp_in_nI (by omega) (by omega)) ?_
  refine am_sv (v2 := .int (am_gx G (i + 2))) (by rw [nI_clamp (by omega)]) ?_
  refine am_aload_n d_L_law_189 rfl rfl ?_
  refine am_iload d_L_law_190 rfl ?_
  refine am_iconst (v := nI 3) d_L_law_192 (by decide) ?_
  refine am_iaddN d_L_law_193 ?_
  refine am_sld d_L_law_194 (vp_in_nI (by omega) (by omega)) ?_
  refine am_sv (v2 := .int (am_gx G (i + 3))) (by rw [nI_clamp (by omega)]) ?_
  refine am_aload_n d_L_law_195 rfl rfl ?_
  refine am_callQ 5 (am_lkS (z := m_L_out) d_L_law_196 w_339 w_340 w_0 w_341 (by decide) np_L_out) (by decide) (by decide) (Nat.le_of_ble_eq_true rfl) (Nat.le_of_ble_eq_true rfl) (by omega) (by omega) (am_rm (d := 8) (by omega) (c_L_out (A := (x, t, S, F, R, P)) (S := S) (jo := jo) (M := M) (f := f) (V := V) 7 _ _ _ (c_X_out (x := x) (t := t) (S := S) (F := F) (R := R) (P := P) (W := (mo_c S jo M ++ (.inl (1, 1, .inr (.inl f)) :: V))) hI.1 6 1 6 (by omega) (by omega) (by omega) _ _ _) (fun w h' hq => by obtain ⟨ia, a, b, g1, g2, g3, g4, g5, g6, rfl, rfl⟩ := hq; exact ⟨⟨_, rfl⟩, hl_at _ _ _ _ _ _ _ _ _ _ _⟩))) (fun v196 h196 q196 => ?_) (fun x196 h196 q196 => ?_)
  · rcases lQ_c q196 with ⟨e0, w, h0, hk1, hv, rfl⟩ | ⟨c, ci, e0, hc3, hv, rfl⟩
    · cases hv
      obtain ⟨ia, a, b, g1, g2, g3, g4, g5, g6, rfl, rfl⟩ := hk1
      refine am_hq (hl_set _ _ _ _ _ _ _ _ _ _ _ _) ?_
      refine am_istore d_L_law_199 (by decide) ?_
      refine am_aload_n d_L_law_201 rfl rfl ?_
      refine am_aload_n d_L_law_202 rfl rfl ?_
      refine am_iload d_L_law_203 rfl ?_
      refine am_iconst (v := nI 1) d_L_law_205 (by decide) ?_
      refine am_iaddN d_L_law_206 ?_
      refine am_sld d_L_law_207 (vp_in_nI (by omega) (by omega)) ?_
      refine am_sv (v2 := .int (am_gx G (i + 1))) (by rw [nI_clamp (by omega)]) ?_
      refine am_aload_n d_L_law_208 rfl rfl ?_
      refine am_iload d_L_law_209 rfl ?_
      refine am_iconst (v := nI 2) d_L_law_211 (by decide) ?_
      refine am_iaddN d_L_law_212 ?_
      refine am_sld d_L_law_213 (vp_in_nI (by omega) (by omega)) ?_
      refine am_sv (v2 := .int (am_gx G (i + 2))) (by rw [nI_clamp (by omega)]) ?_
      refine am_aload_n d_L_law_214 rfl rfl ?_
      refine am_iload d_L_law_215 rfl ?_
      refine am_iconst (v := nI 3) d_L_law_217 (by decide) ?_
      refine am_iaddN d_L_law_218 ?_
      refine am_sld d_L_law_219 (vp_in_nI (by omega) (by omega)) ?_
      refine am_sv (v2 := .int (am_gx G (i + 3))) (by rw [nI_clamp (by omega)]) ?_
      refine am_callQ 4 (am_recvV (z := m_M_out) rfl d_L_law_220 w_764 w_765 w_766 w_767 F_M.1 rfl (by decide) np_M_out) (by decide) (by decide) (Nat.le_of_ble_eq_true rfl) (Nat.le_of_ble_eq_true rfl) (Nat.zero_le _) (Nat.zero_le _) (am_rm (d := 1) (by omega) (c_M_out (A := (x, true, (sh_mc S, sh_kd S, nu (sh_sp S) ia (sh_sp S ia + 1), nu (sh_sf S) (ia * 8 + sh_sp S ia) a, nu (sh_st S) (ia * 8 + sh_sp S ia) b, S.2.2.2.2.2), F, R, P)) (S := S) (jo := jo) (M := M) hI.1 0 _ _ _ _ _)) (fun v220 h220 q220 => ?_) (fun x220 h220 q220 => ?_)
      · rw [e0] at q220
        obtain ⟨v2, ev, hk2⟩ := q220
        cases ev
        obtain ⟨rfl, rfl⟩ := hk2 ia a b g4 g5 g6 g1 g2 g3
        refine am_istore d_L_law_223 (by decide) ?_
        refine am_aload_n d_L_law_225 rfl rfl ?_
        refine am_callF 1 (am_recvV (z := m_M_thrown) rfl d_L_law_226 w_753 w_754 w_755 w_756 F_M.1 rfl (by decide) np_M_thrown) (by decide) (by decide) (Nat.le_of_ble_eq_true rfl) (Nat.le_of_ble_eq_true rfl) (Nat.zero_le _) (Nat.zero_le _) (c_M_thrown _ _ _) ?_
        refine am_iload d_L_law_229 rfl ?_
        refine am_icmp_eq (tgt := 236) d_L_law_231 (by decide) (fun c231 => ?_) (fun c231 => ?_)
        · refine am_iload d_L_law_236 rfl ?_
          refine am_ifN_ne (tgt := 253) d_L_law_238 (by decide) (by omega) (fun c238 => ?_) (fun c238 => ?_)
          · exact absurd c238 (by decide)
          · refine am_aload_n d_L_law_241 rfl rfl ?_
            refine am_iconst (v := nI 0) d_L_law_242 (by decide) ?_
            refine am_lald0 d_L_law_243 (hm_at _ _ _ _ _ _) ?_
            refine am_sv (v2 := .long (nI (sh_sp S ia + 1)).toInt64) (congrArg Value.long ((l_up0 _ _).trans rfl)) ?_
            refine am_iload d_L_law_244 rfl ?_
            refine am_i2l d_L_law_246 ?_
            refine am_lc_same (tgt := 253) d_L_law_247 d_L_law_248 (by decide) ?_
            refine am_goto (tgt := 966) d_L_law_253 (by decide) ?_
            refine am_lo (L' := [(0, .ref 0), (1, .ref 1), (2, .ref 30), (3, .ref 53), (4, .int (nI i))]) rfl ?_
            refine hk x true (sh_mc S, sh_kd S, nu (sh_sp S) ia (sh_sp S ia + 1), nu (sh_sf S) (ia * 8 + sh_sp S ia) a, nu (sh_st S) (ia * 8 + sh_sp S ia) b, S.2.2.2.2.2) F R P jo _ _ _ ?_ ?_
            · exact (iv_out hI e0 g1 g4 g5 g6)
            · exact (iv_M_st hM)
        · exact absurd rfl c231
      · exact (mQ_no q220).elim
    · cases hv
      refine am_hq (hl_app _ _ _ _ _ _ _) ?_
      refine am_istore d_L_law_199 (by decide) ?_
      refine am_aload_n d_L_law_201 rfl rfl ?_
      refine am_aload_n d_L_law_202 rfl rfl ?_
      refine am_iload d_L_law_203 rfl ?_
      refine am_iconst (v := nI 1) d_L_law_205 (by decide) ?_
      refine am_iaddN d_L_law_206 ?_
      refine am_sld d_L_law_207 (vp_in_nI (by omega) (by omega)) ?_
      refine am_sv (v2 := .int (am_gx G (i + 1))) (by rw [nI_clamp (by omega)]) ?_
      refine am_aload_n d_L_law_208 rfl rfl ?_
      refine am_iload d_L_law_209 rfl ?_
      refine am_iconst (v := nI 2) d_L_law_211 (by decide) ?_
      refine am_iaddN d_L_law_212 ?_
      refine am_sld d_L_law_213 (vp_in_nI (by omega) (by omega)) ?_
      refine am_sv (v2 := .int (am_gx G (i + 2))) (by rw [nI_clamp (by omega)]) ?_
      refine am_aload_n d_L_law_214 rfl rfl ?_
      refine am_iload d_L_law_215 rfl ?_
      refine am_iconst (v := nI 3) d_L_law_217 (by decide) ?_
      refine am_iaddN d_L_law_218 ?_
      refine am_sld d_L_law_219 (vp_in_nI (by omega) (by omega)) ?_
      refine am_sv (v2 := .int (am_gx G (i + 3))) (by rw [nI_clamp (by omega)]) ?_
      refine am_callQ 4 (am_recvV (z := m_M_out) rfl d_L_law_220 w_764 w_765 w_766 w_767 F_M.1 rfl (by decide) np_M_out) (by decide) (by decide) (Nat.le_of_ble_eq_true rfl) (Nat.le_of_ble_eq_true rfl) (Nat.zero_le _) (Nat.zero_le _) (am_rm (d := 1) (by omega) (c_M_out (A := (x, t, S, F, R, P)) (S := S) (jo := jo) (M := M) hI.1 0 _ _ _ _ _)) (fun v220 h220 q220 => ?_) (fun x220 h220 q220 => ?_)
      · rw [e0] at q220
        obtain ⟨ev, rfl⟩ := q220
        cases ev
        refine am_istore d_L_law_223 (by decide) ?_
        refine am_aload_n d_L_law_225 rfl rfl ?_
        refine am_callF 1 (am_recvV (z := m_M_thrown) rfl d_L_law_226 w_753 w_754 w_755 w_756 F_M.1 rfl (by decide) np_M_thrown) (by decide) (by decide) (Nat.le_of_ble_eq_true rfl) (Nat.le_of_ble_eq_true rfl) (Nat.zero_le _) (Nat.zero_le _) (c_M_thrown _ _ _) ?_
        refine am_iload d_L_law_229 rfl ?_
        refine am_icmp_eq (tgt := 236) d_L_law_231 (by decide) (fun c231 => ?_) (fun c231 => ?_)
        · refine am_iload d_L_law_236 rfl ?_
          refine am_ifN_ne (tgt := 253) d_L_law_238 (by decide) (by omega) (fun c238 => ?_) (fun c238 => ?_)
          · refine am_goto (tgt := 966) d_L_law_253 (by decide) ?_
            refine am_lo (L' := [(0, .ref 0), (1, .ref 1), (2, .ref 30), (3, .ref 53), (4, .int (nI i))]) rfl ?_
            refine hk x t S F R P jo _ _ _ ?_ ?_
            · exact hI
            · exact hM
          · exact absurd c238 (by omega)
        · exact absurd rfl c231
      · exact (mQ_no q220).elim
  · exact (lQ_no q196).elim
set_option maxRecDepth 20000 in
set_option maxHeartbeats 1000000 in
theorem c_L_b_job {Q : am_O → am_H → Prop} (bc bs i : Nat) (hbc : 1 ≤ bc) (hbs : 6 ≤ bs) (hi : i + 5 ≤ am_gn G) (hn : am_gn G < 2 ^ 31) (hI : iv_X t S R P jo) (hM : iv_M x t P M) (hk : ∀ (x : Int64) (t : Bool) (S : sh_T) (F : fl_T) (R : se_T) (P : pl_T) (jo : Nat → Nat) (M : mo_T) (f : Nat → Int64) (V : am_H), iv_X t S R P jo → iv_M x t P M → am_W G m_L_law 33 (bc - 1) (bs - 6) Q 966 [(0, .ref 0), (1, .ref 1), (2, .ref 30), (3, .ref 53), (4, .int (nI i))] [] (hl (x, t, S, F, R, P) S jo M f V)) :
    am_W G m_L_law 33 bc bs Q 256 [(0, .ref 0), (1, .ref 1), (2, .ref 30), (3, .ref 53), (4, .int (nI i))] [] (hl (x, t, S, F, R, P) S jo M f V) := by
  refine am_aload_n d_L_law_256 rfl rfl ?_
  refine am_aload_n d_L_law_257 rfl rfl ?_
  refine am_iload d_L_law_258 rfl ?_
  refine am_iconst (v := nI 1) d_L_law_260 (by decide) ?_
  refine am_iaddN d_L_law_261 ?_
  refine am_sld d_L_law_262 (vp_in_nI (by omega) (by omega)) ?_
  refine am_sv (v2 := .int (am_gx G (i + 1))) (by rw [nI_clamp (by omega)]) ?_
  refine am_aload_n d_L_law_263 rfl rfl ?_
  refine am_iload d_L_law_264 rfl ?_
  refine am_iconst (v := nI 2) d_L_law_266 (by decide) ?_
  refine am_iaddN d_L_law_267 ?_
  refine am_sld d_L_law_268 (vp_in_nI (by omega) (by omega)) ?_
  refine am_sv (v2 := .int (am_gx G (i + 2))) (by rw [nI_clamp (by omega)]) ?_
  refine am_aload_n d_L_law_269 rfl rfl ?_
  refine am_callQ 4 (am_lkS (z := m_L_job) d_L_law_270 w_369 w_370 w_0 w_371 (by decide) np_L_job) (by decide) (by decide) (Nat.le_of_ble_eq_true rfl) (Nat.le_of_ble_eq_true rfl) (by omega) (by omega) (am_rm (d := 8) (by omega) (c_L_job (A := (x, t, S, F, R, P)) (S := S) (jo := jo) (M := M) (f := f) (V := V) 7 _ _ (c_X_job (x := x) (t := t) (S := S) (F := F) (R := R) (P := P) (W := (mo_c S jo M ++ (.inl (1, 1, .inr (.inl f)) :: V))) hI.1 6 1 6 (by omega) (by omega) (by omega) _ _) (fun w h' hq => by obtain ⟨a, b, g1, g2, g3, g4, rfl, rfl⟩ := hq; exact ⟨⟨_, rfl⟩, hl_at _ _ _ _ _ _ _ _ _ _ _⟩))) (fun v270 h270 q270 => ?_) (fun x270 h270 q270 => ?_)
  · rcases lQ_c q270 with ⟨e0, w, h0, hk1, hv, rfl⟩ | ⟨c, ci, e0, hc3, hv, rfl⟩
    · cases hv
      obtain ⟨a, b, g1, g2, g3, g4, rfl, rfl⟩ := hk1
      refine am_hq (hl_set _ _ _ _ _ _ _ _ _ _ _ _) ?_
      refine am_istore d_L_law_273 (by decide) ?_
      refine am_aload_n d_L_law_275 rfl rfl ?_
      refine am_aload_n d_L_law_276 rfl rfl ?_
      refine am_iload d_L_law_277 rfl ?_
      refine am_iconst (v := nI 1) d_L_law_279 (by decide) ?_
      refine am_iaddN d_L_law_280 ?_
      refine am_sld d_L_law_281 (vp_in_nI (by omega) (by omega)) ?_
      refine am_sv (v2 := .int (am_gx G (i + 1))) (by rw [nI_clamp (by omega)]) ?_
      refine am_aload_n d_L_law_282 rfl rfl ?_
      refine am_iload d_L_law_283 rfl ?_
      refine am_iconst (v := nI 2) d_L_law_285 (by decide) ?_
      refine am_iaddN d_L_law_286 ?_
      refine am_sld d_L_law_287 (vp_in_nI (by omega) (by omega)) ?_
      refine am_sv (v2 := .int (am_gx G (i + 2))) (by rw [nI_clamp (by omega)]) ?_
      refine am_callQ 3 (am_recvV (z := m_M_job) rfl d_L_law_288 w_768 w_769 w_770 w_771 F_M.1 rfl (by decide) np_M_job) (by decide) (by decide) (Nat.le_of_ble_eq_true rfl) (Nat.le_of_ble_eq_true rfl) (Nat.zero_le _) (Nat.zero_le _) (am_rm (d := 1) (by omega) (c_M_job (A := (x, true, (sh_mc S, sh_kd S, sh_sp S, sh_sf S, sh_st S, sh_jb S + 1, nu (sh_du S) (sh_jb S) a, nu (sh_we S) (sh_jb S) b, S.2.2.2.2.2.2.2.2), F, R, P)) (S := S) (jo := jo) (M := M) hI.1 0 _ _ _ _)) (fun v288 h288 q288 => ?_) (fun x288 h288 q288 => ?_)
      · rw [e0] at q288
        obtain ⟨v2, ev, hk2⟩ := q288
        cases ev
        obtain ⟨rfl, rfl⟩ := hk2 a b g3 g4 g1 g2
        refine am_istore d_L_law_291 (by decide) ?_
        refine am_aload_n d_L_law_293 rfl rfl ?_
        refine am_callF 1 (am_recvV (z := m_M_thrown) rfl d_L_law_294 w_753 w_754 w_755 w_756 F_M.1 rfl (by decide) np_M_thrown) (by decide) (by decide) (Nat.le_of_ble_eq_true rfl) (Nat.le_of_ble_eq_true rfl) (Nat.zero_le _) (Nat.zero_le _) (c_M_thrown _ _ _) ?_
        refine am_iload d_L_law_297 rfl ?_
        refine am_icmp_eq (tgt := 304) d_L_law_299 (by decide) (fun c299 => ?_) (fun c299 => ?_)
        · refine am_iload d_L_law_304 rfl ?_
          refine am_ifN_ne (tgt := 321) d_L_law_306 (by decide) (by omega) (fun c306 => ?_) (fun c306 => ?_)
          · exact absurd c306 (by decide)
          · refine am_aload_n d_L_law_309 rfl rfl ?_
            refine am_iconst (v := nI 0) d_L_law_310 (by decide) ?_
            refine am_lald0 d_L_law_311 (hm_at _ _ _ _ _ _) ?_
            refine am_sv (v2 := .long (nI (sh_jb S)).toInt64) (congrArg Value.long ((l_up0 _ _).trans rfl)) ?_
            refine am_iload d_L_law_312 rfl ?_
            refine am_i2l d_L_law_314 ?_
            refine am_lc_same (tgt := 321) d_L_law_315 d_L_law_316 (by decide) ?_
            refine am_goto (tgt := 966) d_L_law_321 (by decide) ?_
            refine am_lo (L' := [(0, .ref 0), (1, .ref 1), (2, .ref 30), (3, .ref 53), (4, .int (nI i))]) rfl ?_
            refine hk x true (sh_mc S, sh_kd S, sh_sp S, sh_sf S, sh_st S, sh_jb S + 1, nu (sh_du S) (sh_jb S) a, nu (sh_we S) (sh_jb S) b, S.2.2.2.2.2.2.2.2) F R P jo _ _ _ ?_ ?_
            · exact (iv_job hI e0 g3 g4)
            · exact (iv_M_st hM)
        · exact absurd rfl c299
      · exact (mQ_no q288).elim
    · cases hv
      refine am_hq (hl_app _ _ _ _ _ _ _) ?_
      refine am_istore d_L_law_273 (by decide) ?_
      refine am_aload_n d_L_law_275 rfl rfl ?_
      refine am_aload_n d_L_law_276 rfl rfl ?_
      refine am_iload d_L_law_277 rfl ?_
      refine am_iconst (v := nI 1) d_L_law_279 (by decide) ?_
      refine am_iaddN d_L_law_280 ?_
      refine am_sld d_L_law_281 (vp_in_nI (by omega) (by omega)) ?_
      refine am_sv (v2 := .int (am_gx G (i + 1))) (by rw [nI_clamp (by omega)]) ?_
      refine am_aload_n d_L_law_282 rfl rfl ?_
      refine am_iload d_L_law_283 rfl ?_
      refine am_iconst (v := nI 2) d_L_law_285 (by decide) ?_
      refine am_iaddN d_L_law_286 ?_
      refine am_sld d_L_law_287 (vp_in_nI (by omega) (by omega)) ?_
      refine am_sv (v2 := .int (am_gx G (i + 2))) (by rw [nI_clamp (by omega)]) ?_
      refine am_callQ 3 (am_recvV (z := m_M_job) rfl d_L_law_288 w_768 w_769 w_770 w_771 F_M.1 rfl (by decide) np_M_job) (by decide) (by decide) (Nat.le_of_ble_eq_true rfl) (Nat.le_of_ble_eq_true rfl) (Nat.zero_le _) (Nat.zero_le _) (am_rm (d := 1) (by omega) (c_M_job (A := (x, t, S, F, R, P)) (S := S) (jo := jo) (M := M) hI.1 0 _ _ _ _)) (fun v288 h288 q288 => ?_) (fun x288 h288 q288 => ?_)
      · rw [e0] at q288
        obtain ⟨ev, rfl⟩ := q288
        cases ev
        refine am_istore d_L_law_291 (by decide) ?_
        refine am_aload_n d_L_law_293 rfl rfl ?_
        refine am_callF 1 (am_recvV (z := m_M_thrown) rfl d_L_law_294 w_753 w_754 w_755 w_756 F_M.1 rfl (by decide) np_M_thrown) (by decide) (by decide) (Nat.le_of_ble_eq_true rfl) (Nat.le_of_ble_eq_true rfl) (Nat.zero_le _) (Nat.zero_le _) (c_M_thrown _ _ _) ?_
        refine am_iload d_L_law_297 rfl ?_
        refine am_icmp_eq (tgt := 304) d_L_law_299 (by decide) (fun c299 => ?_) (fun c299 => ?_)
        · refine am_iload d_L_law_304 rfl ?_
          refine am_ifN_ne (tgt := 321) d_L_law_306 (by decide) (by omega) (fun c306 => ?_) (fun c306 => ?_)
          · refine am_goto (tgt := 966) d_L_law_321 (by decide) ?_
            refine am_lo (L' := [(0, .ref 0), (1, .ref 1), (2, .ref 30), (3, .ref 53), (4, .int (nI i))]) rfl ?_
            refine hk x t S F R P jo _ _ _ ?_ ?_
            · exact hI
            · exact hM
          · exact absurd c306 (by omega)
        · exact absurd rfl c299
      · exact (mQ_no q288).elim
  · exact (lQ_no q270).elim
set_option maxRecDepth 20000 in
set_option maxHeartbeats 1000000 in
theorem c_L_b_due {Q : am_O → am_H → Prop} (bc bs i : Nat) (hbc : 1 ≤ bc) (hbs : 6 ≤ bs) (hi : i + 5 ≤ am_gn G) (hn : am_gn G < 2 ^ 31) (hI : iv_X t S R P jo) (hM : iv_M x t P M) (hk : ∀ (x : Int64) (t : Bool) (S : sh_T) (F : fl_T) (R : se_T) (P : pl_T) (jo : Nat → Nat) (M : mo_T) (f : Nat → Int64) (V : am_H), iv_X t S R P jo → iv_M x t P M → am_W G m_L_law 33 (bc - 1) (bs - 6) Q 966 [(0, .ref 0), (1, .ref 1), (2, .ref 30), (3, .ref 53), (4, .int (nI i))] [] (hl (x, t, S, F, R, P) S jo M f V)) :
    am_W G m_L_law 33 bc bs Q 324 [(0, .ref 0), (1, .ref 1), (2, .ref 30), (3, .ref 53), (4, .int (nI i))] [] (hl (x, t, S, F, R, P) S jo M f V) := by
  refine am_aload_n d_L_law_324 rfl rfl ?_
  refine am_aload_n d_L_law_325 rfl rfl ?_
  refine am_iload d_L_law_326 rfl ?_
  refine am_iconst (v := nI 1) d_L_law_328 (by decide) ?_
  refine am_iaddN d_L_law_329 ?_
  refine am_sld d_L_law_330 (vp_in_nI (by omega) (by omega)) ?_
  refine am_sv (v2 := .int (am_gx G (i + 1))) (by rw [nI_clamp (by omega)]) ?_
  refine am_aload_n d_L_law_331 rfl rfl ?_
  refine am_iload d_L_law_332 rfl ?_
  refine am_iconst (v := nI 2) d_L_law_334 (by decide) ?_
  refine am_iaddN d_L_law_335 ?_
  refine am_sld d_L_law_336 (vp_in_nI (by omega) (by omega)) ?_
  refine am_sv (v2 := .int (am_gx G (i + 2))) (by rw [nI_clamp (by omega)]) ?_
  refine am_callQ 3 (am_lkS (z := m_L_due) d_L_law_337 w_382 w_383 w_0 w_384 (by decide) np_L_due) (by decide) (by decide) (Nat.le_of_ble_eq_true rfl) (Nat.le_of_ble_eq_true rfl) (by omega) (by omega) (am_rm (d := 9) (by omega) (c_L_due (A := (x, t, S, F, R, P)) (S := S) (jo := jo) (M := M) (f := f) (V := V) 8 _ _ (c_X_due (x := x) (t := t) (S := S) (F := F) (R := R) (P := P) (W := (mo_c S jo M ++ (.inl (1, 1, .inr (.inl f)) :: V))) hI.1 6 1 6 (by omega) (by omega) (by omega) _ _) (fun w h' hq => by obtain ⟨_, _, _, _, _, _, rfl, _⟩ := hq; rfl))) (fun v337 h337 q337 => ?_) (fun x337 h337 q337 => ?_)
  · rcases lV_c q337 with ⟨e0, hk1, hv⟩ | ⟨c, ci, e0, hc3, hv, rfl⟩
    · cases hv
      obtain ⟨ia, a, g1, g2, g3, g4, -, rfl⟩ := hk1
      refine am_hq (hx_hl _ _ _ _ _ _ _ _ _ _ _) ?_
      refine am_istore d_L_law_340 (by decide) ?_
      refine am_aload_n d_L_law_342 rfl rfl ?_
      refine am_aload_n d_L_law_343 rfl rfl ?_
      refine am_iload d_L_law_344 rfl ?_
      refine am_iconst (v := nI 1) d_L_law_346 (by decide) ?_
      refine am_iaddN d_L_law_347 ?_
      refine am_sld d_L_law_348 (vp_in_nI (by omega) (by omega)) ?_
      refine am_sv (v2 := .int (am_gx G (i + 1))) (by rw [nI_clamp (by omega)]) ?_
      refine am_aload_n d_L_law_349 rfl rfl ?_
      refine am_iload d_L_law_350 rfl ?_
      refine am_iconst (v := nI 2) d_L_law_352 (by decide) ?_
      refine am_iaddN d_L_law_353 ?_
      refine am_sld d_L_law_354 (vp_in_nI (by omega) (by omega)) ?_
      refine am_sv (v2 := .int (am_gx G (i + 2))) (by rw [nI_clamp (by omega)]) ?_
      refine am_callQ 3 (am_recvV (z := m_M_due) rfl d_L_law_355 w_772 w_773 w_774 w_775 F_M.1 rfl (by decide) np_M_due) (by decide) (by decide) (Nat.le_of_ble_eq_true rfl) (Nat.le_of_ble_eq_true rfl) (Nat.zero_le _) (Nat.zero_le _) (am_rm (d := 1) (by omega) (c_M_due (A := (x, true, (sh_mc S, sh_kd S, sh_sp S, sh_sf S, sh_st S, sh_jb S, nu (sh_du S) ia a, S.2.2.2.2.2.2.2), F, R, P)) (S := S) (jo := jo) (M := M) hI.1 0 _ _ _ _)) (fun v355 h355 q355 => ?_) (fun x355 h355 q355 => ?_)
      · rw [e0] at q355
        obtain ⟨v2, ev, hk2⟩ := q355
        cases ev
        obtain ⟨rfl, rfl⟩ := hk2 ia a g3 g4 g1 g2
        refine am_aload_n d_L_law_358 rfl rfl ?_
        refine am_callF 1 (am_recvV (z := m_M_thrown) rfl d_L_law_359 w_753 w_754 w_755 w_756 F_M.1 rfl (by decide) np_M_thrown) (by decide) (by decide) (Nat.le_of_ble_eq_true rfl) (Nat.le_of_ble_eq_true rfl) (Nat.zero_le _) (Nat.zero_le _) (c_M_thrown _ _ _) ?_
        refine am_iload d_L_law_362 rfl ?_
        refine am_icmp_eq (tgt := 369) d_L_law_364 (by decide) (fun c364 => ?_) (fun c364 => ?_)
        · refine am_goto (tgt := 966) d_L_law_369 (by decide) ?_
          refine am_lo (L' := [(0, .ref 0), (1, .ref 1), (2, .ref 30), (3, .ref 53), (4, .int (nI i))]) rfl ?_
          refine hk x true (sh_mc S, sh_kd S, sh_sp S, sh_sf S, sh_st S, sh_jb S, nu (sh_du S) ia a, S.2.2.2.2.2.2.2) F R P jo _ _ _ ?_ ?_
          · exact (iv_due hI g4)
          · exact (iv_M_st hM)
        · exact absurd rfl c364
      · exact (mQ_no q355).elim
    · cases hv
      refine am_hq (hl_app _ _ _ _ _ _ _) ?_
      refine am_istore d_L_law_340 (by decide) ?_
      refine am_aload_n d_L_law_342 rfl rfl ?_
      refine am_aload_n d_L_law_343 rfl rfl ?_
      refine am_iload d_L_law_344 rfl ?_
      refine am_iconst (v := nI 1) d_L_law_346 (by decide) ?_
      refine am_iaddN d_L_law_347 ?_
      refine am_sld d_L_law_348 (vp_in_nI (by omega) (by omega)) ?_
      refine am_sv (v2 := .int (am_gx G (i + 1))) (by rw [nI_clamp (by omega)]) ?_
      refine am_aload_n d_L_law_349 rfl rfl ?_
      refine am_iload d_L_law_350 rfl ?_
      refine am_iconst (v := nI 2) d_L_law_352 (by decide) ?_
      refine am_iaddN d_L_law_353 ?_
      refine am_sld d_L_law_354 (vp_in_nI (by omega) (by omega)) ?_
      refine am_sv (v2 := .int (am_gx G (i + 2))) (by rw [nI_clamp (by omega)]) ?_
      refine am_callQ 3 (am_recvV (z := m_M_due) rfl d_L_law_355 w_772 w_773 w_774 w_775 F_M.1 rfl (by decide) np_M_due) (by decide) (by decide) (Nat.le_of_ble_eq_true rfl) (Nat.le_of_ble_eq_true rfl) (Nat.zero_le _) (Nat.zero_le _) (am_rm (d := 1) (by omega) (c_M_due (A := (x, t, S, F, R, P)) (S := S) (jo := jo) (M := M) hI.1 0 _ _ _ _)) (fun v355 h355 q355 => ?_) (fun x355 h355 q355 => ?_)
      · rw [e0] at q355
        obtain ⟨ev, rfl⟩ := q355
        cases ev
        refine am_aload_n d_L_law_358 rfl rfl ?_
        refine am_callF 1 (am_recvV (z := m_M_thrown) rfl d_L_law_359 w_753 w_754 w_755 w_756 F_M.1 rfl (by decide) np_M_thrown) (by decide) (by decide) (Nat.le_of_ble_eq_true rfl) (Nat.le_of_ble_eq_true rfl) (Nat.zero_le _) (Nat.zero_le _) (c_M_thrown _ _ _) ?_
        refine am_iload d_L_law_362 rfl ?_
        refine am_icmp_eq (tgt := 369) d_L_law_364 (by decide) (fun c364 => ?_) (fun c364 => ?_)
        · refine am_goto (tgt := 966) d_L_law_369 (by decide) ?_
          refine am_lo (L' := [(0, .ref 0), (1, .ref 1), (2, .ref 30), (3, .ref 53), (4, .int (nI i))]) rfl ?_
          refine hk x t S F R P jo _ _ _ ?_ ?_
          · exact hI
          · exact hM
        · exact absurd rfl c364
      · exact (mQ_no q355).elim
  · exact (lV_no q337).elim
set_option maxRecDepth 20000 in
set_option maxHeartbeats 1000000 in
theorem c_L_b_step {Q : am_O → am_H → Prop} (bc bs i : Nat) (hbc : 1 ≤ bc) (hbs : 6 ≤ bs) (hi : i + 5 ≤ am_gn G) (hn : am_gn G < 2 ^ 31) (hI : iv_X t S R P jo) (hM : iv_M x t P M) (hk : ∀ (x : Int64) (t : Bool) (S : sh_T) (F : fl_T) (R : se_T) (P : pl_T) (jo : Nat → Nat) (M : mo_T) (f : Nat → Int64) (V : am_H), iv_X t S R P jo → iv_M x t P M → am_W G m_L_law 33 (bc - 1) (bs - 6) Q 966 [(0, .ref 0), (1, .ref 1), (2, .ref 30), (3, .ref 53), (4, .int (nI i))] [] (hl (x, t, S, F, R, P) S jo M f V)) :
    am_W G m_L_law 33 bc bs Q 372 [(0, .ref 0), (1, .ref 1), (2, .ref 30), (3, .ref 53), (4, .int (nI i))] [] (hl (x, t, S, F, R, P) S jo M f V) := by
  refine am_aload_n d_L_law_372 rfl rfl ?_
  refine am_aload_n d_L_law_373 rfl rfl ?_
  refine am_iload d_L_law_374 rfl ?_
  refine am_iconst (v := nI 1) d_L_law_376 (by decide) ?_
  refine am_iaddN d_L_law_377 ?_
  refine am_sld d_L_law_378 (vp_in_nI (by omega) (by omega)) ?_
  refine am_sv (v2 := .int (am_gx G (i + 1))) (by rw [nI_clamp (by omega)]) ?_
  refine am_aload_n d_L_law_379 rfl rfl ?_
  refine am_iload d_L_law_380 rfl ?_
  refine am_iconst (v := nI 2) d_L_law_382 (by decide) ?_
  refine am_iaddN d_L_law_383 ?_
  refine am_sld d_L_law_384 (vp_in_nI (by omega) (by omega)) ?_
  refine am_sv (v2 := .int (am_gx G (i + 2))) (by rw [nI_clamp (by omega)]) ?_
  refine am_aload_n d_L_law_385 rfl rfl ?_
  refine am_iload d_L_law_386 rfl ?_
  refine am_iconst (v := nI 3) d_L_law_388 (by decide) ?_
  refine am_iaddN d_L_law_389 ?_
  refine am_sld d_L_law_390 (vp_in_nI (by omega) (by omega)) ?_
  refine am_sv (v2 := .int (am_gx G (i + 3))) (by rw [nI_clamp (by omega)]) ?_
  refine am_aload_n d_L_law_391 rfl rfl ?_
  refine am_iload d_L_law_392 rfl ?_
  refine am_iconst (v := nI 4) d_L_law_394 (by decide) ?_
  refine am_iaddN d_L_law_395 ?_
  refine am_sld d_L_law_396 (vp_in_nI (by omega) (by omega)) ?_
  refine am_sv (v2 := .int (am_gx G (i + 4))) (by rw [nI_clamp (by omega)]) ?_
  refine am_aload_n d_L_law_397 rfl rfl ?_
  refine am_callQ 6 (am_lkS (z := m_L_step) d_L_law_398 w_395 w_396 w_0 w_397 (by decide) np_L_step) (by decide) (by decide) (Nat.le_of_ble_eq_true rfl) (Nat.le_of_ble_eq_true rfl) (by omega) (by omega) (am_rm (d := 9) (by omega) (c_L_step (A := (x, t, S, F, R, P)) (S := S) (jo := jo) (M := M) (f := f) (V := V) 8 _ _ _ _ (c_X_step (x := x) (t := t) (S := S) (F := F) (R := R) (P := P) (W := (mo_c S jo M ++ (.inl (1, 1, .inr (.inl f)) :: V))) hI.1 hI.2.2.1 6 1 6 (by omega) (by omega) (by omega) _ _ _ _) (fun w h' hq => by obtain ⟨ia, a, b, c, g1, g2, g3, g4, g5, g6, g7, g8, g9, rfl, rfl⟩ := hq; exact ⟨⟨_, rfl⟩, hl_at _ _ _ _ _ _ _ _ _ _ _⟩))) (fun v398 h398 q398 => ?_) (fun x398 h398 q398 => ?_)
  · rcases lQ_c q398 with ⟨e0, w, h0, hk1, hv, rfl⟩ | ⟨c, ci, e0, hc3, hv, rfl⟩
    · cases hv
      obtain ⟨ia, a, b, c, g1, g2, g3, g4, g5, g6, g7, g8, g9, rfl, rfl⟩ := hk1
      refine am_hq (hl_set _ _ _ _ _ _ _ _ _ _ _ _) ?_
      refine am_istore d_L_law_401 (by decide) ?_
      refine am_aload_n d_L_law_403 rfl rfl ?_
      refine am_aload_n d_L_law_404 rfl rfl ?_
      refine am_iload d_L_law_405 rfl ?_
      refine am_iconst (v := nI 1) d_L_law_407 (by decide) ?_
      refine am_iaddN d_L_law_408 ?_
      refine am_sld d_L_law_409 (vp_in_nI (by omega) (by omega)) ?_
      refine am_sv (v2 := .int (am_gx G (i + 1))) (by rw [nI_clamp (by omega)]) ?_
      refine am_aload_n d_L_law_410 rfl rfl ?_
      refine am_iload d_L_law_411 rfl ?_
      refine am_iconst (v := nI 2) d_L_law_413 (by decide) ?_
      refine am_iaddN d_L_law_414 ?_
      refine am_sld d_L_law_415 (vp_in_nI (by omega) (by omega)) ?_
      refine am_sv (v2 := .int (am_gx G (i + 2))) (by rw [nI_clamp (by omega)]) ?_
      refine am_aload_n d_L_law_416 rfl rfl ?_
      refine am_iload d_L_law_417 rfl ?_
      refine am_iconst (v := nI 3) d_L_law_419 (by decide) ?_
      refine am_iaddN d_L_law_420 ?_
      refine am_sld d_L_law_421 (vp_in_nI (by omega) (by omega)) ?_
      refine am_sv (v2 := .int (am_gx G (i + 3))) (by rw [nI_clamp (by omega)]) ?_
      refine am_aload_n d_L_law_422 rfl rfl ?_
      refine am_iload d_L_law_423 rfl ?_
      refine am_iconst (v := nI 4) d_L_law_425 (by decide) ?_
      refine am_iaddN d_L_law_426 ?_
      refine am_sld d_L_law_427 (vp_in_nI (by omega) (by omega)) ?_
      refine am_sv (v2 := .int (am_gx G (i + 4))) (by rw [nI_clamp (by omega)]) ?_
      refine am_callQ 5 (am_recvV (z := m_M_step) rfl d_L_law_428 w_776 w_777 w_778 w_779 F_M.1 rfl (by decide) np_M_step) (by decide) (by decide) (Nat.le_of_ble_eq_true rfl) (Nat.le_of_ble_eq_true rfl) (Nat.zero_le _) (Nat.zero_le _) (am_rm (d := 1) (by omega) (c_M_step (A := (x, true, (sp_addStep S ia a b c), F, R, P)) (S := S) (jo := jo) (M := M) hI.1 hI.2.2.1 0 _ _ _ _ _ _)) (fun v428 h428 q428 => ?_) (fun x428 h428 q428 => ?_)
      · rw [e0] at q428
        obtain ⟨v2, ev, hk2⟩ := q428
        cases ev
        obtain ⟨rfl, rfl⟩ := hk2 ia a b c g5 g6 g7 g8 g9 g1 g2 g3 g4
        refine am_istore d_L_law_431 (by decide) ?_
        refine am_aload_n d_L_law_433 rfl rfl ?_
        refine am_callF 1 (am_recvV (z := m_M_thrown) rfl d_L_law_434 w_753 w_754 w_755 w_756 F_M.1 rfl (by decide) np_M_thrown) (by decide) (by decide) (Nat.le_of_ble_eq_true rfl) (Nat.le_of_ble_eq_true rfl) (Nat.zero_le _) (Nat.zero_le _) (c_M_thrown _ _ _) ?_
        refine am_iload d_L_law_437 rfl ?_
        refine am_icmp_eq (tgt := 444) d_L_law_439 (by decide) (fun c439 => ?_) (fun c439 => ?_)
        · refine am_iload d_L_law_444 rfl ?_
          refine am_ifN_ne (tgt := 461) d_L_law_446 (by decide) (by omega) (fun c446 => ?_) (fun c446 => ?_)
          · exact absurd c446 (by decide)
          · refine am_aload_n d_L_law_449 rfl rfl ?_
            refine am_iconst (v := nI 0) d_L_law_450 (by decide) ?_
            refine am_lald0 d_L_law_451 (hm_at _ _ _ _ _ _) ?_
            refine am_sv (v2 := .long (nI (sh_ss S)).toInt64) (congrArg Value.long ((l_up0 _ _).trans rfl)) ?_
            refine am_iload d_L_law_452 rfl ?_
            refine am_i2l d_L_law_454 ?_
            refine am_lc_same (tgt := 461) d_L_law_455 d_L_law_456 (by decide) ?_
            refine am_goto (tgt := 966) d_L_law_461 (by decide) ?_
            refine am_lo (L' := [(0, .ref 0), (1, .ref 1), (2, .ref 30), (3, .ref 53), (4, .int (nI i))]) rfl ?_
            refine hk x true (sp_addStep S ia a b c) F R P (nu jo (sh_ss S) ia) _ _ _ ?_ ?_
            · exact (iv_step hI e0 g1 g5 g6 g8 g9)
            · exact (iv_M_st hM)
        · exact absurd rfl c439
      · exact (mQ_no q428).elim
    · cases hv
      refine am_hq (hl_app _ _ _ _ _ _ _) ?_
      refine am_istore d_L_law_401 (by decide) ?_
      refine am_aload_n d_L_law_403 rfl rfl ?_
      refine am_aload_n d_L_law_404 rfl rfl ?_
      refine am_iload d_L_law_405 rfl ?_
      refine am_iconst (v := nI 1) d_L_law_407 (by decide) ?_
      refine am_iaddN d_L_law_408 ?_
      refine am_sld d_L_law_409 (vp_in_nI (by omega) (by omega)) ?_
      refine am_sv (v2 := .int (am_gx G (i + 1))) (by rw [nI_clamp (by omega)]) ?_
      refine am_aload_n d_L_law_410 rfl rfl ?_
      refine am_iload d_L_law_411 rfl ?_
      refine am_iconst (v := nI 2) d_L_law_413 (by decide) ?_
      refine am_iaddN d_L_law_414 ?_
      refine am_sld d_L_law_415 (vp_in_nI (by omega) (by omega)) ?_
      refine am_sv (v2 := .int (am_gx G (i + 2))) (by rw [nI_clamp (by omega)]) ?_
      refine am_aload_n d_L_law_416 rfl rfl ?_
      refine am_iload d_L_law_417 rfl ?_
      refine am_iconst (v := nI 3) d_L_law_419 (by decide) ?_
      refine am_iaddN d_L_law_420 ?_
      refine am_sld d_L_law_421 (vp_in_nI (by omega) (by omega)) ?_
      refine am_sv (v2 := .int (am_gx G (i + 3))) (by rw [nI_clamp (by omega)]) ?_
      refine am_aload_n d_L_law_422 rfl rfl ?_
      refine am_iload d_L_law_423 rfl ?_
      refine am_iconst (v := nI 4) d_L_law_425 (by decide) ?_
      refine am_iaddN d_L_law_426 ?_
      refine am_sld d_L_law_427 (vp_in_nI (by omega) (by omega)) ?_
      refine am_sv (v2 := .int (am_gx G (i + 4))) (by rw [nI_clamp (by omega)]) ?_
      refine am_callQ 5 (am_recvV (z := m_M_step) rfl d_L_law_428 w_776 w_777 w_778 w_779 F_M.1 rfl (by decide) np_M_step) (by decide) (by decide) (Nat.le_of_ble_eq_true rfl) (Nat.le_of_ble_eq_true rfl) (Nat.zero_le _) (Nat.zero_le _) (am_rm (d := 1) (by omega) (c_M_step (A := (x, t, S, F, R, P)) (S := S) (jo := jo) (M := M) hI.1 hI.2.2.1 0 _ _ _ _ _ _)) (fun v428 h428 q428 => ?_) (fun x428 h428 q428 => ?_)
      · rw [e0] at q428
        obtain ⟨ev, rfl⟩ := q428
        cases ev
        refine am_istore d_L_law_431 (by decide) ?_
        refine am_aload_n d_L_law_433 rfl rfl ?_
        refine am_callF 1 (am_recvV (z := m_M_thrown) rfl d_L_law_434 w_753 w_754 w_755 w_756 F_M.1 rfl (by decide) np_M_thrown) (by decide) (by decide) (Nat.le_of_ble_eq_true rfl) (Nat.le_of_ble_eq_true rfl) (Nat.zero_le _) (Nat.zero_le _) (c_M_thrown _ _ _) ?_
        refine am_iload d_L_law_437 rfl ?_
        refine am_icmp_eq (tgt := 444) d_L_law_439 (by decide) (fun c439 => ?_) (fun c439 => ?_)
        · refine am_iload d_L_law_444 rfl ?_
          refine am_ifN_ne (tgt := 461) d_L_law_446 (by decide) (by omega) (fun c446 => ?_) (fun c446 => ?_)
          · refine am_goto (tgt := 966) d_L_law_461 (by decide) ?_
            refine am_lo (L' := [(0, .ref 0), (1, .ref 1), (2, .ref 30), (3, .ref 53), (4, .int (nI i))]) rfl ?_
            refine hk x t S F R P jo _ _ _ ?_ ?_
            · exact hI
            · exact hM
          · exact absurd c446 (by omega)
        · exact absurd rfl c439
      · exact (mQ_no q428).elim
  · exact (lQ_no q398).elim
set_option maxRecDepth 20000 in
set_option maxHeartbeats 1000000 in
theorem c_L_b_run {Q : am_O → am_H → Prop} (bc bs i : Nat) (hbc : 1 ≤ bc) (hbs : 6 ≤ bs) (hi : i + 5 ≤ am_gn G) (hn : am_gn G < 2 ^ 31) (hI : iv_X t S R P jo) (hM : iv_M x t P M) (hk : ∀ (x : Int64) (t : Bool) (S : sh_T) (F : fl_T) (R : se_T) (P : pl_T) (jo : Nat → Nat) (M : mo_T) (f : Nat → Int64) (V : am_H), iv_X t S R P jo → iv_M x t P M → am_W G m_L_law 33 (bc - 1) (bs - 6) Q 966 [(0, .ref 0), (1, .ref 1), (2, .ref 30), (3, .ref 53), (4, .int (nI i))] [] (hl (x, t, S, F, R, P) S jo M f V)) :
    am_W G m_L_law 33 bc bs Q 464 [(0, .ref 0), (1, .ref 1), (2, .ref 30), (3, .ref 53), (4, .int (nI i))] [] (hl (x, t, S, F, R, P) S jo M f V) := by
  refine am_aload_n d_L_law_464 rfl rfl ?_
  refine am_aload_n d_L_law_465 rfl rfl ?_
  refine am_iload d_L_law_466 rfl ?_
  refine am_iconst (v := nI 1) d_L_law_468 (by decide) ?_
  refine am_iaddN d_L_law_469 ?_
  refine am_sld d_L_law_470 (vp_in_nI (by omega) (by omega)) ?_
  refine am_sv (v2 := .int (am_gx G (i + 1))) (by rw [nI_clamp (by omega)]) ?_
  refine am_aload_n d_L_law_471 rfl rfl ?_
  refine am_callQ 3 (am_lkS (z := m_L_run) d_L_law_472 w_412 w_413 w_0 w_414 (by decide) np_L_run) (by decide) (by decide) (Nat.le_of_ble_eq_true rfl) (Nat.le_of_ble_eq_true rfl) (by omega) (by omega) (am_rm (d := 25) (by omega) (c_L_run (A := (x, t, S, F, R, P)) (S := S) (jo := jo) (M := M) (f := f) (V := V) 24 _ (c_X_run (x := x) (t := t) (S := S) (F := F) (R := R) (P := P) (W := (mo_c S jo M ++ (.inl (1, 1, .inr (.inl f)) :: V))) hI.1 hI.2.1 hI.2.2.2.1 hI.2.2.2.2.1 6 1 6 (by omega) (by omega) (by omega) _) (fun w h' hq => by obtain ⟨ia, F', g1, g2, g3, g4, g5, rfl, rfl⟩ := hq; exact ⟨⟨_, rfl⟩, hl_at _ _ _ _ _ _ _ _ _ _ _⟩))) (fun v472 h472 q472 => ?_) (fun x472 h472 q472 => ?_)
  · rcases lQ_c q472 with ⟨e0, w, h0, hk1, hv, rfl⟩ | ⟨c, ci, e0, hc3, hv, rfl⟩
    · cases hv
      obtain ⟨ia, F', g1, g2, g3, g4, g5, rfl, rfl⟩ := hk1
      refine am_hq (hl_set _ _ _ _ _ _ _ _ _ _ _ _) ?_
      refine am_istore d_L_law_475 (by decide) ?_
      refine am_aload_n d_L_law_477 rfl rfl ?_
      refine am_aload_n d_L_law_478 rfl rfl ?_
      refine am_iload d_L_law_479 rfl ?_
      refine am_iconst (v := nI 1) d_L_law_481 (by decide) ?_
      refine am_iaddN d_L_law_482 ?_
      refine am_sld d_L_law_483 (vp_in_nI (by omega) (by omega)) ?_
      refine am_sv (v2 := .int (am_gx G (i + 1))) (by rw [nI_clamp (by omega)]) ?_
      refine am_callQ 2 (am_recvV (z := m_M_run) rfl d_L_law_484 w_780 w_781 w_782 w_783 F_M.1 rfl (by decide) np_M_run) (by decide) (by decide) (Nat.le_of_ble_eq_true rfl) (Nat.le_of_ble_eq_true rfl) (Nat.zero_le _) (Nat.zero_le _) (am_rm (d := 6) (by omega) (c_M_run (A := (x, false, S, F', (rn_q S R ia).2, rn_P S R P ia)) (S := S) (jo := jo) (M := M) (P := P) (R := R) hI.1 hI.2.1 hI.2.2.2.1 hI.2.2.2.2.1 hM.2.2.2.2.2.2.2.2.2.1 hM.2.2.2.2.2.2.2.2.2.2 0 _ _ _)) (fun v484 h484 q484 => ?_) (fun x484 h484 q484 => ?_)
      · rw [e0] at q484
        obtain ⟨v2, ev, hk2⟩ := q484
        cases ev
        obtain ⟨H1, H2, pn, ro, tr, us, rfl, hpn, rfl⟩ := hk2 ia g1 g3
        refine am_istore d_L_law_487 (by decide) ?_
        refine am_aload_n d_L_law_489 rfl rfl ?_
        refine am_callF 1 (am_recvV (z := m_M_thrown) rfl d_L_law_490 w_753 w_754 w_755 w_756 F_M.1 rfl (by decide) np_M_thrown) (by decide) (by decide) (Nat.le_of_ble_eq_true rfl) (Nat.le_of_ble_eq_true rfl) (Nat.zero_le _) (Nat.zero_le _) (c_M_thrown _ _ _) ?_
        refine am_iload d_L_law_493 rfl ?_
        refine am_icmp_eq (tgt := 500) d_L_law_495 (by decide) (fun c495 => ?_) (fun c495 => ?_)
        · refine am_iload d_L_law_500 rfl ?_
          refine am_ifN_ne (tgt := 517) d_L_law_502 (by decide) (by omega) (fun c502 => ?_) (fun c502 => ?_)
          · exact absurd c502 (by decide)
          · refine am_aload_n d_L_law_505 rfl rfl ?_
            refine am_iconst (v := nI 0) d_L_law_506 (by decide) ?_
            refine am_lald0 d_L_law_507 (hm_at _ _ _ _ _ _) ?_
            refine am_sv (v2 := .long (nI (if (rn_q S R ia).1 = true then 0 else 1)).toInt64) (congrArg Value.long ((l_up0 _ _).trans (by cases (rn_q S R ia).1 <;> rfl))) ?_
            refine am_iload d_L_law_508 rfl ?_
            refine am_i2l d_L_law_510 ?_
            refine am_lc_same (tgt := 517) d_L_law_511 d_L_law_512 (by decide) ?_
            refine am_goto (tgt := 966) d_L_law_517 (by decide) ?_
            refine am_lo (L' := [(0, .ref 0), (1, .ref 1), (2, .ref 30), (3, .ref 53), (4, .int (nI i))]) rfl ?_
            refine hk x false S F' (rn_q S R ia).2 (rn_P S R P ia) jo _ _ _ ?_ ?_
            · exact (iv_run hI g5 g3)
            · exact (iv_M_run hI hM g5 g3 g4 hpn)
        · exact absurd rfl c495
      · exact (mQ_no q484).elim
    · cases hv
      refine am_hq (hl_app _ _ _ _ _ _ _) ?_
      refine am_istore d_L_law_475 (by decide) ?_
      refine am_aload_n d_L_law_477 rfl rfl ?_
      refine am_aload_n d_L_law_478 rfl rfl ?_
      refine am_iload d_L_law_479 rfl ?_
      refine am_iconst (v := nI 1) d_L_law_481 (by decide) ?_
      refine am_iaddN d_L_law_482 ?_
      refine am_sld d_L_law_483 (vp_in_nI (by omega) (by omega)) ?_
      refine am_sv (v2 := .int (am_gx G (i + 1))) (by rw [nI_clamp (by omega)]) ?_
      refine am_callQ 2 (am_recvV (z := m_M_run) rfl d_L_law_484 w_780 w_781 w_782 w_783 F_M.1 rfl (by decide) np_M_run) (by decide) (by decide) (Nat.le_of_ble_eq_true rfl) (Nat.le_of_ble_eq_true rfl) (Nat.zero_le _) (Nat.zero_le _) (am_rm (d := 6) (by omega) (c_M_run (A := (x, t, S, F, R, P)) (S := S) (jo := jo) (M := M) (P := P) (R := R) hI.1 hI.2.1 hI.2.2.2.1 hI.2.2.2.2.1 hM.2.2.2.2.2.2.2.2.2.1 hM.2.2.2.2.2.2.2.2.2.2 0 _ _ _)) (fun v484 h484 q484 => ?_) (fun x484 h484 q484 => ?_)
      · rw [e0] at q484
        obtain ⟨ev, rfl⟩ := q484
        cases ev
        refine am_istore d_L_law_487 (by decide) ?_
        refine am_aload_n d_L_law_489 rfl rfl ?_
        refine am_callF 1 (am_recvV (z := m_M_thrown) rfl d_L_law_490 w_753 w_754 w_755 w_756 F_M.1 rfl (by decide) np_M_thrown) (by decide) (by decide) (Nat.le_of_ble_eq_true rfl) (Nat.le_of_ble_eq_true rfl) (Nat.zero_le _) (Nat.zero_le _) (c_M_thrown _ _ _) ?_
        refine am_iload d_L_law_493 rfl ?_
        refine am_icmp_eq (tgt := 500) d_L_law_495 (by decide) (fun c495 => ?_) (fun c495 => ?_)
        · refine am_iload d_L_law_500 rfl ?_
          refine am_ifN_ne (tgt := 517) d_L_law_502 (by decide) (by omega) (fun c502 => ?_) (fun c502 => ?_)
          · refine am_goto (tgt := 966) d_L_law_517 (by decide) ?_
            refine am_lo (L' := [(0, .ref 0), (1, .ref 1), (2, .ref 30), (3, .ref 53), (4, .int (nI i))]) rfl ?_
            refine hk x t S F R P jo _ _ _ ?_ ?_
            · exact hI
            · exact hM
          · exact absurd c502 (by omega)
        · exact absurd rfl c495
      · exact (mQ_no q484).elim
  · exact (lQ_no q472).elim
set_option maxRecDepth 20000 in
set_option maxHeartbeats 1000000 in
theorem c_L_b_improve {Q : am_O → am_H → Prop} (bc bs i : Nat) (hbc : 1 ≤ bc) (hbs : 6 ≤ bs) (hi : i + 5 ≤ am_gn G) (hn : am_gn G < 2 ^ 31) (hI : iv_X t S R P jo) (hM : iv_M x t P M) (hk : ∀ (x : Int64) (t : Bool) (S : sh_T) (F : fl_T) (R : se_T) (P : pl_T) (jo : Nat → Nat) (M : mo_T) (f : Nat → Int64) (V : am_H), iv_X t S R P jo → iv_M x t P M → am_W G m_L_law 33 (bc - 1) (bs - 6) Q 966 [(0, .ref 0), (1, .ref 1), (2, .ref 30), (3, .ref 53), (4, .int (nI i))] [] (hl (x, t, S, F, R, P) S jo M f V)) :
    am_W G m_L_law 33 bc bs Q 520 [(0, .ref 0), (1, .ref 1), (2, .ref 30), (3, .ref 53), (4, .int (nI i))] [] (hl (x, t, S, F, R, P) S jo M f V) := by
  have hfi : 0 < pl_jb P → t = false → im_I S P ∧ sp_all S (sh_jb S) = true ∧ pl_co P = sp_co S (pl_ja P) (sh_jb S) ∧ ∀ k, k < sh_jb S → mo_pn M k = pl_ja P k := fun h1 h2 => by
    obtain ⟨a1, a2, a3, a4, a5, a6⟩ := hI.2.2.2.2.2.2.2 h1 h2
    exact ⟨a1, a3, a4, fun k hk2 => hM.2.2.2.2.2.2.2.2.1 k (by rw [a1.2.2]; exact hk2)⟩
  refine am_aload_n d_L_law_520 rfl rfl ?_
  refine am_aload_n d_L_law_521 rfl rfl ?_
  refine am_iload d_L_law_522 rfl ?_
  refine am_iconst (v := nI 1) d_L_law_524 (by decide) ?_
  refine am_iaddN d_L_law_525 ?_
  refine am_sld d_L_law_526 (vp_in_nI (by omega) (by omega)) ?_
  refine am_sv (v2 := .int (am_gx G (i + 1))) (by rw [nI_clamp (by omega)]) ?_
  refine am_aload_n d_L_law_527 rfl rfl ?_
  refine am_callQ 3 (am_lkS (z := m_L_improve) d_L_law_528 w_508 w_509 w_0 w_510 (by decide) np_L_improve) (by decide) (by decide) (Nat.le_of_ble_eq_true rfl) (Nat.le_of_ble_eq_true rfl) (by omega) (by omega) (am_rm (d := 14) (by omega) (c_L_improve (A := (x, t, S, F, R, P)) (S := S) (jo := jo) (M := M) (f := f) (V := V) 13 _ (c_X_improve (x := x) (t := t) (S := S) (F := F) (R := R) (P := P) (W := (mo_c S jo M ++ (.inl (1, 1, .inr (.inl f)) :: V))) hI.1 hI.2.1 hI.2.2.2.2.1 (fun h1 h2 => ⟨(hI.2.2.2.2.2.2.2 h1 h2).1, (hI.2.2.2.2.2.2.2 h1 h2).2.2.1⟩) 6 1 6 (by omega) (by omega) (by omega) _) (fun w h' hq => by obtain ⟨ia, F', g1, g2, g3, g4, rfl, rfl⟩ := hq; exact ⟨⟨_, rfl⟩, hl_at _ _ _ _ _ _ _ _ _ _ _⟩))) (fun v528 h528 q528 => ?_) (fun x528 h528 q528 => ?_)
  · rcases lQ_c q528 with ⟨e0, w, h0, hk1, hv, rfl⟩ | ⟨c, ci, e0, hc3, hv, rfl⟩
    · cases hv
      obtain ⟨ia, F', g1, g2, g3, g4, rfl, rfl⟩ := hk1
      subst g4
      refine am_hq (hl_set _ _ _ _ _ _ _ _ _ _ _ _) ?_
      refine am_istore d_L_law_531 (by decide) ?_
      refine am_aload_n d_L_law_533 rfl rfl ?_
      refine am_aload_n d_L_law_534 rfl rfl ?_
      refine am_iload d_L_law_535 rfl ?_
      refine am_iconst (v := nI 1) d_L_law_537 (by decide) ?_
      refine am_iaddN d_L_law_538 ?_
      refine am_sld d_L_law_539 (vp_in_nI (by omega) (by omega)) ?_
      refine am_sv (v2 := .int (am_gx G (i + 1))) (by rw [nI_clamp (by omega)]) ?_
      refine am_callQ 2 (am_recvV (z := m_M_improve) rfl d_L_law_540 w_843 w_844 w_845 w_846 F_M.1 rfl (by decide) np_M_improve) (by decide) (by decide) (Nat.le_of_ble_eq_true rfl) (Nat.le_of_ble_eq_true rfl) (Nat.zero_le _) (Nat.zero_le _) (am_rm (d := 5) (by omega) (c_M_improve (A := ((im_it S (x, P, 0) ia).1, false, S, F', R, im_P S (im_it S (x, P, 0) ia).2.1)) (S := S) (jo := jo) (M := M) (P := P) (x := x) (t := false) hI.1 hI.2.1 hI.2.2.2.2.1 hM.1 hM.2.1 hM.2.2.1 hM.2.2.2.2.2.2.2.2.2.1 hM.2.2.2.2.2.2.2.2.2.2 hfi 0 _ _ _)) (fun v540 h540 q540 => ?_) (fun x540 h540 q540 => ?_)
      · rw [e0] at q540
        obtain ⟨v2, ev, hk2⟩ := q540
        cases ev
        obtain ⟨H1, H2, pn, ro, rfl, hpn, rfl⟩ := hk2 ia g1 g2
        refine am_istore d_L_law_543 (by decide) ?_
        refine am_aload_n d_L_law_545 rfl rfl ?_
        refine am_callF 1 (am_recvV (z := m_M_thrown) rfl d_L_law_546 w_753 w_754 w_755 w_756 F_M.1 rfl (by decide) np_M_thrown) (by decide) (by decide) (Nat.le_of_ble_eq_true rfl) (Nat.le_of_ble_eq_true rfl) (Nat.zero_le _) (Nat.zero_le _) (c_M_thrown _ _ _) ?_
        refine am_iload d_L_law_549 rfl ?_
        refine am_icmp_eq (tgt := 556) d_L_law_551 (by decide) (fun c551 => ?_) (fun c551 => ?_)
        · refine am_iload d_L_law_556 rfl ?_
          refine am_ifN_ne (tgt := 573) d_L_law_558 (by decide) (by omega) (fun c558 => ?_) (fun c558 => ?_)
          · exact absurd c558 (by decide)
          · refine am_aload_n d_L_law_561 rfl rfl ?_
            refine am_iconst (v := nI 0) d_L_law_562 (by decide) ?_
            refine am_lald0 d_L_law_563 (hm_at _ _ _ _ _ _) ?_
            refine am_sv (v2 := .long (nI (im_it S (x, P, 0) ia).2.2).toInt64) (congrArg Value.long ((l_up0 _ _).trans rfl)) ?_
            refine am_iload d_L_law_564 rfl ?_
            refine am_i2l d_L_law_566 ?_
            refine am_lc_same (tgt := 573) d_L_law_567 d_L_law_568 (by decide) ?_
            refine am_goto (tgt := 966) d_L_law_573 (by decide) ?_
            refine am_lo (L' := [(0, .ref 0), (1, .ref 1), (2, .ref 30), (3, .ref 53), (4, .int (nI i))]) rfl ?_
            refine hk (im_it S (x, P, 0) ia).1 false S F' R (im_P S (im_it S (x, P, 0) ia).2.1) jo _ _ _ ?_ ?_
            · exact (iv_imp hI g3)
            · exact (iv_M_imp hI hM g3 hpn)
        · exact absurd rfl c551
      · exact (mQ_no q540).elim
    · cases hv
      refine am_hq (hl_app _ _ _ _ _ _ _) ?_
      refine am_istore d_L_law_531 (by decide) ?_
      refine am_aload_n d_L_law_533 rfl rfl ?_
      refine am_aload_n d_L_law_534 rfl rfl ?_
      refine am_iload d_L_law_535 rfl ?_
      refine am_iconst (v := nI 1) d_L_law_537 (by decide) ?_
      refine am_iaddN d_L_law_538 ?_
      refine am_sld d_L_law_539 (vp_in_nI (by omega) (by omega)) ?_
      refine am_sv (v2 := .int (am_gx G (i + 1))) (by rw [nI_clamp (by omega)]) ?_
      refine am_callQ 2 (am_recvV (z := m_M_improve) rfl d_L_law_540 w_843 w_844 w_845 w_846 F_M.1 rfl (by decide) np_M_improve) (by decide) (by decide) (Nat.le_of_ble_eq_true rfl) (Nat.le_of_ble_eq_true rfl) (Nat.zero_le _) (Nat.zero_le _) (am_rm (d := 5) (by omega) (c_M_improve (A := (x, t, S, F, R, P)) (S := S) (jo := jo) (M := M) (P := P) (x := x) (t := t) hI.1 hI.2.1 hI.2.2.2.2.1 hM.1 hM.2.1 hM.2.2.1 hM.2.2.2.2.2.2.2.2.2.1 hM.2.2.2.2.2.2.2.2.2.2 hfi 0 _ _ _)) (fun v540 h540 q540 => ?_) (fun x540 h540 q540 => ?_)
      · rw [e0] at q540
        obtain ⟨ev, rfl⟩ := q540
        cases ev
        refine am_istore d_L_law_543 (by decide) ?_
        refine am_aload_n d_L_law_545 rfl rfl ?_
        refine am_callF 1 (am_recvV (z := m_M_thrown) rfl d_L_law_546 w_753 w_754 w_755 w_756 F_M.1 rfl (by decide) np_M_thrown) (by decide) (by decide) (Nat.le_of_ble_eq_true rfl) (Nat.le_of_ble_eq_true rfl) (Nat.zero_le _) (Nat.zero_le _) (c_M_thrown _ _ _) ?_
        refine am_iload d_L_law_549 rfl ?_
        refine am_icmp_eq (tgt := 556) d_L_law_551 (by decide) (fun c551 => ?_) (fun c551 => ?_)
        · refine am_iload d_L_law_556 rfl ?_
          refine am_ifN_ne (tgt := 573) d_L_law_558 (by decide) (by omega) (fun c558 => ?_) (fun c558 => ?_)
          · refine am_goto (tgt := 966) d_L_law_573 (by decide) ?_
            refine am_lo (L' := [(0, .ref 0), (1, .ref 1), (2, .ref 30), (3, .ref 53), (4, .int (nI i))]) rfl ?_
            refine hk x t S F R P jo _ _ _ ?_ ?_
            · exact hI
            · exact hM
          · exact absurd c558 (by omega)
        · exact absurd rfl c551
      · exact (mQ_no q540).elim
  · exact (lQ_no q528).elim
set_option maxRecDepth 20000 in
set_option maxHeartbeats 1000000 in
theorem c_L_b_at {Q : am_O → am_H → Prop} (bc bs i : Nat) (hbc : 1 ≤ bc) (hbs : 6 ≤ bs) (hi : i + 5 ≤ am_gn G) (hn : am_gn G < 2 ^ 31) (hI : iv_X t S R P jo) (hM : iv_M x t P M) (hk : ∀ (x : Int64) (t : Bool) (S : sh_T) (F : fl_T) (R : se_T) (P : pl_T) (jo : Nat → Nat) (M : mo_T) (f : Nat → Int64) (V : am_H), iv_X t S R P jo → iv_M x t P M → am_W G m_L_law 33 (bc - 1) (bs - 6) Q 966 [(0, .ref 0), (1, .ref 1), (2, .ref 30), (3, .ref 53), (4, .int (nI i))] [] (hl (x, t, S, F, R, P) S jo M f V)) :
    am_W G m_L_law 33 bc bs Q 576 [(0, .ref 0), (1, .ref 1), (2, .ref 30), (3, .ref 53), (4, .int (nI i))] [] (hl (x, t, S, F, R, P) S jo M f V) := by
  refine am_aload_n d_L_law_576 rfl rfl ?_
  refine am_aload_n d_L_law_577 rfl rfl ?_
  refine am_iload d_L_law_578 rfl ?_
  refine am_iconst (v := nI 1) d_L_law_580 (by decide) ?_
  refine am_iaddN d_L_law_581 ?_
  refine am_sld d_L_law_582 (vp_in_nI (by omega) (by omega)) ?_
  refine am_sv (v2 := .int (am_gx G (i + 1))) (by rw [nI_clamp (by omega)]) ?_
  refine am_aload_n d_L_law_583 rfl rfl ?_
  refine am_iload d_L_law_584 rfl ?_
  refine am_iconst (v := nI 2) d_L_law_586 (by decide) ?_
  refine am_iaddN d_L_law_587 ?_
  refine am_sld d_L_law_588 (vp_in_nI (by omega) (by omega)) ?_
  refine am_sv (v2 := .int (am_gx G (i + 2))) (by rw [nI_clamp (by omega)]) ?_
  refine am_aload_n d_L_law_589 rfl rfl ?_
  refine am_callQ 4 (am_lkS (z := m_L_at) d_L_law_590 w_539 w_540 w_0 w_541 (by decide) np_L_at) (by decide) (by decide) (Nat.le_of_ble_eq_true rfl) (Nat.le_of_ble_eq_true rfl) (by omega) (by omega) (am_rm (d := 9) (by omega) (c_L_at (A := (x, t, S, F, R, P)) (S := S) (jo := jo) (M := M) (f := f) (V := V) 8 _ _ (c_X_at (x := x) (t := t) (S := S) (F := F) (R := R) (P := P) (W := (mo_c S jo M ++ (.inl (1, 1, .inr (.inl f)) :: V))) hI.1 hI.2.2.2.2.1 6 1 6 (by omega) (by omega) (by omega) _ _) (fun w h' hq => by obtain ⟨ia, a, g1, g2, g3, g4, rfl, rfl⟩ := hq; exact ⟨⟨_, rfl⟩, hl_at _ _ _ _ _ _ _ _ _ _ _⟩))) (fun v590 h590 q590 => ?_) (fun x590 h590 q590 => ?_)
  · rcases lQ_c q590 with ⟨e0, w, h0, hk1, hv, rfl⟩ | ⟨c, ci, e0, hc3, hv, rfl⟩
    · cases hv
      obtain ⟨ia, a, g1, g2, g3, g4, rfl, rfl⟩ := hk1
      have hval : (if ia < pl_ss P then if a = 0 then nI (pl_bg P ia) else nI (pl_ma P ia) else -1) = (if a = 0 then mo_ph M ia else mo_pm M ia) := by
        rw [hM.2.2.2.2.2.2.2.2.2.1, hM.2.2.2.2.2.2.2.2.2.2]
        unfold pq
        split <;> split <;> rfl
      refine am_hq (hl_set _ _ _ _ _ _ _ _ _ _ _ _) ?_
      refine am_istore d_L_law_593 (by decide) ?_
      refine am_aload_n d_L_law_595 rfl rfl ?_
      refine am_aload_n d_L_law_596 rfl rfl ?_
      refine am_iload d_L_law_597 rfl ?_
      refine am_iconst (v := nI 1) d_L_law_599 (by decide) ?_
      refine am_iaddN d_L_law_600 ?_
      refine am_sld d_L_law_601 (vp_in_nI (by omega) (by omega)) ?_
      refine am_sv (v2 := .int (am_gx G (i + 1))) (by rw [nI_clamp (by omega)]) ?_
      refine am_aload_n d_L_law_602 rfl rfl ?_
      refine am_iload d_L_law_603 rfl ?_
      refine am_iconst (v := nI 2) d_L_law_605 (by decide) ?_
      refine am_iaddN d_L_law_606 ?_
      refine am_sld d_L_law_607 (vp_in_nI (by omega) (by omega)) ?_
      refine am_sv (v2 := .int (am_gx G (i + 2))) (by rw [nI_clamp (by omega)]) ?_
      refine am_callQ 3 (am_recvV (z := m_M_at) rfl d_L_law_608 w_857 w_858 w_859 w_860 F_M.1 rfl (by decide) np_M_at) (by decide) (by decide) (Nat.le_of_ble_eq_true rfl) (Nat.le_of_ble_eq_true rfl) (Nat.zero_le _) (Nat.zero_le _) (am_rm (d := 1) (by omega) (c_M_at (A := (x, t, S, F, R, P)) (S := S) (jo := jo) (M := M) (P := P) hI.1 hM.2.1 0 _ _ _ _)) (fun v608 h608 q608 => ?_) (fun x608 h608 q608 => ?_)
      · rw [e0] at q608
        obtain ⟨v2, ev, hk2⟩ := q608
        cases ev
        obtain ⟨rfl, rfl⟩ := hk2 ia a g3 g4 g1 g2
        refine am_istore d_L_law_611 (by decide) ?_
        refine am_aload_n d_L_law_613 rfl rfl ?_
        refine am_callF 1 (am_recvV (z := m_M_thrown) rfl d_L_law_614 w_753 w_754 w_755 w_756 F_M.1 rfl (by decide) np_M_thrown) (by decide) (by decide) (Nat.le_of_ble_eq_true rfl) (Nat.le_of_ble_eq_true rfl) (Nat.zero_le _) (Nat.zero_le _) (c_M_thrown _ _ _) ?_
        refine am_iload d_L_law_617 rfl ?_
        refine am_icmp_eq (tgt := 624) d_L_law_619 (by decide) (fun c619 => ?_) (fun c619 => ?_)
        · refine am_iload d_L_law_624 rfl ?_
          refine am_ifN_ne (tgt := 641) d_L_law_626 (by decide) (by omega) (fun c626 => ?_) (fun c626 => ?_)
          · exact absurd c626 (by decide)
          · refine am_aload_n d_L_law_629 rfl rfl ?_
            refine am_iconst (v := nI 0) d_L_law_630 (by decide) ?_
            refine am_lald0 d_L_law_631 (hm_at _ _ _ _ _ _) ?_
            refine am_sv (v2 := .long (if a = 0 then mo_ph M ia else mo_pm M ia).toInt64) (congrArg Value.long ((l_up0 _ _).trans (congrArg Int32.toInt64 hval))) ?_
            refine am_iload d_L_law_632 rfl ?_
            refine am_i2l d_L_law_634 ?_
            refine am_lc_same (tgt := 641) d_L_law_635 d_L_law_636 (by decide) ?_
            refine am_goto (tgt := 966) d_L_law_641 (by decide) ?_
            refine am_lo (L' := [(0, .ref 0), (1, .ref 1), (2, .ref 30), (3, .ref 53), (4, .int (nI i))]) rfl ?_
            refine hk x t S F R P jo _ _ _ ?_ ?_
            · exact hI
            · exact hM
        · exact absurd rfl c619
      · exact (mQ_no q608).elim
    · cases hv
      refine am_hq (hl_app _ _ _ _ _ _ _) ?_
      refine am_istore d_L_law_593 (by decide) ?_
      refine am_aload_n d_L_law_595 rfl rfl ?_
      refine am_aload_n d_L_law_596 rfl rfl ?_
      refine am_iload d_L_law_597 rfl ?_
      refine am_iconst (v := nI 1) d_L_law_599 (by decide) ?_
      refine am_iaddN d_L_law_600 ?_
      refine am_sld d_L_law_601 (vp_in_nI (by omega) (by omega)) ?_
      refine am_sv (v2 := .int (am_gx G (i + 1))) (by rw [nI_clamp (by omega)]) ?_
      refine am_aload_n d_L_law_602 rfl rfl ?_
      refine am_iload d_L_law_603 rfl ?_
      refine am_iconst (v := nI 2) d_L_law_605 (by decide) ?_
      refine am_iaddN d_L_law_606 ?_
      refine am_sld d_L_law_607 (vp_in_nI (by omega) (by omega)) ?_
      refine am_sv (v2 := .int (am_gx G (i + 2))) (by rw [nI_clamp (by omega)]) ?_
      refine am_callQ 3 (am_recvV (z := m_M_at) rfl d_L_law_608 w_857 w_858 w_859 w_860 F_M.1 rfl (by decide) np_M_at) (by decide) (by decide) (Nat.le_of_ble_eq_true rfl) (Nat.le_of_ble_eq_true rfl) (Nat.zero_le _) (Nat.zero_le _) (am_rm (d := 1) (by omega) (c_M_at (A := (x, t, S, F, R, P)) (S := S) (jo := jo) (M := M) (P := P) hI.1 hM.2.1 0 _ _ _ _)) (fun v608 h608 q608 => ?_) (fun x608 h608 q608 => ?_)
      · rw [e0] at q608
        obtain ⟨ev, rfl⟩ := q608
        cases ev
        refine am_istore d_L_law_611 (by decide) ?_
        refine am_aload_n d_L_law_613 rfl rfl ?_
        refine am_callF 1 (am_recvV (z := m_M_thrown) rfl d_L_law_614 w_753 w_754 w_755 w_756 F_M.1 rfl (by decide) np_M_thrown) (by decide) (by decide) (Nat.le_of_ble_eq_true rfl) (Nat.le_of_ble_eq_true rfl) (Nat.zero_le _) (Nat.zero_le _) (c_M_thrown _ _ _) ?_
        refine am_iload d_L_law_617 rfl ?_
        refine am_icmp_eq (tgt := 624) d_L_law_619 (by decide) (fun c619 => ?_) (fun c619 => ?_)
        · refine am_iload d_L_law_624 rfl ?_
          refine am_ifN_ne (tgt := 641) d_L_law_626 (by decide) (by omega) (fun c626 => ?_) (fun c626 => ?_)
          · refine am_goto (tgt := 966) d_L_law_641 (by decide) ?_
            refine am_lo (L' := [(0, .ref 0), (1, .ref 1), (2, .ref 30), (3, .ref 53), (4, .int (nI i))]) rfl ?_
            refine hk x t S F R P jo _ _ _ ?_ ?_
            · exact hI
            · exact hM
          · exact absurd c626 (by omega)
        · exact absurd rfl c619
      · exact (mQ_no q608).elim
  · exact (lQ_no q590).elim
set_option maxRecDepth 20000 in
set_option maxHeartbeats 1000000 in
theorem c_L_b_order {Q : am_O → am_H → Prop} (bc bs i : Nat) (hbc : 1 ≤ bc) (hbs : 6 ≤ bs) (hi : i + 5 ≤ am_gn G) (hn : am_gn G < 2 ^ 31) (hI : iv_X t S R P jo) (hM : iv_M x t P M) (hk : ∀ (x : Int64) (t : Bool) (S : sh_T) (F : fl_T) (R : se_T) (P : pl_T) (jo : Nat → Nat) (M : mo_T) (f : Nat → Int64) (V : am_H), iv_X t S R P jo → iv_M x t P M → am_W G m_L_law 33 (bc - 1) (bs - 6) Q 966 [(0, .ref 0), (1, .ref 1), (2, .ref 30), (3, .ref 53), (4, .int (nI i))] [] (hl (x, t, S, F, R, P) S jo M f V)) :
    am_W G m_L_law 33 bc bs Q 644 [(0, .ref 0), (1, .ref 1), (2, .ref 30), (3, .ref 53), (4, .int (nI i))] [] (hl (x, t, S, F, R, P) S jo M f V) := by
  refine am_aload_n d_L_law_644 rfl rfl ?_
  refine am_aload_n d_L_law_645 rfl rfl ?_
  refine am_iload d_L_law_646 rfl ?_
  refine am_iconst (v := nI 1) d_L_law_648 (by decide) ?_
  refine am_iaddN d_L_law_649 ?_
  refine am_sld d_L_law_650 (vp_in_nI (by omega) (by omega)) ?_
  refine am_sv (v2 := .int (am_gx G (i + 1))) (by rw [nI_clamp (by omega)]) ?_
  refine am_aload_n d_L_law_651 rfl rfl ?_
  refine am_callQ 3 (am_lkS (z := m_L_order) d_L_law_652 w_553 w_554 w_0 w_555 (by decide) np_L_order) (by decide) (by decide) (Nat.le_of_ble_eq_true rfl) (Nat.le_of_ble_eq_true rfl) (by omega) (by omega) (am_rm (d := 9) (by omega) (c_L_order (A := (x, t, S, F, R, P)) (S := S) (jo := jo) (M := M) (f := f) (V := V) 8 _ (c_X_order (x := x) (t := t) (S := S) (F := F) (R := R) (P := P) (W := (mo_c S jo M ++ (.inl (1, 1, .inr (.inl f)) :: V))) hI.1 hI.2.2.2.2.1 6 1 6 (by omega) (by omega) (by omega) _) (fun w h' hq => by obtain ⟨ia, g1, g2, rfl, rfl⟩ := hq; exact ⟨⟨_, rfl⟩, hl_at _ _ _ _ _ _ _ _ _ _ _⟩))) (fun v652 h652 q652 => ?_) (fun x652 h652 q652 => ?_)
  · rcases lQ_c q652 with ⟨e0, w, h0, hk1, hv, rfl⟩ | ⟨c, ci, e0, hc3, hv, rfl⟩
    · cases hv
      obtain ⟨ia, g1, g2, rfl, rfl⟩ := hk1
      refine am_hq (hl_set _ _ _ _ _ _ _ _ _ _ _ _) ?_
      refine am_istore d_L_law_655 (by decide) ?_
      refine am_aload_n d_L_law_657 rfl rfl ?_
      refine am_aload_n d_L_law_658 rfl rfl ?_
      refine am_iload d_L_law_659 rfl ?_
      refine am_iconst (v := nI 1) d_L_law_661 (by decide) ?_
      refine am_iaddN d_L_law_662 ?_
      refine am_sld d_L_law_663 (vp_in_nI (by omega) (by omega)) ?_
      refine am_sv (v2 := .int (am_gx G (i + 1))) (by rw [nI_clamp (by omega)]) ?_
      refine am_callQ 2 (am_recvV (z := m_M_order) rfl d_L_law_664 w_861 w_862 w_863 w_864 F_M.1 rfl (by decide) np_M_order) (by decide) (by decide) (Nat.le_of_ble_eq_true rfl) (Nat.le_of_ble_eq_true rfl) (Nat.zero_le _) (Nat.zero_le _) (am_rm (d := 1) (by omega) (c_M_order (A := (x, t, S, F, R, P)) (S := S) (jo := jo) (M := M) (P := P) hI.1 hM.2.1 hM.2.2.2.1 hI.2.2.2.2.1 0 _ _ _)) (fun v664 h664 q664 => ?_) (fun x664 h664 q664 => ?_)
      · rw [e0] at q664
        obtain ⟨v2, ev, hk2⟩ := q664
        cases ev
        obtain ⟨rfl, rfl⟩ := hk2 ia g2 g1
        refine am_istore d_L_law_667 (by decide) ?_
        refine am_aload_n d_L_law_669 rfl rfl ?_
        refine am_callF 1 (am_recvV (z := m_M_thrown) rfl d_L_law_670 w_753 w_754 w_755 w_756 F_M.1 rfl (by decide) np_M_thrown) (by decide) (by decide) (Nat.le_of_ble_eq_true rfl) (Nat.le_of_ble_eq_true rfl) (Nat.zero_le _) (Nat.zero_le _) (c_M_thrown _ _ _) ?_
        refine am_iload d_L_law_673 rfl ?_
        refine am_icmp_eq (tgt := 680) d_L_law_675 (by decide) (fun c675 => ?_) (fun c675 => ?_)
        · refine am_iload d_L_law_680 rfl ?_
          refine am_ifN_ne (tgt := 697) d_L_law_682 (by decide) (by omega) (fun c682 => ?_) (fun c682 => ?_)
          · exact absurd c682 (by decide)
          · refine am_aload_n d_L_law_685 rfl rfl ?_
            refine am_iconst (v := nI 0) d_L_law_686 (by decide) ?_
            refine am_lald0 d_L_law_687 (hm_at _ _ _ _ _ _) ?_
            refine am_sv (v2 := .long (nI (mo_pn M ia)).toInt64) (congrArg Value.long ((l_up0 _ _).trans (congrArg (fun z => (nI z).toInt64) (hM.2.2.2.2.2.2.2.2.1 ia g2).symm))) ?_
            refine am_iload d_L_law_688 rfl ?_
            refine am_i2l d_L_law_690 ?_
            refine am_lc_same (tgt := 697) d_L_law_691 d_L_law_692 (by decide) ?_
            refine am_goto (tgt := 966) d_L_law_697 (by decide) ?_
            refine am_lo (L' := [(0, .ref 0), (1, .ref 1), (2, .ref 30), (3, .ref 53), (4, .int (nI i))]) rfl ?_
            refine hk x t S F R P jo _ _ _ ?_ ?_
            · exact hI
            · exact hM
        · exact absurd rfl c675
      · exact (mQ_no q664).elim
    · cases hv
      refine am_hq (hl_app _ _ _ _ _ _ _) ?_
      refine am_istore d_L_law_655 (by decide) ?_
      refine am_aload_n d_L_law_657 rfl rfl ?_
      refine am_aload_n d_L_law_658 rfl rfl ?_
      refine am_iload d_L_law_659 rfl ?_
      refine am_iconst (v := nI 1) d_L_law_661 (by decide) ?_
      refine am_iaddN d_L_law_662 ?_
      refine am_sld d_L_law_663 (vp_in_nI (by omega) (by omega)) ?_
      refine am_sv (v2 := .int (am_gx G (i + 1))) (by rw [nI_clamp (by omega)]) ?_
      refine am_callQ 2 (am_recvV (z := m_M_order) rfl d_L_law_664 w_861 w_862 w_863 w_864 F_M.1 rfl (by decide) np_M_order) (by decide) (by decide) (Nat.le_of_ble_eq_true rfl) (Nat.le_of_ble_eq_true rfl) (Nat.zero_le _) (Nat.zero_le _) (am_rm (d := 1) (by omega) (c_M_order (A := (x, t, S, F, R, P)) (S := S) (jo := jo) (M := M) (P := P) hI.1 hM.2.1 hM.2.2.2.1 hI.2.2.2.2.1 0 _ _ _)) (fun v664 h664 q664 => ?_) (fun x664 h664 q664 => ?_)
      · rw [e0] at q664
        obtain ⟨ev, rfl⟩ := q664
        cases ev
        refine am_istore d_L_law_667 (by decide) ?_
        refine am_aload_n d_L_law_669 rfl rfl ?_
        refine am_callF 1 (am_recvV (z := m_M_thrown) rfl d_L_law_670 w_753 w_754 w_755 w_756 F_M.1 rfl (by decide) np_M_thrown) (by decide) (by decide) (Nat.le_of_ble_eq_true rfl) (Nat.le_of_ble_eq_true rfl) (Nat.zero_le _) (Nat.zero_le _) (c_M_thrown _ _ _) ?_
        refine am_iload d_L_law_673 rfl ?_
        refine am_icmp_eq (tgt := 680) d_L_law_675 (by decide) (fun c675 => ?_) (fun c675 => ?_)
        · refine am_iload d_L_law_680 rfl ?_
          refine am_ifN_ne (tgt := 697) d_L_law_682 (by decide) (by omega) (fun c682 => ?_) (fun c682 => ?_)
          · refine am_goto (tgt := 966) d_L_law_697 (by decide) ?_
            refine am_lo (L' := [(0, .ref 0), (1, .ref 1), (2, .ref 30), (3, .ref 53), (4, .int (nI i))]) rfl ?_
            refine hk x t S F R P jo _ _ _ ?_ ?_
            · exact hI
            · exact hM
          · exact absurd c682 (by omega)
        · exact absurd rfl c675
      · exact (mQ_no q664).elim
  · exact (lQ_no q652).elim
set_option maxRecDepth 20000 in
set_option maxHeartbeats 1000000 in
theorem c_L_b_about {Q : am_O → am_H → Prop} (bc bs i : Nat) (hbc : 1 ≤ bc) (hbs : 6 ≤ bs) (hi : i + 5 ≤ am_gn G) (hn : am_gn G < 2 ^ 31) (hI : iv_X t S R P jo) (hM : iv_M x t P M) (hk : ∀ (x : Int64) (t : Bool) (S : sh_T) (F : fl_T) (R : se_T) (P : pl_T) (jo : Nat → Nat) (M : mo_T) (f : Nat → Int64) (V : am_H), iv_X t S R P jo → iv_M x t P M → am_W G m_L_law 33 (bc - 1) (bs - 6) Q 966 [(0, .ref 0), (1, .ref 1), (2, .ref 30), (3, .ref 53), (4, .int (nI i))] [] (hl (x, t, S, F, R, P) S jo M f V)) :
    am_W G m_L_law 33 bc bs Q 700 [(0, .ref 0), (1, .ref 1), (2, .ref 30), (3, .ref 53), (4, .int (nI i))] [] (hl (x, t, S, F, R, P) S jo M f V) := by
  refine am_aload_n d_L_law_700 rfl rfl ?_
  refine am_aload_n d_L_law_701 rfl rfl ?_
  refine am_iload d_L_law_702 rfl ?_
  refine am_iconst (v := nI 1) d_L_law_704 (by decide) ?_
  refine am_iaddN d_L_law_705 ?_
  refine am_sld d_L_law_706 (vp_in_nI (by omega) (by omega)) ?_
  refine am_sv (v2 := .int (am_gx G (i + 1))) (by rw [nI_clamp (by omega)]) ?_
  refine am_aload_n d_L_law_707 rfl rfl ?_
  refine am_callQ 3 (am_lkS (z := m_L_about) d_L_law_708 w_561 w_562 w_0 w_563 (by decide) np_L_about) (by decide) (by decide) (Nat.le_of_ble_eq_true rfl) (Nat.le_of_ble_eq_true rfl) (by omega) (by omega) (am_rm (d := 9) (by omega) (c_L_about (A := (x, t, S, F, R, P)) (S := S) (jo := jo) (M := M) (f := f) (V := V) 8 _ (c_X_about (x := x) (t := t) (S := S) (F := F) (R := R) (P := P) (W := (mo_c S jo M ++ (.inl (1, 1, .inr (.inl f)) :: V))) hI.1 hI.2.2.2.2.1 hI.2.2.2.2.2.1 hI.2.2.2.2.2.2.1 6 1 6 (by omega) (by omega) (by omega) _) (fun w h' hq => by obtain ⟨a, g1, g2, rfl, rfl⟩ := hq; exact ⟨⟨_, rfl⟩, hl_at _ _ _ _ _ _ _ _ _ _ _⟩))) (fun v708 h708 q708 => ?_) (fun x708 h708 q708 => ?_)
  · rcases lQ_c q708 with ⟨e0, w, h0, hk1, hv, rfl⟩ | ⟨c, ci, e0, hc3, hv, rfl⟩
    · cases hv
      obtain ⟨a, g1, g2, rfl, rfl⟩ := hk1
      refine am_hq (hl_set _ _ _ _ _ _ _ _ _ _ _ _) ?_
      refine am_istore d_L_law_711 (by decide) ?_
      refine am_aload_n d_L_law_713 rfl rfl ?_
      refine am_aload_n d_L_law_714 rfl rfl ?_
      refine am_iload d_L_law_715 rfl ?_
      refine am_iconst (v := nI 1) d_L_law_717 (by decide) ?_
      refine am_iaddN d_L_law_718 ?_
      refine am_sld d_L_law_719 (vp_in_nI (by omega) (by omega)) ?_
      refine am_sv (v2 := .int (am_gx G (i + 1))) (by rw [nI_clamp (by omega)]) ?_
      refine am_callQ 2 (am_recvV (z := m_M_about) rfl d_L_law_720 w_865 w_866 w_867 w_868 F_M.1 rfl (by decide) np_M_about) (by decide) (by decide) (Nat.le_of_ble_eq_true rfl) (Nat.le_of_ble_eq_true rfl) (Nat.zero_le _) (Nat.zero_le _) (am_rm (d := 1) (by omega) (c_M_about (A := (x, t, S, F, R, P)) (S := S) (jo := jo) (M := M) (P := P) hI.1 hM.2.1 (by rw [hM.2.2.2.2.2.2.1]; exact hI.2.2.2.2.2.1) (by rw [hM.2.2.2.2.2.2.2.1]; exact hI.2.2.2.2.2.2.1) 0 _ _ _)) (fun v720 h720 q720 => ?_) (fun x720 h720 q720 => ?_)
      · rw [e0] at q720
        obtain ⟨v2, ev, hk2⟩ := q720
        cases ev
        obtain ⟨rfl, rfl⟩ := hk2 a g2 g1
        refine am_lstore d_L_law_723 (by decide) ?_
        refine am_aload_n d_L_law_725 rfl rfl ?_
        refine am_callF 1 (am_recvV (z := m_M_thrown) rfl d_L_law_726 w_753 w_754 w_755 w_756 F_M.1 rfl (by decide) np_M_thrown) (by decide) (by decide) (Nat.le_of_ble_eq_true rfl) (Nat.le_of_ble_eq_true rfl) (Nat.zero_le _) (Nat.zero_le _) (c_M_thrown _ _ _) ?_
        refine am_iload d_L_law_729 rfl ?_
        refine am_icmp_eq (tgt := 736) d_L_law_731 (by decide) (fun c731 => ?_) (fun c731 => ?_)
        · refine am_iload d_L_law_736 rfl ?_
          refine am_ifN_ne (tgt := 752) d_L_law_738 (by decide) (by omega) (fun c738 => ?_) (fun c738 => ?_)
          · exact absurd c738 (by decide)
          · refine am_aload_n d_L_law_741 rfl rfl ?_
            refine am_iconst (v := nI 0) d_L_law_742 (by decide) ?_
            refine am_lald0 d_L_law_743 (hm_at _ _ _ _ _ _) ?_
            refine am_sv (v2 := .long (lN (if a = 0 then mo_co M else if a = 1 then mo_bo M else if a = 2 then mo_no M else mo_ch M))) (congrArg Value.long ((l_up0 _ _).trans (by rw [hM.2.2.2.2.1, hM.2.2.2.2.2.1, hM.2.2.2.2.2.2.1, hM.2.2.2.2.2.2.2.1]; rfl))) ?_
            refine am_lload d_L_law_744 rfl ?_
            refine am_lc_same (tgt := 752) d_L_law_746 d_L_law_747 (by decide) ?_
            refine am_goto (tgt := 966) d_L_law_752 (by decide) ?_
            refine am_lo (L' := [(0, .ref 0), (1, .ref 1), (2, .ref 30), (3, .ref 53), (4, .int (nI i))]) rfl ?_
            refine hk x t S F R P jo _ _ _ ?_ ?_
            · exact hI
            · exact hM
        · exact absurd rfl c731
      · exact (mQ_no q720).elim
    · cases hv
      refine am_hq (hl_app _ _ _ _ _ _ _) ?_
      refine am_istore d_L_law_711 (by decide) ?_
      refine am_aload_n d_L_law_713 rfl rfl ?_
      refine am_aload_n d_L_law_714 rfl rfl ?_
      refine am_iload d_L_law_715 rfl ?_
      refine am_iconst (v := nI 1) d_L_law_717 (by decide) ?_
      refine am_iaddN d_L_law_718 ?_
      refine am_sld d_L_law_719 (vp_in_nI (by omega) (by omega)) ?_
      refine am_sv (v2 := .int (am_gx G (i + 1))) (by rw [nI_clamp (by omega)]) ?_
      refine am_callQ 2 (am_recvV (z := m_M_about) rfl d_L_law_720 w_865 w_866 w_867 w_868 F_M.1 rfl (by decide) np_M_about) (by decide) (by decide) (Nat.le_of_ble_eq_true rfl) (Nat.le_of_ble_eq_true rfl) (Nat.zero_le _) (Nat.zero_le _) (am_rm (d := 1) (by omega) (c_M_about (A := (x, t, S, F, R, P)) (S := S) (jo := jo) (M := M) (P := P) hI.1 hM.2.1 (by rw [hM.2.2.2.2.2.2.1]; exact hI.2.2.2.2.2.1) (by rw [hM.2.2.2.2.2.2.2.1]; exact hI.2.2.2.2.2.2.1) 0 _ _ _)) (fun v720 h720 q720 => ?_) (fun x720 h720 q720 => ?_)
      · rw [e0] at q720
        obtain ⟨ev, rfl⟩ := q720
        cases ev
        refine am_lstore d_L_law_723 (by decide) ?_
        refine am_aload_n d_L_law_725 rfl rfl ?_
        refine am_callF 1 (am_recvV (z := m_M_thrown) rfl d_L_law_726 w_753 w_754 w_755 w_756 F_M.1 rfl (by decide) np_M_thrown) (by decide) (by decide) (Nat.le_of_ble_eq_true rfl) (Nat.le_of_ble_eq_true rfl) (Nat.zero_le _) (Nat.zero_le _) (c_M_thrown _ _ _) ?_
        refine am_iload d_L_law_729 rfl ?_
        refine am_icmp_eq (tgt := 736) d_L_law_731 (by decide) (fun c731 => ?_) (fun c731 => ?_)
        · refine am_iload d_L_law_736 rfl ?_
          refine am_ifN_ne (tgt := 752) d_L_law_738 (by decide) (by omega) (fun c738 => ?_) (fun c738 => ?_)
          · refine am_goto (tgt := 966) d_L_law_752 (by decide) ?_
            refine am_lo (L' := [(0, .ref 0), (1, .ref 1), (2, .ref 30), (3, .ref 53), (4, .int (nI i))]) rfl ?_
            refine hk x t S F R P jo _ _ _ ?_ ?_
            · exact hI
            · exact hM
          · exact absurd c738 (by omega)
        · exact absurd rfl c731
      · exact (mQ_no q720).elim
  · exact (lQ_no q708).elim
set_option maxRecDepth 20000 in
set_option maxHeartbeats 1000000 in
theorem c_L_b_alone {Q : am_O → am_H → Prop} (bc bs i : Nat) (hbc : 1 ≤ bc) (hbs : 6 ≤ bs) (hi : i + 5 ≤ am_gn G) (hn : am_gn G < 2 ^ 31) (hI : iv_X t S R P jo) (hM : iv_M x t P M) (hk : ∀ (x : Int64) (t : Bool) (S : sh_T) (F : fl_T) (R : se_T) (P : pl_T) (jo : Nat → Nat) (M : mo_T) (f : Nat → Int64) (V : am_H), iv_X t S R P jo → iv_M x t P M → am_W G m_L_law 33 (bc - 1) (bs - 6) Q 966 [(0, .ref 0), (1, .ref 1), (2, .ref 30), (3, .ref 53), (4, .int (nI i))] [] (hl (x, t, S, F, R, P) S jo M f V)) :
    am_W G m_L_law 33 bc bs Q 755 [(0, .ref 0), (1, .ref 1), (2, .ref 30), (3, .ref 53), (4, .int (nI i))] [] (hl (x, t, S, F, R, P) S jo M f V) := by
  refine am_aload_n d_L_law_755 rfl rfl ?_
  refine am_aload_n d_L_law_756 rfl rfl ?_
  refine am_iload d_L_law_757 rfl ?_
  refine am_iconst (v := nI 1) d_L_law_759 (by decide) ?_
  refine am_iaddN d_L_law_760 ?_
  refine am_sld d_L_law_761 (vp_in_nI (by omega) (by omega)) ?_
  refine am_sv (v2 := .int (am_gx G (i + 1))) (by rw [nI_clamp (by omega)]) ?_
  refine am_aload_n d_L_law_762 rfl rfl ?_
  refine am_callQ 3 (am_lkS (z := m_L_alone) d_L_law_763 w_569 w_570 w_0 w_571 (by decide) np_L_alone) (by decide) (by decide) (Nat.le_of_ble_eq_true rfl) (Nat.le_of_ble_eq_true rfl) (by omega) (by omega) (am_rm (d := 12) (by omega) (c_L_alone (A := (x, t, S, F, R, P)) (S := S) (jo := jo) (M := M) (f := f) (V := V) 11 _ (c_X_alone (x := x) (t := t) (S := S) (F := F) (R := R) (P := P) (W := (mo_c S jo M ++ (.inl (1, 1, .inr (.inl f)) :: V))) hI.1 6 1 6 (by omega) (by omega) (by omega) _) (fun w h' hq => by obtain ⟨ia, F', g1, g2, g3, rfl, rfl⟩ := hq; exact ⟨⟨_, rfl⟩, hl_at _ _ _ _ _ _ _ _ _ _ _⟩))) (fun v763 h763 q763 => ?_) (fun x763 h763 q763 => ?_)
  · rcases lQ_c q763 with ⟨e0, w, h0, hk1, hv, rfl⟩ | ⟨c, ci, e0, hc3, hv, rfl⟩
    · cases hv
      obtain ⟨ia, F', g1, g2, g3, rfl, rfl⟩ := hk1
      refine am_hq (hl_set _ _ _ _ _ _ _ _ _ _ _ _) ?_
      refine am_istore d_L_law_766 (by decide) ?_
      refine am_aload_n d_L_law_768 rfl rfl ?_
      refine am_aload_n d_L_law_769 rfl rfl ?_
      refine am_iload d_L_law_770 rfl ?_
      refine am_iconst (v := nI 1) d_L_law_772 (by decide) ?_
      refine am_iaddN d_L_law_773 ?_
      refine am_sld d_L_law_774 (vp_in_nI (by omega) (by omega)) ?_
      refine am_sv (v2 := .int (am_gx G (i + 1))) (by rw [nI_clamp (by omega)]) ?_
      refine am_callQ 2 (am_recvV (z := m_M_alone) rfl d_L_law_775 w_869 w_870 w_871 w_872 F_M.1 rfl (by decide) np_M_alone) (by decide) (by decide) (Nat.le_of_ble_eq_true rfl) (Nat.le_of_ble_eq_true rfl) (Nat.zero_le _) (Nat.zero_le _) (am_rm (d := 4) (by omega) (c_M_alone (A := (x, t, S, F', R, P)) (S := S) (jo := jo) (M := M) hI.1 hI.2.1 0 _ _ _)) (fun v775 h775 q775 => ?_) (fun x775 h775 q775 => ?_)
      · rw [e0] at q775
        obtain ⟨v2, ev, hk2⟩ := q775
        cases ev
        obtain ⟨H1, H2, rfl, rfl⟩ := hk2 ia g2 g1
        refine am_lstore d_L_law_778 (by decide) ?_
        refine am_aload_n d_L_law_780 rfl rfl ?_
        refine am_callF 1 (am_recvV (z := m_M_thrown) rfl d_L_law_781 w_753 w_754 w_755 w_756 F_M.1 rfl (by decide) np_M_thrown) (by decide) (by decide) (Nat.le_of_ble_eq_true rfl) (Nat.le_of_ble_eq_true rfl) (Nat.zero_le _) (Nat.zero_le _) (c_M_thrown _ _ _) ?_
        refine am_iload d_L_law_784 rfl ?_
        refine am_icmp_eq (tgt := 791) d_L_law_786 (by decide) (fun c786 => ?_) (fun c786 => ?_)
        · refine am_iload d_L_law_791 rfl ?_
          refine am_ifN_ne (tgt := 807) d_L_law_793 (by decide) (by omega) (fun c793 => ?_) (fun c793 => ?_)
          · exact absurd c793 (by decide)
          · refine am_aload_n d_L_law_796 rfl rfl ?_
            refine am_iconst (v := nI 0) d_L_law_797 (by decide) ?_
            refine am_lald0 d_L_law_798 (hm_at _ _ _ _ _ _) ?_
            refine am_sv (v2 := .long (lN (sp_al S ia))) (congrArg Value.long ((l_up0 _ _).trans rfl)) ?_
            refine am_lload d_L_law_799 rfl ?_
            refine am_lc_same (tgt := 807) d_L_law_801 d_L_law_802 (by decide) ?_
            refine am_goto (tgt := 966) d_L_law_807 (by decide) ?_
            refine am_lo (L' := [(0, .ref 0), (1, .ref 1), (2, .ref 30), (3, .ref 53), (4, .int (nI i))]) rfl ?_
            refine hk x t S F' R P jo _ _ _ ?_ ?_
            · exact hI
            · exact hM
        · exact absurd rfl c786
      · exact (mQ_no q775).elim
    · cases hv
      refine am_hq (hl_app _ _ _ _ _ _ _) ?_
      refine am_istore d_L_law_766 (by decide) ?_
      refine am_aload_n d_L_law_768 rfl rfl ?_
      refine am_aload_n d_L_law_769 rfl rfl ?_
      refine am_iload d_L_law_770 rfl ?_
      refine am_iconst (v := nI 1) d_L_law_772 (by decide) ?_
      refine am_iaddN d_L_law_773 ?_
      refine am_sld d_L_law_774 (vp_in_nI (by omega) (by omega)) ?_
      refine am_sv (v2 := .int (am_gx G (i + 1))) (by rw [nI_clamp (by omega)]) ?_
      refine am_callQ 2 (am_recvV (z := m_M_alone) rfl d_L_law_775 w_869 w_870 w_871 w_872 F_M.1 rfl (by decide) np_M_alone) (by decide) (by decide) (Nat.le_of_ble_eq_true rfl) (Nat.le_of_ble_eq_true rfl) (Nat.zero_le _) (Nat.zero_le _) (am_rm (d := 4) (by omega) (c_M_alone (A := (x, t, S, F, R, P)) (S := S) (jo := jo) (M := M) hI.1 hI.2.1 0 _ _ _)) (fun v775 h775 q775 => ?_) (fun x775 h775 q775 => ?_)
      · rw [e0] at q775
        obtain ⟨ev, rfl⟩ := q775
        cases ev
        refine am_lstore d_L_law_778 (by decide) ?_
        refine am_aload_n d_L_law_780 rfl rfl ?_
        refine am_callF 1 (am_recvV (z := m_M_thrown) rfl d_L_law_781 w_753 w_754 w_755 w_756 F_M.1 rfl (by decide) np_M_thrown) (by decide) (by decide) (Nat.le_of_ble_eq_true rfl) (Nat.le_of_ble_eq_true rfl) (Nat.zero_le _) (Nat.zero_le _) (c_M_thrown _ _ _) ?_
        refine am_iload d_L_law_784 rfl ?_
        refine am_icmp_eq (tgt := 791) d_L_law_786 (by decide) (fun c786 => ?_) (fun c786 => ?_)
        · refine am_iload d_L_law_791 rfl ?_
          refine am_ifN_ne (tgt := 807) d_L_law_793 (by decide) (by omega) (fun c793 => ?_) (fun c793 => ?_)
          · refine am_goto (tgt := 966) d_L_law_807 (by decide) ?_
            refine am_lo (L' := [(0, .ref 0), (1, .ref 1), (2, .ref 30), (3, .ref 53), (4, .int (nI i))]) rfl ?_
            refine hk x t S F R P jo _ _ _ ?_ ?_
            · exact hI
            · exact hM
          · exact absurd c793 (by omega)
        · exact absurd rfl c786
      · exact (mQ_no q775).elim
  · exact (lQ_no q763).elim
set_option maxRecDepth 20000 in
set_option maxHeartbeats 1000000 in
theorem c_L_b_promise {Q : am_O → am_H → Prop} (bc bs i : Nat) (hbc : 1 ≤ bc) (hbs : 6 ≤ bs) (hi : i + 5 ≤ am_gn G) (hn : am_gn G < 2 ^ 31) (hI : iv_X t S R P jo) (hM : iv_M x t P M) (hk : ∀ (x : Int64) (t : Bool) (S : sh_T) (F : fl_T) (R : se_T) (P : pl_T) (jo : Nat → Nat) (M : mo_T) (f : Nat → Int64) (V : am_H), iv_X t S R P jo → iv_M x t P M → am_W G m_L_law 33 (bc - 1) (bs - 6) Q 966 [(0, .ref 0), (1, .ref 1), (2, .ref 30), (3, .ref 53), (4, .int (nI i))] [] (hl (x, t, S, F, R, P) S jo M f V)) :
    am_W G m_L_law 33 bc bs Q 810 [(0, .ref 0), (1, .ref 1), (2, .ref 30), (3, .ref 53), (4, .int (nI i))] [] (hl (x, t, S, F, R, P) S jo M f V) := by
  refine am_aload_n d_L_law_810 rfl rfl ?_
  refine am_aload_n d_L_law_811 rfl rfl ?_
  refine am_iload d_L_law_812 rfl ?_
  refine am_iconst (v := nI 1) d_L_law_814 (by decide) ?_
  refine am_iaddN d_L_law_815 ?_
  refine am_sld d_L_law_816 (vp_in_nI (by omega) (by omega)) ?_
  refine am_sv (v2 := .int (am_gx G (i + 1))) (by rw [nI_clamp (by omega)]) ?_
  refine am_aload_n d_L_law_817 rfl rfl ?_
  refine am_callQ 3 (am_lkS (z := m_L_promise) d_L_law_818 w_579 w_580 w_0 w_581 (by decide) np_L_promise) (by decide) (by decide) (Nat.le_of_ble_eq_true rfl) (Nat.le_of_ble_eq_true rfl) (by omega) (by omega) (am_rm (d := 11) (by omega) (c_L_promise (A := (x, t, S, F, R, P)) (S := S) (jo := jo) (M := M) (f := f) (V := V) 10 _ (c_X_promise (x := x) (t := t) (S := S) (F := F) (R := R) (P := P) (W := (mo_c S jo M ++ (.inl (1, 1, .inr (.inl f)) :: V))) hI.1 hI.2.1 hI.2.2.2.2.1 (fun h1 h2 => ⟨(hI.2.2.2.2.2.2.2 h1 h2).1.2.2, (hI.2.2.2.2.2.2.2 h1 h2).2.2.1, (hI.2.2.2.2.2.2.2 h1 h2).2.2.2.2.2⟩) 6 1 6 (by omega) (by omega) (by omega) _) (fun w h' hq => by obtain ⟨ia, F', g1, g2, g3, g4, rfl, rfl⟩ := hq; exact ⟨⟨_, rfl⟩, hl_at _ _ _ _ _ _ _ _ _ _ _⟩))) (fun v818 h818 q818 => ?_) (fun x818 h818 q818 => ?_)
  · rcases lQ_c q818 with ⟨e0, w, h0, hk1, hv, rfl⟩ | ⟨c, ci, e0, hc3, hv, rfl⟩
    · cases hv
      obtain ⟨ia, F', g1, g2, g3, g4, rfl, rfl⟩ := hk1
      refine am_hq (hl_set _ _ _ _ _ _ _ _ _ _ _ _) ?_
      refine am_istore d_L_law_821 (by decide) ?_
      refine am_aload_n d_L_law_823 rfl rfl ?_
      refine am_aload_n d_L_law_824 rfl rfl ?_
      refine am_iload d_L_law_825 rfl ?_
      refine am_iconst (v := nI 1) d_L_law_827 (by decide) ?_
      refine am_iaddN d_L_law_828 ?_
      refine am_sld d_L_law_829 (vp_in_nI (by omega) (by omega)) ?_
      refine am_sv (v2 := .int (am_gx G (i + 1))) (by rw [nI_clamp (by omega)]) ?_
      refine am_callQ 2 (am_recvV (z := m_M_promise) rfl d_L_law_830 w_873 w_874 w_875 w_876 F_M.1 rfl (by decide) np_M_promise) (by decide) (by decide) (Nat.le_of_ble_eq_true rfl) (Nat.le_of_ble_eq_true rfl) (Nat.zero_le _) (Nat.zero_le _) (am_rm (d := 3) (by omega) (c_M_promise (A := (x, t, S, F', R, P)) (S := S) (jo := jo) (M := M) (P := P) (t := t) hI.1 hI.2.1 hI.2.2.2.2.1 hM.2.1 hM.2.2.1 hM.2.2.2.2.2.2.2.2.2.1 hM.2.2.2.2.2.2.2.2.2.2 (fun h1 h2 => ⟨(hI.2.2.2.2.2.2.2 h1 h2).1.2.2, (hI.2.2.2.2.2.2.2 h1 h2).2.1, (hI.2.2.2.2.2.2.2 h1 h2).2.2.1, (hI.2.2.2.2.2.2.2 h1 h2).2.2.2.2.2⟩) 0 _ _ _)) (fun v830 h830 q830 => ?_) (fun x830 h830 q830 => ?_)
      · rw [e0] at q830
        obtain ⟨v2, ev, hk2⟩ := q830
        cases ev
        obtain ⟨H1, H2, rfl, rfl⟩ := hk2 ia g2 g1
        refine am_istore d_L_law_833 (by decide) ?_
        refine am_aload_n d_L_law_835 rfl rfl ?_
        refine am_callF 1 (am_recvV (z := m_M_thrown) rfl d_L_law_836 w_753 w_754 w_755 w_756 F_M.1 rfl (by decide) np_M_thrown) (by decide) (by decide) (Nat.le_of_ble_eq_true rfl) (Nat.le_of_ble_eq_true rfl) (Nat.zero_le _) (Nat.zero_le _) (c_M_thrown _ _ _) ?_
        refine am_iload d_L_law_839 rfl ?_
        refine am_icmp_eq (tgt := 846) d_L_law_841 (by decide) (fun c841 => ?_) (fun c841 => ?_)
        · refine am_iload d_L_law_846 rfl ?_
          refine am_ifN_ne (tgt := 863) d_L_law_848 (by decide) (by omega) (fun c848 => ?_) (fun c848 => ?_)
          · exact absurd c848 (by decide)
          · refine am_aload_n d_L_law_851 rfl rfl ?_
            refine am_iconst (v := nI 0) d_L_law_852 (by decide) ?_
            refine am_lald0 d_L_law_853 (hm_at _ _ _ _ _ _) ?_
            refine am_sv (v2 := .long (nI (pr_v S P ia)).toInt64) (congrArg Value.long ((l_up0 _ _).trans rfl)) ?_
            refine am_iload d_L_law_854 rfl ?_
            refine am_i2l d_L_law_856 ?_
            refine am_lc_same (tgt := 863) d_L_law_857 d_L_law_858 (by decide) ?_
            refine am_goto (tgt := 966) d_L_law_863 (by decide) ?_
            refine am_lo (L' := [(0, .ref 0), (1, .ref 1), (2, .ref 30), (3, .ref 53), (4, .int (nI i))]) rfl ?_
            refine hk x t S F' R P jo _ _ _ ?_ ?_
            · exact hI
            · exact hM
        · exact absurd rfl c841
      · exact (mQ_no q830).elim
    · cases hv
      refine am_hq (hl_app _ _ _ _ _ _ _) ?_
      refine am_istore d_L_law_821 (by decide) ?_
      refine am_aload_n d_L_law_823 rfl rfl ?_
      refine am_aload_n d_L_law_824 rfl rfl ?_
      refine am_iload d_L_law_825 rfl ?_
      refine am_iconst (v := nI 1) d_L_law_827 (by decide) ?_
      refine am_iaddN d_L_law_828 ?_
      refine am_sld d_L_law_829 (vp_in_nI (by omega) (by omega)) ?_
      refine am_sv (v2 := .int (am_gx G (i + 1))) (by rw [nI_clamp (by omega)]) ?_
      refine am_callQ 2 (am_recvV (z := m_M_promise) rfl d_L_law_830 w_873 w_874 w_875 w_876 F_M.1 rfl (by decide) np_M_promise) (by decide) (by decide) (Nat.le_of_ble_eq_true rfl) (Nat.le_of_ble_eq_true rfl) (Nat.zero_le _) (Nat.zero_le _) (am_rm (d := 3) (by omega) (c_M_promise (A := (x, t, S, F, R, P)) (S := S) (jo := jo) (M := M) (P := P) (t := t) hI.1 hI.2.1 hI.2.2.2.2.1 hM.2.1 hM.2.2.1 hM.2.2.2.2.2.2.2.2.2.1 hM.2.2.2.2.2.2.2.2.2.2 (fun h1 h2 => ⟨(hI.2.2.2.2.2.2.2 h1 h2).1.2.2, (hI.2.2.2.2.2.2.2 h1 h2).2.1, (hI.2.2.2.2.2.2.2 h1 h2).2.2.1, (hI.2.2.2.2.2.2.2 h1 h2).2.2.2.2.2⟩) 0 _ _ _)) (fun v830 h830 q830 => ?_) (fun x830 h830 q830 => ?_)
      · rw [e0] at q830
        obtain ⟨ev, rfl⟩ := q830
        cases ev
        refine am_istore d_L_law_833 (by decide) ?_
        refine am_aload_n d_L_law_835 rfl rfl ?_
        refine am_callF 1 (am_recvV (z := m_M_thrown) rfl d_L_law_836 w_753 w_754 w_755 w_756 F_M.1 rfl (by decide) np_M_thrown) (by decide) (by decide) (Nat.le_of_ble_eq_true rfl) (Nat.le_of_ble_eq_true rfl) (Nat.zero_le _) (Nat.zero_le _) (c_M_thrown _ _ _) ?_
        refine am_iload d_L_law_839 rfl ?_
        refine am_icmp_eq (tgt := 846) d_L_law_841 (by decide) (fun c841 => ?_) (fun c841 => ?_)
        · refine am_iload d_L_law_846 rfl ?_
          refine am_ifN_ne (tgt := 863) d_L_law_848 (by decide) (by omega) (fun c848 => ?_) (fun c848 => ?_)
          · refine am_goto (tgt := 966) d_L_law_863 (by decide) ?_
            refine am_lo (L' := [(0, .ref 0), (1, .ref 1), (2, .ref 30), (3, .ref 53), (4, .int (nI i))]) rfl ?_
            refine hk x t S F R P jo _ _ _ ?_ ?_
            · exact hI
            · exact hM
          · exact absurd c848 (by omega)
        · exact absurd rfl c841
      · exact (mQ_no q830).elim
  · exact (lQ_no q818).elim
set_option maxRecDepth 20000 in
set_option maxHeartbeats 1000000 in
theorem c_L_b_clash {Q : am_O → am_H → Prop} (bc bs i : Nat) (hbc : 1 ≤ bc) (hbs : 6 ≤ bs) (hi : i + 5 ≤ am_gn G) (hn : am_gn G < 2 ^ 31) (hI : iv_X t S R P jo) (hM : iv_M x t P M) (hk : ∀ (x : Int64) (t : Bool) (S : sh_T) (F : fl_T) (R : se_T) (P : pl_T) (jo : Nat → Nat) (M : mo_T) (f : Nat → Int64) (V : am_H), iv_X t S R P jo → iv_M x t P M → am_W G m_L_law 33 (bc - 1) (bs - 6) Q 966 [(0, .ref 0), (1, .ref 1), (2, .ref 30), (3, .ref 53), (4, .int (nI i))] [] (hl (x, t, S, F, R, P) S jo M f V)) :
    am_W G m_L_law 33 bc bs Q 866 [(0, .ref 0), (1, .ref 1), (2, .ref 30), (3, .ref 53), (4, .int (nI i))] [] (hl (x, t, S, F, R, P) S jo M f V) := by
  refine am_aload_n d_L_law_866 rfl rfl ?_
  refine am_aload_n d_L_law_867 rfl rfl ?_
  refine am_iload d_L_law_868 rfl ?_
  refine am_iconst (v := nI 1) d_L_law_870 (by decide) ?_
  refine am_iaddN d_L_law_871 ?_
  refine am_sld d_L_law_872 (vp_in_nI (by omega) (by omega)) ?_
  refine am_sv (v2 := .int (am_gx G (i + 1))) (by rw [nI_clamp (by omega)]) ?_
  refine am_aload_n d_L_law_873 rfl rfl ?_
  refine am_callQ 3 (am_lkS (z := m_L_clash) d_L_law_874 w_593 w_594 w_0 w_595 (by decide) np_L_clash) (by decide) (by decide) (Nat.le_of_ble_eq_true rfl) (Nat.le_of_ble_eq_true rfl) (by omega) (by omega) (am_rm (d := 13) (by omega) (c_L_clash (A := (x, t, S, F, R, P)) (S := S) (jo := jo) (M := M) (f := f) (V := V) 12 _ (c_X_clash (x := x) (t := t) (S := S) (F := F) (R := R) (P := P) (W := (mo_c S jo M ++ (.inl (1, 1, .inr (.inl f)) :: V))) hI.1 6 1 6 (by omega) (by omega) (by omega) _) (fun w h' hq => by obtain ⟨ia, F', g1, g2, g3, rfl, rfl⟩ := hq; exact ⟨⟨_, rfl⟩, hl_at _ _ _ _ _ _ _ _ _ _ _⟩))) (fun v874 h874 q874 => ?_) (fun x874 h874 q874 => ?_)
  · rcases lQ_c q874 with ⟨e0, w, h0, hk1, hv, rfl⟩ | ⟨c, ci, e0, hc3, hv, rfl⟩
    · cases hv
      obtain ⟨ia, F', g1, g2, g3, rfl, rfl⟩ := hk1
      refine am_hq (hl_set _ _ _ _ _ _ _ _ _ _ _ _) ?_
      refine am_istore d_L_law_877 (by decide) ?_
      refine am_aload_n d_L_law_879 rfl rfl ?_
      refine am_aload_n d_L_law_880 rfl rfl ?_
      refine am_iload d_L_law_881 rfl ?_
      refine am_iconst (v := nI 1) d_L_law_883 (by decide) ?_
      refine am_iaddN d_L_law_884 ?_
      refine am_sld d_L_law_885 (vp_in_nI (by omega) (by omega)) ?_
      refine am_sv (v2 := .int (am_gx G (i + 1))) (by rw [nI_clamp (by omega)]) ?_
      refine am_callQ 2 (am_recvV (z := m_M_clash) rfl d_L_law_886 w_877 w_878 w_879 w_880 F_M.1 rfl (by decide) np_M_clash) (by decide) (by decide) (Nat.le_of_ble_eq_true rfl) (Nat.le_of_ble_eq_true rfl) (Nat.zero_le _) (Nat.zero_le _) (am_rm (d := 5) (by omega) (c_M_clash (A := (x, t, S, F', R, P)) (S := S) (jo := jo) (M := M) hI.1 hI.2.1 0 _ _ _)) (fun v886 h886 q886 => ?_) (fun x886 h886 q886 => ?_)
      · rw [e0] at q886
        obtain ⟨v2, ev, hk2⟩ := q886
        cases ev
        obtain ⟨H1, H2, ro, rfl, rfl⟩ := hk2 ia g2 g1
        refine am_istore d_L_law_889 (by decide) ?_
        refine am_aload_n d_L_law_891 rfl rfl ?_
        refine am_callF 1 (am_recvV (z := m_M_thrown) rfl d_L_law_892 w_753 w_754 w_755 w_756 F_M.1 rfl (by decide) np_M_thrown) (by decide) (by decide) (Nat.le_of_ble_eq_true rfl) (Nat.le_of_ble_eq_true rfl) (Nat.zero_le _) (Nat.zero_le _) (c_M_thrown _ _ _) ?_
        refine am_iload d_L_law_895 rfl ?_
        refine am_icmp_eq (tgt := 902) d_L_law_897 (by decide) (fun c897 => ?_) (fun c897 => ?_)
        · refine am_iload d_L_law_902 rfl ?_
          refine am_ifN_ne (tgt := 919) d_L_law_904 (by decide) (by omega) (fun c904 => ?_) (fun c904 => ?_)
          · exact absurd c904 (by decide)
          · refine am_aload_n d_L_law_907 rfl rfl ?_
            refine am_iconst (v := nI 0) d_L_law_908 (by decide) ?_
            refine am_lald0 d_L_law_909 (hm_at _ _ _ _ _ _) ?_
            refine am_sv (v2 := .long (cl_v S ia).toInt64) (congrArg Value.long ((l_up0 _ _).trans rfl)) ?_
            refine am_iload d_L_law_910 rfl ?_
            refine am_i2l d_L_law_912 ?_
            refine am_lc_same (tgt := 919) d_L_law_913 d_L_law_914 (by decide) ?_
            refine am_goto (tgt := 966) d_L_law_919 (by decide) ?_
            refine am_lo (L' := [(0, .ref 0), (1, .ref 1), (2, .ref 30), (3, .ref 53), (4, .int (nI i))]) rfl ?_
            refine hk x t S F' R P jo _ _ _ ?_ ?_
            · exact hI
            · exact hM
        · exact absurd rfl c897
      · exact (mQ_no q886).elim
    · cases hv
      refine am_hq (hl_app _ _ _ _ _ _ _) ?_
      refine am_istore d_L_law_877 (by decide) ?_
      refine am_aload_n d_L_law_879 rfl rfl ?_
      refine am_aload_n d_L_law_880 rfl rfl ?_
      refine am_iload d_L_law_881 rfl ?_
      refine am_iconst (v := nI 1) d_L_law_883 (by decide) ?_
      refine am_iaddN d_L_law_884 ?_
      refine am_sld d_L_law_885 (vp_in_nI (by omega) (by omega)) ?_
      refine am_sv (v2 := .int (am_gx G (i + 1))) (by rw [nI_clamp (by omega)]) ?_
      refine am_callQ 2 (am_recvV (z := m_M_clash) rfl d_L_law_886 w_877 w_878 w_879 w_880 F_M.1 rfl (by decide) np_M_clash) (by decide) (by decide) (Nat.le_of_ble_eq_true rfl) (Nat.le_of_ble_eq_true rfl) (Nat.zero_le _) (Nat.zero_le _) (am_rm (d := 5) (by omega) (c_M_clash (A := (x, t, S, F, R, P)) (S := S) (jo := jo) (M := M) hI.1 hI.2.1 0 _ _ _)) (fun v886 h886 q886 => ?_) (fun x886 h886 q886 => ?_)
      · rw [e0] at q886
        obtain ⟨ev, rfl⟩ := q886
        cases ev
        refine am_istore d_L_law_889 (by decide) ?_
        refine am_aload_n d_L_law_891 rfl rfl ?_
        refine am_callF 1 (am_recvV (z := m_M_thrown) rfl d_L_law_892 w_753 w_754 w_755 w_756 F_M.1 rfl (by decide) np_M_thrown) (by decide) (by decide) (Nat.le_of_ble_eq_true rfl) (Nat.le_of_ble_eq_true rfl) (Nat.zero_le _) (Nat.zero_le _) (c_M_thrown _ _ _) ?_
        refine am_iload d_L_law_895 rfl ?_
        refine am_icmp_eq (tgt := 902) d_L_law_897 (by decide) (fun c897 => ?_) (fun c897 => ?_)
        · refine am_iload d_L_law_902 rfl ?_
          refine am_ifN_ne (tgt := 919) d_L_law_904 (by decide) (by omega) (fun c904 => ?_) (fun c904 => ?_)
          · refine am_goto (tgt := 966) d_L_law_919 (by decide) ?_
            refine am_lo (L' := [(0, .ref 0), (1, .ref 1), (2, .ref 30), (3, .ref 53), (4, .int (nI i))]) rfl ?_
            refine hk x t S F R P jo _ _ _ ?_ ?_
            · exact hI
            · exact hM
          · exact absurd c904 (by omega)
        · exact absurd rfl c897
      · exact (mQ_no q886).elim
  · exact (lQ_no q874).elim
set_option maxRecDepth 20000 in
set_option maxHeartbeats 1000000 in
theorem c_L_b_check {Q : am_O → am_H → Prop} (bc bs i : Nat) (hbc : 1 ≤ bc) (hbs : 6 ≤ bs) (hi : i + 5 ≤ am_gn G) (hn : am_gn G < 2 ^ 31) (hI : iv_X t S R P jo) (hM : iv_M x t P M) (hk : ∀ (x : Int64) (t : Bool) (S : sh_T) (F : fl_T) (R : se_T) (P : pl_T) (jo : Nat → Nat) (M : mo_T) (f : Nat → Int64) (V : am_H), iv_X t S R P jo → iv_M x t P M → am_W G m_L_law 33 (bc - 1) (bs - 6) Q 966 [(0, .ref 0), (1, .ref 1), (2, .ref 30), (3, .ref 53), (4, .int (nI i))] [] (hl (x, t, S, F, R, P) S jo M f V)) :
    am_W G m_L_law 33 bc bs Q 922 [(0, .ref 0), (1, .ref 1), (2, .ref 30), (3, .ref 53), (4, .int (nI i))] [] (hl (x, t, S, F, R, P) S jo M f V) := by
  have hob : ∀ s, s < sh_ss S → sh_sb S s = oI (bf jo s s) ∧ ∀ b, bf jo s s = some b → b < 24 := fun s hs => ⟨bf_sb hI.2.1 hs, fun b hb => by have := bf_lt hb; have := hI.1.2.2.1; omega⟩
  refine am_aload_n d_L_law_922 rfl rfl ?_
  refine am_aload_n d_L_law_923 rfl rfl ?_
  refine am_callQ 2 (am_lkS (z := m_L_check) d_L_law_924 w_611 w_612 w_0 w_613 (by decide) np_L_check) (by decide) (by decide) (Nat.le_of_ble_eq_true rfl) (Nat.le_of_ble_eq_true rfl) (by omega) (by omega) (am_rm (d := 10) (by omega) (c_L_check (A := (x, t, S, F, R, P)) (S := S) (jo := jo) (M := M) (f := f) (V := V) 9  (c_X_check (x := x) (t := t) (S := S) (F := F) (R := R) (P := P) (W := (mo_c S jo M ++ (.inl (1, 1, .inr (.inl f)) :: V))) hI.1 hI.2.2.2.2.1 6 1 6 (by omega) (by omega) (by omega) (fun s => bf jo s s) hob) (fun w h' hq => by obtain ⟨rfl, rfl⟩ := hq; exact ⟨⟨_, rfl⟩, hl_at _ _ _ _ _ _ _ _ _ _ _⟩))) (fun v924 h924 q924 => ?_) (fun x924 h924 q924 => ?_)
  · rcases lQ_c q924 with ⟨e0, w, h0, hk1, hv, rfl⟩ | ⟨c, ci, e0, hc3, hv, rfl⟩
    · cases hv
      obtain ⟨rfl, rfl⟩ := hk1
      refine am_hq (hl_set _ _ _ _ _ _ _ _ _ _ _ _) ?_
      refine am_istore d_L_law_927 (by decide) ?_
      refine am_aload_n d_L_law_929 rfl rfl ?_
      refine am_callQ 1 (am_recvV (z := m_M_check) rfl d_L_law_930 w_885 w_886 w_887 w_888 F_M.1 rfl (by decide) np_M_check) (by decide) (by decide) (Nat.le_of_ble_eq_true rfl) (Nat.le_of_ble_eq_true rfl) (Nat.zero_le _) (Nat.zero_le _) (am_rm (d := 2) (by omega) (c_M_check (A := (x, t, S, F, R, P)) (S := S) (jo := jo) (M := M) (P := P) hI.1 hI.2.1 hI.2.2.2.2.1 hM.2.2.2.2.2.2.2.2.2.1 hM.2.2.2.2.2.2.2.2.2.2 hM.2.1 0 _ _)) (fun v930 h930 q930 => ?_) (fun x930 h930 q930 => ?_)
      · rw [e0] at q930
        obtain ⟨v2, ev, hk2⟩ := q930
        cases ev
        obtain ⟨rfl, rfl⟩ := hk2
        refine am_istore d_L_law_933 (by decide) ?_
        refine am_aload_n d_L_law_935 rfl rfl ?_
        refine am_callF 1 (am_recvV (z := m_M_thrown) rfl d_L_law_936 w_753 w_754 w_755 w_756 F_M.1 rfl (by decide) np_M_thrown) (by decide) (by decide) (Nat.le_of_ble_eq_true rfl) (Nat.le_of_ble_eq_true rfl) (Nat.zero_le _) (Nat.zero_le _) (c_M_thrown _ _ _) ?_
        refine am_iload d_L_law_939 rfl ?_
        refine am_icmp_eq (tgt := 946) d_L_law_941 (by decide) (fun c941 => ?_) (fun c941 => ?_)
        · refine am_iload d_L_law_946 rfl ?_
          refine am_ifN_ne (tgt := 963) d_L_law_948 (by decide) (by omega) (fun c948 => ?_) (fun c948 => ?_)
          · exact absurd c948 (by decide)
          · refine am_aload_n d_L_law_951 rfl rfl ?_
            refine am_iconst (v := nI 0) d_L_law_952 (by decide) ?_
            refine am_lald0 d_L_law_953 (hm_at _ _ _ _ _ _) ?_
            refine am_sv (v2 := .long (nI (ck_v S P (fun s => bf jo s s))).toInt64) (congrArg Value.long ((l_up0 _ _).trans rfl)) ?_
            refine am_iload d_L_law_954 rfl ?_
            refine am_i2l d_L_law_956 ?_
            refine am_lc_same (tgt := 963) d_L_law_957 d_L_law_958 (by decide) ?_
            refine am_goto (tgt := 966) d_L_law_963 (by decide) ?_
            refine am_lo (L' := [(0, .ref 0), (1, .ref 1), (2, .ref 30), (3, .ref 53), (4, .int (nI i))]) rfl ?_
            refine hk x t S F R P jo _ _ _ ?_ ?_
            · exact hI
            · exact hM
        · exact absurd rfl c941
      · exact (mQ_no q930).elim
    · cases hv
      refine am_hq (hl_app _ _ _ _ _ _ _) ?_
      refine am_istore d_L_law_927 (by decide) ?_
      refine am_aload_n d_L_law_929 rfl rfl ?_
      refine am_callQ 1 (am_recvV (z := m_M_check) rfl d_L_law_930 w_885 w_886 w_887 w_888 F_M.1 rfl (by decide) np_M_check) (by decide) (by decide) (Nat.le_of_ble_eq_true rfl) (Nat.le_of_ble_eq_true rfl) (Nat.zero_le _) (Nat.zero_le _) (am_rm (d := 2) (by omega) (c_M_check (A := (x, t, S, F, R, P)) (S := S) (jo := jo) (M := M) (P := P) hI.1 hI.2.1 hI.2.2.2.2.1 hM.2.2.2.2.2.2.2.2.2.1 hM.2.2.2.2.2.2.2.2.2.2 hM.2.1 0 _ _)) (fun v930 h930 q930 => ?_) (fun x930 h930 q930 => ?_)
      · rw [e0] at q930
        obtain ⟨ev, rfl⟩ := q930
        cases ev
        refine am_istore d_L_law_933 (by decide) ?_
        refine am_aload_n d_L_law_935 rfl rfl ?_
        refine am_callF 1 (am_recvV (z := m_M_thrown) rfl d_L_law_936 w_753 w_754 w_755 w_756 F_M.1 rfl (by decide) np_M_thrown) (by decide) (by decide) (Nat.le_of_ble_eq_true rfl) (Nat.le_of_ble_eq_true rfl) (Nat.zero_le _) (Nat.zero_le _) (c_M_thrown _ _ _) ?_
        refine am_iload d_L_law_939 rfl ?_
        refine am_icmp_eq (tgt := 946) d_L_law_941 (by decide) (fun c941 => ?_) (fun c941 => ?_)
        · refine am_iload d_L_law_946 rfl ?_
          refine am_ifN_ne (tgt := 963) d_L_law_948 (by decide) (by omega) (fun c948 => ?_) (fun c948 => ?_)
          · refine am_goto (tgt := 966) d_L_law_963 (by decide) ?_
            refine am_lo (L' := [(0, .ref 0), (1, .ref 1), (2, .ref 30), (3, .ref 53), (4, .int (nI i))]) rfl ?_
            refine hk x t S F R P jo _ _ _ ?_ ?_
            · exact hI
            · exact hM
          · exact absurd c948 (by omega)
        · exact absurd rfl c941
      · exact (mQ_no q930).elim
  · exact (lQ_no q924).elim
end LB
