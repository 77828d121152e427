/-! the law's blocks, one for each call -/
theorem l_up0 (f : Nat → Int64) (v : Int64) : vp_updL f 0 v 0 = v := by unfold vp_updL; simp
theorem lg_cmp_same (x : Int64) : lg_cmp x x = 0 := by unfold lg_cmp; simp
theorem am_lc_same {G : am_G} {y : am_M} {d bc bs : Nat} {Q : am_O → am_H → Prop} {pc : Nat} {L : List (Nat × Value)} {st : List Value} {h : am_H} {x : Int64} {off : Int} {tgt : Nat} (hd : decode y.2.1 pc = .ok (.lcmp, 1)) (hd2 : decode y.2.1 (pc + 1) = .ok (.ifCond .eq off, 3)) (ht : ((pc + 1 : Nat) : Int) + off = (tgt : Int)) (k : am_W G y d bc bs Q tgt L st h) : am_W G y d bc bs Q pc L (.long x :: .long x :: st) h := by
  refine am_lcmp hd ?_
  rw [lg_cmp_same]
  exact am_if_eq hd2 ht (fun _ => k) (fun q => absurd rfl q)
theorem mQ_no {cd : Nat} {z : Option Value} {h1 : am_H} {K : Option Value → am_H → Prop} {q : Nat × Nat} {h : am_H} (h2 : mQ cd z h1 K (.inr q) h) : False := by
  cases cd with
  | zero => obtain ⟨v, e, -⟩ := h2; cases e
  | succ c => obtain ⟨e, -⟩ := h2; cases e
theorem lQ_no {cd : Nat} {f : Nat → Int64} {h : am_H} {K : Option Value → am_H → Prop} {q : Nat × Nat} {h2 : am_H} (h3 : lQ cd f h K (.inr q) h2) : False := by
  rcases lQ_c h3 with ⟨-, w, h', -, e, -⟩ | ⟨c, ci, -, -, e, -⟩ <;> cases e
theorem lV_no {cd : Nat} {h : am_H} {K : Option Value → am_H → Prop} {q : Nat × Nat} {h2 : am_H} (h3 : lV cd h K (.inr q) h2) : False := by
  rcases lV_c h3 with ⟨-, -, e⟩ | ⟨c, ci, -, -, e, -⟩ <;> cases e
theorem iv_M_st {x : Int64} {t : Bool} {P : pl_T} {M : mo_T} (h : iv_M x t P M) : iv_M x true P (0, mo_xx M, mo_hr M, mo_mh M, mo_pd M, false, mo_pj M, mo_pn M, mo_ph M, mo_pm M, mo_wh M, mo_wm M, mo_co M, mo_bo M, mo_no M, mo_ch M, mo_ro M, mo_tr M, mo_us M) := ⟨h.1, h.2.1, fun _ => rfl, h.2.2.2⟩
theorem iv_run {t : Bool} {S : sh_T} {R : se_T} {P : pl_T} {jo : Nat → Nat} {i : Nat} (h : iv_X t S R P jo) (hal : sp_all S (sh_jb S) = true) (hi : i ≤ 2000) : iv_X false S (rn_q S R i).2 (rn_P S R P i) jo := by
  obtain ⟨hS, hk, hu, hr, hP, -⟩ := id h
  have hall := sp_all_at hal
  obtain ⟨a1, a2, a3⟩ := rn_ok (n := i) hS hall hi hr
  obtain ⟨r1, r2, r3, r4, r5, r6⟩ := id a1
  have hR : se_r (rn_q S R i).2 := ⟨r5, r6, fun k => by rw [a2.2.2.2.1]; exact hr.2.2 k⟩
  have hm := tk_m_le P (fl_C S (se_bs (rn_q S R i).2)) (sh_ss S)
  have s3 := hS.2.2.1
  exact iv_take hS hk hu hR hP hal a3 r6 rfl a2.2.1 (by omega) (by omega)
theorem iv_M_run {t : Bool} {S : sh_T} {R : se_T} {P : pl_T} {jo : Nat → Nat} {i : Nat} {x : Int64} {M : mo_T} {H1 H2 : Nat → Int32} {pn ro tr : Nat → Nat} {us : Nat → Bool} (h : iv_X t S R P jo) (hM : iv_M x t P M) (hal : sp_all S (sh_jb S) = true) (hi : i ≤ 2000) (h1 : 0 < sh_jb S) (hpn : ∀ k, k < sh_jb S → pn k = se_bs (rn_q S R i).2 k) :
    iv_M x false (rn_P S R P i) (0, mo_xx M, H1, H2, true, true, (sh_jb S), pn, (pq (sh_ss S) (fl_bg (fl_C S (se_bs (rn_q S R i).2)))), (pq (sh_ss S) (fl_ma (fl_C S (se_bs (rn_q S R i).2)))), (mo_ph M), (mo_pm M), (sp_co S (se_bs (rn_q S R i).2) (sh_jb S)), (se_sum S (sh_jb S)), (se_no (rn_q S R i).2), (tk_m P (fl_C S (se_bs (rn_q S R i).2)) (sh_ss S)), ro, tr, us) := by
  have hall := sp_all_at hal
  obtain ⟨a1, a2, a3⟩ := rn_ok (n := i) h.1 hall hi h.2.2.2.1
  have s2 := h.1.2.1
  refine ⟨hM.1, (decide_eq_true h1).symm, fun _ => rfl, rfl, rfl, a2.2.1.symm, rfl, rfl, fun k hk => ?_, pq_tk.symm, pq_tk.symm⟩
  have hk' : k < sh_jb S := hk
  exact (hpn k hk').trans (va_cpy_lt (by omega)).symm
theorem iv_imp {S : sh_T} {R : se_T} {P : pl_T} {jo : Nat → Nat} {i : Nat} {x : Int64} (h : iv_X false S R P jo) (h0 : 0 < pl_jb P) : iv_X false S R (im_P S (im_it S (x, P, 0) i).2.1) jo := by
  obtain ⟨hS, hk, hu, hr, hP, hno, -, hf⟩ := id h
  obtain ⟨hI, hss, hal, hco, hbo, hma⟩ := hf h0 rfl
  have hall := sp_all_at hal
  have h1 : 1 ≤ sh_jb S := by have := hI.2.2; omega
  obtain ⟨g1, g2⟩ := im_it_I (q := (x, P, 0)) hS hall h1 hI i
  obtain ⟨m1, m2, m3, m4, m5⟩ := im_it_sm (S := S) (q := (x, P, 0)) i
  have hm := tk_m_le (im_it S (x, P, 0) i).2.1 (fl_C S (pl_ja (im_it S (x, P, 0) i).2.1)) (sh_ss S)
  have s3 := hS.2.2.1
  exact iv_take (P := (im_it S (x, P, 0) i).2.1) hS hk hu hr g1.1 hal g1.2.1 g1.1.2.2.2.1 rfl (m4.trans hbo) (by rw [m5]; exact hno) (by omega)
theorem iv_M_imp {S : sh_T} {R : se_T} {P : pl_T} {jo : Nat → Nat} {i : Nat} {x : Int64} {M : mo_T} {H1 H2 : Nat → Int32} {pn ro : Nat → Nat} (h : iv_X false S R P jo) (hM : iv_M x false P M) (h0 : 0 < pl_jb P) (hpn : ∀ k, k < sh_jb S → pn k = pl_ja (im_it S (x, P, 0) i).2.1 k) :
    iv_M (im_it S (x, P, 0) i).1 false (im_P S (im_it S (x, P, 0) i).2.1) (0, (im_it S (x, P, 0) i).1, H1, H2, true, true, (sh_jb S), pn, (pq (sh_ss S) (fl_bg (fl_C S (pl_ja (im_it S (x, P, 0) i).2.1)))), (pq (sh_ss S) (fl_ma (fl_C S (pl_ja (im_it S (x, P, 0) i).2.1)))), (mo_ph M), (mo_pm M), (sp_co S (pl_ja (im_it S (x, P, 0) i).2.1) (sh_jb S)), (se_sum S (sh_jb S)), mo_no M, (tk_m P (fl_C S (pl_ja (im_it S (x, P, 0) i).2.1)) (sh_ss S)), ro, mo_tr M, mo_us M) := by
  obtain ⟨hS, hk, hu, hr, hP, hno, -, hf⟩ := id h
  obtain ⟨hI, hss, hal, hco, hbo, hma⟩ := hf h0 rfl
  obtain ⟨m1, m2, m3, m4, m5⟩ := im_it_sm (S := S) (q := (x, P, 0)) i
  have h1 : 0 < sh_jb S := by have := hI.2.2; omega
  have s2 := hS.2.1
  refine ⟨rfl, (decide_eq_true h1).symm, fun _ => rfl, rfl, rfl, (m4.trans hbo).symm, ?_, ?_, fun k hk => ?_, pq_tk.symm, pq_tk.symm⟩
  · show mo_no M = pl_no (im_it S (x, P, 0) i).2.1
    rw [m5]
    exact hM.2.2.2.2.2.2.1
  · exact (tk_m_P m1 m2 m3 _).symm
  · have hk' : k < sh_jb S := hk
    exact (hpn k hk').trans (va_cpy_lt (by omega)).symm
theorem hx_hl (x : Int64) (t : Bool) (S : sh_T) (F : fl_T) (R : se_T) (P : pl_T) (S0 : sh_T) (jo : Nat → Nat) (M : mo_T) (f : Nat → Int64) (V : am_H) : hx x t S F R P (mo_c S0 jo M ++ (.inl (1, 1, .inr (.inl f)) :: V)) = hm (x, t, S, F, R, P) S0 jo M (.inl (1, 1, .inr (.inl f)) :: V) := rfl
theorem hl_set (x : Int64) (t : Bool) (S : sh_T) (F : fl_T) (R : se_T) (P : pl_T) (S0 : sh_T) (jo : Nat → Nat) (M : mo_T) (f g : Nat → Int64) (V : am_H) : (hx x t S F R P (mo_c S0 jo M ++ (.inl (1, 1, .inr (.inl f)) :: V))).set 52 (.inl (1, 1, .inr (.inl g))) = hm (x, t, S, F, R, P) S0 jo M (.inl (1, 1, .inr (.inl g)) :: V) := rfl
theorem hl_at (x : Int64) (t : Bool) (S : sh_T) (F : fl_T) (R : se_T) (P : pl_T) (S0 : sh_T) (jo : Nat → Nat) (M : mo_T) (f : Nat → Int64) (V : am_H) : (hx x t S F R P (mo_c S0 jo M ++ (.inl (1, 1, .inr (.inl f)) :: V)))[52]? = some (.inl (1, 1, .inr (.inl f))) := rfl
theorem hm_at (A : ma_T) (S0 : sh_T) (jo : Nat → Nat) (M : mo_T) (f : Nat → Int64) (V : am_H) : (hm A S0 jo M (.inl (1, 1, .inr (.inl f)) :: V))[52]? = some (.inl (1, 1, .inr (.inl f))) := rfl
theorem hl_app (A : ma_T) (S : sh_T) (jo : Nat → Nat) (M : mo_T) (f : Nat → Int64) (V : am_H) (e : am_E) : hl A S jo M f V ++ [e] = hm A S jo M (.inl (1, 1, .inr (.inl f)) :: (V ++ [e])) := rfl
section LB
variable {G : am_G} {x : Int64} {t : Bool} {S : sh_T} {F : fl_T} {R : se_T} {P : pl_T} {jo : Nat → Nat} {M : mo_T} {f : Nat → Int64} {V : am_H}
set_option maxRecDepth 20000 in
set_option maxHeartbeats 1000000 in
theorem c_L_b_machine {Q : am_O → am_H → Prop} (bc bs i : Nat) (hbc : 1 ≤ bc) (hbs : 6 ≤ bs) (hi : i + 5 ≤ am_gn G) (hn : am_gn G < 2 ^ 31) (hI : iv_X t S R P jo) (hM : iv_M x t P M) (hk : ∀ (x : Int64) (t : Bool) (S : sh_T) (F : fl_T) (R : se_T) (P : pl_T) (jo : Nat → Nat) (M : mo_T) (f : Nat → Int64) (V : am_H), iv_X t S R P jo → iv_M x t P M → am_W G m_L_law 33 (bc - 1) (bs - 6) Q 966 [(0, .ref 0), (1, .ref 1), (2, .ref 30), (3, .ref 53), (4, .int (nI i))] [] (hl (x, t, S, F, R, P) S jo M f V)) :
    am_W G m_L_law 33 bc bs Q 120 [(0, .ref 0), (1, .ref 1), (2, .ref 30), (3, .ref 53), (4, .int (nI i))] [] (hl (x, t, S, F, R, P) S jo M f V) := by
  refine am_aload_n d_L_law_120 rfl rfl ?_
  refine am_aload_n d_L_law_121 rfl rfl ?_
  refine am_iload d_L_law_122 rfl ?_
  refine am_iconst (v := nI 1) d_L_law_124 (by decide) ?_
  refine am_iaddN d_L_law_125 ?_
  refine am_sld d_L_law_126 (vp_in_nI (by omega) (by omega)) ?_
  refine am_sv (v2 := .int (am_gx G (i + 1))) (by rw [nI_clamp (by omega)]) ?_
  refine am_aload_n d_L_law_127 rfl rfl ?_
  refine am_callQ 3 (am_lkS (z := m_L_machine) d_L_law_128 w_239 w_240 w_0 w_241 (by decide) np_L_machine) (by decide) (by decide) (Nat.le_of_ble_eq_true rfl) (Nat.le_of_ble_eq_true rfl) (by omega) (by omega) (am_rm (d := 8) (by omega) (c_L_machine (A := (x, t, S, F, R, P)) (S := S) (jo := jo) (M := M) (f := f) (V := V) 7 _ (c_X_machine (x := x) (t := t) (S := S) (F := F) (R := R) (P := P) (W := (mo_c S jo M ++ (.inl (1, 1, .inr (.inl f)) :: V))) hI.1 6 1 6 (by omega) (by omega) (by omega) _) (fun w h' hq => by obtain ⟨n, hkk, hn, rfl, rfl⟩ := hq; exact ⟨⟨_, rfl⟩, hl_at _ _ _ _ _ _ _ _ _ _ _⟩))) (fun v128 h128 q128 => ?_) (fun x128 h128 q128 => ?_)
  · rcases lQ_c q128 with ⟨e0, w, h0, hk1, hv, rfl⟩ | ⟨c, ci, e0, hc3, hv, rfl⟩
    · cases hv
      obtain ⟨n, hkk, hn, rfl, rfl⟩ := hk1
      refine am_hq (hl_set _ _ _ _ _ _ _ _ _ _ _ _) ?_
      refine am_istore d_L_law_131 (by decide) ?_
      refine am_aload_n d_L_law_133 rfl rfl ?_
      refine am_aload_n d_L_law_134 rfl rfl ?_
      refine am_iload d_L_law_135 rfl ?_
      refine am_iconst (v := nI 1) d_L_law_137 (by decide) ?_
      refine am_iaddN d_L_law_138 ?_
      refine am_sld d_L_law_139 (vp_in_nI (by omega) (by omega)) ?_
      refine am_sv (v2 := .int (am_gx G (i + 1))) (by rw [nI_clamp (by omega)]) ?_
      refine am_callQ 2 (am_recvV (z := m_M_machine) rfl d_L_law_140 w_757 w_758 w_759 w_760 F_M.1 rfl (by decide) np_M_machine) (by decide) (by decide) (Nat.le_of_ble_eq_true rfl) (Nat.le_of_ble_eq_true rfl) (Nat.zero_le _) (Nat.zero_le _) (am_rm (d := 1) (by omega) (c_M_machine (A := (x, true, (sh_mc S + 1, nu (sh_kd S) (sh_mc S) n, S.2.2), F, R, P)) (S := S) (jo := jo) (M := M) hI.1 0 _ _ _)) (fun v140 h140 q140 => ?_) (fun x140 h140 q140 => ?_)
      · rw [e0] at q140
        obtain ⟨v2, ev, hk2⟩ := q140
        cases ev
        obtain ⟨rfl, rfl⟩ := hk2 n hn hkk
        refine am_istore d_L_law_143 (by decide) ?_
        refine am_aload_n d_L_law_145 rfl rfl ?_
        refine am_callF 1 (am_recvV (z := m_M_thrown) rfl d_L_law_146 w_753 w_754 w_755 w_756 F_M.1 rfl (by decide) np_M_thrown) (by decide) (by decide) (Nat.le_of_ble_eq_true rfl) (Nat.le_of_ble_eq_true rfl) (Nat.zero_le _) (Nat.zero_le _) (c_M_thrown _ _ _) ?_
        refine am_iload d_L_law_149 rfl ?_
        refine am_icmp_eq (tgt := 156) d_L_law_151 (by decide) (fun c151 => ?_) (fun c151 => ?_)
        · refine am_iload d_L_law_156 rfl ?_
          refine am_ifN_ne (tgt := 173) d_L_law_158 (by decide) (by omega) (fun c158 => ?_) (fun c158 => ?_)
          · exact absurd c158 (by decide)
          · refine am_aload_n d_L_law_161 rfl rfl ?_
            refine am_iconst (v := nI 0) d_L_law_162 (by decide) ?_
            refine am_lald0 d_L_law_163 (hm_at _ _ _ _ _ _) ?_
            refine am_sv (v2 := .long (nI (sh_mc S)).toInt64) (congrArg Value.long ((l_up0 _ _).trans rfl)) ?_
            refine am_iload d_L_law_164 rfl ?_
            refine am_i2l d_L_law_166 ?_
            refine am_lc_same (tgt := 173) d_L_law_167 d_L_law_168 (by decide) ?_
            refine am_goto (tgt := 966) d_L_law_173 (by decide) ?_
            refine am_lo (L' := [(0, .ref 0), (1, .ref 1), (2, .ref 30), (3, .ref 53), (4, .int (nI i))]) rfl ?_
            refine hk x true (sh_mc S + 1, nu (sh_kd S) (sh_mc S) n, S.2.2) F R P jo _ _ _ ?_ ?_
            · exact (iv_machine hI e0 hn)
            · exact (iv_M_st hM)
        · exact absurd rfl c151
      · exact (mQ_no q140).elim
    · cases hv
      refine am_hq (hl_app _ _ _ _ _ _ _) ?_
      refine am_istore d_L_law_131 (by decide) ?_
      refine am_aload_n d_L_law_133 rfl rfl ?_
      refine am_aload_n d_L_law_134 rfl rfl ?_
      refine am_iload d_L_law_135 rfl ?_
      refine am_iconst (v := nI 1) d_L_law_137 (by decide) ?_
      refine am_iaddN d_L_law_138 ?_
      refine am_sld d_L_law_139 (vp_in_nI (by omega) (by omega)) ?_
      refine am_sv (v2 := .int (am_gx G (i + 1))) (by rw [nI_clamp (by omega)]) ?_
      refine am_callQ 2 (am_recvV (z := m_M_machine) rfl d_L_law_140 w_757 w_758 w_759 w_760 F_M.1 rfl (by decide) np_M_machine) (by decide) (by decide) (Nat.le_of_ble_eq_true rfl) (Nat.le_of_ble_eq_true rfl) (Nat.zero_le _) (Nat.zero_le _) (am_rm (d := 1) (by omega) (c_M_machine (A := (x, t, S, F, R, P)) (S := S) (jo := jo) (M := M) hI.1 0 _ _ _)) (fun v140 h140 q140 => ?_) (fun x140 h140 q140 => ?_)
      · rw [e0] at q140
        obtain ⟨ev, rfl⟩ := q140
        cases ev
        refine am_istore d_L_law_143 (by decide) ?_
        refine am_aload_n d_L_law_145 rfl rfl ?_
        refine am_callF 1 (am_recvV (z := m_M_thrown) rfl d_L_law_146 w_753 w_754 w_755 w_756 F_M.1 rfl (by decide) np_M_thrown) (by decide) (by decide) (Nat.le_of_ble_eq_true rfl) (Nat.le_of_ble_eq_true rfl) (Nat.zero_le _) (Nat.zero_le _) (c_M_thrown _ _ _) ?_
        refine am_iload d_L_law_149 rfl ?_
        refine am_icmp_eq (tgt := 156) d_L_law_151 (by decide) (fun c151 => ?_) (fun c151 => ?_)
        · refine am_iload d_L_law_156 rfl ?_
          refine am_ifN_ne (tgt := 173) d_L_law_158 (by decide) (by omega) (fun c158 => ?_) (fun c158 => ?_)
          · refine am_goto (tgt := 966) d_L_law_173 (by decide) ?_
            refine am_lo (L' := [(0, .ref 0), (1, .ref 1), (2, .ref 30), (3, .ref 53), (4, .int (nI i))]) rfl ?_
            refine hk x t S F R P jo _ _ _ ?_ ?_
            · exact hI
            · exact hM
          · exact absurd c158 (by omega)
        · exact absurd rfl c151
      · exact (mQ_no q140).elim
  · exact (lQ_no q128).elim
end LB
