/-! the model: improve, alone, promise, clash -/
theorem im_st_1 {S : sh_T} {Y : Int64 × pl_T × Nat} {n : Nat} (hn : pl_jb Y.2.1 = n) (h : sp_co S (sw (pl_ja Y.2.1) (im_a (im_x Y.1) n) (im_a (im_x (im_x Y.1)) n)) n < pl_co Y.2.1) : im_st S Y = (im_x (im_x Y.1), pl_wj Y.2.1 (sp_co S (sw (pl_ja Y.2.1) (im_a (im_x Y.1) n) (im_a (im_x (im_x Y.1)) n)) n) (sw (pl_ja Y.2.1) (im_a (im_x Y.1) n) (im_a (im_x (im_x Y.1)) n)), Y.2.2 + 1) := by
  subst hn
  unfold im_st pl_ch
  rw [if_pos h]
  rfl
theorem im_st_0 {S : sh_T} {Y : Int64 × pl_T × Nat} {n : Nat} (hn : pl_jb Y.2.1 = n) (h : ¬ sp_co S (sw (pl_ja Y.2.1) (im_a (im_x Y.1) n) (im_a (im_x (im_x Y.1)) n)) n < pl_co Y.2.1) : im_st S Y = (im_x (im_x Y.1), Y.2.1, Y.2.2) := by
  subst hn
  unfold im_st pl_ch
  rw [if_neg h]
  rfl
theorem pl_wj_co (P : pl_T) (c : Nat) (g : Nat → Nat) : pl_co (pl_wj P c g) = c := rfl
theorem pl_wj_ja (P : pl_T) (c : Nat) (g : Nat → Nat) : pl_ja (pl_wj P c g) = g := rfl
section CM8
variable {G : am_G} {A : ma_T} {S : sh_T} {jo : Nat → Nat} {M : mo_T} {V : am_H}
theorem c_M_draw_f {A : ma_T} {S : sh_T} {jo : Nat → Nat} {V : am_H} {v_cd : Nat} {v_xx : Int64} {v_hr : (Nat → Int32)} {v_mh : (Nat → Int32)} {v_pd : Bool} {v_fr : Bool} {v_pj : Nat} {v_pn : (Nat → Nat)} {v_ph : (Nat → Int32)} {v_pm : (Nat → Int32)} {v_wh : (Nat → Int32)} {v_wm : (Nat → Int32)} {v_co : Nat} {v_bo : Nat} {v_no : Nat} {v_ch : Nat} {v_ro : (Nat → Nat)} {v_tr : (Nat → Nat)} {v_us : (Nat → Bool)} (hS : sh_ok S) (h1 : 1 ≤ sh_jb S) (d bc bs : Nat) : am_Fn G m_M_draw d bc bs [.ref 30] (hm A S jo (v_cd, v_xx, v_hr, v_mh, v_pd, v_fr, v_pj, v_pn, v_ph, v_pm, v_wh, v_wm, v_co, v_bo, v_no, v_ch, v_ro, v_tr, v_us) V) (some (.int (nI (im_a (im_x v_xx) (sh_jb S))))) (hm A S jo (v_cd, (im_x v_xx), v_hr, v_mh, v_pd, v_fr, v_pj, v_pn, v_ph, v_pm, v_wh, v_wm, v_co, v_bo, v_no, v_ch, v_ro, v_tr, v_us) V) := c_M_draw (M := (v_cd, v_xx, v_hr, v_mh, v_pd, v_fr, v_pj, v_pn, v_ph, v_pm, v_wh, v_wm, v_co, v_bo, v_no, v_ch, v_ro, v_tr, v_us)) hS h1 d bc bs
theorem c_M_swap_f {A : ma_T} {S : sh_T} {jo : Nat → Nat} {V : am_H} {v_cd : Nat} {v_xx : Int64} {v_hr : (Nat → Int32)} {v_mh : (Nat → Int32)} {v_pd : Bool} {v_fr : Bool} {v_pj : Nat} {v_pn : (Nat → Nat)} {v_ph : (Nat → Int32)} {v_pm : (Nat → Int32)} {v_wh : (Nat → Int32)} {v_wm : (Nat → Int32)} {v_co : Nat} {v_bo : Nat} {v_no : Nat} {v_ch : Nat} {v_ro : (Nat → Nat)} {v_tr : (Nat → Nat)} {v_us : (Nat → Bool)} (d bc bs a b : Nat) (ha : a < 6) (hb : b < 6) : am_Fn G m_M_swap d bc bs [.ref 30, .int (nI a), .int (nI b)] (hm A S jo (v_cd, v_xx, v_hr, v_mh, v_pd, v_fr, v_pj, v_pn, v_ph, v_pm, v_wh, v_wm, v_co, v_bo, v_no, v_ch, v_ro, v_tr, v_us) V) none (hm A S jo (v_cd, v_xx, v_hr, v_mh, v_pd, v_fr, v_pj, v_pn, v_ph, v_pm, v_wh, v_wm, v_co, v_bo, v_no, v_ch, (sw v_ro a b), v_tr, v_us) V) := c_M_swap (M := (v_cd, v_xx, v_hr, v_mh, v_pd, v_fr, v_pj, v_pn, v_ph, v_pm, v_wh, v_wm, v_co, v_bo, v_no, v_ch, v_ro, v_tr, v_us)) d bc bs a b ha hb
theorem c_M_costOfRow_f {A : ma_T} {S : sh_T} {jo : Nat → Nat} {V : am_H} {v_cd : Nat} {v_xx : Int64} {v_hr : (Nat → Int32)} {v_mh : (Nat → Int32)} {v_pd : Bool} {v_fr : Bool} {v_pj : Nat} {v_pn : (Nat → Nat)} {v_ph : (Nat → Int32)} {v_pm : (Nat → Int32)} {v_wh : (Nat → Int32)} {v_wm : (Nat → Int32)} {v_co : Nat} {v_bo : Nat} {v_no : Nat} {v_ch : Nat} {v_ro : (Nat → Nat)} {v_tr : (Nat → Nat)} {v_us : (Nat → Bool)} (hS : sh_ok S) (hsk : sh_k S jo) (d bc bs n : Nat) (hn : n ≤ sh_jb S) (hg : ∀ k, k < n → v_ro k < sh_jb S ∧ sp_fits S (v_ro k) = true) (hij : se_ij v_ro n) : am_Fn G m_M_costOfRow (d + 3) bc bs [.ref 30, .int (nI n)] (hm A S jo (v_cd, v_xx, v_hr, v_mh, v_pd, v_fr, v_pj, v_pn, v_ph, v_pm, v_wh, v_wm, v_co, v_bo, v_no, v_ch, v_ro, v_tr, v_us) V) (some (.long (lN (sp_co S v_ro n)))) (hm A S jo (v_cd, v_xx, (bd_h (fl_co S v_ro (fl_clear S fl_0) n).1 (bd_C S v_ro n)), (bd_m (fl_co S v_ro (fl_clear S fl_0) n).1 (bd_C S v_ro n)), v_pd, v_fr, v_pj, v_pn, v_ph, v_pm, v_wh, v_wm, v_co, v_bo, v_no, v_ch, v_ro, v_tr, v_us) V) := c_M_costOfRow (M := (v_cd, v_xx, v_hr, v_mh, v_pd, v_fr, v_pj, v_pn, v_ph, v_pm, v_wh, v_wm, v_co, v_bo, v_no, v_ch, v_ro, v_tr, v_us)) hS hsk d bc bs n hn hg hij
set_option maxRecDepth 20000 in
theorem c_M_improve_t {Q : am_O → am_H → Prop} {x2 : Int64} {g : Nat → Nat} (hS : sh_ok S) (hsk : sh_k S jo) (hall : ∀ j, j < sh_jb S → sp_fits S j = true) (d bc bs n co k i a b c1 : Nat) (ha : a < sh_jb S) (hb : b < sh_jb S) (hco : co ≤ 4080000) (hpg : se_pm S g) (hcg : sp_co S (sw g a b) (sh_jb S) = c1) (H1 H2 : Nat → Int32) (ro : Nat → Nat) (hro : ∀ k, k < sh_jb S → ro k = g k)
    (K0 : ¬ c1 < co → ∀ (H1 H2 : Nat → Int32) (ro : Nat → Nat), (∀ k, k < sh_jb S → ro k = g k) → am_W G m_M_improve (d + 4) bc bs Q 93 [(0, .ref 30), (1, .int (nI n)), (2, .long (lN co)), (4, .int (nI k)), (5, .int (nI (i + 1)))] [] (hm A S jo (mo_cd M, x2, H1, H2, mo_pd M, mo_fr M, mo_pj M, mo_pn M, mo_ph M, mo_pm M, mo_wh M, mo_wm M, mo_co M, mo_bo M, mo_no M, mo_ch M, ro, mo_tr M, mo_us M) V))
    (K1 : c1 < co → ∀ (H1 H2 : Nat → Int32) (ro : Nat → Nat), (∀ k, k < sh_jb S → ro k = (sw g a b) k) → am_W G m_M_improve (d + 4) bc bs Q 93 [(0, .ref 30), (1, .int (nI n)), (2, .long (lN c1)), (4, .int (nI (k + 1))), (5, .int (nI (i + 1)))] [] (hm A S jo (mo_cd M, x2, H1, H2, mo_pd M, mo_fr M, mo_pj M, mo_pn M, mo_ph M, mo_pm M, mo_wh M, mo_wm M, mo_co M, mo_bo M, mo_no M, mo_ch M, ro, mo_tr M, mo_us M) V)) :
    am_W G m_M_improve (d + 4) bc bs Q 111 [(0, .ref 30), (1, .int (nI n)), (2, .long (lN co)), (4, .int (nI k)), (5, .int (nI i)), (6, .int (nI a)), (7, .int (nI b))] [] (hm A S jo (mo_cd M, x2, H1, H2, mo_pd M, mo_fr M, mo_pj M, mo_pn M, mo_ph M, mo_pm M, mo_wh M, mo_wm M, mo_co M, mo_bo M, mo_no M, mo_ch M, ro, mo_tr M, mo_us M) V) := by
  have s2 := hS.2.1
  have hsw := sw_cg (a := a) (b := b) hro ha hb
  have hps : se_pm S (sw g a b) := se_pm_sw hpg ha hb
  have hpr : se_pm S (sw ro a b) := se_pm_cg hsw hps
  have hg : ∀ k, k < sh_jb S → sw ro a b k < sh_jb S ∧ sp_fits S (sw ro a b k) = true := fun k hk => ⟨hpr.1 k hk, hall _ (hpr.1 k hk)⟩
  have hcb : c1 ≤ 4080000 := by rw [← hcg]; exact sp_co_bd hS s2 (fun k hk => ⟨Nat.lt_of_lt_of_le (hps.1 k hk) s2, hall _ (hps.1 k hk)⟩)
  have hc1 : sp_co S (sw ro a b) (sh_jb S) = c1 := (sp_co_congr hsw).trans hcg
  refine am_aload_n d_M_improve_111 rfl rfl ?_
  refine am_iload d_M_improve_112 rfl ?_
  refine am_iload d_M_improve_114 rfl ?_
  refine am_callF 3 (am_recvV (z := m_M_swap) rfl d_M_improve_116 w_853 w_855 ws_33 w_856 F_M.1 rfl (by decide) np_M_swap) (by decide) (by decide) (Nat.le_of_ble_eq_true rfl) (Nat.le_of_ble_eq_true rfl) (Nat.zero_le _) (Nat.zero_le _) (c_M_swap_f _ _ _ a b (by omega) (by omega)) ?_
  generalize hr1 : sw ro a b = r1 at hsw hpr hg hc1 ⊢
  refine am_aload_n d_M_improve_119 rfl rfl ?_
  refine am_aload_n d_M_improve_120 rfl rfl ?_
  refine am_get F_M 6 (by decide) d_M_improve_121 w_656 rfl rfl ?_
  refine am_callF 2 (am_recvV (z := m_M_costOfRow) rfl d_M_improve_124 w_804 w_806 ws_23 w_807 F_M.1 rfl (by decide) np_M_costOfRow) (by decide) (by decide) (Nat.le_of_ble_eq_true rfl) (Nat.le_of_ble_eq_true rfl) (Nat.zero_le _) (Nat.zero_le _) (am_rm (d := 3) (by omega) (c_M_costOfRow_f hS hsk 0 _ _ (sh_jb S) (Nat.le_refl _) hg hpr.2.2)) ?_
  rw [hc1]
  refine am_lstore d_M_improve_127 (by decide) ?_
  refine am_lload d_M_improve_129 rfl ?_
  refine am_lload_n d_M_improve_131 rfl rfl ?_
  refine am_lc_ge (tgt := 145) d_M_improve_132 d_M_improve_133 (by decide) (by omega) (by omega) (fun c133 => ?_) (fun c133 => ?_)
  · refine am_aload_n d_M_improve_145 rfl rfl ?_
    refine am_iload d_M_improve_146 rfl ?_
    refine am_iload d_M_improve_148 rfl ?_
    refine am_callF 3 (am_recvV (z := m_M_swap) rfl d_M_improve_150 w_853 w_855 ws_33 w_856 F_M.1 rfl (by decide) np_M_swap) (by decide) (by decide) (Nat.le_of_ble_eq_true rfl) (Nat.le_of_ble_eq_true rfl) (Nat.zero_le _) (Nat.zero_le _) (c_M_swap_f _ _ _ a b (by omega) (by omega)) ?_
    refine am_iinc d_M_improve_153 rfl (am_inc _) (by decide) ?_
    refine am_goto (tgt := 93) d_M_improve_156 (by decide) ?_
    exact am_lo (L' := [(0, .ref 30), (1, .int (nI n)), (2, .long (lN co)), (4, .int (nI k)), (5, .int (nI (i + 1)))]) rfl (K0 (by omega) _ _ _ (fun q hq => by rw [← hr1, sw_sw]; exact hro q hq))
  · refine am_lload d_M_improve_136 rfl ?_
    refine am_lstore_n d_M_improve_138 rfl (by decide) ?_
    refine am_iinc d_M_improve_139 rfl (am_inc _) (by decide) ?_
    refine am_goto (tgt := 153) d_M_improve_142 (by decide) ?_
    refine am_iinc d_M_improve_153 rfl (am_inc _) (by decide) ?_
    refine am_goto (tgt := 93) d_M_improve_156 (by decide) ?_
    exact am_lo (L' := [(0, .ref 30), (1, .int (nI n)), (2, .long (lN c1)), (4, .int (nI (k + 1))), (5, .int (nI (i + 1)))]) rfl (K1 c133 _ _ _ hsw)
set_option maxRecDepth 20000 in
theorem c_M_improve_s {Q : am_O → am_H → Prop} {x0 : Int64} {g : Nat → Nat} (hS : sh_ok S) (hsk : sh_k S jo) (hall : ∀ j, j < sh_jb S → sp_fits S j = true) (h1 : 1 ≤ sh_jb S) (d bc bs n co k i : Nat) (hco : co ≤ 4080000) (hpg : se_pm S g) (H1 H2 : Nat → Int32) (ro : Nat → Nat) (hro : ∀ k, k < sh_jb S → ro k = g k)
    (K0 : ¬ sp_co S (sw g (im_a (im_x x0) (sh_jb S)) (im_a (im_x (im_x x0)) (sh_jb S))) (sh_jb S) < co → ∀ (H1 H2 : Nat → Int32) (ro : Nat → Nat), (∀ k, k < sh_jb S → ro k = g k) → am_W G m_M_improve (d + 4) bc bs Q 93 [(0, .ref 30), (1, .int (nI n)), (2, .long (lN co)), (4, .int (nI k)), (5, .int (nI (i + 1)))] [] (hm A S jo (mo_cd M, (im_x (im_x x0)), H1, H2, mo_pd M, mo_fr M, mo_pj M, mo_pn M, mo_ph M, mo_pm M, mo_wh M, mo_wm M, mo_co M, mo_bo M, mo_no M, mo_ch M, ro, mo_tr M, mo_us M) V))
    (K1 : sp_co S (sw g (im_a (im_x x0) (sh_jb S)) (im_a (im_x (im_x x0)) (sh_jb S))) (sh_jb S) < co → ∀ (H1 H2 : Nat → Int32) (ro : Nat → Nat), (∀ k, k < sh_jb S → ro k = (sw g (im_a (im_x x0) (sh_jb S)) (im_a (im_x (im_x x0)) (sh_jb S))) k) → am_W G m_M_improve (d + 4) bc bs Q 93 [(0, .ref 30), (1, .int (nI n)), (2, .long (lN (sp_co S (sw g (im_a (im_x x0) (sh_jb S)) (im_a (im_x (im_x x0)) (sh_jb S))) (sh_jb S)))), (4, .int (nI (k + 1))), (5, .int (nI (i + 1)))] [] (hm A S jo (mo_cd M, (im_x (im_x x0)), H1, H2, mo_pd M, mo_fr M, mo_pj M, mo_pn M, mo_ph M, mo_pm M, mo_wh M, mo_wm M, mo_co M, mo_bo M, mo_no M, mo_ch M, ro, mo_tr M, mo_us M) V)) :
    am_W G m_M_improve (d + 4) bc bs Q 99 [(0, .ref 30), (1, .int (nI n)), (2, .long (lN co)), (4, .int (nI k)), (5, .int (nI i))] [] (hm A S jo (mo_cd M, x0, H1, H2, mo_pd M, mo_fr M, mo_pj M, mo_pn M, mo_ph M, mo_pm M, mo_wh M, mo_wm M, mo_co M, mo_bo M, mo_no M, mo_ch M, ro, mo_tr M, mo_us M) V) := by
  have s2 := hS.2.1
  refine am_aload_n d_M_improve_99 rfl rfl ?_
  refine am_callF 1 (am_recvV (z := m_M_draw) rfl d_M_improve_100 w_847 w_849 ws_32 w_850 F_M.1 rfl (by decide) np_M_draw) (by decide) (by decide) (Nat.le_of_ble_eq_true rfl) (Nat.le_of_ble_eq_true rfl) (Nat.zero_le _) (Nat.zero_le _) (c_M_draw_f hS h1 _ _ _) ?_
  refine am_istore d_M_improve_103 (by decide) ?_
  refine am_aload_n d_M_improve_105 rfl rfl ?_
  refine am_callF 1 (am_recvV (z := m_M_draw) rfl d_M_improve_106 w_847 w_849 ws_32 w_850 F_M.1 rfl (by decide) np_M_draw) (by decide) (by decide) (Nat.le_of_ble_eq_true rfl) (Nat.le_of_ble_eq_true rfl) (Nat.zero_le _) (Nat.zero_le _) (c_M_draw_f hS h1 _ _ _) ?_
  refine am_istore d_M_improve_109 (by decide) ?_
  exact am_lo (L' := [(0, .ref 30), (1, .int (nI n)), (2, .long (lN co)), (4, .int (nI k)), (5, .int (nI i)), (6, .int (nI (im_a (im_x x0) (sh_jb S)))), (7, .int (nI (im_a (im_x (im_x x0)) (sh_jb S))))]) rfl (c_M_improve_t (M := M) hS hsk hall d bc bs n co k i (im_a (im_x x0) (sh_jb S)) (im_a (im_x (im_x x0)) (sh_jb S)) _ (im_a_lt _ h1) (im_a_lt _ h1) hco hpg rfl _ _ ro hro K0 K1)
set_option maxRecDepth 20000 in
theorem c_M_improve_l {Q : am_O → am_H → Prop} {P : pl_T} {x : Int64} (hS : sh_ok S) (hsk : sh_k S jo) (hall : ∀ j, j < sh_jb S → sp_fits S j = true) (h1 : 1 ≤ sh_jb S) (hI0 : im_I S P) (d bc bs n : Nat) (hn : n ≤ 100)
    (hk : ∀ (H1 H2 : Nat → Int32) (ro : Nat → Nat), (∀ k, k < sh_jb S → ro k = pl_ja (im_it S (x, P, 0) n).2.1 k) → am_W G m_M_improve (d + 4) bc bs Q 159 [(0, .ref 30), (1, .int (nI n)), (2, .long (lN (pl_co (im_it S (x, P, 0) n).2.1))), (4, .int (nI (im_it S (x, P, 0) n).2.2)), (5, .int (nI n))] [] (hm A S jo (mo_cd M, (im_it S (x, P, 0) n).1, H1, H2, mo_pd M, mo_fr M, mo_pj M, mo_pn M, mo_ph M, mo_pm M, mo_wh M, mo_wm M, mo_co M, mo_bo M, mo_no M, mo_ch M, ro, mo_tr M, mo_us M) V)) : ∀ (q i : Nat), i ≤ n → n - i < q → ∀ (H1 H2 : Nat → Int32) (ro : Nat → Nat), (∀ k, k < sh_jb S → ro k = pl_ja (im_it S (x, P, 0) i).2.1 k) →
    am_W G m_M_improve (d + 4) bc bs Q 93 [(0, .ref 30), (1, .int (nI n)), (2, .long (lN (pl_co (im_it S (x, P, 0) i).2.1))), (4, .int (nI (im_it S (x, P, 0) i).2.2)), (5, .int (nI i))] [] (hm A S jo (mo_cd M, (im_it S (x, P, 0) i).1, H1, H2, mo_pd M, mo_fr M, mo_pj M, mo_pn M, mo_ph M, mo_pm M, mo_wh M, mo_wm M, mo_co M, mo_bo M, mo_no M, mo_ch M, ro, mo_tr M, mo_us M) V) := by
  intro q
  have s2 := hS.2.1
  induction q with
  | zero => intro i _ h; omega
  | succ q ih =>
    intro i hi hq H1 H2 ro hro
    obtain ⟨hI, hIb⟩ := im_it_I (q := (x, P, 0)) hS hall h1 hI0 i
    refine am_iload d_M_improve_93 rfl ?_
    refine am_iload_n d_M_improve_95 rfl rfl ?_
    refine am_icmpN_ge (tgt := 159) d_M_improve_96 (by decide) (by omega) (by omega) (fun c96 => ?_) (fun c96 => ?_)
    · have e : i = n := by omega
      subst e
      exact hk _ _ _ hro
    · refine am_lo (L' := [(0, .ref 30), (1, .int (nI n)), (2, .long (lN (pl_co (im_it S (x, P, 0) i).2.1))), (4, .int (nI (im_it S (x, P, 0) i).2.2)), (5, .int (nI i))]) rfl (c_M_improve_s (M := M) (x0 := (im_it S (x, P, 0) i).1) (g := pl_ja (im_it S (x, P, 0) i).2.1) hS hsk hall h1 d bc bs n _ _ i hI.1.2.2.1 hI.2.1 H1 H2 ro hro (fun c H3 H4 ro2 hr2 => ?_) (fun c H3 H4 ro2 hr2 => ?_))
      · have e0 : (im_it S (x, P, 0) (i + 1)) = ((im_x (im_x (im_it S (x, P, 0) i).1)), (im_it S (x, P, 0) i).2.1, (im_it S (x, P, 0) i).2.2) := im_st_0 hI.2.2 c
        have ex : (im_it S (x, P, 0) (i + 1)).1 = (im_x (im_x (im_it S (x, P, 0) i).1)) := congrArg (fun z => z.1) e0
        have ep : pl_co (im_it S (x, P, 0) (i + 1)).2.1 = (pl_co (im_it S (x, P, 0) i).2.1) := congrArg (fun z => pl_co z.2.1) e0
        have ej : pl_ja (im_it S (x, P, 0) (i + 1)).2.1 = (pl_ja (im_it S (x, P, 0) i).2.1) := congrArg (fun z => pl_ja z.2.1) e0
        have ek : (im_it S (x, P, 0) (i + 1)).2.2 = (im_it S (x, P, 0) i).2.2 := congrArg (fun z => z.2.2) e0
        have h := ih (i + 1) (by omega) (by omega) H3 H4 ro2 (fun k hk => by rw [ej]; exact hr2 k hk)
        rw [ex, ep, ek] at h
        exact h
      · have e0 : (im_it S (x, P, 0) (i + 1)) = ((im_x (im_x (im_it S (x, P, 0) i).1)), (pl_wj (im_it S (x, P, 0) i).2.1 (sp_co S (sw (pl_ja (im_it S (x, P, 0) i).2.1) (im_a (im_x (im_it S (x, P, 0) i).1) (sh_jb S)) (im_a (im_x (im_x (im_it S (x, P, 0) i).1)) (sh_jb S))) (sh_jb S)) (sw (pl_ja (im_it S (x, P, 0) i).2.1) (im_a (im_x (im_it S (x, P, 0) i).1) (sh_jb S)) (im_a (im_x (im_x (im_it S (x, P, 0) i).1)) (sh_jb S)))), ((im_it S (x, P, 0) i).2.2 + 1)) := im_st_1 hI.2.2 c
        have ex : (im_it S (x, P, 0) (i + 1)).1 = (im_x (im_x (im_it S (x, P, 0) i).1)) := congrArg (fun z => z.1) e0
        have ep : pl_co (im_it S (x, P, 0) (i + 1)).2.1 = (sp_co S (sw (pl_ja (im_it S (x, P, 0) i).2.1) (im_a (im_x (im_it S (x, P, 0) i).1) (sh_jb S)) (im_a (im_x (im_x (im_it S (x, P, 0) i).1)) (sh_jb S))) (sh_jb S)) := (congrArg (fun z => pl_co z.2.1) e0).trans (pl_wj_co _ _ _)
        have ej : pl_ja (im_it S (x, P, 0) (i + 1)).2.1 = (sw (pl_ja (im_it S (x, P, 0) i).2.1) (im_a (im_x (im_it S (x, P, 0) i).1) (sh_jb S)) (im_a (im_x (im_x (im_it S (x, P, 0) i).1)) (sh_jb S))) := (congrArg (fun z => pl_ja z.2.1) e0).trans (pl_wj_ja _ _ _)
        have ek : (im_it S (x, P, 0) (i + 1)).2.2 = ((im_it S (x, P, 0) i).2.2 + 1) := congrArg (fun z => z.2.2) e0
        have h := ih (i + 1) (by omega) (by omega) H3 H4 ro2 (fun k hk => by rw [ej]; exact hr2 k hk)
        rw [ex, ep, ek] at h
        exact h
set_option maxRecDepth 20000 in
theorem c_M_improve_r {Q : am_O → am_H → Prop} (hS : sh_ok S) (d bc bs n : Nat) (hk : am_W G m_M_improve d bc bs Q 78 [(0, .ref 30), (1, .int (nI n)), (2, .int (nI (sh_jb S)))] [] (hm A S jo (mo_cd M, mo_xx M, mo_hr M, mo_mh M, mo_pd M, mo_fr M, mo_pj M, mo_pn M, mo_ph M, mo_pm M, mo_wh M, mo_wm M, mo_co M, mo_bo M, mo_no M, mo_ch M, (tk_u (mo_pn M) (mo_ro M) (sh_jb S)), mo_tr M, mo_us M) V)) : ∀ (q i : Nat), i ≤ sh_jb S → sh_jb S - i < q →
    am_W G m_M_improve d bc bs Q 52 [(0, .ref 30), (1, .int (nI n)), (2, .int (nI i))] [] (hm A S jo (mo_cd M, mo_xx M, mo_hr M, mo_mh M, mo_pd M, mo_fr M, mo_pj M, mo_pn M, mo_ph M, mo_pm M, mo_wh M, mo_wm M, mo_co M, mo_bo M, mo_no M, mo_ch M, (tk_u (mo_pn M) (mo_ro M) i), mo_tr M, mo_us M) V) := by
  intro q
  have s2 := hS.2.1
  induction q with
  | zero => intro i _ h; omega
  | succ q ih =>
    intro i hi hn
    refine am_iload_n d_M_improve_52 rfl rfl ?_
    refine am_aload_n d_M_improve_53 rfl rfl ?_
    refine am_get F_M 6 (by decide) d_M_improve_54 w_656 rfl rfl ?_
    refine am_icmpN_ge (tgt := 78) d_M_improve_57 (by decide) (by omega) (by omega) (fun c57 => ?_) (fun c57 => ?_)
    · have e : i = sh_jb S := by omega
      subst e
      exact hk
    · refine am_aload_n d_M_improve_60 rfl rfl ?_
      refine am_get F_M 31 (by decide) d_M_improve_61 w_681 rfl rfl ?_
      refine am_iload_n d_M_improve_64 rfl rfl ?_
      refine am_aload_n d_M_improve_65 rfl rfl ?_
      refine am_get F_M 22 (by decide) d_M_improve_66 w_672 rfl rfl ?_
      refine am_iload_n d_M_improve_69 rfl rfl ?_
      refine am_ialdA d_M_improve_70 rfl (by omega) (by decide) ?_
      refine am_iastA d_M_improve_71 rfl (by omega) (by decide) ?_
      refine am_hq (hm_ro _) ?_
      refine am_iinc d_M_improve_72 rfl (am_inc _) (by decide) ?_
      refine am_goto (tgt := 52) d_M_improve_75 (by decide) ?_
      exact am_lo (L' := [(0, .ref 30), (1, .int (nI n)), (2, .int (nI (i + 1)))]) rfl (ih (i + 1) (by omega) (by omega))
set_option maxRecDepth 20000 in
theorem c_M_improve {P : pl_T} {x : Int64} {t : Bool} (hS : sh_ok S) (hsk : sh_k S jo) (hP : pl_ok P) (hxx : mo_xx M = x) (hpd : mo_pd M = decide (0 < pl_jb P)) (hfr : 0 < pl_jb P → mo_fr M = !t) (hph : mo_ph M = pq (pl_ss P) (pl_bg P)) (hpm : mo_pm M = pq (pl_ss P) (pl_ma P)) (hf : 0 < pl_jb P → t = false → im_I S P ∧ sp_all S (sh_jb S) = true ∧ pl_co P = sp_co S (pl_ja P) (sh_jb S) ∧ ∀ k, k < sh_jb S → mo_pn M k = pl_ja P k) (d bc bs : Nat) (v : Int32) :
    am_W G m_M_improve (d + 5) bc bs (mQ (cd_improve P t v) (some (.int (nI 0))) (hm A S jo ((cd_improve P t v), mo_xx M, mo_hr M, mo_mh M, mo_pd M, mo_fr M, mo_pj M, mo_pn M, mo_ph M, mo_pm M, mo_wh M, mo_wm M, mo_co M, mo_bo M, mo_no M, mo_ch M, mo_ro M, mo_tr M, mo_us M) V) (fun o h' => ∀ i, v = nI i → i ≤ 100 → ∃ (H1 H2 : Nat → Int32) (pn ro : Nat → Nat), o = some (.int (nI (im_it S (x, P, 0) i).2.2)) ∧ (∀ k, k < sh_jb S → pn k = (pl_ja (im_it S (x, P, 0) i).2.1) k) ∧ h' = (hm A S jo (0, (im_it S (x, P, 0) i).1, H1, H2, true, true, (sh_jb S), pn, (pq (sh_ss S) (fl_bg (fl_C S (pl_ja (im_it S (x, P, 0) i).2.1)))), (pq (sh_ss S) (fl_ma (fl_C S (pl_ja (im_it S (x, P, 0) i).2.1)))), (mo_ph M), (mo_pm M), (sp_co S (pl_ja (im_it S (x, P, 0) i).2.1) (sh_jb S)), (se_sum S (sh_jb S)), mo_no M, (tk_m P (fl_C S (pl_ja (im_it S (x, P, 0) i).2.1)) (sh_ss S)), ro, mo_tr M, mo_us M) V))) 0 (lv_args 0 [.ref 30, .int v]) [] (hm A S jo M V) := by
  subst hxx
  have s2 := hS.2.1
  refine am_aload_n d_M_improve_0 rfl rfl ?_
  refine am_iload_n d_M_improve_1 rfl rfl ?_
  refine am_iconst (v := nI 0) d_M_improve_2 (by decide) ?_
  refine am_bipush (v := nI 100) d_M_improve_3 (by decide) ?_
  refine am_callF 3 (am_lkS (z := m_M_in) d_M_improve_5 w_761 w_762 w_6 w_763 (by decide) np_M_in) (by decide) (by decide) (Nat.le_of_ble_eq_true rfl) (Nat.le_of_ble_eq_true rfl) (Nat.zero_le _) (Nat.zero_le _) (c_M_in _ _ _ _ _ _) ?_
  refine am_ifZ_ne (tgt := 15) d_M_improve_8 (by decide) (fun c8 => ?_) (fun c8 => ?_)
  · refine am_aload_n d_M_improve_15 rfl rfl ?_
    refine am_get F_M 19 (by decide) d_M_improve_16 w_669 rfl rfl ?_
    refine am_ifZ_eq (tgt := 29) d_M_improve_19 (by decide) (fun c19 => ?_) (fun c19 => ?_)
    · rw [hpd] at c19
      have c19 := of_decide_eq_false c19
      refine am_iconst (v := nI 2) d_M_improve_29 (by decide) ?_
      refine am_goto (tgt := 34) d_M_improve_30 (by decide) ?_
      refine am_put F_M 0 (by decide) d_M_improve_34 w_650 rfl rfl (Nat.le_of_ble_eq_true rfl) rfl rfl ?_
      refine am_hq (hm_cd _) ?_
      refine am_aload_n d_M_improve_37 rfl rfl ?_
      refine am_get F_M 0 (by decide) d_M_improve_38 w_650 rfl rfl ?_
      refine am_sv (v2 := .int (nI 2)) rfl ?_
      refine am_ifN_le (tgt := 46) d_M_improve_41 (by decide) (by decide) (fun z => absurd z (by decide)) (fun _ => ?_)
      refine am_iconst (v := nI 0) d_M_improve_44 (by decide) ?_
      refine am_iret d_M_improve_45 rfl ?_
      have ec : cd_improve P t v = 2 := by unfold cd_improve; (try simp only [ek]); (repeat' split) <;> first | rfl | omega | simp_all
      rw [ec]
      exact ⟨rfl, rfl⟩
    · rw [hpd] at c19
      have c19 := of_decide_eq_true c19
      refine am_aload_n d_M_improve_22 rfl rfl ?_
      refine am_get F_M 20 (by decide) d_M_improve_23 w_670 rfl rfl ?_
      refine am_ifZ_ne (tgt := 33) d_M_improve_26 (by decide) (fun c26 => ?_) (fun c26 => ?_)
      · refine am_iconst (v := nI 0) d_M_improve_33 (by decide) ?_
        refine am_put F_M 0 (by decide) d_M_improve_34 w_650 rfl rfl (Nat.le_of_ble_eq_true rfl) rfl rfl ?_
        refine am_hq (hm_cd _) ?_
        refine am_aload_n d_M_improve_37 rfl rfl ?_
        refine am_get F_M 0 (by decide) d_M_improve_38 w_650 rfl rfl ?_
        refine am_sv (v2 := .int (nI 0)) rfl ?_
        refine am_ifN_le (tgt := 46) d_M_improve_41 (by decide) (by decide) (fun _ => ?_) (fun z => absurd z (by decide))
        have ht : t = false := by have := hfr c19; rw [c26] at this; cases t; rfl; cases this
        obtain ⟨i, rfl, -, hi⟩ := sp_in_t c8 (by decide) (by decide)
        obtain ⟨hI0, hal, hco, hpn⟩ := hf c19 ht
        have hall := sp_all_at hal
        have h1 : 1 ≤ sh_jb S := by have := hI0.2.2; omega
        have hr0 : ∀ k, k < sh_jb S → (tk_u (mo_pn M) (mo_ro M) (sh_jb S)) k = pl_ja P k := fun k hk => (tk_u_lt hk).trans (hpn k hk)
        have hpr : se_pm S (tk_u (mo_pn M) (mo_ro M) (sh_jb S)) := se_pm_cg hr0 hI0.2.1
        have hg : ∀ k, k < sh_jb S → (tk_u (mo_pn M) (mo_ro M) (sh_jb S)) k < sh_jb S ∧ sp_fits S ((tk_u (mo_pn M) (mo_ro M) (sh_jb S)) k) = true := fun k hk => ⟨hpr.1 k hk, hall _ (hpr.1 k hk)⟩
        refine am_aload_n d_M_improve_46 rfl rfl ?_
        refine am_callF 1 (am_recvV (z := m_M_keepWas) rfl d_M_improve_47 w_792 w_794 ws_20 w_795 F_M.1 rfl (by decide) np_M_keepWas) (by decide) (by decide) (Nat.le_of_ble_eq_true rfl) (Nat.le_of_ble_eq_true rfl) (Nat.zero_le _) (Nat.zero_le _) (c_M_keepWas _ _ _) ?_
        refine am_hq (h2 := (hm A S jo (0, mo_xx M, mo_hr M, mo_mh M, mo_pd M, mo_fr M, mo_pj M, mo_pn M, mo_ph M, mo_pm M, (mo_ph M), (mo_pm M), mo_co M, mo_bo M, mo_no M, mo_ch M, mo_ro M, mo_tr M, mo_us M) V)) rfl ?_
        refine am_iconst (v := nI 0) d_M_improve_50 (by decide) ?_
        refine am_istore_n d_M_improve_51 rfl (by decide) ?_
        refine am_lo (L' := [(0, .ref 30), (1, .int (nI i)), (2, .int (nI 0))]) rfl (c_M_improve_r (M := (0, mo_xx M, mo_hr M, mo_mh M, mo_pd M, mo_fr M, mo_pj M, mo_pn M, mo_ph M, mo_pm M, (mo_ph M), (mo_pm M), mo_co M, mo_bo M, mo_no M, mo_ch M, mo_ro M, mo_tr M, mo_us M)) hS (d + 5) bc bs i ?_ (sh_jb S + 1) 0 (Nat.zero_le _) (by omega))
        refine am_aload_n d_M_improve_78 rfl rfl ?_
        refine am_aload_n d_M_improve_79 rfl rfl ?_
        refine am_get F_M 6 (by decide) d_M_improve_80 w_656 rfl rfl ?_
        refine am_callF 2 (am_recvV (z := m_M_costOfRow) rfl d_M_improve_83 w_804 w_806 ws_23 w_807 F_M.1 rfl (by decide) np_M_costOfRow) (by decide) (by decide) (Nat.le_of_ble_eq_true rfl) (Nat.le_of_ble_eq_true rfl) (Nat.zero_le _) (Nat.zero_le _) (am_rm (d := 3) (by omega) (c_M_costOfRow (M := (0, mo_xx M, mo_hr M, mo_mh M, mo_pd M, mo_fr M, mo_pj M, mo_pn M, mo_ph M, mo_pm M, (mo_ph M), (mo_pm M), mo_co M, mo_bo M, mo_no M, mo_ch M, (tk_u (mo_pn M) (mo_ro M) (sh_jb S)), mo_tr M, mo_us M)) hS hsk 0 _ _ (sh_jb S) (Nat.le_refl _) hg hpr.2.2)) ?_
        refine am_sv (v2 := .long (lN (pl_co P))) (congrArg (fun z => Value.long (lN z)) ((sp_co_congr hr0).trans hco.symm)) ?_
        refine am_lstore_n d_M_improve_86 rfl (by decide) ?_
        refine am_iconst (v := nI 0) d_M_improve_87 (by decide) ?_
        refine am_istore d_M_improve_88 (by decide) ?_
        refine am_iconst (v := nI 0) d_M_improve_90 (by decide) ?_
        refine am_istore d_M_improve_91 (by decide) ?_
        refine am_lo (L' := [(0, .ref 30), (1, .int (nI i)), (2, .long (lN (pl_co P))), (4, .int (nI 0)), (5, .int (nI 0))]) rfl (c_M_improve_l (M := (0, mo_xx M, mo_hr M, mo_mh M, mo_pd M, mo_fr M, mo_pj M, mo_pn M, mo_ph M, mo_pm M, (mo_ph M), (mo_pm M), mo_co M, mo_bo M, mo_no M, mo_ch M, mo_ro M, mo_tr M, mo_us M)) (x := mo_xx M) (P := P) hS hsk hall h1 hI0 (d + 1) bc bs i hi (fun H1 H2 ro hro => ?_) (i + 1) 0 (Nat.zero_le _) (by omega) _ _ _ hr0)
        refine am_aload_n d_M_improve_159 rfl rfl ?_
        refine am_callQ 1 (am_recvV (z := m_M_become) rfl d_M_improve_160 w_839 w_841 ws_31 w_842 F_M.1 rfl (by decide) np_M_become) (by decide) (by decide) (Nat.le_of_ble_eq_true rfl) (Nat.le_of_ble_eq_true rfl) (Nat.zero_le _) (Nat.zero_le _) (am_rm (d := 4) (by omega) (c_M_become (M := (0, (im_it S (mo_xx M, P, 0) i).1, H1, H2, mo_pd M, mo_fr M, mo_pj M, mo_pn M, mo_ph M, mo_pm M, (mo_ph M), (mo_pm M), mo_co M, mo_bo M, mo_no M, mo_ch M, ro, mo_tr M, mo_us M)) (P := P) (g := (pl_ja (im_it S (mo_xx M, P, 0) i).2.1)) hS hsk hall hP hro (im_it_I (q := (mo_xx M, P, 0)) hS hall h1 hI0 i).1.2.1 (fun s _ => ⟨by rw [← hph], by rw [← hpm]⟩) 0 _ _)) (fun v160 h160 q160 => ?_) (fun x160 h160 q160 => ?_)
        · obtain ⟨H3, H4, q1, rfl⟩ := q160
          cases q1
          refine am_iload d_M_improve_163 rfl ?_
          refine am_iret d_M_improve_165 rfl ?_
          have ec : cd_improve P t (nI i) = 0 := by unfold cd_improve; (try simp only [ek]); (repeat' split) <;> first | rfl | omega | simp_all
          rw [ec]
          exact ⟨_, rfl, fun i' e1 e2 => by obtain rfl := nI_inj (by omega) (by omega) e1; exact ⟨H3, H4, _, _, rfl, fun k hk => (tk_u_lt hk).trans (hro k hk), rfl⟩⟩
        · obtain ⟨H3, H4, q1, -⟩ := q160
          cases q1
      · have ht : t = true := by have := hfr c19; rw [c26] at this; cases t; cases this; rfl
        refine am_iconst (v := nI 2) d_M_improve_29 (by decide) ?_
        refine am_goto (tgt := 34) d_M_improve_30 (by decide) ?_
        refine am_put F_M 0 (by decide) d_M_improve_34 w_650 rfl rfl (Nat.le_of_ble_eq_true rfl) rfl rfl ?_
        refine am_hq (hm_cd _) ?_
        refine am_aload_n d_M_improve_37 rfl rfl ?_
        refine am_get F_M 0 (by decide) d_M_improve_38 w_650 rfl rfl ?_
        refine am_sv (v2 := .int (nI 2)) rfl ?_
        refine am_ifN_le (tgt := 46) d_M_improve_41 (by decide) (by decide) (fun z => absurd z (by decide)) (fun _ => ?_)
        refine am_iconst (v := nI 0) d_M_improve_44 (by decide) ?_
        refine am_iret d_M_improve_45 rfl ?_
        have ec : cd_improve P t v = 2 := by unfold cd_improve; (try simp only [ek]); (repeat' split) <;> first | rfl | omega | simp_all
        rw [ec]
        exact ⟨rfl, rfl⟩
  · refine am_iconst (v := nI 1) d_M_improve_11 (by decide) ?_
    refine am_goto (tgt := 34) d_M_improve_12 (by decide) ?_
    refine am_put F_M 0 (by decide) d_M_improve_34 w_650 rfl rfl (Nat.le_of_ble_eq_true rfl) rfl rfl ?_
    refine am_hq (hm_cd _) ?_
    refine am_aload_n d_M_improve_37 rfl rfl ?_
    refine am_get F_M 0 (by decide) d_M_improve_38 w_650 rfl rfl ?_
    refine am_sv (v2 := .int (nI 1)) rfl ?_
    refine am_ifN_le (tgt := 46) d_M_improve_41 (by decide) (by decide) (fun z => absurd z (by decide)) (fun _ => ?_)
    refine am_iconst (v := nI 0) d_M_improve_44 (by decide) ?_
    refine am_iret d_M_improve_45 rfl ?_
    have ec : cd_improve P t v = 1 := by unfold cd_improve; (try simp only [ek]); (repeat' split) <;> first | rfl | omega | simp_all
    rw [ec]
    exact ⟨rfl, rfl⟩
end CM8
