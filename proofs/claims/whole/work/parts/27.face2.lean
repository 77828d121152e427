/-! the face, the longer calls -/
section CXB
variable {G : am_G} {x : Int64} {t : Bool} {S : sh_T} {F : fl_T} {R : se_T} {P : pl_T} {W : am_H} {jo : Nat → Nat}
theorem c_X_nextPlace (d bc bs n : Nat) (h1 : 1 ≤ n) (h6 : n ≤ 6) : am_Fn G m_X_nextPlace d bc bs [.ref 1, .int (nI n)] (hx x t S F R P W) (some (.int (nI (im_a (im_x x) n)))) (hx (im_x x) t S F R P W) := by
  refine am_aload_n d_X_nextPlace_0 rfl rfl ?_
  refine am_aload_n d_X_nextPlace_1 rfl rfl ?_
  refine am_get F_X 4 (by decide) d_X_nextPlace_2 w_221 rfl rfl ?_
  refine am_ldc2 d_X_nextPlace_5 w_529 ?_
  refine am_lmul d_X_nextPlace_8 ?_
  refine am_ldc2 d_X_nextPlace_9 w_530 ?_
  refine am_ladd d_X_nextPlace_12 ?_
  refine am_put F_X 4 (by decide) d_X_nextPlace_13 w_221 rfl rfl (Nat.le_of_ble_eq_true rfl) rfl rfl ?_
  refine am_iload_n d_X_nextPlace_16 rfl rfl ?_
  refine am_ifN_le (tgt := 34) d_X_nextPlace_17 (by decide) (by omega) (fun c17 => ?_) (fun c17 => ?_)
  · exact absurd c17 (by omega)
  · refine am_aload_n d_X_nextPlace_20 rfl rfl ?_
    refine am_get F_X 4 (by decide) d_X_nextPlace_21 w_221 rfl rfl ?_
    refine am_bipush (v := nI 33) d_X_nextPlace_24 (by decide) ?_
    refine am_lushr d_X_nextPlace_26 ?_
    rw [im_sh]
    refine am_iload_n d_X_nextPlace_27 rfl rfl ?_
    refine am_i2lN d_X_nextPlace_28 (by omega) ?_
    refine am_lrem d_X_nextPlace_29 (fun e => by have := (lN_eq (a := n) (b := 0) (by omega) (by omega)).mp e; omega) ?_
    refine am_l2i d_X_nextPlace_30 ?_
    rw [im_rem _ (by omega)]
    refine am_goto (tgt := 35) d_X_nextPlace_31 (by decide) ?_
    refine am_iret d_X_nextPlace_35 rfl ?_
    exact ⟨rfl, rfl⟩
abbrev rn_q (S : sh_T) (R : se_T) (n : Nat) : Bool × se_T := se_go S (sh_jb S) 0 (se_st S R n)
/-- the plan after a run -/
def rn_P (S : sh_T) (R : se_T) (P : pl_T) (n : Nat) : pl_T := (sh_jb S, sh_ss S, sp_co S (se_bs (rn_q S R n).2) (sh_jb S), se_bo (rn_q S R n).2, se_no (rn_q S R n).2, tk_m P (fl_C S (se_bs (rn_q S R n).2)) (sh_ss S), va_cpy (se_bs (rn_q S R n).2) (pl_ja P) 0 0 6, tk_u (fl_bg (fl_C S (se_bs (rn_q S R n).2))) (pl_bg P) (sh_ss S), tk_u (fl_ma (fl_C S (se_bs (rn_q S R n).2))) (pl_ma P) (sh_ss S))
theorem sp_all_at {S : sh_T} : ∀ {n}, sp_all S n = true → ∀ j, j < n → sp_fits S j = true
  | 0, _, j, h => absurd h (Nat.not_lt_zero j)
  | n + 1, e, j, h => by
    cases hf : sp_fits S j with
    | true => rfl
    | false => rw [sp_all_f hf (n + 1) h] at e; cases e
theorem se_st_ok {S : sh_T} {R : se_T} {n : Nat} (hS : sh_ok S) (hall : ∀ j, j < sh_jb S → sp_fits S j = true) (hn : n ≤ 2000) (hr : se_r R) : se_ok S (se_st S R n) ∧ se_px S (se_st S R n) 0 ∧ se_pm S (se_bs (se_st S R n)) := by
  have s2 := hS.2.1
  have hob := se_ord_bd (sh_du S) (se_bs R) hr.2.1 (sh_jb S) s2
  have hg : ∀ k, k < sh_jb S → se_ord (sh_du S) (se_bs R) (sh_jb S) k < 6 ∧ sp_fits S (se_ord (sh_du S) (se_bs R) (sh_jb S) k) = true := fun k hk => ⟨hob k, hall _ (se_ord_lt (sh_du S) (se_bs R) (sh_jb S) k hk)⟩
  exact ⟨⟨fun j hj => se_als_at S _ _ j hj, Nat.zero_le _, hn, sp_co_bd hS s2 hg, hr.1, hob⟩, ⟨fun k hk => absurd hk (Nat.not_lt_zero k), zc_n_0 _ (fun k _ => hr.2.2 k), fun j _ h => by have := hr.2.2 j; rw [show se_ib (se_st S R n) j = se_ib R j from rfl, this] at h; cases h⟩, se_sd_pm (se_ord_sd (sh_du S) (se_bs R) (sh_jb S))⟩
theorem rn_ok {S : sh_T} {R : se_T} {n : Nat} (hS : sh_ok S) (hall : ∀ j, j < sh_jb S → sp_fits S j = true) (hn : n ≤ 2000) (hr : se_r R) : se_ok S (rn_q S R n).2 ∧ se_sm 0 (se_st S R n) (rn_q S R n).2 ∧ se_pm S (se_bs (rn_q S R n).2) := by
  obtain ⟨a, b, c⟩ := se_st_ok hS hall hn hr
  obtain ⟨e, f⟩ := se_go_ok hS hall (sh_jb S) 0 (se_st S R n) (by omega) a b
  exact ⟨e, f, se_go_pm hS hall (sh_jb S) 0 (se_st S R n) (by omega) a b (fun i k _ hk => absurd hk (Nat.not_lt_zero k)) c⟩
set_option maxRecDepth 20000 in
theorem c_X_run (hS : sh_ok S) (hk : sh_k S jo) (hr : se_r R) (hP : pl_ok P) (d bc bs : Nat) (hd : 6 ≤ d) (hb1 : 1 ≤ bc) (hb2 : 6 ≤ bs) (n : Int32) : am_W G m_X_run (d + 18) bc bs (fQ [6, 7] (cd_run S n) (hx x t S F R P W) (fun v h' => ∃ i F', n = nI i ∧ 1 ≤ i ∧ i ≤ 2000 ∧ 0 < sh_jb S ∧ sp_all S (sh_jb S) = true ∧ v = some (.int (if (rn_q S R i).1 then nI 0 else nI 1)) ∧ h' = (hx x false S F' (rn_q S R i).2 (rn_P S R P i) W))) 0 (lv_args 0 [.ref 1, .int n]) [] (hx x t S F R P W) := by
  obtain ⟨s1, s2, s3, s4, s5, s6, s7, s8, s9, s10, s11, s12, s13, s14⟩ := id hS
  refine am_iload_n d_X_run_0 rfl rfl ?_
  refine am_iconst (v := nI 1) d_X_run_1 (by decide) ?_
  refine am_sipush (v := nI 2000) d_X_run_2 (by decide) ?_
  refine am_callF 3 (am_lkS (z := m_X_isWithin) d_X_run_5 w_248 w_249 w_1 w_250 (by decide) np_X_isWithin) (by decide) (by decide) (Nat.le_of_ble_eq_true rfl) (Nat.le_of_ble_eq_true rfl) (Nat.zero_le _) (Nat.zero_le _) (c_X_isWithin _ _ _ _ _ _) ?_
  refine am_ifZ_ne (tgt := 21) d_X_run_8 (by decide) (fun c8 => ?_) (fun c8 => ?_)
  · refine am_aload_n d_X_run_21 rfl rfl ?_
    refine am_get F_X 0 (by decide) d_X_run_22 w_217 rfl rfl ?_
    refine am_get F_S 5 (by decide) d_X_run_25 w_46 rfl rfl ?_
    refine am_ifN_eq (tgt := 41) d_X_run_28 (by decide) (by omega) (fun c28 => ?_) (fun c28 => ?_)
    · refine am_throwS (ci := 7) (tx := "no jobs, or one does not fit") d_X_run_41 d_X_run_44 d_X_run_45 d_X_run_47 d_X_run_50 rfl rfl w_319 w_320 w_11 (by decide) oA_7 (by decide +kernel) (by omega) (by omega) (by omega) (Nat.le_of_ble_eq_true rfl) rfl ?_
      have ec : cd_run S n = 2 := by unfold cd_run; (try simp only [ek]); (repeat' split) <;> first | rfl | omega | simp_all
      rw [ec]
      exact ⟨_, rfl, rfl, rfl⟩
    · refine am_aload_n d_X_run_31 rfl rfl ?_
      refine am_get F_X 0 (by decide) d_X_run_32 w_217 rfl rfl ?_
      refine am_callF 1 (am_recvV (z := m_S_allFit) rfl d_X_run_35 w_420 w_421 w_422 w_423 F_S.1 rfl (by decide) np_S_allFit) (by decide) (by decide) (Nat.le_of_ble_eq_true rfl) (Nat.le_of_ble_eq_true rfl) (Nat.zero_le _) (Nat.zero_le _) (am_rm (d := 2) (by omega) (c_S_allFit hS 0 _ _)) ?_
      refine am_ifZ_ne (tgt := 51) d_X_run_38 (by decide) (fun c38 => ?_) (fun c38 => ?_)
      · obtain ⟨i, rfl, hi1, hi2⟩ := sp_in_t c8 (by decide) (by decide)
        have hall := sp_all_at c38
        have ec : cd_run S (nI i) = 0 := by unfold cd_run; (try simp only [ek]); (repeat' split) <;> first | rfl | omega | simp_all
        rw [ec]
        obtain ⟨r1, r2, r3⟩ := rn_ok (n := i) hS hall hi2 hr
        have hg : ∀ k, k < sh_jb S → se_bs (rn_q S R i).2 k < 6 ∧ sp_fits S (se_bs (rn_q S R i).2 k) = true := fun k hk => ⟨r1.2.2.2.2.2 k, hall _ (r3.1 k hk)⟩
        refine am_aload_n d_X_run_51 rfl rfl ?_
        refine am_get F_X 2 (by decide) d_X_run_52 w_219 rfl rfl ?_
        refine am_iload_n d_X_run_55 rfl rfl ?_
        refine am_callQ 2 (am_recvV (z := m_R_findBest) rfl d_X_run_56 w_433 w_434 w_435 w_436 F_R.1 rfl (by decide) np_R_findBest) (by decide) (by decide) (Nat.le_of_ble_eq_true rfl) (Nat.le_of_ble_eq_true rfl) (Nat.zero_le _) (Nat.zero_le _) (am_rm (d := 17) (by omega) (c_R_findBest hS hk hall (by omega) _ _ i hi2 hr)) (fun v56 h56 q56 => ?_) (fun x56 h56 q56 => ?_)
        · obtain ⟨F1, q1, rfl⟩ := q56
          cases q1
          have hC := fun s (hs : s < sh_ss S) => fl_C_D hS hk hall r3 F1 hs
          refine am_istore_n d_X_run_59 rfl (by decide) ?_
          refine am_aload_n d_X_run_60 rfl rfl ?_
          refine am_get F_X 3 (by decide) d_X_run_61 w_220 rfl rfl ?_
          refine am_aload_n d_X_run_64 rfl rfl ?_
          refine am_get F_X 2 (by decide) d_X_run_65 w_219 rfl rfl ?_
          refine am_get F_R 5 (by decide) d_X_run_68 w_142 rfl rfl ?_
          refine am_aload_n d_X_run_71 rfl rfl ?_
          refine am_get F_X 1 (by decide) d_X_run_72 w_218 rfl rfl ?_
          refine am_callF 3 (am_recvV (z := m_P_take) rfl d_X_run_75 w_498 w_499 w_500 w_501 F_P.1 rfl (by decide) np_P_take) (by decide) (by decide) (Nat.le_of_ble_eq_true rfl) (Nat.le_of_ble_eq_true rfl) (Nat.zero_le _) (Nat.zero_le _) (am_rm (d := 5) (by omega) (c_P_takeR (F := F1) hS hP 0 _ _ hg (fun s hs => ⟨by rw [(hC s hs).1]; exact (hC s hs).2.2.1, by rw [(hC s hs).2.1]; have := (hC s hs).2.2.2; omega⟩))) ?_
          rw [pl_take_congr (fun s hs => ⟨(hC s hs).1, (hC s hs).2.1⟩)]
          refine am_aload_n d_X_run_78 rfl rfl ?_
          refine am_get F_X 3 (by decide) d_X_run_79 w_220 rfl rfl ?_
          refine am_aload_n d_X_run_82 rfl rfl ?_
          refine am_get F_X 2 (by decide) d_X_run_83 w_219 rfl rfl ?_
          refine am_get F_R 8 (by decide) d_X_run_86 w_146 rfl rfl ?_
          refine am_put F_P 7 (by decide) d_X_run_89 w_191 rfl rfl (Nat.le_of_ble_eq_true rfl) rfl rfl ?_
          refine am_aload_n d_X_run_92 rfl rfl ?_
          refine am_get F_X 3 (by decide) d_X_run_93 w_220 rfl rfl ?_
          refine am_aload_n d_X_run_96 rfl rfl ?_
          refine am_get F_X 2 (by decide) d_X_run_97 w_219 rfl rfl ?_
          refine am_get F_R 9 (by decide) d_X_run_100 w_148 rfl rfl ?_
          refine am_put F_P 8 (by decide) d_X_run_103 w_193 rfl rfl (Nat.le_of_ble_eq_true rfl) rfl rfl ?_
          refine am_aload_n d_X_run_106 rfl rfl ?_
          refine am_iconst (v := zI false) d_X_run_107 (by decide) ?_
          refine am_put F_X 5 (by decide) d_X_run_108 w_222 rfl rfl (Nat.le_of_ble_eq_true rfl) rfl rfl ?_
          refine am_iload_n d_X_run_111 rfl rfl ?_
          refine am_ifZ_eq (tgt := 119) d_X_run_112 (by decide) (fun c112 => ?_) (fun c112 => ?_)
          · refine am_iconst (v := nI 1) d_X_run_119 (by decide) ?_
            refine am_iret d_X_run_120 rfl ?_
            exact ⟨_, rfl, i, _, rfl, hi1, hi2, by omega, c38, by rw [if_neg (by rw [c112]; decide)], rfl⟩
          · refine am_iconst (v := nI 0) d_X_run_115 (by decide) ?_
            refine am_goto (tgt := 120) d_X_run_116 (by decide) ?_
            refine am_iret d_X_run_120 rfl ?_
            exact ⟨_, rfl, i, _, rfl, hi1, hi2, by omega, c38, by rw [if_pos c112], rfl⟩
        · obtain ⟨F1, q1, -⟩ := q56
          cases q1
      · refine am_throwS (ci := 7) (tx := "no jobs, or one does not fit") d_X_run_41 d_X_run_44 d_X_run_45 d_X_run_47 d_X_run_50 rfl rfl w_319 w_320 w_11 (by decide) oA_7 (by decide +kernel) (by omega) (by omega) (by omega) (Nat.le_of_ble_eq_true rfl) rfl ?_
        have ec : cd_run S n = 2 := by unfold cd_run; (try simp only [ek]); (repeat' split) <;> first | rfl | omega | simp_all
        rw [ec]
        exact ⟨_, rfl, rfl, rfl⟩
  · refine am_throwS (ci := 6) (tx := "no such number of nodes") d_X_run_11 d_X_run_14 d_X_run_15 d_X_run_17 d_X_run_20 rfl rfl w_251 w_252 w_10 (by decide) oA_6 (by decide +kernel) (by omega) (by omega) (by omega) (Nat.le_of_ble_eq_true rfl) rfl ?_
    have ec : cd_run S n = 1 := by unfold cd_run; (try simp only [ek]); (repeat' split) <;> first | rfl | omega | simp_all
    rw [ec]
    exact ⟨_, rfl, rfl, rfl⟩
/-- one change: two draws -/
def im_st (S : sh_T) (q : Int64 × pl_T × Nat) : Int64 × pl_T × Nat := (im_x (im_x q.1), (pl_ch S q.2.1 (im_a (im_x q.1) (pl_jb q.2.1)) (im_a (im_x (im_x q.1)) (pl_jb q.2.1))).2, if (pl_ch S q.2.1 (im_a (im_x q.1) (pl_jb q.2.1)) (im_a (im_x (im_x q.1)) (pl_jb q.2.1))).1 then q.2.2 + 1 else q.2.2)
def im_it (S : sh_T) (q : Int64 × pl_T × Nat) : Nat → Int64 × pl_T × Nat
  | 0 => q
  | n + 1 => im_st S (im_it S q n)
def im_I (S : sh_T) (P : pl_T) : Prop := pl_ok P ∧ se_pm S (pl_ja P) ∧ pl_jb P = sh_jb S
theorem pl_ch_I {S : sh_T} {P : pl_T} {a b : Nat} (hS : sh_ok S) (hall : ∀ j, j < sh_jb S → sp_fits S j = true) (h : im_I S P) (ha : a < sh_jb S) (hb : b < sh_jb S) : im_I S (pl_ch S P a b).2 := by
  obtain ⟨⟨p1, p2, p3, p4, p5, p6⟩, h2, h3⟩ := id h
  have s2 := hS.2.1
  unfold pl_ch
  split
  · have hpm := se_pm_sw h2 ha hb
    refine ⟨⟨p1, p2, ?_, sw_bd p4, p5, p6⟩, hpm, h3⟩
    show sp_co S _ (pl_jb P) ≤ _
    rw [h3]
    exact sp_co_bd hS s2 (fun k hk => ⟨sw_bd p4 k, hall _ (hpm.1 k hk)⟩)
  · exact h
theorem im_a_lt (x : Int64) {n : Nat} (h : 1 ≤ n) : im_a x n < n := Nat.mod_lt _ h
theorem im_it_I {S : sh_T} {q : Int64 × pl_T × Nat} (hS : sh_ok S) (hall : ∀ j, j < sh_jb S → sp_fits S j = true) (h1 : 1 ≤ sh_jb S) (h : im_I S q.2.1) : ∀ n, im_I S (im_it S q n).2.1 ∧ (im_it S q n).2.2 ≤ q.2.2 + n
  | 0 => ⟨h, Nat.le_refl _⟩
  | n + 1 => by
    obtain ⟨g1, g2⟩ := im_it_I hS hall h1 h n
    refine ⟨pl_ch_I hS hall g1 (by rw [g1.2.2]; exact im_a_lt _ h1) (by rw [g1.2.2]; exact im_a_lt _ h1), ?_⟩
    show (if _ then (im_it S q n).2.2 + 1 else (im_it S q n).2.2) ≤ _
    split
    · exact Nat.succ_le_succ g2
    · exact Nat.le_succ_of_le g2
/-- what an improve comes to -/
def im_P (S : sh_T) (P : pl_T) : pl_T := pl_take S (pl_ja P) (fl_C S (pl_ja P)) P
theorem am_lq {y : am_M} {d bc bs : Nat} {Q : am_O → am_H → Prop} {pc : Nat} {L L2 : List (Nat × Value)} {st : List Value} {h : am_H} (e : L = L2) (k : am_W G y d bc bs Q pc L2 st h) : am_W G y d bc bs Q pc L st h := e ▸ k
set_option maxRecDepth 20000 in
set_option maxHeartbeats 1000000 in
theorem c_X_improve_l {Q : am_O → am_H → Prop} (hS : sh_ok S) (hall : ∀ j, j < sh_jb S → sp_fits S j = true) (h1 : 1 ≤ sh_jb S) (hI : im_I S P) (d bc bs n : Nat) (hn : n ≤ 100) (hk : ∀ F, am_W G m_X_improve (d + 6) bc bs Q 86 [(0, .ref 1), (1, .int (nI n)), (2, .int (nI (im_it S (x, P, 0) n).2.2)), (3, .int (nI n))] [] (hx (im_it S (x, P, 0) n).1 t S F R (im_it S (x, P, 0) n).2.1 W)) : ∀ (g i : Nat), i ≤ n → n - i < g → ∀ F,
    am_W G m_X_improve (d + 6) bc bs Q 28 [(0, .ref 1), (1, .int (nI n)), (2, .int (nI (im_it S (x, P, 0) i).2.2)), (3, .int (nI i))] [] (hx (im_it S (x, P, 0) i).1 t S F R (im_it S (x, P, 0) i).2.1 W) := by
  intro g
  have s2 := hS.2.1
  induction g with
  | zero => intro i _ h; omega
  | succ g ih =>
    intro i hi hg F
    obtain ⟨g1, g2⟩ := im_it_I (q := (x, P, 0)) hS hall h1 hI i
    have g3 := g1.2.2
    refine am_iload_n d_X_improve_28 rfl rfl ?_
    refine am_iload_n d_X_improve_29 rfl rfl ?_
    refine am_icmpN_ge (tgt := 86) d_X_improve_30 (by decide) (by omega) (by omega) (fun c30 => ?_) (fun c30 => ?_)
    · have e : i = n := by omega
      subst e
      exact hk F
    · have ha := im_a_lt (im_x (im_it S (x, P, 0) i).1) h1
      have hb := im_a_lt (im_x (im_x (im_it S (x, P, 0) i).1)) h1
      rw [← g1.2.2] at ha hb
      have hpm := se_pm_sw g1.2.1 (a := im_a (im_x (im_it S (x, P, 0) i).1) (pl_jb (im_it S (x, P, 0) i).2.1)) (b := im_a (im_x (im_x (im_it S (x, P, 0) i).1)) (pl_jb (im_it S (x, P, 0) i).2.1)) (by omega) (by omega)
      have hgk : ∀ k, k < pl_jb (im_it S (x, P, 0) i).2.1 → sw (pl_ja (im_it S (x, P, 0) i).2.1) (im_a (im_x (im_it S (x, P, 0) i).1) (pl_jb (im_it S (x, P, 0) i).2.1)) (im_a (im_x (im_x (im_it S (x, P, 0) i).1)) (pl_jb (im_it S (x, P, 0) i).2.1)) k < 6 ∧ sp_fits S (sw (pl_ja (im_it S (x, P, 0) i).2.1) (im_a (im_x (im_it S (x, P, 0) i).1) (pl_jb (im_it S (x, P, 0) i).2.1)) (im_a (im_x (im_x (im_it S (x, P, 0) i).1)) (pl_jb (im_it S (x, P, 0) i).2.1)) k) = true := fun k hk => ⟨sw_bd g1.1.2.2.2.1 k, hall _ (hpm.1 k (by omega))⟩
      have hz1 : ∀ (c : (pl_ch S (im_it S (x, P, 0) i).2.1 (im_a (im_x (im_it S (x, P, 0) i).1) (pl_jb (im_it S (x, P, 0) i).2.1)) (im_a (im_x (im_x (im_it S (x, P, 0) i).1)) (pl_jb (im_it S (x, P, 0) i).2.1))).1 = true), (im_it S (x, P, 0) (i + 1)).2.2 = (im_it S (x, P, 0) i).2.2 + 1 := fun c => if_pos c
      have hz0 : ∀ (c : (pl_ch S (im_it S (x, P, 0) i).2.1 (im_a (im_x (im_it S (x, P, 0) i).1) (pl_jb (im_it S (x, P, 0) i).2.1)) (im_a (im_x (im_x (im_it S (x, P, 0) i).1)) (pl_jb (im_it S (x, P, 0) i).2.1))).1 = false), (im_it S (x, P, 0) (i + 1)).2.2 = (im_it S (x, P, 0) i).2.2 := fun c => if_neg (by rw [c]; decide)
      refine am_aload_n d_X_improve_33 rfl rfl ?_
      refine am_aload_n d_X_improve_34 rfl rfl ?_
      refine am_get F_X 3 (by decide) d_X_improve_35 w_220 rfl rfl ?_
      refine am_get F_P 4 (by decide) d_X_improve_38 w_186 rfl rfl ?_
      refine am_callF 2 (am_recvV (z := m_X_nextPlace) rfl d_X_improve_41 w_525 w_527 ws_10 w_528 F_X.1 rfl (by decide) np_X_nextPlace) (by decide) (by decide) (Nat.le_of_ble_eq_true rfl) (Nat.le_of_ble_eq_true rfl) (Nat.zero_le _) (Nat.zero_le _) (c_X_nextPlace _ _ _ _ (by omega) (by omega)) ?_
      refine am_istore d_X_improve_44 (by decide) ?_
      refine am_aload_n d_X_improve_46 rfl rfl ?_
      refine am_aload_n d_X_improve_47 rfl rfl ?_
      refine am_get F_X 3 (by decide) d_X_improve_48 w_220 rfl rfl ?_
      refine am_get F_P 4 (by decide) d_X_improve_51 w_186 rfl rfl ?_
      refine am_callF 2 (am_recvV (z := m_X_nextPlace) rfl d_X_improve_54 w_525 w_527 ws_10 w_528 F_X.1 rfl (by decide) np_X_nextPlace) (by decide) (by decide) (Nat.le_of_ble_eq_true rfl) (Nat.le_of_ble_eq_true rfl) (Nat.zero_le _) (Nat.zero_le _) (c_X_nextPlace _ _ _ _ (by omega) (by omega)) ?_
      refine am_istore d_X_improve_57 (by decide) ?_
      refine am_aload_n d_X_improve_59 rfl rfl ?_
      refine am_get F_X 3 (by decide) d_X_improve_60 w_220 rfl rfl ?_
      refine am_iload d_X_improve_63 rfl ?_
      refine am_iload d_X_improve_65 rfl ?_
      refine am_aload_n d_X_improve_67 rfl rfl ?_
      refine am_get F_X 1 (by decide) d_X_improve_68 w_218 rfl rfl ?_
      refine am_callQ 4 (am_recvV (z := m_P_changeIfLess) rfl d_X_improve_71 w_531 w_532 w_533 w_534 F_P.1 rfl (by decide) np_P_changeIfLess) (by decide) (by decide) (Nat.le_of_ble_eq_true rfl) (Nat.le_of_ble_eq_true rfl) (Nat.zero_le _) (Nat.zero_le _) (am_rm (d := 5) (by omega) (c_P_changeIfLess (P := (im_it S (x, P, 0) i).2.1) hS g1.1 0 _ _ _ _ (by omega) (by omega) hgk)) (fun v71 h71 q71 => ?_) (fun x71 h71 q71 => ?_)
      · obtain ⟨F1, q1, rfl⟩ := q71
        cases q1
        refine am_ifZ_eq (tgt := 80) d_X_improve_74 (by decide) (fun c74 => ?_) (fun c74 => ?_)
        · refine am_iinc d_X_improve_80 rfl (am_inc _) (by decide) ?_
          refine am_goto (tgt := 28) d_X_improve_83 (by decide) ?_
          exact am_lo (L' := [(0, .ref 1), (1, .int (nI n)), (2, .int (nI (im_it S (x, P, 0) i).2.2)), (3, .int (nI (i + 1)))]) rfl (am_lq (L2 := [(0, .ref 1), (1, .int (nI n)), (2, .int (nI (im_it S (x, P, 0) (i + 1)).2.2)), (3, .int (nI (i + 1)))]) (by rw [hz0 c74]) (ih (i + 1) (by omega) (by omega) F1))
        · refine am_iinc d_X_improve_77 rfl (am_inc _) (by decide) ?_
          refine am_iinc d_X_improve_80 rfl (am_inc _) (by decide) ?_
          refine am_goto (tgt := 28) d_X_improve_83 (by decide) ?_
          exact am_lo (L' := [(0, .ref 1), (1, .int (nI n)), (2, .int (nI ((im_it S (x, P, 0) i).2.2 + 1))), (3, .int (nI (i + 1)))]) rfl (am_lq (L2 := [(0, .ref 1), (1, .int (nI n)), (2, .int (nI (im_it S (x, P, 0) (i + 1)).2.2)), (3, .int (nI (i + 1)))]) (by rw [hz1 c74]) (ih (i + 1) (by omega) (by omega) F1))
      · obtain ⟨F1, q1, -⟩ := q71
        cases q1
set_option maxRecDepth 20000 in
theorem c_X_improve (hS : sh_ok S) (hk : sh_k S jo) (hP : pl_ok P) (hfr : 0 < pl_jb P → t = false → im_I S P ∧ sp_all S (sh_jb S) = true) (d bc bs : Nat) (hd : 6 ≤ d) (hb1 : 1 ≤ bc) (hb2 : 6 ≤ bs) (n : Int32) : am_W G m_X_improve (d + 7) bc bs (fQ [6, 7] (cd_improve P t n) (hx x t S F R P W) (fun v h' => ∃ i F', n = nI i ∧ i ≤ 100 ∧ 0 < pl_jb P ∧ t = false ∧ v = some (.int (nI (im_it S (x, P, 0) i).2.2)) ∧ h' = (hx (im_it S (x, P, 0) i).1 t S F' R (im_P S (im_it S (x, P, 0) i).2.1) W))) 0 (lv_args 0 [.ref 1, .int n]) [] (hx x t S F R P W) := by
  obtain ⟨s1, s2, s3, s4, s5, s6, s7, s8, s9, s10, s11, s12, s13, s14⟩ := id hS
  by_cases hp : 0 < pl_jb P ∧ t = false
  · refine am_iload_n d_X_improve_0 rfl rfl ?_
    refine am_iconst (v := nI 0) d_X_improve_1 (by decide) ?_
    refine am_bipush (v := nI 100) d_X_improve_2 (by decide) ?_
    refine am_callF 3 (am_lkS (z := m_X_isWithin) d_X_improve_4 w_248 w_249 w_1 w_250 (by decide) np_X_isWithin) (by decide) (by decide) (Nat.le_of_ble_eq_true rfl) (Nat.le_of_ble_eq_true rfl) (Nat.zero_le _) (Nat.zero_le _) (c_X_isWithin _ _ _ _ _ _) ?_
    refine am_ifZ_ne (tgt := 20) d_X_improve_7 (by decide) (fun c7 => ?_) (fun c7 => ?_)
    · refine am_aload_n d_X_improve_20 rfl rfl ?_
      refine am_callF 1 (am_recvV (z := m_X_demandFreshPlan) rfl d_X_improve_21 w_516 w_518 ws_9 w_519 F_X.1 rfl (by decide) np_X_demandFreshPlan) (by decide) (by decide) (Nat.le_of_ble_eq_true rfl) (Nat.le_of_ble_eq_true rfl) (Nat.zero_le _) (Nat.zero_le _) (am_rm (d := 1) (by omega) (c_X_demandFreshPlan_0 hP 0 _ _ hp)) ?_
      obtain ⟨i, rfl, -, hi⟩ := sp_in_t c7 (by decide) (by decide)
      obtain ⟨hI, hal⟩ := hfr hp.1 hp.2
      have hall := sp_all_at hal
      have h1 : 1 ≤ sh_jb S := by rw [← hI.2.2]; exact hp.1
      have ec : cd_improve P t (nI i) = 0 := by unfold cd_improve; (try simp only [ek]); (repeat' split) <;> first | rfl | omega | simp_all
      rw [ec]
      refine am_iconst (v := nI 0) d_X_improve_24 (by decide) ?_
      refine am_istore_n d_X_improve_25 rfl (by decide) ?_
      refine am_iconst (v := nI 0) d_X_improve_26 (by decide) ?_
      refine am_istore_n d_X_improve_27 rfl (by decide) ?_
      refine am_lo (L' := [(0, .ref 1), (1, .int (nI i)), (2, .int (nI (im_it S (x, P, 0) 0).2.2)), (3, .int (nI 0))]) rfl (c_X_improve_l (x := x) (P := P) hS hall h1 hI (d + 1) bc bs i hi (fun F => ?_) (i + 1) 0 (Nat.zero_le _) (by omega) F)
      obtain ⟨g1, -⟩ := im_it_I (q := (x, P, 0)) hS hall h1 hI i
      have hg : ∀ k, k < sh_jb S → pl_ja (im_it S (x, P, 0) i).2.1 k < 6 ∧ sp_fits S (pl_ja (im_it S (x, P, 0) i).2.1 k) = true := fun k hk => ⟨g1.1.2.2.2.1 k, hall _ (g1.2.1.1 k hk)⟩
      have hC := fun s (hs : s < sh_ss S) => fl_C_D hS hk hall g1.2.1 F hs
      refine am_aload_n d_X_improve_86 rfl rfl ?_
      refine am_get F_X 3 (by decide) d_X_improve_87 w_220 rfl rfl ?_
      refine am_aload_n d_X_improve_90 rfl rfl ?_
      refine am_get F_X 3 (by decide) d_X_improve_91 w_220 rfl rfl ?_
      refine am_get F_P 1 (by decide) d_X_improve_94 w_180 rfl rfl ?_
      refine am_aload_n d_X_improve_97 rfl rfl ?_
      refine am_get F_X 1 (by decide) d_X_improve_98 w_218 rfl rfl ?_
      refine am_callF 3 (am_recvV (z := m_P_take) rfl d_X_improve_101 w_498 w_499 w_500 w_501 F_P.1 rfl (by decide) np_P_take) (by decide) (by decide) (Nat.le_of_ble_eq_true rfl) (Nat.le_of_ble_eq_true rfl) (Nat.zero_le _) (Nat.zero_le _) (am_rm (d := 5) (by omega) (c_P_takeP (P := (im_it S (x, P, 0) i).2.1) (F := F) hS g1.1 0 _ _ hg (fun s hs => ⟨by rw [(hC s hs).1]; exact (hC s hs).2.2.1, by rw [(hC s hs).2.1]; have := (hC s hs).2.2.2; omega⟩))) ?_
      rw [pl_take_congr (fun s hs => ⟨(hC s hs).1, (hC s hs).2.1⟩)]
      refine am_iload_n d_X_improve_104 rfl rfl ?_
      refine am_iret d_X_improve_105 rfl ?_
      exact ⟨_, rfl, i, _, rfl, hi, hp.1, hp.2, rfl, rfl⟩
    · refine am_throwS (ci := 6) (tx := "no such number of changes") d_X_improve_10 d_X_improve_13 d_X_improve_14 d_X_improve_16 d_X_improve_19 rfl rfl w_251 w_252 w_10 (by decide) oA_6 (by decide +kernel) (by omega) (by omega) (by omega) (Nat.le_of_ble_eq_true rfl) rfl ?_
      have ec : cd_improve P t n = 1 := by unfold cd_improve; (try simp only [ek]); (repeat' split) <;> first | rfl | omega | simp_all
      rw [ec]
      exact ⟨_, rfl, rfl, rfl⟩
  · refine am_iload_n d_X_improve_0 rfl rfl ?_
    refine am_iconst (v := nI 0) d_X_improve_1 (by decide) ?_
    refine am_bipush (v := nI 100) d_X_improve_2 (by decide) ?_
    refine am_callF 3 (am_lkS (z := m_X_isWithin) d_X_improve_4 w_248 w_249 w_1 w_250 (by decide) np_X_isWithin) (by decide) (by decide) (Nat.le_of_ble_eq_true rfl) (Nat.le_of_ble_eq_true rfl) (Nat.zero_le _) (Nat.zero_le _) (c_X_isWithin _ _ _ _ _ _) ?_
    refine am_ifZ_ne (tgt := 20) d_X_improve_7 (by decide) (fun c7 => ?_) (fun c7 => ?_)
    · refine am_aload_n d_X_improve_20 rfl rfl ?_
      refine am_callT 1 (am_recvV (z := m_X_demandFreshPlan) rfl d_X_improve_21 w_516 w_518 ws_9 w_519 F_X.1 rfl (by decide) np_X_demandFreshPlan) (by decide) (by decide) (Nat.le_of_ble_eq_true rfl) (Nat.le_of_ble_eq_true rfl) (Nat.le_refl _) (Nat.le_refl _) (am_rm (d := d + 1) (by omega) (c_X_demandFreshPlan_1 hP d bc bs hd hb1 hb2 hp)) ?_
      refine am_thr_out rfl ?_
      have ec : cd_improve P t n = 2 := by unfold cd_improve; (try simp only [ek]); (repeat' split) <;> first | rfl | omega | simp_all
      rw [ec]
      exact ⟨_, rfl, rfl, rfl⟩
    · refine am_throwS (ci := 6) (tx := "no such number of changes") d_X_improve_10 d_X_improve_13 d_X_improve_14 d_X_improve_16 d_X_improve_19 rfl rfl w_251 w_252 w_10 (by decide) oA_6 (by decide +kernel) (by omega) (by omega) (by omega) (Nat.le_of_ble_eq_true rfl) rfl ?_
      have ec : cd_improve P t n = 1 := by unfold cd_improve; (try simp only [ek]); (repeat' split) <;> first | rfl | omega | simp_all
      rw [ec]
      exact ⟨_, rfl, rfl, rfl⟩
theorem ly_j_eqv {S : sh_T} {P : pl_T} {j : Nat} {f g : fl_T} (hS : sh_ok S) (hP : pl_ok P) (hm : ∀ i, i < sh_so S j → pl_ma P (sh_sa S (j * 4 + i)) < sh_mc S) (hF : fl_sm (sh_mc S) f 8000) (he : fl_eqv (sh_mc S) f g) : ∀ n, n ≤ sh_so S j → fl_eqv (sh_mc S) (ly_j S P j f n) (ly_j S P j g n)
  | 0, _ => he
  | n + 1, hn => fl_put_eqv (ly_j_eqv hS hP hm hF he n (by omega)) (ly_j_sm hS hP hm hF n (by omega)).1 _ (hm n (by omega)) _
theorem ly_eqv {S : sh_T} {P : pl_T} {l N : Nat} {f g : fl_T} (hS : sh_ok S) (hP : pl_ok P) (hm : ∀ j i, j < N → i < sh_so S j → pl_ma P (sh_sa S (j * 4 + i)) < sh_mc S) (hF : fl_sm (sh_mc S) f 8000) (he : fl_eqv (sh_mc S) f g) : ∀ n, n ≤ N → fl_eqv (sh_mc S) (ly S P l f n) (ly S P l g n)
  | 0, _ => he
  | n + 1, hn => by
    have h := ly_eqv (l := l) hS hP hm hF he n (by omega)
    unfold ly
    split
    · exact h
    · exact ly_j_eqv hS hP (fun i hi => hm n i (by omega) hi) (ly_sm hS hP hm hF n (by omega)) h _ (Nat.le_refl _)
/-- what PROMISE answers -/
def pr_v (S : sh_T) (P : pl_T) (j : Nat) : Nat := fl_end S j (ly S P j (fl_clear S fl_0) (pl_jb P))
set_option maxRecDepth 20000 in
theorem c_X_promise (hS : sh_ok S) (hk : sh_k S jo) (hP : pl_ok P) (hfr : 0 < pl_jb P → t = false → pl_jb P = sh_jb S ∧ sp_all S (sh_jb S) = true ∧ ∀ s, s < sh_ss S → pl_ma P s < sh_mc S) (d bc bs : Nat) (hd : 6 ≤ d) (hb1 : 1 ≤ bc) (hb2 : 6 ≤ bs) (j : Int32) : am_W G m_X_promise (d + 4) bc bs (fQ [8, 7] (cd_promise S P t j) (hx x t S F R P W) (fun v h' => ∃ i F', j = nI i ∧ i < sh_jb S ∧ 0 < pl_jb P ∧ t = false ∧ v = some (.int (nI (pr_v S P i))) ∧ h' = (hx x t S F' R P W))) 0 (lv_args 0 [.ref 1, .int j]) [] (hx x t S F R P W) := by
  obtain ⟨s1, s2, s3, s4, s5, s6, s7, s8, s9, s10, s11, s12, s13, s14⟩ := id hS
  cases hj : sp_in j (nI 0) (nI (sh_jb S) - nI 1) with
  | false =>
    refine am_aload_n d_X_promise_0 rfl rfl ?_
    refine am_iload_n d_X_promise_1 rfl rfl ?_
    refine am_callT 2 (am_recvV (z := m_X_demandJob) rfl d_X_promise_2 w_389 w_391 ws_1 w_392 F_X.1 rfl (by decide) np_X_demandJob) (by decide) (by decide) (Nat.le_of_ble_eq_true rfl) (Nat.le_of_ble_eq_true rfl) (Nat.le_refl _) (Nat.le_refl _) (am_rm (d := d + 1) (by omega) (c_X_demandJob_1 d bc bs hd hb1 hb2 _ hj)) ?_
    refine am_thr_out rfl ?_
    have ec : cd_promise S P t j = 1 := by unfold cd_promise; (try simp only [ek]); (repeat' split) <;> first | rfl | omega | simp_all
    rw [ec]
    exact ⟨_, rfl, rfl, rfl⟩
  | true =>
    by_cases hp : 0 < pl_jb P ∧ t = false
    · refine am_aload_n d_X_promise_0 rfl rfl ?_
      refine am_iload_n d_X_promise_1 rfl rfl ?_
      refine am_callF 2 (am_recvV (z := m_X_demandJob) rfl d_X_promise_2 w_389 w_391 ws_1 w_392 F_X.1 rfl (by decide) np_X_demandJob) (by decide) (by decide) (Nat.le_of_ble_eq_true rfl) (Nat.le_of_ble_eq_true rfl) (Nat.zero_le _) (Nat.zero_le _) (am_rm (d := 1) (by omega) (c_X_demandJob_0 0 _ _ _ hj)) ?_
      refine am_aload_n d_X_promise_5 rfl rfl ?_
      refine am_callF 1 (am_recvV (z := m_X_demandFreshPlan) rfl d_X_promise_6 w_516 w_518 ws_9 w_519 F_X.1 rfl (by decide) np_X_demandFreshPlan) (by decide) (by decide) (Nat.le_of_ble_eq_true rfl) (Nat.le_of_ble_eq_true rfl) (Nat.zero_le _) (Nat.zero_le _) (am_rm (d := 1) (by omega) (c_X_demandFreshPlan_0 hP 0 _ _ hp)) ?_
      obtain ⟨i, rfl, hi⟩ := sp_ix_t hj (by omega)
      obtain ⟨h1, h2, h3⟩ := hfr hp.1 hp.2
      have hall := sp_all_at h2
      have hm2 : ∀ j, j < pl_jb P → ∀ i, i < sh_so S j → pl_ma P (sh_sa S (j * 4 + i)) < sh_mc S := fun j hj i hi => h3 _ (hk.1 j i (by omega) hi).1
      have hsm0 := fl_sm_mono (fl_clear_sm F hS) (B' := 8000) (by omega)
      have hsm := ly_sm (l := i) hS hP (N := pl_jb P) (fun j i h1 h2 => hm2 j h1 i h2) hsm0 (pl_jb P) (Nat.le_refl _)
      have hev := ly_eqv (l := i) hS hP (N := pl_jb P) (fun j i h1 h2 => hm2 j h1 i h2) hsm0 (fl_clear_eqv hS F fl_0) (pl_jb P) (Nat.le_refl _)
      have hend : fl_end S i (ly S P i (fl_clear S F) (pl_jb P)) = pr_v S P i := (fl_place_eqv hS (hall i hi) hsm hev).2
      refine am_aload_n d_X_promise_9 rfl rfl ?_
      refine am_get F_X 3 (by decide) d_X_promise_10 w_220 rfl rfl ?_
      refine am_iload_n d_X_promise_13 rfl rfl ?_
      refine am_aload_n d_X_promise_14 rfl rfl ?_
      refine am_get F_X 1 (by decide) d_X_promise_15 w_218 rfl rfl ?_
      refine am_callF 3 (am_recvV (z := m_P_layAllBut) rfl d_X_promise_18 w_586 w_587 w_588 w_589 F_P.1 rfl (by decide) np_P_layAllBut) (by decide) (by decide) (Nat.le_of_ble_eq_true rfl) (Nat.le_of_ble_eq_true rfl) (Nat.zero_le _) (Nat.zero_le _) (am_rm (d := 2) (by omega) (c_P_layAllBut hS hP 0 _ _ i (by omega) hm2)) ?_
      refine am_aload_n d_X_promise_21 rfl rfl ?_
      refine am_get F_X 1 (by decide) d_X_promise_22 w_218 rfl rfl ?_
      refine am_iload_n d_X_promise_25 rfl rfl ?_
      refine am_callF 2 (am_recvV (z := m_F_place) rfl d_X_promise_26 w_592 w_450 w_451 w_452 F_F.1 rfl (by decide) np_F_place) (by decide) (by decide) (Nat.le_of_ble_eq_true rfl) (Nat.le_of_ble_eq_true rfl) (Nat.zero_le _) (Nat.zero_le _) (am_rm (d := 3) (by omega) (c_F_place hS 0 _ _ i 8000 (by omega) (hall i hi) hsm (by omega))) ?_
      rw [hend]
      refine am_iret d_X_promise_29 rfl ?_
      have ec : cd_promise S P t (nI i) = 0 := by unfold cd_promise; (try simp only [ek]); (repeat' split) <;> first | rfl | omega | simp_all
      rw [ec]
      exact ⟨_, rfl, i, _, rfl, hi, hp.1, hp.2, rfl, rfl⟩
    · refine am_aload_n d_X_promise_0 rfl rfl ?_
      refine am_iload_n d_X_promise_1 rfl rfl ?_
      refine am_callF 2 (am_recvV (z := m_X_demandJob) rfl d_X_promise_2 w_389 w_391 ws_1 w_392 F_X.1 rfl (by decide) np_X_demandJob) (by decide) (by decide) (Nat.le_of_ble_eq_true rfl) (Nat.le_of_ble_eq_true rfl) (Nat.zero_le _) (Nat.zero_le _) (am_rm (d := 1) (by omega) (c_X_demandJob_0 0 _ _ _ hj)) ?_
      refine am_aload_n d_X_promise_5 rfl rfl ?_
      refine am_callT 1 (am_recvV (z := m_X_demandFreshPlan) rfl d_X_promise_6 w_516 w_518 ws_9 w_519 F_X.1 rfl (by decide) np_X_demandFreshPlan) (by decide) (by decide) (Nat.le_of_ble_eq_true rfl) (Nat.le_of_ble_eq_true rfl) (Nat.le_refl _) (Nat.le_refl _) (am_rm (d := d + 1) (by omega) (c_X_demandFreshPlan_1 hP d bc bs hd hb1 hb2 hp)) ?_
      refine am_thr_out rfl ?_
      have ec : cd_promise S P t j = 2 := by unfold cd_promise; (try simp only [ek]); (repeat' split) <;> first | rfl | omega | simp_all
      rw [ec]
      exact ⟨_, rfl, rfl, rfl⟩
/-- pairs of one lesser job: n left, o the next; s were seen -/
def cl_in (S : sh_T) (k l : Nat) : Nat → Nat → Nat → Nat ⊕ Nat
  | 0, _, s => .inl s
  | n + 1, o, s => if sp_cl S l o = true then if s = k then .inr (8 * l + o) else cl_in S k l n (o + 1) (s + 1) else cl_in S k l n (o + 1) s
def cl_out (S : sh_T) (k : Nat) : Nat → Nat → Nat → Option Nat
  | 0, _, _ => none
  | n + 1, l, s => match cl_in S k l (sh_jb S - (l + 1)) (l + 1) s with
    | .inr v => some v
    | .inl s' => cl_out S k n (l + 1) s'
/-- what CLASH answers -/
def cl_v (S : sh_T) (k : Nat) : Int32 := oI (cl_out S k (sh_jb S) 0 0)
theorem cl_1 {S : sh_T} {k l n o s : Nat} (h : sp_cl S l o = false) : cl_in S k l (n + 1) o s = cl_in S k l n (o + 1) s := if_neg (by rw [h]; decide)
theorem cl_2 {S : sh_T} {k l n o s : Nat} (h : sp_cl S l o = true) (h2 : s ≠ k) : cl_in S k l (n + 1) o s = cl_in S k l n (o + 1) (s + 1) := by rw [cl_in, if_pos h, if_neg h2]
theorem cl_3 {S : sh_T} {k l n o s : Nat} (h : sp_cl S l o = true) (h2 : s = k) : cl_in S k l (n + 1) o s = .inr (8 * l + o) := by rw [cl_in, if_pos h, if_pos h2]
set_option maxRecDepth 20000 in
theorem c_X_clash_i {Q : am_O → am_H → Prop} (hS : sh_ok S) (hall : ∀ j, j < sh_jb S → sp_fits S j = true) (d bc bs k l : Nat) (hk31 : k < 2 ^ 31) (hl : l < sh_jb S) : ∀ (n o s : Nat), o + n = sh_jb S → s ≤ 8 * l + o → ∀ F,
    (∀ F s', cl_in S k l n o s = .inl s' → s' ≤ 8 * l + 8 → am_W G m_X_clash (d + 6) bc bs Q 101 [(0, .ref 1), (1, .int (nI k)), (2, .int (nI s')), (3, .int (nI l))] [] (hx x t S F R P W)) → (∀ v, cl_in S k l n o s = .inr v → ∀ F, Q (.inl (some (.int (nI v)))) (hx x t S F R P W)) →
    am_W G m_X_clash (d + 6) bc bs Q 54 [(0, .ref 1), (1, .int (nI k)), (2, .int (nI s)), (3, .int (nI l)), (4, .int (nI o))] [] (hx x t S F R P W) := by
  intro n
  have s2 := hS.2.1
  induction n with
  | zero =>
    intro o s ho hs F hk hq
    refine am_iload d_X_clash_54 rfl ?_
    refine am_aload_n d_X_clash_56 rfl rfl ?_
    refine am_get F_X 0 (by decide) d_X_clash_57 w_217 rfl rfl ?_
    refine am_get F_S 5 (by decide) d_X_clash_60 w_46 rfl rfl ?_
    refine am_icmpN_ge (tgt := 101) d_X_clash_63 (by decide) (by omega) (by omega) (fun c63 => ?_) (fun c63 => ?_)
    · exact am_lo (L' := [(0, .ref 1), (1, .int (nI k)), (2, .int (nI s)), (3, .int (nI l))]) rfl (hk F s rfl (by omega))
    · exact absurd c63 (by omega)
  | succ n ih =>
    intro o s ho hs F hk hq
    refine am_iload d_X_clash_54 rfl ?_
    refine am_aload_n d_X_clash_56 rfl rfl ?_
    refine am_get F_X 0 (by decide) d_X_clash_57 w_217 rfl rfl ?_
    refine am_get F_S 5 (by decide) d_X_clash_60 w_46 rfl rfl ?_
    refine am_icmpN_ge (tgt := 101) d_X_clash_63 (by decide) (by omega) (by omega) (fun c63 => ?_) (fun c63 => ?_)
    · exact absurd c63 (by omega)
    · refine am_aload_n d_X_clash_66 rfl rfl ?_
      refine am_get F_X 1 (by decide) d_X_clash_67 w_218 rfl rfl ?_
      refine am_iload_n d_X_clash_70 rfl rfl ?_
      refine am_iload d_X_clash_71 rfl ?_
      refine am_callQ 3 (am_recvV (z := m_F_doClash) rfl d_X_clash_73 w_602 w_603 w_604 w_605 F_F.1 rfl (by decide) np_F_doClash) (by decide) (by decide) (Nat.le_of_ble_eq_true rfl) (Nat.le_of_ble_eq_true rfl) (Nat.zero_le _) (Nat.zero_le _) (am_rm (d := 5) (by omega) (c_F_doClash hS 0 _ _ l o (by omega) (by omega) (hall l (by omega)) (hall o (by omega)))) (fun v73 h73 q73 => ?_) (fun x73 h73 q73 => ?_)
      · obtain ⟨F1, q1, rfl⟩ := q73
        cases q1
        refine am_ifZ_eq (tgt := 95) d_X_clash_76 (by decide) (fun c76 => ?_) (fun c76 => ?_)
        · refine am_iinc d_X_clash_95 rfl (am_inc _) (by decide) ?_
          refine am_goto (tgt := 54) d_X_clash_98 (by decide) ?_
          exact am_lo (L' := [(0, .ref 1), (1, .int (nI k)), (2, .int (nI s)), (3, .int (nI l)), (4, .int (nI (o + 1)))]) rfl (ih (o + 1) s (by omega) (by omega) F1 (fun F s2 e => hk F s2 ((cl_1 c76).trans e)) (fun v e => hq v ((cl_1 c76).trans e)))
        · refine am_iload_n d_X_clash_79 rfl rfl ?_
          refine am_iload_n d_X_clash_80 rfl rfl ?_
          refine am_icmpN_ne (tgt := 92) d_X_clash_81 (by decide) (by omega) (by omega) (fun c81 => ?_) (fun c81 => ?_)
          · refine am_iinc d_X_clash_92 rfl (am_inc _) (by decide) ?_
            refine am_iinc d_X_clash_95 rfl (am_inc _) (by decide) ?_
            refine am_goto (tgt := 54) d_X_clash_98 (by decide) ?_
            exact am_lo (L' := [(0, .ref 1), (1, .int (nI k)), (2, .int (nI (s + 1))), (3, .int (nI l)), (4, .int (nI (o + 1)))]) rfl (ih (o + 1) (s + 1) (by omega) (by omega) F1 (fun F s2 e => hk F s2 ((cl_2 c76 c81).trans e)) (fun v e => hq v ((cl_2 c76 c81).trans e)))
          · refine am_bipush (v := nI 8) d_X_clash_84 (by decide) ?_
            refine am_iload_n d_X_clash_86 rfl rfl ?_
            refine am_imulN d_X_clash_87 ?_
            refine am_iload d_X_clash_88 rfl ?_
            refine am_iaddN d_X_clash_90 ?_
            refine am_iret d_X_clash_91 rfl ?_
            exact hq _ (cl_3 c76 c81) F1
      · obtain ⟨F1, q1, -⟩ := q73
        cases q1
theorem cl_o1 {S : sh_T} {k n l s s' : Nat} (h : cl_in S k l (sh_jb S - (l + 1)) (l + 1) s = .inl s') : cl_out S k (n + 1) l s = cl_out S k n (l + 1) s' := by rw [cl_out, h]
theorem cl_o2 {S : sh_T} {k n l s v : Nat} (h : cl_in S k l (sh_jb S - (l + 1)) (l + 1) s = .inr v) : cl_out S k (n + 1) l s = some v := by rw [cl_out, h]
set_option maxRecDepth 20000 in
theorem c_X_clash_o {Q : am_O → am_H → Prop} (hS : sh_ok S) (hall : ∀ j, j < sh_jb S → sp_fits S j = true) (d bc bs k : Nat) (hk31 : k < 2 ^ 31) : ∀ (m l s : Nat), l + m = sh_jb S → s ≤ 8 * l → ∀ F,
    (∀ F, Q (.inl (some (.int (oI (cl_out S k m l s))))) (hx x t S F R P W)) → am_W G m_X_clash (d + 6) bc bs Q 38 [(0, .ref 1), (1, .int (nI k)), (2, .int (nI s)), (3, .int (nI l))] [] (hx x t S F R P W) := by
  intro m
  have s2 := hS.2.1
  induction m with
  | zero =>
    intro l s hl hs F hq
    refine am_iload_n d_X_clash_38 rfl rfl ?_
    refine am_aload_n d_X_clash_39 rfl rfl ?_
    refine am_get F_X 0 (by decide) d_X_clash_40 w_217 rfl rfl ?_
    refine am_get F_S 5 (by decide) d_X_clash_43 w_46 rfl rfl ?_
    refine am_icmpN_ge (tgt := 107) d_X_clash_46 (by decide) (by omega) (by omega) (fun c46 => ?_) (fun c46 => ?_)
    · refine am_iconst (v := -1) d_X_clash_107 (by decide) ?_
      refine am_iret d_X_clash_108 rfl ?_
      exact hq F
    · exact absurd c46 (by omega)
  | succ m ih =>
    intro l s hl hs F hq
    refine am_iload_n d_X_clash_38 rfl rfl ?_
    refine am_aload_n d_X_clash_39 rfl rfl ?_
    refine am_get F_X 0 (by decide) d_X_clash_40 w_217 rfl rfl ?_
    refine am_get F_S 5 (by decide) d_X_clash_43 w_46 rfl rfl ?_
    refine am_icmpN_ge (tgt := 107) d_X_clash_46 (by decide) (by omega) (by omega) (fun c46 => ?_) (fun c46 => ?_)
    · exact absurd c46 (by omega)
    · refine am_iload_n d_X_clash_49 rfl rfl ?_
      refine am_iconst (v := nI 1) d_X_clash_50 (by decide) ?_
      refine am_iaddN d_X_clash_51 ?_
      refine am_istore d_X_clash_52 (by decide) ?_
      refine am_lo (L' := [(0, .ref 1), (1, .int (nI k)), (2, .int (nI s)), (3, .int (nI l)), (4, .int (nI (l + 1)))]) rfl (c_X_clash_i hS hall d bc bs k l hk31 (by omega) (sh_jb S - (l + 1)) (l + 1) s (by omega) (by omega) F (fun F2 s' e hs2 => ?_) (fun v e F2 => ?_))
      · refine am_iinc d_X_clash_101 rfl (am_inc _) (by decide) ?_
        refine am_goto (tgt := 38) d_X_clash_104 (by decide) ?_
        exact am_lo (L' := [(0, .ref 1), (1, .int (nI k)), (2, .int (nI s')), (3, .int (nI (l + 1)))]) rfl (ih (l + 1) s' (by omega) (by omega) F2 (fun F => by have h := hq F; rw [cl_o1 e] at h; exact h))
      · have h := hq F2
        rw [cl_o2 e] at h
        exact h
set_option maxRecDepth 20000 in
theorem c_X_clash (hS : sh_ok S) (d bc bs : Nat) (hd : 6 ≤ d) (hb1 : 1 ≤ bc) (hb2 : 6 ≤ bs) (k : Int32) : am_W G m_X_clash (d + 6) bc bs (fQ [6, 7] (cd_clash S k) (hx x t S F R P W) (fun v h' => ∃ i F', k = nI i ∧ i < 2 ^ 31 ∧ sp_all S (sh_jb S) = true ∧ v = some (.int (cl_v S i)) ∧ h' = (hx x t S F' R P W))) 0 (lv_args 0 [.ref 1, .int k]) [] (hx x t S F R P W) := by
  obtain ⟨s1, s2, s3, s4, s5, s6, s7, s8, s9, s10, s11, s12, s13, s14⟩ := id hS
  refine am_iload_n d_X_clash_0 rfl rfl ?_
  refine am_if_ge (tgt := 14) d_X_clash_1 (by decide) (fun c1 => ?_) (fun c1 => ?_)
  · have hk0 : ¬ k < 0 := fun q => by rw [Int32.lt_iff_toInt_lt] at q; rw [Int32.le_iff_toInt_le] at c1; omega
    refine am_aload_n d_X_clash_14 rfl rfl ?_
    refine am_get F_X 0 (by decide) d_X_clash_15 w_217 rfl rfl ?_
    refine am_callF 1 (am_recvV (z := m_S_allFit) rfl d_X_clash_18 w_420 w_421 w_422 w_423 F_S.1 rfl (by decide) np_S_allFit) (by decide) (by decide) (Nat.le_of_ble_eq_true rfl) (Nat.le_of_ble_eq_true rfl) (Nat.zero_le _) (Nat.zero_le _) (am_rm (d := 2) (by omega) (c_S_allFit hS 0 _ _)) ?_
    refine am_ifZ_ne (tgt := 34) d_X_clash_21 (by decide) (fun c21 => ?_) (fun c21 => ?_)
    · obtain ⟨i, hi, rfl⟩ := nI_of hk0
      have ec : cd_clash S (nI i) = 0 := by unfold cd_clash; rw [if_neg hk0, if_pos c21]
      rw [ec]
      refine am_iconst (v := nI 0) d_X_clash_34 (by decide) ?_
      refine am_istore_n d_X_clash_35 rfl (by decide) ?_
      refine am_iconst (v := nI 0) d_X_clash_36 (by decide) ?_
      refine am_istore_n d_X_clash_37 rfl (by decide) ?_
      exact am_lo (L' := [(0, .ref 1), (1, .int (nI i)), (2, .int (nI 0)), (3, .int (nI 0))]) rfl (c_X_clash_o hS (sp_all_at c21) d bc bs i hi (sh_jb S) 0 0 (by omega) (by omega) F (fun F2 => ⟨_, rfl, i, F2, rfl, hi, c21, rfl, rfl⟩))
    · refine am_throwS (ci := 7) (tx := "a job does not fit") d_X_clash_24 d_X_clash_27 d_X_clash_28 d_X_clash_30 d_X_clash_33 rfl rfl w_319 w_320 w_11 (by decide) oA_7 (by decide +kernel) (by omega) (by omega) (by omega) (Nat.le_of_ble_eq_true rfl) rfl ?_
      have ec : cd_clash S k = 2 := by unfold cd_clash; rw [if_neg hk0, if_neg (by rw [c21]; decide)]
      rw [ec]
      exact ⟨_, rfl, rfl, rfl⟩
  · refine am_throwS (ci := 6) (tx := "no such clash") d_X_clash_4 d_X_clash_7 d_X_clash_8 d_X_clash_10 d_X_clash_13 rfl rfl w_251 w_252 w_10 (by decide) oA_6 (by decide +kernel) (by omega) (by omega) (by omega) (Nat.le_of_ble_eq_true rfl) rfl ?_
    have ec : cd_clash S k = 1 := if_pos (i_nle c1)
    rw [ec]
    exact ⟨_, rfl, rfl, rfl⟩
/-- the first of n numbers that f says -/
def fs (f : Nat → Bool) : Nat → Option Nat
  | 0 => none
  | n + 1 => match fs f n with
    | some s => some s
    | none => if f n = true then some n else none
theorem fs_no {f : Nat → Bool} {n : Nat} (h : fs f n = none) (hf : f n = false) : fs f (n + 1) = none := by rw [fs, h]; exact if_neg (by rw [hf]; decide)
theorem fs_hit {f : Nat → Bool} {i : Nat} (h : fs f i = none) (hf : f i = true) : ∀ n, i < n → fs f n = some i
  | 0, hn => absurd hn (Nat.not_lt_zero i)
  | n + 1, hn => by
    rcases Nat.lt_or_ge i n with q | q
    · rw [fs, fs_hit h hf n q]
    · have e : i = n := by omega
      subst e
      rw [fs, h]
      exact if_pos hf
theorem fs_congr {f g : Nat → Bool} : ∀ {n}, (∀ s, s < n → f s = g s) → fs f n = fs g n
  | 0, _ => rfl
  | n + 1, h => by
    unfold fs
    rw [fs_congr (fun s hs => h s (by omega)), h n (by omega)]
theorem fs_none {f : Nat → Bool} : ∀ {n}, fs f n = none → ∀ s, s < n → f s = false
  | 0, _, s, h => absurd h (Nat.not_lt_zero s)
  | n + 1, e, s, h => by
    cases hq : fs f n with
    | some q => rw [fs, hq] at e; cases e
    | none =>
      rcases Nat.lt_or_ge s n with w | w
      · exact fs_none hq s w
      · have e2 : s = n := by omega
        subst e2
        cases hf : f s with
        | false => rfl
        | true => rw [fs_hit hq hf (s + 1) (by omega)] at e; cases e
/-- the rules from r on, n of them -/
def ck_r (S : sh_T) (P : pl_T) (ob : Nat → Option Nat) : Nat → Nat → Option Nat
  | 0, _ => none
  | n + 1, r => match fs (fun s => sp_br S P (ob s) s r) (sh_ss S) with
    | some s => some (100 * r + s)
    | none => ck_r S P ob n (r + 1)
def ck_l (S : sh_T) (P : pl_T) : Option Nat := fs (fun j => decide (sh_du S j < sp_ed S P j)) (sh_jb S)
/-- what CHECK answers -/
def ck_v (S : sh_T) (P : pl_T) (ob : Nat → Option Nat) : Nat := match ck_r S P ob 4 1 with
  | some v => v
  | none => match ck_l S P with
    | some j => 500 + j
    | none => 0
theorem ck_r1 {S : sh_T} {P : pl_T} {ob : Nat → Option Nat} {n r s : Nat} (h : fs (fun s => sp_br S P (ob s) s r) (sh_ss S) = some s) : ck_r S P ob (n + 1) r = some (100 * r + s) := by rw [ck_r, h]
theorem ck_r0 {S : sh_T} {P : pl_T} {ob : Nat → Option Nat} {n r : Nat} (h : fs (fun s => sp_br S P (ob s) s r) (sh_ss S) = none) : ck_r S P ob (n + 1) r = ck_r S P ob n (r + 1) := by rw [ck_r, h]
set_option maxRecDepth 20000 in
theorem c_X_check_i {Q : am_O → am_H → Prop} (hS : sh_ok S) (hP : pl_ok P) (ob : Nat → Option Nat) (hob : ∀ s, s < sh_ss S → sh_sb S s = oI (ob s) ∧ ∀ b, ob s = some b → b < 24) (d bc bs r : Nat) (h1 : 1 ≤ r) (h4 : r ≤ 4)
    (hk : fs (fun s => sp_br S P (ob s) s r) (sh_ss S) = none → am_W G m_X_check (d + 3) bc bs Q 49 [(0, .ref 1), (1, .int (nI r))] [] (hx x t S F R P W)) (hq : ∀ s, fs (fun s => sp_br S P (ob s) s r) (sh_ss S) = some s → Q (.inl (some (.int (nI (100 * r + s))))) (hx x t S F R P W)) : ∀ (n i : Nat), i ≤ sh_ss S → sh_ss S - i < n → fs (fun s => sp_br S P (ob s) s r) i = none →
    am_W G m_X_check (d + 3) bc bs Q 13 [(0, .ref 1), (1, .int (nI r)), (2, .int (nI i))] [] (hx x t S F R P W) := by
  intro n
  have s3 := hS.2.2.1
  induction n with
  | zero => intro i _ h; omega
  | succ n ih =>
    intro i hi hn hno
    refine am_iload_n d_X_check_13 rfl rfl ?_
    refine am_aload_n d_X_check_14 rfl rfl ?_
    refine am_get F_X 0 (by decide) d_X_check_15 w_217 rfl rfl ?_
    refine am_get F_S 10 (by decide) d_X_check_18 w_60 rfl rfl ?_
    refine am_icmpN_ge (tgt := 49) d_X_check_21 (by decide) (by omega) (by omega) (fun c21 => ?_) (fun c21 => ?_)
    · have e : i = sh_ss S := by omega
      subst e
      exact am_lo (L' := [(0, .ref 1), (1, .int (nI r))]) rfl (hk hno)
    · refine am_aload_n d_X_check_24 rfl rfl ?_
      refine am_get F_X 3 (by decide) d_X_check_25 w_220 rfl rfl ?_
      refine am_iload_n d_X_check_28 rfl rfl ?_
      refine am_iload_n d_X_check_29 rfl rfl ?_
      refine am_callF 3 (am_recvV (z := m_P_breaks) rfl d_X_check_30 w_618 w_619 w_620 w_621 F_P.1 rfl (by decide) np_P_breaks) (by decide) (by decide) (Nat.le_of_ble_eq_true rfl) (Nat.le_of_ble_eq_true rfl) (Nat.zero_le _) (Nat.zero_le _) (am_rm (d := 2) (by omega) (c_P_breaks hS hP 0 _ _ r i h1 h4 (by omega) (ob i) (hob i (by omega)).1 (hob i (by omega)).2)) ?_
      refine am_ifZ_eq (tgt := 43) d_X_check_33 (by decide) (fun c33 => ?_) (fun c33 => ?_)
      · refine am_iinc d_X_check_43 rfl (am_inc _) (by decide) ?_
        refine am_goto (tgt := 13) d_X_check_46 (by decide) ?_
        exact am_lo (L' := [(0, .ref 1), (1, .int (nI r)), (2, .int (nI (i + 1)))]) rfl (ih (i + 1) (by omega) (by omega) (fs_no hno c33))
      · refine am_bipush (v := nI 100) d_X_check_36 (by decide) ?_
        refine am_iload_n d_X_check_38 rfl rfl ?_
        refine am_imulN d_X_check_39 ?_
        refine am_iload_n d_X_check_40 rfl rfl ?_
        refine am_iaddN d_X_check_41 ?_
        refine am_iret d_X_check_42 rfl ?_
        exact hq i (fs_hit hno c33 _ (by omega))
theorem sp_ed_bd (hS : sh_ok S) (hP : pl_ok P) (j : Nat) : sp_ed S P j ≤ 7100 := by
  unfold sp_ed
  split
  · omega
  · split
    · have h1 := hP.2.2.2.2.1 (sh_sa S (j * 4 + sh_so S j - 1))
      have h2 := hS.2.2.2.2.2.2.2.2.2.2.2.2.1 (sh_sa S (j * 4 + sh_so S j - 1))
      omega
    · omega
set_option maxRecDepth 20000 in
theorem c_X_check_l {Q : am_O → am_H → Prop} (hS : sh_ok S) (hP : pl_ok P) (d bc bs : Nat)
    (hk : ck_l S P = none → Q (.inl (some (.int (nI 0)))) (hx x t S F R P W)) (hq : ∀ j, ck_l S P = some j → Q (.inl (some (.int (nI (500 + j))))) (hx x t S F R P W)) : ∀ (n i : Nat), i ≤ sh_jb S → sh_jb S - i < n → fs (fun j => decide (sh_du S j < sp_ed S P j)) i = none →
    am_W G m_X_check (d + 3) bc bs Q 57 [(0, .ref 1), (1, .int (nI i))] [] (hx x t S F R P W) := by
  intro n
  have s2 := hS.2.1
  induction n with
  | zero => intro i _ h; omega
  | succ n ih =>
    intro i hi hn hno
    have hed := sp_ed_bd hS hP i
    have t8 := hS.2.2.2.2.2.2.2.1 i
    refine am_iload_n d_X_check_57 rfl rfl ?_
    refine am_aload_n d_X_check_58 rfl rfl ?_
    refine am_get F_X 0 (by decide) d_X_check_59 w_217 rfl rfl ?_
    refine am_get F_S 5 (by decide) d_X_check_62 w_46 rfl rfl ?_
    refine am_icmpN_ge (tgt := 100) d_X_check_65 (by decide) (by omega) (by omega) (fun c65 => ?_) (fun c65 => ?_)
    · refine am_iconst (v := nI 0) d_X_check_100 (by decide) ?_
      refine am_iret d_X_check_101 rfl ?_
      have e : i = sh_jb S := by omega
      subst e
      exact hk hno
    · refine am_aload_n d_X_check_68 rfl rfl ?_
      refine am_get F_X 3 (by decide) d_X_check_69 w_220 rfl rfl ?_
      refine am_iload_n d_X_check_72 rfl rfl ?_
      refine am_callF 2 (am_recvV (z := m_P_endOf) rfl d_X_check_73 w_639 w_640 w_641 w_642 F_P.1 rfl (by decide) np_P_endOf) (by decide) (by decide) (Nat.le_of_ble_eq_true rfl) (Nat.le_of_ble_eq_true rfl) (Nat.zero_le _) (Nat.zero_le _) (am_rm (d := 1) (by omega) (c_P_endOf hS hP 0 _ _ i (by omega))) ?_
      refine am_aload_n d_X_check_76 rfl rfl ?_
      refine am_get F_X 0 (by decide) d_X_check_77 w_217 rfl rfl ?_
      refine am_get F_S 6 (by decide) d_X_check_80 w_49 rfl rfl ?_
      refine am_iload_n d_X_check_83 rfl rfl ?_
      refine am_ialdA d_X_check_84 rfl (by omega) (by decide) ?_
      refine am_icmpN_le (tgt := 94) d_X_check_85 (by decide) (by omega) (by omega) (fun c85 => ?_) (fun c85 => ?_)
      · refine am_iinc d_X_check_94 rfl (am_inc _) (by decide) ?_
        refine am_goto (tgt := 57) d_X_check_97 (by decide) ?_
        exact am_lo (L' := [(0, .ref 1), (1, .int (nI (i + 1)))]) rfl (ih (i + 1) (by omega) (by omega) (fs_no hno (decide_eq_false (by omega))))
      · refine am_sipush (v := nI 500) d_X_check_88 (by decide) ?_
        refine am_iload_n d_X_check_91 rfl rfl ?_
        refine am_iaddN d_X_check_92 ?_
        refine am_iret d_X_check_93 rfl ?_
        exact hq i (fs_hit hno (decide_eq_true (by omega)) _ (by omega))
set_option maxRecDepth 20000 in
theorem c_X_check_r {Q : am_O → am_H → Prop} (hS : sh_ok S) (hP : pl_ok P) (ob : Nat → Option Nat) (hob : ∀ s, s < sh_ss S → sh_sb S s = oI (ob s) ∧ ∀ b, ob s = some b → b < 24) (d bc bs : Nat) : ∀ (n r : Nat), 1 ≤ r → r + n = 5 →
    (ck_r S P ob n r = none → am_W G m_X_check (d + 3) bc bs Q 55 [(0, .ref 1), (1, .int (nI 5))] [] (hx x t S F R P W)) → (∀ v, ck_r S P ob n r = some v → Q (.inl (some (.int (nI v)))) (hx x t S F R P W)) →
    am_W G m_X_check (d + 3) bc bs Q 6 [(0, .ref 1), (1, .int (nI r))] [] (hx x t S F R P W) := by
  intro n
  have s3 := hS.2.2.1
  induction n with
  | zero =>
    intro r h1 hr hk hq
    have e5 : r = 5 := by omega
    subst e5
    refine am_iload_n d_X_check_6 rfl rfl ?_
    refine am_iconst (v := nI 4) d_X_check_7 (by decide) ?_
    refine am_icmpN_gt (tgt := 55) d_X_check_8 (by decide) (by omega) (by omega) (fun c8 => ?_) (fun c8 => ?_)
    · exact am_lo (L' := [(0, .ref 1), (1, .int (nI 5))]) rfl (hk rfl)
    · exact absurd c8 (by omega)
  | succ n ih =>
    intro r h1 hr hk hq
    refine am_iload_n d_X_check_6 rfl rfl ?_
    refine am_iconst (v := nI 4) d_X_check_7 (by decide) ?_
    refine am_icmpN_gt (tgt := 55) d_X_check_8 (by decide) (by omega) (by omega) (fun c8 => ?_) (fun c8 => ?_)
    · exact absurd c8 (by omega)
    · refine am_iconst (v := nI 0) d_X_check_11 (by decide) ?_
      refine am_istore_n d_X_check_12 rfl (by decide) ?_
      refine am_lo (L' := [(0, .ref 1), (1, .int (nI r)), (2, .int (nI 0))]) rfl (c_X_check_i hS hP ob hob d bc bs r (by omega) (by omega) (fun e => ?_) (fun s e => hq _ (ck_r1 e)) (sh_ss S + 1) 0 (Nat.zero_le _) (by omega) rfl)
      refine am_iinc d_X_check_49 rfl (am_inc _) (by decide) ?_
      refine am_goto (tgt := 6) d_X_check_52 (by decide) ?_
      exact am_lo (L' := [(0, .ref 1), (1, .int (nI (r + 1)))]) rfl (ih (r + 1) (by omega) (by omega) (fun e2 => hk ((ck_r0 e).trans e2)) (fun v e2 => hq v ((ck_r0 e).trans e2)))
set_option maxRecDepth 20000 in
theorem c_X_check (hS : sh_ok S) (hP : pl_ok P) (d bc bs : Nat) (hd : 6 ≤ d) (hb1 : 1 ≤ bc) (hb2 : 6 ≤ bs) (ob : Nat → Option Nat) (hob : ∀ s, s < sh_ss S → sh_sb S s = oI (ob s) ∧ ∀ b, ob s = some b → b < 24) : am_W G m_X_check (d + 3) bc bs (fQ [7] (cd_check P) (hx x t S F R P W) (fun v h' => v = some (.int (nI (ck_v S P ob))) ∧ h' = (hx x t S F R P W))) 0 (lv_args 0 [.ref 1]) [] (hx x t S F R P W) := by
  obtain ⟨s1, s2, s3, s4, s5, s6, s7, s8, s9, s10, s11, s12, s13, s14⟩ := id hS
  rcases Nat.eq_zero_or_pos (pl_jb P) with hp | hp
  · refine am_aload_n d_X_check_0 rfl rfl ?_
    refine am_callT 1 (am_recvV (z := m_X_demandPlan) rfl d_X_check_1 w_547 w_549 ws_12 w_550 F_X.1 rfl (by decide) np_X_demandPlan) (by decide) (by decide) (Nat.le_of_ble_eq_true rfl) (Nat.le_of_ble_eq_true rfl) (Nat.le_refl _) (Nat.le_refl _) (am_rm (d := d + 1) (by omega) (c_X_demandPlan_1 hP d bc bs hd hb1 hb2 hp)) ?_
    refine am_thr_out rfl ?_
    have ec : cd_check P = 1 := by unfold cd_check; (try simp only [ek]); (repeat' split) <;> first | rfl | omega | simp_all
    rw [ec]
    exact ⟨_, rfl, rfl, rfl⟩
  · have ec : cd_check P = 0 := if_pos hp
    rw [ec]
    refine am_aload_n d_X_check_0 rfl rfl ?_
    refine am_callF 1 (am_recvV (z := m_X_demandPlan) rfl d_X_check_1 w_547 w_549 ws_12 w_550 F_X.1 rfl (by decide) np_X_demandPlan) (by decide) (by decide) (Nat.le_of_ble_eq_true rfl) (Nat.le_of_ble_eq_true rfl) (Nat.zero_le _) (Nat.zero_le _) (am_rm (d := 1) (by omega) (c_X_demandPlan_0 hP 0 _ _ hp)) ?_
    refine am_iconst (v := nI 1) d_X_check_4 (by decide) ?_
    refine am_istore_n d_X_check_5 rfl (by decide) ?_
    refine am_lo (L' := [(0, .ref 1), (1, .int (nI 1))]) rfl (c_X_check_r hS hP ob hob d bc bs 4 1 (by omega) (by omega) (fun e => ?_) (fun v e => ⟨_, rfl, by unfold ck_v; rw [e], rfl⟩))
    refine am_iconst (v := nI 0) d_X_check_55 (by decide) ?_
    refine am_istore_n d_X_check_56 rfl (by decide) ?_
    exact am_lo (L' := [(0, .ref 1), (1, .int (nI 0))]) rfl (c_X_check_l hS hP d bc bs (fun e2 => ⟨_, rfl, by unfold ck_v; rw [e, e2], rfl⟩) (fun j e2 => ⟨_, rfl, by unfold ck_v; rw [e, e2], rfl⟩) (sh_jb S + 1) 0 (Nat.zero_le _) (by omega) rfl)
end CXB
