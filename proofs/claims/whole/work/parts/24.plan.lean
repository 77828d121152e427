/-! the plan: contracts -/
section CPA
variable {G : am_G} {x : Int64} {t : Bool} {S : sh_T} {F : fl_T} {R : se_T} {P : pl_T} {W : am_H} {jo : Nat → Nat}
/-- the plan's numbers -/
def pl_ok (P : pl_T) : Prop := pl_jb P ≤ 6 ∧ pl_ss P ≤ 24 ∧ pl_co P ≤ 4080000 ∧ (∀ k, pl_ja P k < 6) ∧ (∀ s, pl_bg P s ≤ 7000) ∧ (∀ s, pl_ma P s < 6)
def sp_hs (P : pl_T) (v : Int32) : Bool := decide (¬ v < 0) && decide (¬ nI (pl_ss P) ≤ v)
theorem sp_hs_N {P : pl_T} {s : Nat} (hP : pl_ok P) (hs : s < 2 ^ 31) : sp_hs P (nI s) = decide (s < pl_ss P) := by
  have h1 : ¬ nI s < 0 := nI_pos hs
  have h2 := nI_leI (a := pl_ss P) (b := s) (by have := hP.2.1; omega) hs
  unfold sp_hs
  rw [decide_eq_true h1, Bool.true_and]
  by_cases h : s < pl_ss P
  · rw [decide_eq_true h, decide_eq_true (show ¬ nI (pl_ss P) ≤ nI s from fun q => by have := h2.mp q; omega)]
  · rw [decide_eq_false h, decide_eq_false (show ¬ ¬ nI (pl_ss P) ≤ nI s from fun q => q (h2.mpr (by omega)))]
theorem sp_hs_1 {P : pl_T} {v : Int32} (h : v < 0) : sp_hs P v = false := by
  unfold sp_hs
  rw [decide_eq_false (show ¬ ¬ v < 0 from fun q => q h), Bool.false_and]
theorem sp_hs_2 {P : pl_T} {v : Int32} (h : nI (pl_ss P) ≤ v) : sp_hs P v = false := by
  unfold sp_hs
  rw [decide_eq_false (show ¬ ¬ nI (pl_ss P) ≤ v from fun q => q h), Bool.and_false]
theorem sp_hs_3 {P : pl_T} {v : Int32} (h : ¬ v < 0) (h2 : ¬ nI (pl_ss P) ≤ v) : sp_hs P v = true := by
  unfold sp_hs
  rw [decide_eq_true h, decide_eq_true h2]
  rfl
theorem sp_hs_m {P : pl_T} : sp_hs P (-1) = false := by
  unfold sp_hs
  rw [decide_eq_false (by decide), Bool.false_and]
theorem c_P_exists (hP : pl_ok P) (d bc bs : Nat) : am_Fn G m_P_exists d bc bs [.ref 26] (hx x t S F R P W) (some (.int (zI (decide (0 < pl_jb P))))) (hx x t S F R P W) := by
  obtain ⟨p1, p2, p3, p4, p5, p6⟩ := id hP
  refine am_aload_n d_P_exists_0 rfl rfl ?_
  refine am_get F_P 4 (by decide) d_P_exists_1 w_185 rfl rfl ?_
  refine am_ifN_le (tgt := 11) d_P_exists_4 (by decide) (by omega) (fun c4 => ?_) (fun c4 => ?_)
  · refine am_iconst (v := nI 0) d_P_exists_11 (by decide) ?_
    refine am_zret d_P_exists_12 rfl (by decide) ?_
    first
      | exact ⟨by rw [decide_eq_false (show ¬ 0 < pl_jb P by omega), zI_f], rfl⟩
      | exact ⟨by rw [decide_eq_true (show 0 < pl_jb P by omega), zI_t], rfl⟩
  · refine am_iconst (v := nI 1) d_P_exists_7 (by decide) ?_
    refine am_goto (tgt := 12) d_P_exists_8 (by decide) ?_
    refine am_zret d_P_exists_12 rfl (by decide) ?_
    first
      | exact ⟨by rw [decide_eq_false (show ¬ 0 < pl_jb P by omega), zI_f], rfl⟩
      | exact ⟨by rw [decide_eq_true (show 0 < pl_jb P by omega), zI_t], rfl⟩
theorem c_P_has (d bc bs : Nat) (v : Int32) : am_Fn G m_P_has d bc bs [.ref 26, .int v] (hx x t S F R P W) (some (.int (zI (sp_hs P v)))) (hx x t S F R P W) := by
  refine am_iload_n d_P_has_0 rfl rfl ?_
  refine am_if_lt (tgt := 16) d_P_has_1 (by decide) (fun c1 => ?_) (fun c1 => ?_)
  · refine am_iconst (v := nI 0) d_P_has_16 (by decide) ?_
    refine am_zret d_P_has_17 rfl (by decide) ?_
    exact ⟨by rw [sp_hs_1 c1, zI_f], rfl⟩
  · refine am_iload_n d_P_has_4 rfl rfl ?_
    refine am_aload_n d_P_has_5 rfl rfl ?_
    refine am_get F_P 5 (by decide) d_P_has_6 w_187 rfl rfl ?_
    refine am_icmp_ge (tgt := 16) d_P_has_9 (by decide) (fun c9 => ?_) (fun c9 => ?_)
    · refine am_iconst (v := nI 0) d_P_has_16 (by decide) ?_
      refine am_zret d_P_has_17 rfl (by decide) ?_
      exact ⟨by rw [sp_hs_2 c9, zI_f], rfl⟩
    · refine am_iconst (v := nI 1) d_P_has_12 (by decide) ?_
      refine am_goto (tgt := 17) d_P_has_13 (by decide) ?_
      refine am_zret d_P_has_17 rfl (by decide) ?_
      exact ⟨by rw [sp_hs_3 c1 c9, zI_t], rfl⟩
/-- the first n of f over g -/
def tk_u (f g : Nat → Nat) : Nat → Nat → Nat
  | 0 => g
  | n + 1 => nu (tk_u f g n) n (f n)
theorem tk_u_ge {f g : Nat → Nat} : ∀ {n k}, n ≤ k → tk_u f g n k = g k
  | 0, _, _ => rfl
  | n + 1, k, h => by
    unfold tk_u
    rw [nu_ne _ _ (by omega)]
    exact tk_u_ge (by omega)
theorem tk_u_lt {f g : Nat → Nat} : ∀ {n k}, k < n → tk_u f g n k = f k
  | 0, k, h => absurd h (Nat.not_lt_zero k)
  | n + 1, k, h => by
    unfold tk_u
    by_cases e : k = n
    · subst e; exact nu_eq _ _ _
    · rw [nu_ne _ _ e]; exact tk_u_lt (by omega)
/-- how many of the first n steps lie otherwise than before, or are new -/
def tk_m (P : pl_T) (f : fl_T) : Nat → Nat
  | 0 => 0
  | n + 1 => tk_m P f n + if n < pl_ss P ∧ pl_bg P n = fl_bg f n ∧ pl_ma P n = fl_ma f n then 0 else 1
theorem tk_m_1 {P : pl_T} {f : fl_T} {n : Nat} (h : ¬ (n < pl_ss P ∧ pl_bg P n = fl_bg f n ∧ pl_ma P n = fl_ma f n)) : tk_m P f (n + 1) = tk_m P f n + 1 := by
  rw [tk_m, if_neg h]
theorem tk_m_0 {P : pl_T} {f : fl_T} {n : Nat} (h : n < pl_ss P ∧ pl_bg P n = fl_bg f n ∧ pl_ma P n = fl_ma f n) : tk_m P f (n + 1) = tk_m P f n := by
  rw [tk_m, if_pos h]
  rfl
abbrev ptk (P : pl_T) (f : fl_T) (c n : Nat) : pl_T := (pl_jb P, pl_ss P, c, pl_bo P, pl_no P, tk_m P f n, pl_ja P, tk_u (fl_bg f) (pl_bg P) n, tk_u (fl_ma f) (pl_ma P) n)
/-- the plan of an order g, the floor being f when all its jobs are placed -/
def pl_take (S : sh_T) (g : Nat → Nat) (f : fl_T) (P : pl_T) : pl_T := (sh_jb S, sh_ss S, sp_co S g (sh_jb S), pl_bo P, pl_no P, tk_m P f (sh_ss S), va_cpy g (pl_ja P) 0 0 6, tk_u (fl_bg f) (pl_bg P) (sh_ss S), tk_u (fl_ma f) (pl_ma P) (sh_ss S))
set_option maxRecDepth 20000 in
theorem c_P_takeR_l {Q : am_O → am_H → Prop} (hS : sh_ok S) (hP : pl_ok P) (d bc bs c : Nat) (hc : c ≤ 4080000) (hb : ∀ s, s < sh_ss S → fl_bg F s ≤ 7000 ∧ fl_ma F s < 6) (hk : am_W G m_P_take (d + 1) bc bs Q 112 [(0, .ref 26), (1, .ref 25), (2, .ref 15), (3, .int (nI (sh_ss S)))] [] (hx x t S F R (ptk P F c (sh_ss S)) W)) : ∀ (n i : Nat), i ≤ sh_ss S → sh_ss S - i < n →
    am_W G m_P_take (d + 1) bc bs Q 23 [(0, .ref 26), (1, .ref 25), (2, .ref 15), (3, .int (nI i))] [] (hx x t S F R (ptk P F c i) W) := by
  intro n
  obtain ⟨p1, p2, p3, p4, p5, p6⟩ := id hP
  have s3 := hS.2.2.1
  induction n with
  | zero => intro i _ h; omega
  | succ n ih =>
    intro i hi hn
    have u1 : pl_bg (ptk P F c i) i = pl_bg P i := tk_u_ge (Nat.le_refl _)
    have u2 : pl_ma (ptk P F c i) i = pl_ma P i := tk_u_ge (Nat.le_refl _)
    have u3 : pl_ss (ptk P F c i) = pl_ss P := rfl
    have v1 := p5 i
    have v2 := p6 i
    have hbi := hb i
    have q5 : ∀ s, pl_bg (ptk P F c i) s ≤ 7000 := fun s => by
      rcases Nat.lt_or_ge s i with q | q
      · exact Nat.le_trans (Nat.le_of_eq (tk_u_lt q)) (hb s (by omega)).1
      · exact Nat.le_trans (Nat.le_of_eq (tk_u_ge q)) (p5 s)
    have q6 : ∀ s, pl_ma (ptk P F c i) s < 6 := fun s => by
      rcases Nat.lt_or_ge s i with q | q
      · exact Nat.lt_of_le_of_lt (Nat.le_of_eq (tk_u_lt q)) (hb s (by omega)).2
      · exact Nat.lt_of_le_of_lt (Nat.le_of_eq (tk_u_ge q)) (p6 s)
    refine am_iload_n d_P_take_23 rfl rfl ?_
    refine am_aload_n d_P_take_24 rfl rfl ?_
    refine am_get F_P 0 (by decide) d_P_take_25 w_178 rfl rfl ?_
    refine am_get F_S 10 (by decide) d_P_take_28 w_59 rfl rfl ?_
    refine am_icmpN_ge (tgt := 112) d_P_take_31 (by decide) (by omega) (by omega) (fun c31 => ?_) (fun c31 => ?_)
    · have e : i = sh_ss S := by omega
      subst e
      exact hk
    · refine am_aload_n d_P_take_34 rfl rfl ?_
      refine am_iload_n d_P_take_35 rfl rfl ?_
      refine am_callF 2 (am_recvV (z := m_P_has) rfl d_P_take_36 w_503 w_504 w_505 w_506 F_P.1 rfl (by decide) np_P_has) (by decide) (by decide) (Nat.le_of_ble_eq_true rfl) (Nat.le_of_ble_eq_true rfl) (Nat.zero_le _) (Nat.zero_le _) (c_P_has _ _ _ _) ?_
      rw [show sp_hs (ptk P F c i) (nI i) = decide (i < pl_ss P) from sp_hs_N (P := ptk P F c i) ⟨p1, p2, hc, p4, q5, q6⟩ (by omega)]
      refine am_ifZ_eq (tgt := 72) d_P_take_39 (by decide) (fun c39 => have c39 := of_decide_eq_false c39; ?_) (fun c39 => have c39 := of_decide_eq_true c39; ?_)
      · refine am_aload_n d_P_take_72 rfl rfl ?_
        refine am_dup d_P_take_73 rfl ?_
        refine am_get F_P 9 (by decide) d_P_take_74 w_194 rfl rfl ?_
        refine am_iconst (v := nI 1) d_P_take_77 (by decide) ?_
        refine am_iaddN d_P_take_78 ?_
        refine am_put F_P 9 (by decide) d_P_take_79 w_194 rfl rfl (Nat.le_of_ble_eq_true rfl) rfl rfl ?_
        refine am_aload_n d_P_take_82 rfl rfl ?_
        refine am_get F_P 2 (by decide) d_P_take_83 w_181 rfl rfl ?_
        refine am_iload_n d_P_take_86 rfl rfl ?_
        refine am_aload_n d_P_take_87 rfl rfl ?_
        refine am_get F_F 1 (by decide) d_P_take_88 w_111 rfl rfl ?_
        refine am_iload_n d_P_take_91 rfl rfl ?_
        refine am_ialdA d_P_take_92 rfl (by omega) (by decide) ?_
        refine am_iastA d_P_take_93 rfl (by omega) (by decide) ?_
        refine am_aload_n d_P_take_94 rfl rfl ?_
        refine am_get F_P 3 (by decide) d_P_take_95 w_183 rfl rfl ?_
        refine am_iload_n d_P_take_98 rfl rfl ?_
        refine am_aload_n d_P_take_99 rfl rfl ?_
        refine am_get F_F 2 (by decide) d_P_take_100 w_113 rfl rfl ?_
        refine am_iload_n d_P_take_103 rfl rfl ?_
        refine am_ialdA d_P_take_104 rfl (by omega) (by decide) ?_
        refine am_iastA d_P_take_105 rfl (by omega) (by decide) ?_
        refine am_iinc d_P_take_106 rfl (am_inc _) (by decide) ?_
        refine am_goto (tgt := 23) d_P_take_109 (by decide) ?_
        exact am_lo (L' := [(0, .ref 26), (1, .ref 25), (2, .ref 15), (3, .int (nI (i + 1)))]) rfl (am_hq (h2 := (hx x t S F R (ptk P F c (i + 1)) W)) (by show (hx x t S F R (pl_jb P, pl_ss P, c, pl_bo P, pl_no P, tk_m P F i + 1, pl_ja P, tk_u (fl_bg F) (pl_bg P) (i + 1), tk_u (fl_ma F) (pl_ma P) (i + 1)) W) = _; rw [← tk_m_1 (P := P) (f := F) (n := i) (by omega)]) (ih (i + 1) (by omega) (by omega)))
      · refine am_aload_n d_P_take_42 rfl rfl ?_
        refine am_get F_P 2 (by decide) d_P_take_43 w_181 rfl rfl ?_
        refine am_iload_n d_P_take_46 rfl rfl ?_
        refine am_ialdA d_P_take_47 rfl (by omega) (by decide) ?_
        refine am_aload_n d_P_take_48 rfl rfl ?_
        refine am_get F_F 1 (by decide) d_P_take_49 w_111 rfl rfl ?_
        refine am_iload_n d_P_take_52 rfl rfl ?_
        refine am_ialdA d_P_take_53 rfl (by omega) (by decide) ?_
        refine am_icmpN_ne (tgt := 72) d_P_take_54 (by decide) (by omega) (by omega) (fun c54 => ?_) (fun c54 => ?_)
        · refine am_aload_n d_P_take_72 rfl rfl ?_
          refine am_dup d_P_take_73 rfl ?_
          refine am_get F_P 9 (by decide) d_P_take_74 w_194 rfl rfl ?_
          refine am_iconst (v := nI 1) d_P_take_77 (by decide) ?_
          refine am_iaddN d_P_take_78 ?_
          refine am_put F_P 9 (by decide) d_P_take_79 w_194 rfl rfl (Nat.le_of_ble_eq_true rfl) rfl rfl ?_
          refine am_aload_n d_P_take_82 rfl rfl ?_
          refine am_get F_P 2 (by decide) d_P_take_83 w_181 rfl rfl ?_
          refine am_iload_n d_P_take_86 rfl rfl ?_
          refine am_aload_n d_P_take_87 rfl rfl ?_
          refine am_get F_F 1 (by decide) d_P_take_88 w_111 rfl rfl ?_
          refine am_iload_n d_P_take_91 rfl rfl ?_
          refine am_ialdA d_P_take_92 rfl (by omega) (by decide) ?_
          refine am_iastA d_P_take_93 rfl (by omega) (by decide) ?_
          refine am_aload_n d_P_take_94 rfl rfl ?_
          refine am_get F_P 3 (by decide) d_P_take_95 w_183 rfl rfl ?_
          refine am_iload_n d_P_take_98 rfl rfl ?_
          refine am_aload_n d_P_take_99 rfl rfl ?_
          refine am_get F_F 2 (by decide) d_P_take_100 w_113 rfl rfl ?_
          refine am_iload_n d_P_take_103 rfl rfl ?_
          refine am_ialdA d_P_take_104 rfl (by omega) (by decide) ?_
          refine am_iastA d_P_take_105 rfl (by omega) (by decide) ?_
          refine am_iinc d_P_take_106 rfl (am_inc _) (by decide) ?_
          refine am_goto (tgt := 23) d_P_take_109 (by decide) ?_
          exact am_lo (L' := [(0, .ref 26), (1, .ref 25), (2, .ref 15), (3, .int (nI (i + 1)))]) rfl (am_hq (h2 := (hx x t S F R (ptk P F c (i + 1)) W)) (by show (hx x t S F R (pl_jb P, pl_ss P, c, pl_bo P, pl_no P, tk_m P F i + 1, pl_ja P, tk_u (fl_bg F) (pl_bg P) (i + 1), tk_u (fl_ma F) (pl_ma P) (i + 1)) W) = _; rw [← tk_m_1 (P := P) (f := F) (n := i) (by omega)]) (ih (i + 1) (by omega) (by omega)))
        · refine am_aload_n d_P_take_57 rfl rfl ?_
          refine am_get F_P 3 (by decide) d_P_take_58 w_183 rfl rfl ?_
          refine am_iload_n d_P_take_61 rfl rfl ?_
          refine am_ialdA d_P_take_62 rfl (by omega) (by decide) ?_
          refine am_aload_n d_P_take_63 rfl rfl ?_
          refine am_get F_F 2 (by decide) d_P_take_64 w_113 rfl rfl ?_
          refine am_iload_n d_P_take_67 rfl rfl ?_
          refine am_ialdA d_P_take_68 rfl (by omega) (by decide) ?_
          refine am_icmpN_eq (tgt := 82) d_P_take_69 (by decide) (by omega) (by omega) (fun c69 => ?_) (fun c69 => ?_)
          · refine am_aload_n d_P_take_82 rfl rfl ?_
            refine am_get F_P 2 (by decide) d_P_take_83 w_181 rfl rfl ?_
            refine am_iload_n d_P_take_86 rfl rfl ?_
            refine am_aload_n d_P_take_87 rfl rfl ?_
            refine am_get F_F 1 (by decide) d_P_take_88 w_111 rfl rfl ?_
            refine am_iload_n d_P_take_91 rfl rfl ?_
            refine am_ialdA d_P_take_92 rfl (by omega) (by decide) ?_
            refine am_iastA d_P_take_93 rfl (by omega) (by decide) ?_
            refine am_aload_n d_P_take_94 rfl rfl ?_
            refine am_get F_P 3 (by decide) d_P_take_95 w_183 rfl rfl ?_
            refine am_iload_n d_P_take_98 rfl rfl ?_
            refine am_aload_n d_P_take_99 rfl rfl ?_
            refine am_get F_F 2 (by decide) d_P_take_100 w_113 rfl rfl ?_
            refine am_iload_n d_P_take_103 rfl rfl ?_
            refine am_ialdA d_P_take_104 rfl (by omega) (by decide) ?_
            refine am_iastA d_P_take_105 rfl (by omega) (by decide) ?_
            refine am_iinc d_P_take_106 rfl (am_inc _) (by decide) ?_
            refine am_goto (tgt := 23) d_P_take_109 (by decide) ?_
            exact am_lo (L' := [(0, .ref 26), (1, .ref 25), (2, .ref 15), (3, .int (nI (i + 1)))]) rfl (am_hq (h2 := (hx x t S F R (ptk P F c (i + 1)) W)) (by show (hx x t S F R (pl_jb P, pl_ss P, c, pl_bo P, pl_no P, tk_m P F i, pl_ja P, tk_u (fl_bg F) (pl_bg P) (i + 1), tk_u (fl_ma F) (pl_ma P) (i + 1)) W) = _; rw [← tk_m_0 (P := P) (f := F) (n := i) (by omega)]) (ih (i + 1) (by omega) (by omega)))
          · refine am_aload_n d_P_take_72 rfl rfl ?_
            refine am_dup d_P_take_73 rfl ?_
            refine am_get F_P 9 (by decide) d_P_take_74 w_194 rfl rfl ?_
            refine am_iconst (v := nI 1) d_P_take_77 (by decide) ?_
            refine am_iaddN d_P_take_78 ?_
            refine am_put F_P 9 (by decide) d_P_take_79 w_194 rfl rfl (Nat.le_of_ble_eq_true rfl) rfl rfl ?_
            refine am_aload_n d_P_take_82 rfl rfl ?_
            refine am_get F_P 2 (by decide) d_P_take_83 w_181 rfl rfl ?_
            refine am_iload_n d_P_take_86 rfl rfl ?_
            refine am_aload_n d_P_take_87 rfl rfl ?_
            refine am_get F_F 1 (by decide) d_P_take_88 w_111 rfl rfl ?_
            refine am_iload_n d_P_take_91 rfl rfl ?_
            refine am_ialdA d_P_take_92 rfl (by omega) (by decide) ?_
            refine am_iastA d_P_take_93 rfl (by omega) (by decide) ?_
            refine am_aload_n d_P_take_94 rfl rfl ?_
            refine am_get F_P 3 (by decide) d_P_take_95 w_183 rfl rfl ?_
            refine am_iload_n d_P_take_98 rfl rfl ?_
            refine am_aload_n d_P_take_99 rfl rfl ?_
            refine am_get F_F 2 (by decide) d_P_take_100 w_113 rfl rfl ?_
            refine am_iload_n d_P_take_103 rfl rfl ?_
            refine am_ialdA d_P_take_104 rfl (by omega) (by decide) ?_
            refine am_iastA d_P_take_105 rfl (by omega) (by decide) ?_
            refine am_iinc d_P_take_106 rfl (am_inc _) (by decide) ?_
            refine am_goto (tgt := 23) d_P_take_109 (by decide) ?_
            exact am_lo (L' := [(0, .ref 26), (1, .ref 25), (2, .ref 15), (3, .int (nI (i + 1)))]) rfl (am_hq (h2 := (hx x t S F R (ptk P F c (i + 1)) W)) (by show (hx x t S F R (pl_jb P, pl_ss P, c, pl_bo P, pl_no P, tk_m P F i + 1, pl_ja P, tk_u (fl_bg F) (pl_bg P) (i + 1), tk_u (fl_ma F) (pl_ma P) (i + 1)) W) = _; rw [← tk_m_1 (P := P) (f := F) (n := i) (by omega)]) (ih (i + 1) (by omega) (by omega)))
theorem c_P_takeR (hS : sh_ok S) (hP : pl_ok P) (d bc bs : Nat) (hg : ∀ k, k < sh_jb S → (se_bs R) k < 6 ∧ sp_fits S ((se_bs R) k) = true) (hb : ∀ s, s < sh_ss S → fl_bg (fl_co S (se_bs R) (fl_clear S F) (sh_jb S)).1 s ≤ 7000 ∧ fl_ma (fl_co S (se_bs R) (fl_clear S F) (sh_jb S)).1 s < 6) : am_Fn G m_P_take (d + 5) bc bs [.ref 26, .ref 25, .ref 15] (hx x t S F R P W) none (hx x t S (fl_co S (se_bs R) (fl_clear S F) (sh_jb S)).1 R (pl_take S (se_bs R) (fl_co S (se_bs R) (fl_clear S F) (sh_jb S)).1 P) W) := by
  have s2 := hS.2.1
  refine am_aload_n d_P_take_0 rfl rfl ?_
  refine am_aload_n d_P_take_1 rfl rfl ?_
  refine am_aload_n d_P_take_2 rfl rfl ?_
  refine am_aload_n d_P_take_3 rfl rfl ?_
  refine am_get F_P 0 (by decide) d_P_take_4 w_178 rfl rfl ?_
  refine am_get F_S 5 (by decide) d_P_take_7 w_45 rfl rfl ?_
  refine am_callF 3 (am_recvV (z := m_F_costInOrder) rfl d_P_take_10 w_502 w_477 w_478 w_479 F_F.1 rfl (by decide) np_F_costInOrder) (by decide) (by decide) (Nat.le_of_ble_eq_true rfl) (Nat.le_of_ble_eq_true rfl) (Nat.zero_le _) (Nat.zero_le _) (c_F_costInOrderR (F := F) (R := R) (P := P) hS _ _ _ _ s2 hg) ?_
  rw [fl_co_eq hS _ hg]
  refine am_put F_P 6 (by decide) d_P_take_13 w_188 rfl rfl (Nat.le_of_ble_eq_true rfl) rfl rfl ?_
  refine am_aload_n d_P_take_16 rfl rfl ?_
  refine am_iconst (v := nI 0) d_P_take_17 (by decide) ?_
  refine am_put F_P 9 (by decide) d_P_take_18 w_194 rfl rfl (Nat.le_of_ble_eq_true rfl) rfl rfl ?_
  refine am_iconst (v := nI 0) d_P_take_21 (by decide) ?_
  refine am_istore_n d_P_take_22 rfl (by decide) ?_
  have hk : am_W G m_P_take (d + 5) bc bs (fun o h' => o = .inl none ∧ h' = (hx x t S (fl_co S (se_bs R) (fl_clear S F) (sh_jb S)).1 R (pl_take S (se_bs R) (fl_co S (se_bs R) (fl_clear S F) (sh_jb S)).1 P) W)) 112 [(0, .ref 26), (1, .ref 25), (2, .ref 15), (3, .int (nI (sh_ss S)))] [] (hx x t S (fl_co S (se_bs R) (fl_clear S F) (sh_jb S)).1 R (ptk P (fl_co S (se_bs R) (fl_clear S F) (sh_jb S)).1 (sp_co S (se_bs R) (sh_jb S)) (sh_ss S)) W) := by
    refine am_aload_n d_P_take_112 rfl rfl ?_
    refine am_iconst (v := nI 0) d_P_take_113 (by decide) ?_
    refine am_aload_n d_P_take_114 rfl rfl ?_
    refine am_get F_P 1 (by decide) d_P_take_115 w_179 rfl rfl ?_
    refine am_iconst (v := nI 0) d_P_take_118 (by decide) ?_
    refine am_bipush (v := nI 6) d_P_take_119 (by decide) ?_
    refine am_copyA 0 0 6 d_P_take_121 w_507 w_493 w_492 w_13 rfl rfl (by decide) (by decide) (by decide) (by decide) (by omega) (by decide) ?_
    refine am_aload_n d_P_take_124 rfl rfl ?_
    refine am_aload_n d_P_take_125 rfl rfl ?_
    refine am_get F_P 0 (by decide) d_P_take_126 w_178 rfl rfl ?_
    refine am_get F_S 5 (by decide) d_P_take_129 w_45 rfl rfl ?_
    refine am_put F_P 4 (by decide) d_P_take_132 w_185 rfl rfl (Nat.le_of_ble_eq_true rfl) rfl rfl ?_
    refine am_aload_n d_P_take_135 rfl rfl ?_
    refine am_aload_n d_P_take_136 rfl rfl ?_
    refine am_get F_P 0 (by decide) d_P_take_137 w_178 rfl rfl ?_
    refine am_get F_S 10 (by decide) d_P_take_140 w_59 rfl rfl ?_
    refine am_put F_P 5 (by decide) d_P_take_143 w_187 rfl rfl (Nat.le_of_ble_eq_true rfl) rfl rfl ?_
    refine am_vret d_P_take_146 rfl ?_
    exact ⟨rfl, rfl⟩
  exact am_lo (L' := [(0, .ref 26), (1, .ref 25), (2, .ref 15), (3, .int (nI 0))]) rfl (c_P_takeR_l (P := P) hS hP (d + 4) bc bs _ (sp_co_bd hS s2 hg) hb hk (sh_ss S + 1) 0 (Nat.zero_le _) (by omega))
set_option maxRecDepth 20000 in
theorem c_P_takeP_l {Q : am_O → am_H → Prop} (hS : sh_ok S) (hP : pl_ok P) (d bc bs c : Nat) (hc : c ≤ 4080000) (hb : ∀ s, s < sh_ss S → fl_bg F s ≤ 7000 ∧ fl_ma F s < 6) (hk : am_W G m_P_take (d + 1) bc bs Q 112 [(0, .ref 26), (1, .ref 27), (2, .ref 15), (3, .int (nI (sh_ss S)))] [] (hx x t S F R (ptk P F c (sh_ss S)) W)) : ∀ (n i : Nat), i ≤ sh_ss S → sh_ss S - i < n →
    am_W G m_P_take (d + 1) bc bs Q 23 [(0, .ref 26), (1, .ref 27), (2, .ref 15), (3, .int (nI i))] [] (hx x t S F R (ptk P F c i) W) := by
  intro n
  obtain ⟨p1, p2, p3, p4, p5, p6⟩ := id hP
  have s3 := hS.2.2.1
  induction n with
  | zero => intro i _ h; omega
  | succ n ih =>
    intro i hi hn
    have u1 : pl_bg (ptk P F c i) i = pl_bg P i := tk_u_ge (Nat.le_refl _)
    have u2 : pl_ma (ptk P F c i) i = pl_ma P i := tk_u_ge (Nat.le_refl _)
    have u3 : pl_ss (ptk P F c i) = pl_ss P := rfl
    have v1 := p5 i
    have v2 := p6 i
    have hbi := hb i
    have q5 : ∀ s, pl_bg (ptk P F c i) s ≤ 7000 := fun s => by
      rcases Nat.lt_or_ge s i with q | q
      · exact Nat.le_trans (Nat.le_of_eq (tk_u_lt q)) (hb s (by omega)).1
      · exact Nat.le_trans (Nat.le_of_eq (tk_u_ge q)) (p5 s)
    have q6 : ∀ s, pl_ma (ptk P F c i) s < 6 := fun s => by
      rcases Nat.lt_or_ge s i with q | q
      · exact Nat.lt_of_le_of_lt (Nat.le_of_eq (tk_u_lt q)) (hb s (by omega)).2
      · exact Nat.lt_of_le_of_lt (Nat.le_of_eq (tk_u_ge q)) (p6 s)
    refine am_iload_n d_P_take_23 rfl rfl ?_
    refine am_aload_n d_P_take_24 rfl rfl ?_
    refine am_get F_P 0 (by decide) d_P_take_25 w_178 rfl rfl ?_
    refine am_get F_S 10 (by decide) d_P_take_28 w_59 rfl rfl ?_
    refine am_icmpN_ge (tgt := 112) d_P_take_31 (by decide) (by omega) (by omega) (fun c31 => ?_) (fun c31 => ?_)
    · have e : i = sh_ss S := by omega
      subst e
      exact hk
    · refine am_aload_n d_P_take_34 rfl rfl ?_
      refine am_iload_n d_P_take_35 rfl rfl ?_
      refine am_callF 2 (am_recvV (z := m_P_has) rfl d_P_take_36 w_503 w_504 w_505 w_506 F_P.1 rfl (by decide) np_P_has) (by decide) (by decide) (Nat.le_of_ble_eq_true rfl) (Nat.le_of_ble_eq_true rfl) (Nat.zero_le _) (Nat.zero_le _) (c_P_has _ _ _ _) ?_
      rw [show sp_hs (ptk P F c i) (nI i) = decide (i < pl_ss P) from sp_hs_N (P := ptk P F c i) ⟨p1, p2, hc, p4, q5, q6⟩ (by omega)]
      refine am_ifZ_eq (tgt := 72) d_P_take_39 (by decide) (fun c39 => have c39 := of_decide_eq_false c39; ?_) (fun c39 => have c39 := of_decide_eq_true c39; ?_)
      · refine am_aload_n d_P_take_72 rfl rfl ?_
        refine am_dup d_P_take_73 rfl ?_
        refine am_get F_P 9 (by decide) d_P_take_74 w_194 rfl rfl ?_
        refine am_iconst (v := nI 1) d_P_take_77 (by decide) ?_
        refine am_iaddN d_P_take_78 ?_
        refine am_put F_P 9 (by decide) d_P_take_79 w_194 rfl rfl (Nat.le_of_ble_eq_true rfl) rfl rfl ?_
        refine am_aload_n d_P_take_82 rfl rfl ?_
        refine am_get F_P 2 (by decide) d_P_take_83 w_181 rfl rfl ?_
        refine am_iload_n d_P_take_86 rfl rfl ?_
        refine am_aload_n d_P_take_87 rfl rfl ?_
        refine am_get F_F 1 (by decide) d_P_take_88 w_111 rfl rfl ?_
        refine am_iload_n d_P_take_91 rfl rfl ?_
        refine am_ialdA d_P_take_92 rfl (by omega) (by decide) ?_
        refine am_iastA d_P_take_93 rfl (by omega) (by decide) ?_
        refine am_aload_n d_P_take_94 rfl rfl ?_
        refine am_get F_P 3 (by decide) d_P_take_95 w_183 rfl rfl ?_
        refine am_iload_n d_P_take_98 rfl rfl ?_
        refine am_aload_n d_P_take_99 rfl rfl ?_
        refine am_get F_F 2 (by decide) d_P_take_100 w_113 rfl rfl ?_
        refine am_iload_n d_P_take_103 rfl rfl ?_
        refine am_ialdA d_P_take_104 rfl (by omega) (by decide) ?_
        refine am_iastA d_P_take_105 rfl (by omega) (by decide) ?_
        refine am_iinc d_P_take_106 rfl (am_inc _) (by decide) ?_
        refine am_goto (tgt := 23) d_P_take_109 (by decide) ?_
        exact am_lo (L' := [(0, .ref 26), (1, .ref 27), (2, .ref 15), (3, .int (nI (i + 1)))]) rfl (am_hq (h2 := (hx x t S F R (ptk P F c (i + 1)) W)) (by show (hx x t S F R (pl_jb P, pl_ss P, c, pl_bo P, pl_no P, tk_m P F i + 1, pl_ja P, tk_u (fl_bg F) (pl_bg P) (i + 1), tk_u (fl_ma F) (pl_ma P) (i + 1)) W) = _; rw [← tk_m_1 (P := P) (f := F) (n := i) (by omega)]) (ih (i + 1) (by omega) (by omega)))
      · refine am_aload_n d_P_take_42 rfl rfl ?_
        refine am_get F_P 2 (by decide) d_P_take_43 w_181 rfl rfl ?_
        refine am_iload_n d_P_take_46 rfl rfl ?_
        refine am_ialdA d_P_take_47 rfl (by omega) (by decide) ?_
        refine am_aload_n d_P_take_48 rfl rfl ?_
        refine am_get F_F 1 (by decide) d_P_take_49 w_111 rfl rfl ?_
        refine am_iload_n d_P_take_52 rfl rfl ?_
        refine am_ialdA d_P_take_53 rfl (by omega) (by decide) ?_
        refine am_icmpN_ne (tgt := 72) d_P_take_54 (by decide) (by omega) (by omega) (fun c54 => ?_) (fun c54 => ?_)
        · refine am_aload_n d_P_take_72 rfl rfl ?_
          refine am_dup d_P_take_73 rfl ?_
          refine am_get F_P 9 (by decide) d_P_take_74 w_194 rfl rfl ?_
          refine am_iconst (v := nI 1) d_P_take_77 (by decide) ?_
          refine am_iaddN d_P_take_78 ?_
          refine am_put F_P 9 (by decide) d_P_take_79 w_194 rfl rfl (Nat.le_of_ble_eq_true rfl) rfl rfl ?_
          refine am_aload_n d_P_take_82 rfl rfl ?_
          refine am_get F_P 2 (by decide) d_P_take_83 w_181 rfl rfl ?_
          refine am_iload_n d_P_take_86 rfl rfl ?_
          refine am_aload_n d_P_take_87 rfl rfl ?_
          refine am_get F_F 1 (by decide) d_P_take_88 w_111 rfl rfl ?_
          refine am_iload_n d_P_take_91 rfl rfl ?_
          refine am_ialdA d_P_take_92 rfl (by omega) (by decide) ?_
          refine am_iastA d_P_take_93 rfl (by omega) (by decide) ?_
          refine am_aload_n d_P_take_94 rfl rfl ?_
          refine am_get F_P 3 (by decide) d_P_take_95 w_183 rfl rfl ?_
          refine am_iload_n d_P_take_98 rfl rfl ?_
          refine am_aload_n d_P_take_99 rfl rfl ?_
          refine am_get F_F 2 (by decide) d_P_take_100 w_113 rfl rfl ?_
          refine am_iload_n d_P_take_103 rfl rfl ?_
          refine am_ialdA d_P_take_104 rfl (by omega) (by decide) ?_
          refine am_iastA d_P_take_105 rfl (by omega) (by decide) ?_
          refine am_iinc d_P_take_106 rfl (am_inc _) (by decide) ?_
          refine am_goto (tgt := 23) d_P_take_109 (by decide) ?_
          exact am_lo (L' := [(0, .ref 26), (1, .ref 27), (2, .ref 15), (3, .int (nI (i + 1)))]) rfl (am_hq (h2 := (hx x t S F R (ptk P F c (i + 1)) W)) (by show (hx x t S F R (pl_jb P, pl_ss P, c, pl_bo P, pl_no P, tk_m P F i + 1, pl_ja P, tk_u (fl_bg F) (pl_bg P) (i + 1), tk_u (fl_ma F) (pl_ma P) (i + 1)) W) = _; rw [← tk_m_1 (P := P) (f := F) (n := i) (by omega)]) (ih (i + 1) (by omega) (by omega)))
        · refine am_aload_n d_P_take_57 rfl rfl ?_
          refine am_get F_P 3 (by decide) d_P_take_58 w_183 rfl rfl ?_
          refine am_iload_n d_P_take_61 rfl rfl ?_
          refine am_ialdA d_P_take_62 rfl (by omega) (by decide) ?_
          refine am_aload_n d_P_take_63 rfl rfl ?_
          refine am_get F_F 2 (by decide) d_P_take_64 w_113 rfl rfl ?_
          refine am_iload_n d_P_take_67 rfl rfl ?_
          refine am_ialdA d_P_take_68 rfl (by omega) (by decide) ?_
          refine am_icmpN_eq (tgt := 82) d_P_take_69 (by decide) (by omega) (by omega) (fun c69 => ?_) (fun c69 => ?_)
          · refine am_aload_n d_P_take_82 rfl rfl ?_
            refine am_get F_P 2 (by decide) d_P_take_83 w_181 rfl rfl ?_
            refine am_iload_n d_P_take_86 rfl rfl ?_
            refine am_aload_n d_P_take_87 rfl rfl ?_
            refine am_get F_F 1 (by decide) d_P_take_88 w_111 rfl rfl ?_
            refine am_iload_n d_P_take_91 rfl rfl ?_
            refine am_ialdA d_P_take_92 rfl (by omega) (by decide) ?_
            refine am_iastA d_P_take_93 rfl (by omega) (by decide) ?_
            refine am_aload_n d_P_take_94 rfl rfl ?_
            refine am_get F_P 3 (by decide) d_P_take_95 w_183 rfl rfl ?_
            refine am_iload_n d_P_take_98 rfl rfl ?_
            refine am_aload_n d_P_take_99 rfl rfl ?_
            refine am_get F_F 2 (by decide) d_P_take_100 w_113 rfl rfl ?_
            refine am_iload_n d_P_take_103 rfl rfl ?_
            refine am_ialdA d_P_take_104 rfl (by omega) (by decide) ?_
            refine am_iastA d_P_take_105 rfl (by omega) (by decide) ?_
            refine am_iinc d_P_take_106 rfl (am_inc _) (by decide) ?_
            refine am_goto (tgt := 23) d_P_take_109 (by decide) ?_
            exact am_lo (L' := [(0, .ref 26), (1, .ref 27), (2, .ref 15), (3, .int (nI (i + 1)))]) rfl (am_hq (h2 := (hx x t S F R (ptk P F c (i + 1)) W)) (by show (hx x t S F R (pl_jb P, pl_ss P, c, pl_bo P, pl_no P, tk_m P F i, pl_ja P, tk_u (fl_bg F) (pl_bg P) (i + 1), tk_u (fl_ma F) (pl_ma P) (i + 1)) W) = _; rw [← tk_m_0 (P := P) (f := F) (n := i) (by omega)]) (ih (i + 1) (by omega) (by omega)))
          · refine am_aload_n d_P_take_72 rfl rfl ?_
            refine am_dup d_P_take_73 rfl ?_
            refine am_get F_P 9 (by decide) d_P_take_74 w_194 rfl rfl ?_
            refine am_iconst (v := nI 1) d_P_take_77 (by decide) ?_
            refine am_iaddN d_P_take_78 ?_
            refine am_put F_P 9 (by decide) d_P_take_79 w_194 rfl rfl (Nat.le_of_ble_eq_true rfl) rfl rfl ?_
            refine am_aload_n d_P_take_82 rfl rfl ?_
            refine am_get F_P 2 (by decide) d_P_take_83 w_181 rfl rfl ?_
            refine am_iload_n d_P_take_86 rfl rfl ?_
            refine am_aload_n d_P_take_87 rfl rfl ?_
            refine am_get F_F 1 (by decide) d_P_take_88 w_111 rfl rfl ?_
            refine am_iload_n d_P_take_91 rfl rfl ?_
            refine am_ialdA d_P_take_92 rfl (by omega) (by decide) ?_
            refine am_iastA d_P_take_93 rfl (by omega) (by decide) ?_
            refine am_aload_n d_P_take_94 rfl rfl ?_
            refine am_get F_P 3 (by decide) d_P_take_95 w_183 rfl rfl ?_
            refine am_iload_n d_P_take_98 rfl rfl ?_
            refine am_aload_n d_P_take_99 rfl rfl ?_
            refine am_get F_F 2 (by decide) d_P_take_100 w_113 rfl rfl ?_
            refine am_iload_n d_P_take_103 rfl rfl ?_
            refine am_ialdA d_P_take_104 rfl (by omega) (by decide) ?_
            refine am_iastA d_P_take_105 rfl (by omega) (by decide) ?_
            refine am_iinc d_P_take_106 rfl (am_inc _) (by decide) ?_
            refine am_goto (tgt := 23) d_P_take_109 (by decide) ?_
            exact am_lo (L' := [(0, .ref 26), (1, .ref 27), (2, .ref 15), (3, .int (nI (i + 1)))]) rfl (am_hq (h2 := (hx x t S F R (ptk P F c (i + 1)) W)) (by show (hx x t S F R (pl_jb P, pl_ss P, c, pl_bo P, pl_no P, tk_m P F i + 1, pl_ja P, tk_u (fl_bg F) (pl_bg P) (i + 1), tk_u (fl_ma F) (pl_ma P) (i + 1)) W) = _; rw [← tk_m_1 (P := P) (f := F) (n := i) (by omega)]) (ih (i + 1) (by omega) (by omega)))
theorem c_P_takeP (hS : sh_ok S) (hP : pl_ok P) (d bc bs : Nat) (hg : ∀ k, k < sh_jb S → (pl_ja P) k < 6 ∧ sp_fits S ((pl_ja P) k) = true) (hb : ∀ s, s < sh_ss S → fl_bg (fl_co S (pl_ja P) (fl_clear S F) (sh_jb S)).1 s ≤ 7000 ∧ fl_ma (fl_co S (pl_ja P) (fl_clear S F) (sh_jb S)).1 s < 6) : am_Fn G m_P_take (d + 5) bc bs [.ref 26, .ref 27, .ref 15] (hx x t S F R P W) none (hx x t S (fl_co S (pl_ja P) (fl_clear S F) (sh_jb S)).1 R (pl_take S (pl_ja P) (fl_co S (pl_ja P) (fl_clear S F) (sh_jb S)).1 P) W) := by
  have s2 := hS.2.1
  refine am_aload_n d_P_take_0 rfl rfl ?_
  refine am_aload_n d_P_take_1 rfl rfl ?_
  refine am_aload_n d_P_take_2 rfl rfl ?_
  refine am_aload_n d_P_take_3 rfl rfl ?_
  refine am_get F_P 0 (by decide) d_P_take_4 w_178 rfl rfl ?_
  refine am_get F_S 5 (by decide) d_P_take_7 w_45 rfl rfl ?_
  refine am_callF 3 (am_recvV (z := m_F_costInOrder) rfl d_P_take_10 w_502 w_477 w_478 w_479 F_F.1 rfl (by decide) np_F_costInOrder) (by decide) (by decide) (Nat.le_of_ble_eq_true rfl) (Nat.le_of_ble_eq_true rfl) (Nat.zero_le _) (Nat.zero_le _) (c_F_costInOrderP (F := F) (R := R) (P := P) hS _ _ _ _ s2 hg) ?_
  rw [fl_co_eq hS _ hg]
  refine am_put F_P 6 (by decide) d_P_take_13 w_188 rfl rfl (Nat.le_of_ble_eq_true rfl) rfl rfl ?_
  refine am_aload_n d_P_take_16 rfl rfl ?_
  refine am_iconst (v := nI 0) d_P_take_17 (by decide) ?_
  refine am_put F_P 9 (by decide) d_P_take_18 w_194 rfl rfl (Nat.le_of_ble_eq_true rfl) rfl rfl ?_
  refine am_iconst (v := nI 0) d_P_take_21 (by decide) ?_
  refine am_istore_n d_P_take_22 rfl (by decide) ?_
  have hk : am_W G m_P_take (d + 5) bc bs (fun o h' => o = .inl none ∧ h' = (hx x t S (fl_co S (pl_ja P) (fl_clear S F) (sh_jb S)).1 R (pl_take S (pl_ja P) (fl_co S (pl_ja P) (fl_clear S F) (sh_jb S)).1 P) W)) 112 [(0, .ref 26), (1, .ref 27), (2, .ref 15), (3, .int (nI (sh_ss S)))] [] (hx x t S (fl_co S (pl_ja P) (fl_clear S F) (sh_jb S)).1 R (ptk P (fl_co S (pl_ja P) (fl_clear S F) (sh_jb S)).1 (sp_co S (pl_ja P) (sh_jb S)) (sh_ss S)) W) := by
    refine am_aload_n d_P_take_112 rfl rfl ?_
    refine am_iconst (v := nI 0) d_P_take_113 (by decide) ?_
    refine am_aload_n d_P_take_114 rfl rfl ?_
    refine am_get F_P 1 (by decide) d_P_take_115 w_179 rfl rfl ?_
    refine am_iconst (v := nI 0) d_P_take_118 (by decide) ?_
    refine am_bipush (v := nI 6) d_P_take_119 (by decide) ?_
    refine am_copyA 0 0 6 d_P_take_121 w_507 w_493 w_492 w_13 rfl rfl (by decide) (by decide) (by decide) (by decide) (by omega) (by decide) ?_
    refine am_aload_n d_P_take_124 rfl rfl ?_
    refine am_aload_n d_P_take_125 rfl rfl ?_
    refine am_get F_P 0 (by decide) d_P_take_126 w_178 rfl rfl ?_
    refine am_get F_S 5 (by decide) d_P_take_129 w_45 rfl rfl ?_
    refine am_put F_P 4 (by decide) d_P_take_132 w_185 rfl rfl (Nat.le_of_ble_eq_true rfl) rfl rfl ?_
    refine am_aload_n d_P_take_135 rfl rfl ?_
    refine am_aload_n d_P_take_136 rfl rfl ?_
    refine am_get F_P 0 (by decide) d_P_take_137 w_178 rfl rfl ?_
    refine am_get F_S 10 (by decide) d_P_take_140 w_59 rfl rfl ?_
    refine am_put F_P 5 (by decide) d_P_take_143 w_187 rfl rfl (Nat.le_of_ble_eq_true rfl) rfl rfl ?_
    refine am_vret d_P_take_146 rfl ?_
    exact ⟨rfl, rfl⟩
  exact am_lo (L' := [(0, .ref 26), (1, .ref 27), (2, .ref 15), (3, .int (nI 0))]) rfl (c_P_takeP_l (P := P) hS hP (d + 4) bc bs _ (sp_co_bd hS s2 hg) hb hk (sh_ss S + 1) 0 (Nat.zero_le _) (by omega))
def sw (g : Nat → Nat) (a b : Nat) : Nat → Nat := nu (nu g a (g b)) b (g a)
theorem sw_sw (g : Nat → Nat) (a b : Nat) : sw (sw g a b) a b = g := by
  funext k
  by_cases e : a = b
  · subst e
    unfold sw nu
    split <;> simp_all
  · unfold sw nu
    by_cases h1 : k = b
    · subst h1; simp [e]
    · by_cases h2 : k = a
      · subst h2; simp [h1]
      · simp [h1, h2]
abbrev pl_wj (P : pl_T) (c : Nat) (g : Nat → Nat) : pl_T := (pl_jb P, pl_ss P, c, pl_bo P, pl_no P, pl_mv P, g, pl_bg P, pl_ma P)
theorem sw_bd {g : Nat → Nat} {a b : Nat} (h : ∀ k, g k < 6) (k : Nat) : sw g a b k < 6 := by
  unfold sw nu
  split
  · exact h a
  · split
    · exact h b
    · exact h k
theorem c_P_swap (d bc bs a b : Nat) (ha : a < 6) (hb : b < 6) : am_Fn G m_P_swap d bc bs [.ref 26, .int (nI a), .int (nI b)] (hx x t S F R P W) none (hx x t S F R (pl_wj P (pl_co P) (sw (pl_ja P) a b)) W) := by
  refine am_aload_n d_P_swap_0 rfl rfl ?_
  refine am_get F_P 1 (by decide) d_P_swap_1 w_179 rfl rfl ?_
  refine am_iload_n d_P_swap_4 rfl rfl ?_
  refine am_ialdA d_P_swap_5 rfl (by omega) (by decide) ?_
  refine am_istore_n d_P_swap_6 rfl (by decide) ?_
  refine am_aload_n d_P_swap_7 rfl rfl ?_
  refine am_get F_P 1 (by decide) d_P_swap_8 w_179 rfl rfl ?_
  refine am_iload_n d_P_swap_11 rfl rfl ?_
  refine am_aload_n d_P_swap_12 rfl rfl ?_
  refine am_get F_P 1 (by decide) d_P_swap_13 w_179 rfl rfl ?_
  refine am_iload_n d_P_swap_16 rfl rfl ?_
  refine am_ialdA d_P_swap_17 rfl (by omega) (by decide) ?_
  refine am_iastA d_P_swap_18 rfl (by omega) (by decide) ?_
  refine am_aload_n d_P_swap_19 rfl rfl ?_
  refine am_get F_P 1 (by decide) d_P_swap_20 w_179 rfl rfl ?_
  refine am_iload_n d_P_swap_23 rfl rfl ?_
  refine am_iload_n d_P_swap_24 rfl rfl ?_
  refine am_iastA d_P_swap_25 rfl (by omega) (by decide) ?_
  refine am_vret d_P_swap_26 rfl ?_
  exact ⟨rfl, rfl⟩
/-- two places changed, if the cost is less then -/
def pl_ch (S : sh_T) (P : pl_T) (a b : Nat) : Bool × pl_T := if sp_co S (sw (pl_ja P) a b) (pl_jb P) < pl_co P then (true, pl_wj P (sp_co S (sw (pl_ja P) a b) (pl_jb P)) (sw (pl_ja P) a b)) else (false, P)
theorem c_P_changeIfLess (hS : sh_ok S) (hP : pl_ok P) (d bc bs a b : Nat) (ha : a < 6) (hb : b < 6) (hg : ∀ k, k < pl_jb P → sw (pl_ja P) a b k < 6 ∧ sp_fits S (sw (pl_ja P) a b k) = true) :
    am_W G m_P_changeIfLess (d + 5) bc bs (fun o h' => ∃ F', o = .inl (some (.int (zI (pl_ch S P a b).1))) ∧ h' = (hx x t S F' R (pl_ch S P a b).2 W)) 0 (lv_args 0 [.ref 26, .int (nI a), .int (nI b), .ref 15]) [] (hx x t S F R P W) := by
  have hcb := sp_co_bd (g := sw (pl_ja P) a b) hS hP.1 hg
  have hp3 := hP.2.2.1
  have hp4 : pl_co (pl_wj P (pl_co P) (sw (pl_ja P) a b)) = pl_co P := rfl
  refine am_aload_n d_P_changeIfLess_0 rfl rfl ?_
  refine am_iload_n d_P_changeIfLess_1 rfl rfl ?_
  refine am_iload_n d_P_changeIfLess_2 rfl rfl ?_
  refine am_callF 3 (am_recvV (z := m_P_swap) rfl d_P_changeIfLess_3 w_535 w_537 ws_11 w_538 F_P.1 rfl (by decide) np_P_swap) (by decide) (by decide) (Nat.le_of_ble_eq_true rfl) (Nat.le_of_ble_eq_true rfl) (Nat.zero_le _) (Nat.zero_le _) (c_P_swap _ _ _ a b ha hb) ?_
  refine am_aload_n d_P_changeIfLess_6 rfl rfl ?_
  refine am_aload_n d_P_changeIfLess_7 rfl rfl ?_
  refine am_get F_P 1 (by decide) d_P_changeIfLess_8 w_179 rfl rfl ?_
  refine am_aload_n d_P_changeIfLess_11 rfl rfl ?_
  refine am_get F_P 4 (by decide) d_P_changeIfLess_12 w_185 rfl rfl ?_
  refine am_callF 3 (am_recvV (z := m_F_costInOrder) rfl d_P_changeIfLess_15 w_502 w_477 w_478 w_479 F_F.1 rfl (by decide) np_F_costInOrder) (by decide) (by decide) (Nat.le_of_ble_eq_true rfl) (Nat.le_of_ble_eq_true rfl) (Nat.zero_le _) (Nat.zero_le _) (c_F_costInOrderP (P := pl_wj P (pl_co P) (sw (pl_ja P) a b)) hS _ _ _ _ hP.1 hg) ?_
  rw [fl_co_eq hS _ hg]
  refine am_lstore d_P_changeIfLess_18 (by decide) ?_
  refine am_lload d_P_changeIfLess_20 rfl ?_
  refine am_aload_n d_P_changeIfLess_22 rfl rfl ?_
  refine am_get F_P 6 (by decide) d_P_changeIfLess_23 w_188 rfl rfl ?_
  refine am_lc_ge (tgt := 38) d_P_changeIfLess_26 d_P_changeIfLess_27 (by decide) (by omega) (by omega) (fun c27 => ?_) (fun c27 => ?_)
  · refine am_aload_n d_P_changeIfLess_38 rfl rfl ?_
    refine am_iload_n d_P_changeIfLess_39 rfl rfl ?_
    refine am_iload_n d_P_changeIfLess_40 rfl rfl ?_
    refine am_callF 3 (am_recvV (z := m_P_swap) rfl d_P_changeIfLess_41 w_535 w_537 ws_11 w_538 F_P.1 rfl (by decide) np_P_swap) (by decide) (by decide) (Nat.le_of_ble_eq_true rfl) (Nat.le_of_ble_eq_true rfl) (Nat.zero_le _) (Nat.zero_le _) (c_P_swap (P := pl_wj P (pl_co P) (sw (pl_ja P) a b)) _ _ _ a b ha hb) ?_
    refine am_iconst (v := zI false) d_P_changeIfLess_44 (by decide) ?_
    refine am_zret d_P_changeIfLess_45 rfl (zI_n _) ?_
    have e1 : pl_ch S P a b = (false, P) := if_neg (by omega)
    rw [e1]
    refine ⟨(fl_co S (sw (pl_ja P) a b) (fl_clear S F) (pl_jb P)).1, rfl, ?_⟩
    show hx x t S _ R (pl_wj P (pl_co P) (sw (sw (pl_ja P) a b) a b)) W = hx x t S _ R P W
    rw [sw_sw]
  · refine am_aload_n d_P_changeIfLess_30 rfl rfl ?_
    refine am_lload d_P_changeIfLess_31 rfl ?_
    refine am_put F_P 6 (by decide) d_P_changeIfLess_33 w_188 rfl rfl (Nat.le_of_ble_eq_true rfl) rfl rfl ?_
    refine am_iconst (v := zI true) d_P_changeIfLess_36 (by decide) ?_
    refine am_zret d_P_changeIfLess_37 rfl (zI_n _) ?_
    have e1 : pl_ch S P a b = (true, pl_wj P (sp_co S (sw (pl_ja P) a b) (pl_jb P)) (sw (pl_ja P) a b)) := if_pos (by omega)
    rw [e1]
    exact ⟨_, rfl, rfl⟩
/-- a job's steps laid as the plan has them -/
def ly_j (S : sh_T) (P : pl_T) (j : Nat) (f : fl_T) : Nat → fl_T
  | 0 => f
  | n + 1 => fl_put S (ly_j S P j f n) (sh_sa S (j * 4 + n)) (pl_ma P (sh_sa S (j * 4 + n))) (pl_bg P (sh_sa S (j * 4 + n)))
/-- all jobs below n but one -/
def ly (S : sh_T) (P : pl_T) (l : Nat) (f : fl_T) : Nat → fl_T
  | 0 => f
  | j + 1 => if j = l then ly S P l f j else ly_j S P j (ly S P l f j) (sh_so S j)
theorem ly_j_sm {S : sh_T} {P : pl_T} {j : Nat} {f : fl_T} (hS : sh_ok S) (hP : pl_ok P) (hm : ∀ i, i < sh_so S j → pl_ma P (sh_sa S (j * 4 + i)) < sh_mc S) (hF : fl_sm (sh_mc S) f 8000) : ∀ n, n ≤ sh_so S j → fl_sm (sh_mc S) (ly_j S P j f n) 8000
  | 0, _ => hF
  | n + 1, hn => by
    have h := ly_j_sm hS hP hm hF n (by omega)
    have h1 := hP.2.2.2.2.1 (sh_sa S (j * 4 + n))
    have h2 := hS.2.2.2.2.2.2.2.2.2.2.2.2.1 (sh_sa S (j * 4 + n))
    exact fl_sm_add (f := (nu (fl_bg (ly_j S P j f n)) _ _, nu (fl_ma (ly_j S P j f n)) _ _, (ly_j S P j f n).2.2)) h hS.1 (hm n (by omega)) (by omega) (by omega)
theorem ly_sm {S : sh_T} {P : pl_T} {l N : Nat} {f : fl_T} (hS : sh_ok S) (hP : pl_ok P) (hm : ∀ j i, j < N → i < sh_so S j → pl_ma P (sh_sa S (j * 4 + i)) < sh_mc S) (hF : fl_sm (sh_mc S) f 8000) : ∀ n, n ≤ N → fl_sm (sh_mc S) (ly S P l f n) 8000
  | 0, _ => hF
  | n + 1, hn => by
    have h := ly_sm (l := l) hS hP hm hF n (by omega)
    unfold ly
    split
    · exact h
    · exact ly_j_sm hS hP (fun i hi => hm n i (by omega) hi) h _ (Nat.le_refl _)
set_option maxRecDepth 20000 in
theorem c_P_layAllBut_i {Q : am_O → am_H → Prop} (hS : sh_ok S) (hP : pl_ok P) (d bc bs l j : Nat) (hl : l < 6) (hj : j < 6) (hlj : j ≠ l) (hm : ∀ i, i < sh_so S j → pl_ma P (sh_sa S (j * 4 + i)) < sh_mc S) (hF : fl_sm (sh_mc S) F 8000)
    (hk : am_W G m_P_layAllBut (d + 2) bc bs Q 78 [(0, .ref 26), (1, .int (nI l)), (2, .ref 15), (3, .int (nI j))] [] (hx x t S (ly_j S P j F (sh_so S j)) R P W)) : ∀ (n i : Nat), i ≤ sh_so S j → sh_so S j - i < n →
    am_W G m_P_layAllBut (d + 2) bc bs Q 17 [(0, .ref 26), (1, .int (nI l)), (2, .ref 15), (3, .int (nI j)), (4, .int (nI i))] [] (hx x t S (ly_j S P j F i) R P W) := by
  intro n
  obtain ⟨s1, s2, s3, s4, s5, s6, s7, s8, s9, s10, s11, s12, s13, s14⟩ := id hS
  obtain ⟨p1, p2, p3, p4, p5, p6⟩ := id hP
  have t10 := s10 j
  induction n with
  | zero => intro i _ h; omega
  | succ n ih =>
    intro i hi hn
    refine am_iload_n d_P_layAllBut_17 rfl rfl ?_
    refine am_iload_n d_P_layAllBut_18 rfl rfl ?_
    refine am_icmpN_eq (tgt := 78) d_P_layAllBut_19 (by decide) (by omega) (by omega) (fun c19 => ?_) (fun c19 => ?_)
    · exact absurd c19 (by omega)
    · refine am_iload d_P_layAllBut_22 rfl ?_
      refine am_aload_n d_P_layAllBut_24 rfl rfl ?_
      refine am_get F_P 0 (by decide) d_P_layAllBut_25 w_178 rfl rfl ?_
      refine am_get F_S 8 (by decide) d_P_layAllBut_28 w_53 rfl rfl ?_
      refine am_iload_n d_P_layAllBut_31 rfl rfl ?_
      refine am_ialdA d_P_layAllBut_32 rfl (by omega) (by decide) ?_
      refine am_icmpN_ge (tgt := 78) d_P_layAllBut_33 (by decide) (by omega) (by omega) (fun c33 => ?_) (fun c33 => ?_)
      · have e : i = sh_so S j := by omega
        subst e
        exact am_lo (L' := [(0, .ref 26), (1, .int (nI l)), (2, .ref 15), (3, .int (nI j))]) rfl hk
      · have t11 := s11 (j * 4 + i)
        have hm1 := hm i (by omega)
        have hsm := ly_j_sm (f := F) hS hP hm hF i (by omega)
        have hbc := hsm.1 _ hm1
        have hb7 := p5 (sh_sa S (j * 4 + i))
        have hm6 := p6 (sh_sa S (j * 4 + i))
        refine am_aload_n d_P_layAllBut_36 rfl rfl ?_
        refine am_get F_P 0 (by decide) d_P_layAllBut_37 w_178 rfl rfl ?_
        refine am_get F_S 9 (by decide) d_P_layAllBut_40 w_57 rfl rfl ?_
        refine am_iload_n d_P_layAllBut_43 rfl rfl ?_
        refine am_iconst (v := nI 4) d_P_layAllBut_44 (by decide) ?_
        refine am_imulN d_P_layAllBut_45 ?_
        refine am_iload d_P_layAllBut_46 rfl ?_
        refine am_iaddN d_P_layAllBut_48 ?_
        refine am_ialdA d_P_layAllBut_49 rfl (by omega) (by decide) ?_
        refine am_istore d_P_layAllBut_50 (by decide) ?_
        refine am_aload_n d_P_layAllBut_52 rfl rfl ?_
        refine am_iload d_P_layAllBut_53 rfl ?_
        refine am_aload_n d_P_layAllBut_55 rfl rfl ?_
        refine am_get F_P 3 (by decide) d_P_layAllBut_56 w_183 rfl rfl ?_
        refine am_iload d_P_layAllBut_59 rfl ?_
        refine am_ialdA d_P_layAllBut_61 rfl (by omega) (by decide) ?_
        refine am_aload_n d_P_layAllBut_62 rfl rfl ?_
        refine am_get F_P 2 (by decide) d_P_layAllBut_63 w_181 rfl rfl ?_
        refine am_iload d_P_layAllBut_66 rfl ?_
        refine am_ialdA d_P_layAllBut_68 rfl (by omega) (by decide) ?_
        refine am_callF 4 (am_recvV (z := m_F_put) rfl d_P_layAllBut_69 w_591 w_465 w_466 w_467 F_F.1 rfl (by decide) np_F_put) (by decide) (by decide) (Nat.le_of_ble_eq_true rfl) (Nat.le_of_ble_eq_true rfl) (Nat.zero_le _) (Nat.zero_le _) (c_F_put _ _ _ _ _ _ t11 (by omega) (by omega) (by omega)) ?_
        refine am_iinc d_P_layAllBut_72 rfl (am_inc _) (by decide) ?_
        refine am_goto (tgt := 17) d_P_layAllBut_75 (by decide) ?_
        exact am_lo (L' := [(0, .ref 26), (1, .int (nI l)), (2, .ref 15), (3, .int (nI j)), (4, .int (nI (i + 1)))]) rfl (ih (i + 1) (by omega) (by omega))
set_option maxRecDepth 20000 in
theorem c_P_layAllBut_o (hS : sh_ok S) (hP : pl_ok P) (d bc bs l : Nat) (hl : l < 6) (hm : ∀ j, j < pl_jb P → ∀ i, i < sh_so S j → pl_ma P (sh_sa S (j * 4 + i)) < sh_mc S) : ∀ (n i : Nat), i ≤ pl_jb P → pl_jb P - i < n →
    am_W G m_P_layAllBut (d + 2) bc bs (fun o h' => o = .inl none ∧ h' = (hx x t S (ly S P l (fl_clear S F) (pl_jb P)) R P W)) 6 [(0, .ref 26), (1, .int (nI l)), (2, .ref 15), (3, .int (nI i))] [] (hx x t S (ly S P l (fl_clear S F) i) R P W) := by
  intro n
  obtain ⟨s1, s2, s3, s4, s5, s6, s7, s8, s9, s10, s11, s12, s13, s14⟩ := id hS
  obtain ⟨p1, p2, p3, p4, p5, p6⟩ := id hP
  have hcl := fl_sm_mono (fl_clear_sm F hS) (B' := 8000) (by omega)
  induction n with
  | zero => intro i _ h; omega
  | succ n ih =>
    intro i hi hn
    refine am_iload_n d_P_layAllBut_6 rfl rfl ?_
    refine am_aload_n d_P_layAllBut_7 rfl rfl ?_
    refine am_get F_P 4 (by decide) d_P_layAllBut_8 w_185 rfl rfl ?_
    refine am_icmpN_ge (tgt := 84) d_P_layAllBut_11 (by decide) (by omega) (by omega) (fun c11 => ?_) (fun c11 => ?_)
    · refine am_vret d_P_layAllBut_84 rfl ?_
      have e : i = pl_jb P := by omega
      subst e
      exact ⟨rfl, rfl⟩
    · refine am_iconst (v := nI 0) d_P_layAllBut_14 (by decide) ?_
      refine am_istore d_P_layAllBut_15 (by decide) ?_
      by_cases e : i = l
      · refine am_iload_n d_P_layAllBut_17 rfl rfl ?_
        refine am_iload_n d_P_layAllBut_18 rfl rfl ?_
        refine am_icmpN_eq (tgt := 78) d_P_layAllBut_19 (by decide) (by omega) (by omega) (fun c19 => ?_) (fun c19 => ?_)
        · refine am_iinc d_P_layAllBut_78 rfl (am_inc _) (by decide) ?_
          refine am_goto (tgt := 6) d_P_layAllBut_81 (by decide) ?_
          exact am_lo (L' := [(0, .ref 26), (1, .int (nI l)), (2, .ref 15), (3, .int (nI (i + 1)))]) rfl (am_hq (h2 := (hx x t S (ly S P l (fl_clear S F) (i + 1)) R P W)) (by rw [ly, if_pos e]) (ih (i + 1) (by omega) (by omega)))
        · exact absurd e (by omega)
      · refine am_lo (L' := [(0, .ref 26), (1, .int (nI l)), (2, .ref 15), (3, .int (nI i)), (4, .int (nI 0))]) rfl (c_P_layAllBut_i hS hP d bc bs l i hl (by omega) e (hm i (by omega)) (ly_sm (l := l) hS hP (fun j i' h1 h2 => hm j (by omega) i' h2) hcl i (by omega)) ?_ (sh_so S i + 1) 0 (Nat.zero_le _) (by omega))
        refine am_iinc d_P_layAllBut_78 rfl (am_inc _) (by decide) ?_
        refine am_goto (tgt := 6) d_P_layAllBut_81 (by decide) ?_
        exact am_lo (L' := [(0, .ref 26), (1, .int (nI l)), (2, .ref 15), (3, .int (nI (i + 1)))]) rfl (am_hq (h2 := (hx x t S (ly S P l (fl_clear S F) (i + 1)) R P W)) (by rw [ly, if_neg e]) (ih (i + 1) (by omega) (by omega)))
theorem c_P_layAllBut (hS : sh_ok S) (hP : pl_ok P) (d bc bs l : Nat) (hl : l < 6) (hm : ∀ j, j < pl_jb P → ∀ i, i < sh_so S j → pl_ma P (sh_sa S (j * 4 + i)) < sh_mc S) : am_Fn G m_P_layAllBut (d + 2) bc bs [.ref 26, .int (nI l), .ref 15] (hx x t S F R P W) none (hx x t S (ly S P l (fl_clear S F) (pl_jb P)) R P W) := by
  refine am_aload_n d_P_layAllBut_0 rfl rfl ?_
  refine am_callF 1 (am_recvV (z := m_F_clear) rfl d_P_layAllBut_1 w_590 w_442 w_443 w_444 F_F.1 rfl (by decide) np_F_clear) (by decide) (by decide) (Nat.le_of_ble_eq_true rfl) (Nat.le_of_ble_eq_true rfl) (Nat.zero_le _) (Nat.zero_le _) (c_F_clear hS _ _ _) ?_
  refine am_iconst (v := nI 0) d_P_layAllBut_4 (by decide) ?_
  refine am_istore_n d_P_layAllBut_5 rfl (by decide) ?_
  exact am_lo (L' := [(0, .ref 26), (1, .int (nI l)), (2, .ref 15), (3, .int (nI 0))]) rfl (c_P_layAllBut_o hS hP d bc bs l hl hm (pl_jb P + 1) 0 (Nat.zero_le _) (by have := hP.1; omega))
theorem c_P_stepEnd (d bc bs s : Nat) (hs : s < 24) : am_Fn G m_P_stepEnd d bc bs [.ref 26, .int (nI s)] (hx x t S F R P W) (some (.int (nI (pl_bg P s + sh_sh S s)))) (hx x t S F R P W) := by
  refine am_aload_n d_P_stepEnd_0 rfl rfl ?_
  refine am_get F_P 2 (by decide) d_P_stepEnd_1 w_181 rfl rfl ?_
  refine am_iload_n d_P_stepEnd_4 rfl rfl ?_
  refine am_ialdA d_P_stepEnd_5 rfl (by omega) (by decide) ?_
  refine am_aload_n d_P_stepEnd_6 rfl rfl ?_
  refine am_get F_P 0 (by decide) d_P_stepEnd_7 w_178 rfl rfl ?_
  refine am_get F_S 12 (by decide) d_P_stepEnd_10 w_65 rfl rfl ?_
  refine am_iload_n d_P_stepEnd_13 rfl rfl ?_
  refine am_ialdA d_P_stepEnd_14 rfl (by omega) (by decide) ?_
  refine am_iaddN d_P_stepEnd_15 ?_
  refine am_iret d_P_stepEnd_16 rfl ?_
  exact ⟨rfl, rfl⟩
/-- rule 2: it begins before the step before it is through -/
def sp_r2 (S : sh_T) (P : pl_T) (s : Nat) : Option Nat → Bool
  | none => false
  | some b => decide (pl_bg P s < pl_bg P b + sh_sh S b + sh_sw S b)
theorem c_P_beginsTooEarly (hS : sh_ok S) (hP : pl_ok P) (d bc bs s : Nat) (hs : s < 24) (ob : Option Nat) (hsb : sh_sb S s = oI ob) (hob : ∀ b, ob = some b → b < 24) : am_Fn G m_P_beginsTooEarly (d + 1) bc bs [.ref 26, .int (nI s)] (hx x t S F R P W) (some (.int (zI (sp_r2 S P s ob)))) (hx x t S F R P W) := by
  obtain ⟨s1, s2, s3, s4, s5, s6, s7, s8, s9, s10, s11, s12, s13, s14⟩ := id hS
  obtain ⟨p1, p2, p3, p4, p5, p6⟩ := id hP
  refine am_aload_n d_P_beginsTooEarly_0 rfl rfl ?_
  refine am_get F_P 0 (by decide) d_P_beginsTooEarly_1 w_178 rfl rfl ?_
  refine am_get F_S 14 (by decide) d_P_beginsTooEarly_4 w_70 rfl rfl ?_
  refine am_iload_n d_P_beginsTooEarly_7 rfl rfl ?_
  refine am_ialdN s d_P_beginsTooEarly_8 rfl rfl hs (by decide) ?_
  refine am_istore_n d_P_beginsTooEarly_9 rfl (by decide) ?_
  rw [hsb]
  cases ob with
  | none =>
    refine am_iload_n d_P_beginsTooEarly_10 rfl rfl ?_
    refine am_iconst (v := -1) d_P_beginsTooEarly_11 (by decide) ?_
    refine am_icmp_eq (tgt := 43) d_P_beginsTooEarly_12 (by decide) (fun c12 => ?_) (fun c12 => ?_)
    · refine am_iconst (v := nI 0) d_P_beginsTooEarly_43 (by decide) ?_
      refine am_zret d_P_beginsTooEarly_44 rfl (by decide) ?_
      exact ⟨rfl, rfl⟩
    · exact absurd rfl c12
  | some b =>
    have hb := hob b rfl
    have t13 := s13 b
    have t14 := s14 b
    have v5 := p5 b
    have w5 := p5 s
    refine am_iload_n d_P_beginsTooEarly_10 rfl rfl ?_
    refine am_iconst (v := -1) d_P_beginsTooEarly_11 (by decide) ?_
    refine am_icmp_eq (tgt := 43) d_P_beginsTooEarly_12 (by decide) (fun c12 => ?_) (fun c12 => ?_)
    · refine am_iconst (v := nI 0) d_P_beginsTooEarly_43 (by decide) ?_
      refine am_zret d_P_beginsTooEarly_44 rfl (by decide) ?_
      exact absurd c12 (nI_m1 (by omega))
    · refine am_aload_n d_P_beginsTooEarly_15 rfl rfl ?_
      refine am_get F_P 2 (by decide) d_P_beginsTooEarly_16 w_181 rfl rfl ?_
      refine am_iload_n d_P_beginsTooEarly_19 rfl rfl ?_
      refine am_ialdA d_P_beginsTooEarly_20 rfl (by omega) (by decide) ?_
      refine am_aload_n d_P_beginsTooEarly_21 rfl rfl ?_
      refine am_iload_n d_P_beginsTooEarly_22 rfl rfl ?_
      refine am_callF 2 (am_recvV (z := m_P_stepEnd) rfl d_P_beginsTooEarly_23 w_626 w_628 ws_15 w_629 F_P.1 rfl (by decide) np_P_stepEnd) (by decide) (by decide) (Nat.le_of_ble_eq_true rfl) (Nat.le_of_ble_eq_true rfl) (Nat.zero_le _) (Nat.zero_le _) (c_P_stepEnd _ _ _ b hb) ?_
      refine am_aload_n d_P_beginsTooEarly_26 rfl rfl ?_
      refine am_get F_P 0 (by decide) d_P_beginsTooEarly_27 w_178 rfl rfl ?_
      refine am_get F_S 13 (by decide) d_P_beginsTooEarly_30 w_68 rfl rfl ?_
      refine am_iload_n d_P_beginsTooEarly_33 rfl rfl ?_
      refine am_ialdA d_P_beginsTooEarly_34 rfl (by omega) (by decide) ?_
      refine am_iaddN d_P_beginsTooEarly_35 ?_
      refine am_icmpN_ge (tgt := 43) d_P_beginsTooEarly_36 (by decide) (by omega) (by omega) (fun c36 => ?_) (fun c36 => ?_)
      · refine am_iconst (v := nI 0) d_P_beginsTooEarly_43 (by decide) ?_
        refine am_zret d_P_beginsTooEarly_44 rfl (by decide) ?_
        exact ⟨by rw [show sp_r2 S P s (some b) = false from decide_eq_false (by omega), zI_f], rfl⟩
      · refine am_iconst (v := nI 1) d_P_beginsTooEarly_39 (by decide) ?_
        refine am_goto (tgt := 44) d_P_beginsTooEarly_40 (by decide) ?_
        refine am_zret d_P_beginsTooEarly_44 rfl (by decide) ?_
        exact ⟨by rw [show sp_r2 S P s (some b) = true from decide_eq_true (by omega), zI_t], rfl⟩
/-- rule 3: it shares an hour of its machine with one of the first n steps -/
def sp_r3 (S : sh_T) (P : pl_T) (s : Nat) : Nat → Bool
  | 0 => false
  | n + 1 => sp_r3 S P s n || (decide (pl_ma P n = pl_ma P s) && sp_meets (pl_bg P s) (pl_bg P s + sh_sh S s) (pl_bg P n) (pl_bg P n + sh_sh S n))
theorem sp_r3_t {S : sh_T} {P : pl_T} {s i : Nat} (h1 : pl_ma P i = pl_ma P s) (h2 : sp_meets (pl_bg P s) (pl_bg P s + sh_sh S s) (pl_bg P i) (pl_bg P i + sh_sh S i) = true) : ∀ n, i < n → sp_r3 S P s n = true
  | 0, h => absurd h (Nat.not_lt_zero i)
  | n + 1, h => by
    unfold sp_r3
    rcases Nat.lt_or_ge i n with q | q
    · rw [sp_r3_t h1 h2 n q, Bool.true_or]
    · have e : i = n := by omega
      subst e
      rw [h2, decide_eq_true h1, Bool.and_self, Bool.or_true]
/-- rule 4: one of its machine's first n spans -/
def sp_r4 (S : sh_T) (P : pl_T) (s : Nat) : Nat → Bool
  | 0 => false
  | n + 1 => sp_r4 S P s n || sp_meets (pl_bg P s) (pl_bg P s + sh_sh S s) (sh_sf S (pl_ma P s * 8 + n)) (sh_st S (pl_ma P s * 8 + n))
theorem sp_r4_t {S : sh_T} {P : pl_T} {s i : Nat} (h2 : sp_meets (pl_bg P s) (pl_bg P s + sh_sh S s) (sh_sf S (pl_ma P s * 8 + i)) (sh_st S (pl_ma P s * 8 + i)) = true) : ∀ n, i < n → sp_r4 S P s n = true
  | 0, h => absurd h (Nat.not_lt_zero i)
  | n + 1, h => by
    unfold sp_r4
    rcases Nat.lt_or_ge i n with q | q
    · rw [sp_r4_t h2 n q, Bool.true_or]
    · have e : i = n := by omega
      subst e
      rw [h2, Bool.or_true]
set_option maxRecDepth 20000 in
theorem c_P_sharesWithStep_l (hS : sh_ok S) (hP : pl_ok P) (d bc bs s : Nat) (hs : s < 24) : ∀ (n i : Nat), i ≤ s → s - i < n → sp_r3 S P s i = false →
    am_W G m_P_sharesWithStep (d + 1) bc bs (fun o h' => o = .inl (some (.int (zI (sp_r3 S P s s)))) ∧ h' = (hx x t S F R P W)) 2 [(0, .ref 26), (1, .int (nI s)), (2, .int (nI i))] [] (hx x t S F R P W) := by
  intro n
  obtain ⟨s1, s2, s3, s4, s5, s6, s7, s8, s9, s10, s11, s12, s13, s14⟩ := id hS
  obtain ⟨p1, p2, p3, p4, p5, p6⟩ := id hP
  have w5 := p5 s
  have w6 := p6 s
  have w13 := s13 s
  induction n with
  | zero => intro i _ h; omega
  | succ n ih =>
    intro i hi hn hno
    have v5 := p5 i
    have v6 := p6 i
    have v13 := s13 i
    refine am_iload_n d_P_sharesWithStep_2 rfl rfl ?_
    refine am_iload_n d_P_sharesWithStep_3 rfl rfl ?_
    refine am_icmpN_ge (tgt := 58) d_P_sharesWithStep_4 (by decide) (by omega) (by omega) (fun c4 => ?_) (fun c4 => ?_)
    · refine am_iconst (v := nI 0) d_P_sharesWithStep_58 (by decide) ?_
      refine am_zret d_P_sharesWithStep_59 rfl (by decide) ?_
      have e : i = s := by omega
      subst e
      exact ⟨by rw [hno, zI_f], rfl⟩
    · refine am_aload_n d_P_sharesWithStep_7 rfl rfl ?_
      refine am_get F_P 3 (by decide) d_P_sharesWithStep_8 w_183 rfl rfl ?_
      refine am_iload_n d_P_sharesWithStep_11 rfl rfl ?_
      refine am_ialdA d_P_sharesWithStep_12 rfl (by omega) (by decide) ?_
      refine am_aload_n d_P_sharesWithStep_13 rfl rfl ?_
      refine am_get F_P 3 (by decide) d_P_sharesWithStep_14 w_183 rfl rfl ?_
      refine am_iload_n d_P_sharesWithStep_17 rfl rfl ?_
      refine am_ialdA d_P_sharesWithStep_18 rfl (by omega) (by decide) ?_
      refine am_icmpN_ne (tgt := 52) d_P_sharesWithStep_19 (by decide) (by omega) (by omega) (fun c19 => ?_) (fun c19 => ?_)
      · refine am_iinc d_P_sharesWithStep_52 rfl (am_inc _) (by decide) ?_
        refine am_goto (tgt := 2) d_P_sharesWithStep_55 (by decide) ?_
        exact am_lo (L' := [(0, .ref 26), (1, .int (nI s)), (2, .int (nI (i + 1)))]) rfl (ih (i + 1) (by omega) (by omega) (by rw [sp_r3, hno, Bool.false_or, decide_eq_false c19, Bool.false_and]))
      · refine am_aload_n d_P_sharesWithStep_22 rfl rfl ?_
        refine am_get F_P 2 (by decide) d_P_sharesWithStep_23 w_181 rfl rfl ?_
        refine am_iload_n d_P_sharesWithStep_26 rfl rfl ?_
        refine am_ialdA d_P_sharesWithStep_27 rfl (by omega) (by decide) ?_
        refine am_aload_n d_P_sharesWithStep_28 rfl rfl ?_
        refine am_iload_n d_P_sharesWithStep_29 rfl rfl ?_
        refine am_callF 2 (am_recvV (z := m_P_stepEnd) rfl d_P_sharesWithStep_30 w_626 w_628 ws_15 w_629 F_P.1 rfl (by decide) np_P_stepEnd) (by decide) (by decide) (Nat.le_of_ble_eq_true rfl) (Nat.le_of_ble_eq_true rfl) (Nat.zero_le _) (Nat.zero_le _) (c_P_stepEnd _ _ _ s hs) ?_
        refine am_aload_n d_P_sharesWithStep_33 rfl rfl ?_
        refine am_get F_P 2 (by decide) d_P_sharesWithStep_34 w_181 rfl rfl ?_
        refine am_iload_n d_P_sharesWithStep_37 rfl rfl ?_
        refine am_ialdA d_P_sharesWithStep_38 rfl (by omega) (by decide) ?_
        refine am_aload_n d_P_sharesWithStep_39 rfl rfl ?_
        refine am_iload_n d_P_sharesWithStep_40 rfl rfl ?_
        refine am_callF 2 (am_recvV (z := m_P_stepEnd) rfl d_P_sharesWithStep_41 w_626 w_628 ws_15 w_629 F_P.1 rfl (by decide) np_P_stepEnd) (by decide) (by decide) (Nat.le_of_ble_eq_true rfl) (Nat.le_of_ble_eq_true rfl) (Nat.zero_le _) (Nat.zero_le _) (c_P_stepEnd _ _ _ i (by omega)) ?_
        refine am_callF 4 (am_lkSN (host := "WorkPlans") (z := m_X_shareAnHour) d_P_sharesWithStep_44 (by decide +kernel) w_462 w_1 w_463 (by decide) np_X_shareAnHour) (by decide) (by decide) (Nat.le_of_ble_eq_true rfl) (Nat.le_of_ble_eq_true rfl) (Nat.zero_le _) (Nat.zero_le _) (c_X_shareAnHour _ _ _ _ _ _ _ (by omega) (by omega) (by omega) (by omega)) ?_
        refine am_ifZ_eq (tgt := 52) d_P_sharesWithStep_47 (by decide) (fun c47 => ?_) (fun c47 => ?_)
        · refine am_iinc d_P_sharesWithStep_52 rfl (am_inc _) (by decide) ?_
          refine am_goto (tgt := 2) d_P_sharesWithStep_55 (by decide) ?_
          exact am_lo (L' := [(0, .ref 26), (1, .int (nI s)), (2, .int (nI (i + 1)))]) rfl (ih (i + 1) (by omega) (by omega) (by rw [sp_r3, hno, Bool.false_or, c47, Bool.and_false]))
        · refine am_iconst (v := nI 1) d_P_sharesWithStep_50 (by decide) ?_
          refine am_zret d_P_sharesWithStep_51 rfl (by decide) ?_
          exact ⟨by rw [sp_r3_t c19 c47 s (by omega), zI_t], rfl⟩
theorem c_P_sharesWithStep (hS : sh_ok S) (hP : pl_ok P) (d bc bs s : Nat) (hs : s < 24) : am_Fn G m_P_sharesWithStep (d + 1) bc bs [.ref 26, .int (nI s)] (hx x t S F R P W) (some (.int (zI (sp_r3 S P s s)))) (hx x t S F R P W) := by
  refine am_iconst (v := nI 0) d_P_sharesWithStep_0 (by decide) ?_
  refine am_istore_n d_P_sharesWithStep_1 rfl (by decide) ?_
  exact am_lo (L' := [(0, .ref 26), (1, .int (nI s)), (2, .int (nI 0))]) rfl (c_P_sharesWithStep_l hS hP d bc bs s hs (s + 1) 0 (Nat.zero_le _) (by omega) rfl)
set_option maxRecDepth 20000 in
theorem c_P_sharesWithSpan_l (hS : sh_ok S) (hP : pl_ok P) (d bc bs s : Nat) (hs : s < 24) : ∀ (n i : Nat), i ≤ sh_sp S (pl_ma P s) → sh_sp S (pl_ma P s) - i < n → sp_r4 S P s i = false →
    am_W G m_P_sharesWithSpan (d + 1) bc bs (fun o h' => o = .inl (some (.int (zI (sp_r4 S P s (sh_sp S (pl_ma P s)))))) ∧ h' = (hx x t S F R P W)) 16 [(0, .ref 26), (1, .int (nI s)), (2, .int (nI (pl_ma P s))), (3, .int (nI i))] [] (hx x t S F R P W) := by
  intro n
  obtain ⟨s1, s2, s3, s4, s5, s6, s7, s8, s9, s10, s11, s12, s13, s14⟩ := id hS
  obtain ⟨p1, p2, p3, p4, p5, p6⟩ := id hP
  have w5 := p5 s
  have w6 := p6 s
  have w13 := s13 s
  have t5 := s5 (pl_ma P s)
  induction n with
  | zero => intro i _ h; omega
  | succ n ih =>
    intro i hi hn hno
    refine am_iload_n d_P_sharesWithSpan_16 rfl rfl ?_
    refine am_aload_n d_P_sharesWithSpan_17 rfl rfl ?_
    refine am_get F_P 0 (by decide) d_P_sharesWithSpan_18 w_178 rfl rfl ?_
    refine am_get F_S 2 (by decide) d_P_sharesWithSpan_21 w_36 rfl rfl ?_
    refine am_iload_n d_P_sharesWithSpan_24 rfl rfl ?_
    refine am_ialdA d_P_sharesWithSpan_25 rfl (by omega) (by decide) ?_
    refine am_icmpN_ge (tgt := 82) d_P_sharesWithSpan_26 (by decide) (by omega) (by omega) (fun c26 => ?_) (fun c26 => ?_)
    · refine am_iconst (v := nI 0) d_P_sharesWithSpan_82 (by decide) ?_
      refine am_zret d_P_sharesWithSpan_83 rfl (by decide) ?_
      have e : i = sh_sp S (pl_ma P s) := by omega
      subst e
      exact ⟨by rw [hno, zI_f], rfl⟩
    · have t6 := s6 (pl_ma P s * 8 + i)
      have t7 := s7 (pl_ma P s * 8 + i)
      refine am_iload_n d_P_sharesWithSpan_29 rfl rfl ?_
      refine am_bipush (v := nI 8) d_P_sharesWithSpan_30 (by decide) ?_
      refine am_imulN d_P_sharesWithSpan_32 ?_
      refine am_iload_n d_P_sharesWithSpan_33 rfl rfl ?_
      refine am_iaddN d_P_sharesWithSpan_34 ?_
      refine am_istore d_P_sharesWithSpan_35 (by decide) ?_
      refine am_aload_n d_P_sharesWithSpan_37 rfl rfl ?_
      refine am_get F_P 2 (by decide) d_P_sharesWithSpan_38 w_181 rfl rfl ?_
      refine am_iload_n d_P_sharesWithSpan_41 rfl rfl ?_
      refine am_ialdA d_P_sharesWithSpan_42 rfl (by omega) (by decide) ?_
      refine am_aload_n d_P_sharesWithSpan_43 rfl rfl ?_
      refine am_iload_n d_P_sharesWithSpan_44 rfl rfl ?_
      refine am_callF 2 (am_recvV (z := m_P_stepEnd) rfl d_P_sharesWithSpan_45 w_626 w_628 ws_15 w_629 F_P.1 rfl (by decide) np_P_stepEnd) (by decide) (by decide) (Nat.le_of_ble_eq_true rfl) (Nat.le_of_ble_eq_true rfl) (Nat.zero_le _) (Nat.zero_le _) (c_P_stepEnd _ _ _ s hs) ?_
      refine am_aload_n d_P_sharesWithSpan_48 rfl rfl ?_
      refine am_get F_P 0 (by decide) d_P_sharesWithSpan_49 w_178 rfl rfl ?_
      refine am_get F_S 3 (by decide) d_P_sharesWithSpan_52 w_39 rfl rfl ?_
      refine am_iload d_P_sharesWithSpan_55 rfl ?_
      refine am_ialdA d_P_sharesWithSpan_57 rfl (by omega) (by decide) ?_
      refine am_aload_n d_P_sharesWithSpan_58 rfl rfl ?_
      refine am_get F_P 0 (by decide) d_P_sharesWithSpan_59 w_178 rfl rfl ?_
      refine am_get F_S 4 (by decide) d_P_sharesWithSpan_62 w_42 rfl rfl ?_
      refine am_iload d_P_sharesWithSpan_65 rfl ?_
      refine am_ialdA d_P_sharesWithSpan_67 rfl (by omega) (by decide) ?_
      refine am_callF 4 (am_lkSN (host := "WorkPlans") (z := m_X_shareAnHour) d_P_sharesWithSpan_68 (by decide +kernel) w_462 w_1 w_463 (by decide) np_X_shareAnHour) (by decide) (by decide) (Nat.le_of_ble_eq_true rfl) (Nat.le_of_ble_eq_true rfl) (Nat.zero_le _) (Nat.zero_le _) (c_X_shareAnHour _ _ _ _ _ _ _ (by omega) (by omega) (by omega) (by omega)) ?_
      refine am_ifZ_eq (tgt := 76) d_P_sharesWithSpan_71 (by decide) (fun c71 => ?_) (fun c71 => ?_)
      · refine am_iinc d_P_sharesWithSpan_76 rfl (am_inc _) (by decide) ?_
        refine am_goto (tgt := 16) d_P_sharesWithSpan_79 (by decide) ?_
        exact am_lo (L' := [(0, .ref 26), (1, .int (nI s)), (2, .int (nI (pl_ma P s))), (3, .int (nI (i + 1)))]) rfl (ih (i + 1) (by omega) (by omega) (by rw [sp_r4, hno, Bool.false_or, c71]))
      · refine am_iconst (v := nI 1) d_P_sharesWithSpan_74 (by decide) ?_
        refine am_zret d_P_sharesWithSpan_75 rfl (by decide) ?_
        exact ⟨by rw [sp_r4_t c71 _ (by omega), zI_t], rfl⟩
theorem c_P_sharesWithSpan (hS : sh_ok S) (hP : pl_ok P) (d bc bs s : Nat) (hs : s < 24) : am_Fn G m_P_sharesWithSpan (d + 1) bc bs [.ref 26, .int (nI s)] (hx x t S F R P W) (some (.int (zI (sp_r4 S P s (sh_sp S (pl_ma P s)))))) (hx x t S F R P W) := by
  have w6 := hP.2.2.2.2.2 s
  refine am_aload_n d_P_sharesWithSpan_0 rfl rfl ?_
  refine am_get F_P 3 (by decide) d_P_sharesWithSpan_1 w_183 rfl rfl ?_
  refine am_iload_n d_P_sharesWithSpan_4 rfl rfl ?_
  refine am_ialdA d_P_sharesWithSpan_5 rfl (by omega) (by decide) ?_
  refine am_istore_n d_P_sharesWithSpan_6 rfl (by decide) ?_
  refine am_iload_n d_P_sharesWithSpan_7 rfl rfl ?_
  refine am_iconst (v := -1) d_P_sharesWithSpan_8 (by decide) ?_
  refine am_icmp_ne (tgt := 14) d_P_sharesWithSpan_9 (by decide) (fun c9 => ?_) (fun c9 => ?_)
  · refine am_iconst (v := nI 0) d_P_sharesWithSpan_14 (by decide) ?_
    refine am_istore_n d_P_sharesWithSpan_15 rfl (by decide) ?_
    exact am_lo (L' := [(0, .ref 26), (1, .int (nI s)), (2, .int (nI (pl_ma P s))), (3, .int (nI 0))]) rfl (c_P_sharesWithSpan_l hS hP d bc bs s hs (sh_sp S (pl_ma P s) + 1) 0 (Nat.zero_le _) (by omega) rfl)
  · exact absurd c9 (nI_m1 (by omega))
/-- the end of a job's last step, if the plan has it; else 0 -/
def sp_ed (S : sh_T) (P : pl_T) (j : Nat) : Nat := if sh_so S j = 0 then 0 else if sh_sa S (j * 4 + sh_so S j - 1) < pl_ss P then pl_bg P (sh_sa S (j * 4 + sh_so S j - 1)) + sh_sh S (sh_sa S (j * 4 + sh_so S j - 1)) else 0
theorem c_P_endOf (hS : sh_ok S) (hP : pl_ok P) (d bc bs j : Nat) (hj : j < 6) : am_Fn G m_P_endOf (d + 1) bc bs [.ref 26, .int (nI j)] (hx x t S F R P W) (some (.int (nI (sp_ed S P j)))) (hx x t S F R P W) := by
  have s11 := hS.2.2.2.2.2.2.2.2.2.2.1
  refine am_aload_n d_P_endOf_0 rfl rfl ?_
  refine am_get F_P 0 (by decide) d_P_endOf_1 w_178 rfl rfl ?_
  refine am_iload_n d_P_endOf_4 rfl rfl ?_
  refine am_callF 2 (am_recvV (z := m_S_lastStep) rfl d_P_endOf_5 w_643 w_409 w_410 w_411 F_S.1 rfl (by decide) np_S_lastStep) (by decide) (by decide) (Nat.le_of_ble_eq_true rfl) (Nat.le_of_ble_eq_true rfl) (Nat.zero_le _) (Nat.zero_le _) (c_S_lastStep hS _ _ _ j hj) ?_
  refine am_istore_n d_P_endOf_8 rfl (by decide) ?_
  refine am_aload_n d_P_endOf_9 rfl rfl ?_
  refine am_iload_n d_P_endOf_10 rfl rfl ?_
  refine am_callF 2 (am_recvV (z := m_P_has) rfl d_P_endOf_11 w_503 w_504 w_505 w_506 F_P.1 rfl (by decide) np_P_has) (by decide) (by decide) (Nat.le_of_ble_eq_true rfl) (Nat.le_of_ble_eq_true rfl) (Nat.zero_le _) (Nat.zero_le _) (c_P_has _ _ _ _) ?_
  by_cases e : sh_so S j = 0
  · rw [show sp_last S j = -1 from if_pos e, sp_hs_m]
    refine am_ifZ_eq (tgt := 25) d_P_endOf_14 (by decide) (fun c14 => ?_) (fun c14 => ?_)
    · refine am_iconst (v := nI 0) d_P_endOf_25 (by decide) ?_
      refine am_iret d_P_endOf_26 rfl ?_
      exact ⟨by rw [show sp_ed S P j = 0 from if_pos e], rfl⟩
    · exact absurd c14 (by decide)
  · rw [show sp_last S j = nI (sh_sa S (j * 4 + sh_so S j - 1)) from if_neg e, sp_hs_N hP (by have := s11 (j * 4 + sh_so S j - 1); omega)]
    refine am_ifZ_eq (tgt := 25) d_P_endOf_14 (by decide) (fun c14 => ?_) (fun c14 => ?_)
    · refine am_iconst (v := nI 0) d_P_endOf_25 (by decide) ?_
      refine am_iret d_P_endOf_26 rfl ?_
      exact ⟨by rw [show sp_ed S P j = 0 by unfold sp_ed; rw [if_neg e, if_neg (of_decide_eq_false c14)]], rfl⟩
    · refine am_aload_n d_P_endOf_17 rfl rfl ?_
      refine am_iload_n d_P_endOf_18 rfl rfl ?_
      refine am_callF 2 (am_recvV (z := m_P_stepEnd) rfl d_P_endOf_19 w_626 w_628 ws_15 w_629 F_P.1 rfl (by decide) np_P_stepEnd) (by decide) (by decide) (Nat.le_of_ble_eq_true rfl) (Nat.le_of_ble_eq_true rfl) (Nat.zero_le _) (Nat.zero_le _) (c_P_stepEnd _ _ _ _ (s11 _)) ?_
      refine am_goto (tgt := 26) d_P_endOf_22 (by decide) ?_
      refine am_iret d_P_endOf_26 rfl ?_
      exact ⟨by rw [show sp_ed S P j = pl_bg P (sh_sa S (j * 4 + sh_so S j - 1)) + sh_sh S (sh_sa S (j * 4 + sh_so S j - 1)) by unfold sp_ed; rw [if_neg e, if_pos (of_decide_eq_true c14)]], rfl⟩
/-- a step breaks a rule -/
def sp_br (S : sh_T) (P : pl_T) (ob : Option Nat) (s : Nat) : Nat → Bool
  | 1 => !decide (s < pl_ss P)
  | 2 => sp_r2 S P s ob
  | 3 => sp_r3 S P s s
  | 4 => sp_r4 S P s (sh_sp S (pl_ma P s))
  | _ => false
theorem c_P_breaks (hS : sh_ok S) (hP : pl_ok P) (d bc bs r s : Nat) (h1 : 1 ≤ r) (h4 : r ≤ 4) (hs : s < 24) (ob : Option Nat) (hsb : sh_sb S s = oI ob) (hob : ∀ b, ob = some b → b < 24) : am_Fn G m_P_breaks (d + 2) bc bs [.ref 26, .int (nI r), .int (nI s)] (hx x t S F R P W) (some (.int (zI (sp_br S P ob s r)))) (hx x t S F R P W) := by
  have hr : r = 1 ∨ r = 2 ∨ r = 3 ∨ r = 4 := by omega
  rcases hr with rfl | rfl | rfl | rfl
  · refine am_iload_n d_P_breaks_0 rfl rfl ?_
    refine am_tableIn (tgt := 32) d_P_breaks_1 (by decide) (by decide) rfl (by decide) ?_
    refine am_aload_n d_P_breaks_32 rfl rfl ?_
    refine am_iload_n d_P_breaks_33 rfl rfl ?_
    refine am_callF 2 (am_recvV (z := m_P_has) rfl d_P_breaks_34 w_503 w_504 w_505 w_506 F_P.1 rfl (by decide) np_P_has) (by decide) (by decide) (Nat.le_of_ble_eq_true rfl) (Nat.le_of_ble_eq_true rfl) (Nat.zero_le _) (Nat.zero_le _) (c_P_has _ _ _ _) ?_
    rw [sp_hs_N hP (by omega)]
    refine am_ifZ_ne (tgt := 44) d_P_breaks_37 (by decide) (fun c37 => ?_) (fun c37 => ?_)
    · refine am_iconst (v := nI 0) d_P_breaks_44 (by decide) ?_
      refine am_zret d_P_breaks_45 rfl (by decide) ?_
      exact ⟨by rw [show sp_br S P ob s 1 = false by unfold sp_br; rw [c37]; rfl, zI_f], rfl⟩
    · refine am_iconst (v := nI 1) d_P_breaks_40 (by decide) ?_
      refine am_goto (tgt := 45) d_P_breaks_41 (by decide) ?_
      refine am_zret d_P_breaks_45 rfl (by decide) ?_
      exact ⟨by rw [show sp_br S P ob s 1 = true by unfold sp_br; rw [c37]; rfl, zI_t], rfl⟩
  · refine am_iload_n d_P_breaks_0 rfl rfl ?_
    refine am_tableIn (tgt := 46) d_P_breaks_1 (by decide) (by decide) rfl (by decide) ?_
    refine am_aload_n d_P_breaks_46 rfl rfl ?_
    refine am_iload_n d_P_breaks_47 rfl rfl ?_
    refine am_callF 2 (am_recvV (z := m_P_beginsTooEarly) rfl d_P_breaks_48 w_622 w_624 ws_14 w_625 F_P.1 rfl (by decide) np_P_beginsTooEarly) (by decide) (by decide) (Nat.le_of_ble_eq_true rfl) (Nat.le_of_ble_eq_true rfl) (Nat.zero_le _) (Nat.zero_le _) (c_P_beginsTooEarly hS hP _ _ _ s hs ob hsb hob) ?_
    refine am_zret d_P_breaks_51 rfl (zI_n _) ?_
    exact ⟨rfl, rfl⟩
  · refine am_iload_n d_P_breaks_0 rfl rfl ?_
    refine am_tableIn (tgt := 52) d_P_breaks_1 (by decide) (by decide) rfl (by decide) ?_
    refine am_aload_n d_P_breaks_52 rfl rfl ?_
    refine am_iload_n d_P_breaks_53 rfl rfl ?_
    refine am_callF 2 (am_recvV (z := m_P_sharesWithStep) rfl d_P_breaks_54 w_630 w_632 ws_16 w_633 F_P.1 rfl (by decide) np_P_sharesWithStep) (by decide) (by decide) (Nat.le_of_ble_eq_true rfl) (Nat.le_of_ble_eq_true rfl) (Nat.zero_le _) (Nat.zero_le _) (c_P_sharesWithStep hS hP _ _ _ s hs) ?_
    refine am_zret d_P_breaks_57 rfl (zI_n _) ?_
    exact ⟨rfl, rfl⟩
  · refine am_iload_n d_P_breaks_0 rfl rfl ?_
    refine am_tableIn (tgt := 58) d_P_breaks_1 (by decide) (by decide) rfl (by decide) ?_
    refine am_aload_n d_P_breaks_58 rfl rfl ?_
    refine am_iload_n d_P_breaks_59 rfl rfl ?_
    refine am_callF 2 (am_recvV (z := m_P_sharesWithSpan) rfl d_P_breaks_60 w_635 w_637 ws_17 w_638 F_P.1 rfl (by decide) np_P_sharesWithSpan) (by decide) (by decide) (Nat.le_of_ble_eq_true rfl) (Nat.le_of_ble_eq_true rfl) (Nat.zero_le _) (Nat.zero_le _) (c_P_sharesWithSpan hS hP _ _ _ s hs) ?_
    refine am_zret d_P_breaks_63 rfl (zI_n _) ?_
    exact ⟨rfl, rfl⟩
end CPA
