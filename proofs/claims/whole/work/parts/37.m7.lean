/-! the model: a plan kept, a plan made, run, improve -/
/-- a row that holds a plan: -1 behind its steps -/
def pq (n : Nat) (g : Nat → Nat) : Nat → Int32 := fun s => if s < n then nI (g s) else -1
theorem pq_lt {n s : Nat} {g : Nat → Nat} (h : s < n) : pq n g s = nI (g s) := if_pos h
theorem pq_ge {n s : Nat} {g : Nat → Nat} (h : n ≤ s) : pq n g s = -1 := if_neg (by omega)
theorem pq_iff {n s v : Nat} {g : Nat → Nat} (hv : v < 2 ^ 31) (hg : g s < 2 ^ 31) : nI v = pq n g s ↔ s < n ∧ g s = v := by
  by_cases h : s < n
  · rw [pq_lt h]
    exact ⟨fun e => ⟨h, (nI_inj hv hg e).symm⟩, fun e => by rw [e.2]⟩
  · rw [pq_ge (by omega)]
    exact ⟨fun e => absurd e (nI_m1 hv), fun e => absurd e.1 h⟩
theorem pq_tk {n : Nat} {f g : Nat → Nat} : pq n (tk_u f g n) = pq n f := by
  funext s
  by_cases h : s < n
  · rw [pq_lt h, pq_lt h, tk_u_lt h]
  · rw [pq_ge (by omega), pq_ge (by omega)]
theorem up_eq (f : Nat → Int32) (k : Nat) (v : Int32) : upd f k v k = v := by unfold upd; rw [if_pos rfl]
theorem up_ne (f : Nat → Int32) {k j : Nat} (v : Int32) (h : j ≠ k) : upd f k v j = f j := by unfold upd; rw [if_neg h]
theorem up_all {f g : Nat → Int32} {i : Nat} (h : ∀ q, q < i → f q = g q) : ∀ q, q < i + 1 → upd f i (g i) q = g q := by
  intro q hq
  by_cases e : q = i
  · subst e; exact up_eq _ _ _
  · rw [up_ne _ _ e]; exact h q (by omega)
theorem up_all2 {f g : Nat → Int32} {i : Nat} {v : Int32} (h : ∀ q, q < i → f q = g q) (hv : v = g i) : ∀ q, q < i + 1 → upd f i v q = g q := by
  subst hv; exact up_all h
theorem se_pm_cg {S : sh_T} {f g : Nat → Nat} (e : ∀ k, k < sh_jb S → f k = g k) (h : se_pm S g) : se_pm S f := by
  refine ⟨fun k hk => by rw [e k hk]; exact h.1 k hk, fun j hj => ?_, se_ij_cg e h.2.2⟩
  obtain ⟨k, h1, h2⟩ := h.2.1 j hj
  exact ⟨k, h1, (e k h1).trans h2⟩
section CM7
variable {G : am_G} {A : ma_T} {S : sh_T} {jo : Nat → Nat} {M : mo_T} {V : am_H}
set_option maxRecDepth 20000 in
theorem c_M_keepWas_l (d bc bs : Nat) : ∀ (n i : Nat), i ≤ 24 → 24 - i < n → ∀ (wh wm : Nat → Int32), (∀ q, q < i → wh q = mo_ph M q) → (∀ q, q < i → wm q = mo_pm M q) →
    am_W G m_M_keepWas d bc bs (fun o h' => o = .inl none ∧ h' = (hm A S jo (mo_cd M, mo_xx M, mo_hr M, mo_mh M, mo_pd M, mo_fr M, mo_pj M, mo_pn M, mo_ph M, mo_pm M, mo_ph M, mo_pm M, mo_co M, mo_bo M, mo_no M, mo_ch M, mo_ro M, mo_tr M, mo_us M) V)) 2 [(0, .ref 30), (1, .int (nI i))] [] (hm A S jo (mo_cd M, mo_xx M, mo_hr M, mo_mh M, mo_pd M, mo_fr M, mo_pj M, mo_pn M, mo_ph M, mo_pm M, wh, wm, mo_co M, mo_bo M, mo_no M, mo_ch M, mo_ro M, mo_tr M, mo_us M) V) := by
  intro n
  induction n with
  | zero => intro i _ h; omega
  | succ n ih =>
    intro i hi hn wh wm h1 h2
    refine am_iload_n d_M_keepWas_2 rfl rfl ?_
    refine am_bipush (v := nI 24) d_M_keepWas_3 (by decide) ?_
    refine am_icmpN_ge (tgt := 38) d_M_keepWas_5 (by decide) (by omega) (by omega) (fun c5 => ?_) (fun c5 => ?_)
    · have e : i = 24 := by omega
      subst e
      refine am_cell (a := 47) (mo_ph M) rfl h1 ?_
      refine am_hq (hm_wh _) ?_
      refine am_cell (a := 48) (mo_pm M) rfl h2 ?_
      refine am_hq (hm_wm _) ?_
      refine am_vret d_M_keepWas_38 rfl ?_
      exact ⟨rfl, rfl⟩
    · refine am_aload_n d_M_keepWas_8 rfl rfl ?_
      refine am_get F_M 25 (by decide) d_M_keepWas_9 w_675 rfl rfl ?_
      refine am_iload_n d_M_keepWas_12 rfl rfl ?_
      refine am_aload_n d_M_keepWas_13 rfl rfl ?_
      refine am_get F_M 23 (by decide) d_M_keepWas_14 w_673 rfl rfl ?_
      refine am_iload_n d_M_keepWas_17 rfl rfl ?_
      refine am_ialdN _ d_M_keepWas_18 rfl rfl (by omega) (by decide) ?_
      refine am_iastN _ d_M_keepWas_19 rfl rfl (by omega) (by decide) ?_
      refine am_hq (hm_wh _) ?_
      refine am_aload_n d_M_keepWas_20 rfl rfl ?_
      refine am_get F_M 26 (by decide) d_M_keepWas_21 w_676 rfl rfl ?_
      refine am_iload_n d_M_keepWas_24 rfl rfl ?_
      refine am_aload_n d_M_keepWas_25 rfl rfl ?_
      refine am_get F_M 24 (by decide) d_M_keepWas_26 w_674 rfl rfl ?_
      refine am_iload_n d_M_keepWas_29 rfl rfl ?_
      refine am_ialdN _ d_M_keepWas_30 rfl rfl (by omega) (by decide) ?_
      refine am_iastN _ d_M_keepWas_31 rfl rfl (by omega) (by decide) ?_
      refine am_hq (hm_wm _) ?_
      refine am_iinc d_M_keepWas_32 rfl (am_inc _) (by decide) ?_
      refine am_goto (tgt := 2) d_M_keepWas_35 (by decide) ?_
      exact am_lo (L' := [(0, .ref 30), (1, .int (nI (i + 1)))]) rfl (ih (i + 1) (by omega) (by omega) _ _ (up_all h1) (up_all h2))
theorem c_M_keepWas (d bc bs : Nat) : am_Fn G m_M_keepWas d bc bs [.ref 30] (hm A S jo M V) none (hm A S jo (mo_cd M, mo_xx M, mo_hr M, mo_mh M, mo_pd M, mo_fr M, mo_pj M, mo_pn M, mo_ph M, mo_pm M, mo_ph M, mo_pm M, mo_co M, mo_bo M, mo_no M, mo_ch M, mo_ro M, mo_tr M, mo_us M) V) := by
  refine am_iconst (v := nI 0) d_M_keepWas_0 (by decide) ?_
  refine am_istore_n d_M_keepWas_1 rfl (by decide) ?_
  exact am_lo (L' := [(0, .ref 30), (1, .int (nI 0))]) rfl (c_M_keepWas_l d bc bs 25 0 (Nat.zero_le _) (by omega) (mo_wh M) (mo_wm M) (fun q hq => absurd hq (Nat.not_lt_zero q)) (fun q hq => absurd hq (Nat.not_lt_zero q)))
set_option maxRecDepth 20000 in
theorem c_M_become_1 {Q : am_O → am_H → Prop} {P : pl_T} {F : fl_T} (hS : sh_ok S) (hP : pl_ok P) (d bc bs : Nat) (hh : ∀ s, s < sh_ss S → mo_hr M s = nI (fl_bg F s) ∧ mo_mh M s = nI (fl_ma F s)) (hF : ∀ s, s < sh_ss S → fl_bg F s < 2 ^ 31 ∧ fl_ma F s < 2 ^ 31) (hw : ∀ s, s < 24 → mo_wh M s = pq (pl_ss P) (pl_bg P) s ∧ mo_wm M s = pq (pl_ss P) (pl_ma P) s)
    (hk : am_W G m_M_become d bc bs Q 131 [(0, .ref 30), (1, .int (nI 24))] [] (hm A S jo (mo_cd M, mo_xx M, mo_hr M, mo_mh M, mo_pd M, mo_fr M, mo_pj M, mo_pn M, (pq (sh_ss S) (fl_bg F)), (pq (sh_ss S) (fl_ma F)), mo_wh M, mo_wm M, mo_co M, mo_bo M, mo_no M, (tk_m P F (sh_ss S)), mo_ro M, mo_tr M, mo_us M) V)) : ∀ (n s : Nat), s ≤ 24 → 24 - s < n → ∀ (ph pm : Nat → Int32) (c : Nat), (∀ q, q < s → ph q = (pq (sh_ss S) (fl_bg F)) q) → (∀ q, q < s → pm q = (pq (sh_ss S) (fl_ma F)) q) → c = tk_m P F (min s (sh_ss S)) →
    am_W G m_M_become d bc bs Q 19 [(0, .ref 30), (1, .int (nI s))] [] (hm A S jo (mo_cd M, mo_xx M, mo_hr M, mo_mh M, mo_pd M, mo_fr M, mo_pj M, mo_pn M, ph, pm, mo_wh M, mo_wm M, mo_co M, mo_bo M, mo_no M, c, mo_ro M, mo_tr M, mo_us M) V) := by
  intro n
  have s3 := hS.2.2.1
  induction n with
  | zero => intro i _ h; omega
  | succ n ih =>
    intro s hi hn ph pm c h1 h2 hc
    refine am_iload_n d_M_become_19 rfl rfl ?_
    refine am_bipush (v := nI 24) d_M_become_20 (by decide) ?_
    refine am_icmpN_ge (tgt := 131) d_M_become_22 (by decide) (by omega) (by omega) (fun c22 => ?_) (fun c22 => ?_)
    · have e : s = 24 := by omega
      subst e
      refine am_cell (a := 45) (pq (sh_ss S) (fl_bg F)) rfl h1 ?_
      refine am_hq (hm_ph _) ?_
      refine am_cell (a := 46) (pq (sh_ss S) (fl_ma F)) rfl h2 ?_
      refine am_hq (hm_pm _) ?_
      rw [Nat.min_eq_right (by omega)] at hc
      subst hc
      exact hk
    · refine am_aload_n d_M_become_25 rfl rfl ?_
      refine am_get F_M 23 (by decide) d_M_become_26 w_673 rfl rfl ?_
      refine am_iload_n d_M_become_29 rfl rfl ?_
      refine am_iload_n d_M_become_30 rfl rfl ?_
      refine am_aload_n d_M_become_31 rfl rfl ?_
      refine am_get F_M 11 (by decide) d_M_become_32 w_661 rfl rfl ?_
      refine am_icmpN_ge (tgt := 47) d_M_become_35 (by decide) (by omega) (by omega) (fun c35 => ?_) (fun c35 => ?_)
      · refine am_iconst (v := -1) d_M_become_47 (by decide) ?_
        refine am_iastN _ d_M_become_48 rfl rfl (by omega) (by decide) ?_
        refine am_hq (hm_ph _) ?_
        refine am_aload_n d_M_become_49 rfl rfl ?_
        refine am_get F_M 24 (by decide) d_M_become_50 w_674 rfl rfl ?_
        refine am_iload_n d_M_become_53 rfl rfl ?_
        refine am_iload_n d_M_become_54 rfl rfl ?_
        refine am_aload_n d_M_become_55 rfl rfl ?_
        refine am_get F_M 11 (by decide) d_M_become_56 w_661 rfl rfl ?_
        refine am_icmpN_ge (tgt := 71) d_M_become_59 (by decide) (by omega) (by omega) (fun c59 => ?_) (fun c59 => ?_)
        · refine am_iconst (v := -1) d_M_become_71 (by decide) ?_
          refine am_iastN _ d_M_become_72 rfl rfl (by omega) (by decide) ?_
          refine am_hq (hm_pm _) ?_
          refine am_aload_n d_M_become_73 rfl rfl ?_
          refine am_dup d_M_become_74 rfl ?_
          refine am_get F_M 30 (by decide) d_M_become_75 w_680 rfl rfl ?_
          refine am_iload_n d_M_become_78 rfl rfl ?_
          refine am_aload_n d_M_become_79 rfl rfl ?_
          refine am_get F_M 11 (by decide) d_M_become_80 w_661 rfl rfl ?_
          refine am_icmpN_ge (tgt := 120) d_M_become_83 (by decide) (by omega) (by omega) (fun c83 => ?_) (fun c83 => ?_)
          · refine am_iconst (v := nI 0) d_M_become_120 (by decide) ?_
            refine am_iaddN d_M_become_121 ?_
            refine am_put F_M 30 (by decide) d_M_become_122 w_680 rfl rfl (Nat.le_of_ble_eq_true rfl) rfl rfl ?_
            refine am_hq (hm_ch _) ?_
            refine am_iinc d_M_become_125 rfl (am_inc _) (by decide) ?_
            refine am_goto (tgt := 19) d_M_become_128 (by decide) ?_
            exact am_lo (L' := [(0, .ref 30), (1, .int (nI (s + 1)))]) rfl (ih (s + 1) (by omega) (by omega) _ _ (c + 0) (up_all2 h1 (Eq.symm (pq_ge (by omega)))) (up_all2 h2 (Eq.symm (pq_ge (by omega)))) (by rw [hc, Nat.min_eq_right (by omega), Nat.min_eq_right (by omega), Nat.add_zero]))
          · exact absurd c83 (by omega)
        · exact absurd c59 (by omega)
      · refine am_aload_n d_M_become_38 rfl rfl ?_
        refine am_get F_M 17 (by decide) d_M_become_39 w_667 rfl rfl ?_
        refine am_iload_n d_M_become_42 rfl rfl ?_
        refine am_ialdN _ d_M_become_43 rfl rfl (by omega) (by decide) ?_
        refine am_sv (v2 := .int (nI (fl_bg F s))) (congrArg Value.int (hh s c35).1) ?_
        refine am_goto (tgt := 48) d_M_become_44 (by decide) ?_
        refine am_iastN _ d_M_become_48 rfl rfl (by omega) (by decide) ?_
        refine am_hq (hm_ph _) ?_
        refine am_aload_n d_M_become_49 rfl rfl ?_
        refine am_get F_M 24 (by decide) d_M_become_50 w_674 rfl rfl ?_
        refine am_iload_n d_M_become_53 rfl rfl ?_
        refine am_iload_n d_M_become_54 rfl rfl ?_
        refine am_aload_n d_M_become_55 rfl rfl ?_
        refine am_get F_M 11 (by decide) d_M_become_56 w_661 rfl rfl ?_
        refine am_icmpN_ge (tgt := 71) d_M_become_59 (by decide) (by omega) (by omega) (fun c59 => ?_) (fun c59 => ?_)
        · exact absurd c59 (by omega)
        · refine am_aload_n d_M_become_62 rfl rfl ?_
          refine am_get F_M 18 (by decide) d_M_become_63 w_668 rfl rfl ?_
          refine am_iload_n d_M_become_66 rfl rfl ?_
          refine am_ialdN _ d_M_become_67 rfl rfl (by omega) (by decide) ?_
          refine am_sv (v2 := .int (nI (fl_ma F s))) (congrArg Value.int (hh s c35).2) ?_
          refine am_goto (tgt := 72) d_M_become_68 (by decide) ?_
          refine am_iastN _ d_M_become_72 rfl rfl (by omega) (by decide) ?_
          refine am_hq (hm_pm _) ?_
          refine am_aload_n d_M_become_73 rfl rfl ?_
          refine am_dup d_M_become_74 rfl ?_
          refine am_get F_M 30 (by decide) d_M_become_75 w_680 rfl rfl ?_
          refine am_iload_n d_M_become_78 rfl rfl ?_
          refine am_aload_n d_M_become_79 rfl rfl ?_
          refine am_get F_M 11 (by decide) d_M_become_80 w_661 rfl rfl ?_
          refine am_icmpN_ge (tgt := 120) d_M_become_83 (by decide) (by omega) (by omega) (fun c83 => ?_) (fun c83 => ?_)
          · exact absurd c83 (by omega)
          · have hb1 := (hF s c35).1
            have hb2 := (hF s c35).2
            have p5s := hP.2.2.2.2.1 s
            have p6s := hP.2.2.2.2.2 s
            refine am_aload_n d_M_become_86 rfl rfl ?_
            refine am_get F_M 23 (by decide) d_M_become_87 w_673 rfl rfl ?_
            refine am_iload_n d_M_become_90 rfl rfl ?_
            refine am_ialdN _ d_M_become_91 rfl rfl (by omega) (by decide) ?_
            refine am_sv (v2 := .int (nI (fl_bg F s))) (congrArg Value.int (up_eq ph s (nI (fl_bg F s)))) ?_
            refine am_aload_n d_M_become_92 rfl rfl ?_
            refine am_get F_M 25 (by decide) d_M_become_93 w_675 rfl rfl ?_
            refine am_iload_n d_M_become_96 rfl rfl ?_
            refine am_ialdN _ d_M_become_97 rfl rfl (by omega) (by decide) ?_
            refine am_sv (v2 := .int (pq (pl_ss P) (pl_bg P) s)) (congrArg Value.int (hw s (by omega)).1) ?_
            refine am_icmp_ne (tgt := 116) d_M_become_98 (by decide) (fun c98 => ?_) (fun c98 => ?_)
            · refine am_iconst (v := nI 1) d_M_become_116 (by decide) ?_
              refine am_goto (tgt := 121) d_M_become_117 (by decide) ?_
              refine am_iaddN d_M_become_121 ?_
              refine am_put F_M 30 (by decide) d_M_become_122 w_680 rfl rfl (Nat.le_of_ble_eq_true rfl) rfl rfl ?_
              refine am_hq (hm_ch _) ?_
              refine am_iinc d_M_become_125 rfl (am_inc _) (by decide) ?_
              refine am_goto (tgt := 19) d_M_become_128 (by decide) ?_
              exact am_lo (L' := [(0, .ref 30), (1, .int (nI (s + 1)))]) rfl (ih (s + 1) (by omega) (by omega) _ _ (c + 1) (up_all2 h1 (Eq.symm (pq_lt c35))) (up_all2 h2 (Eq.symm (pq_lt c35))) (by rw [hc, Nat.min_eq_left (by omega), Nat.min_eq_left (by omega), tk_m_1 (fun q => c98 ((pq_iff hb1 (by omega)).mpr ⟨q.1, q.2.1⟩))]))
            · refine am_aload_n d_M_become_101 rfl rfl ?_
              refine am_get F_M 24 (by decide) d_M_become_102 w_674 rfl rfl ?_
              refine am_iload_n d_M_become_105 rfl rfl ?_
              refine am_ialdN _ d_M_become_106 rfl rfl (by omega) (by decide) ?_
              refine am_sv (v2 := .int (nI (fl_ma F s))) (congrArg Value.int (up_eq pm s (nI (fl_ma F s)))) ?_
              refine am_aload_n d_M_become_107 rfl rfl ?_
              refine am_get F_M 26 (by decide) d_M_become_108 w_676 rfl rfl ?_
              refine am_iload_n d_M_become_111 rfl rfl ?_
              refine am_ialdN _ d_M_become_112 rfl rfl (by omega) (by decide) ?_
              refine am_sv (v2 := .int (pq (pl_ss P) (pl_ma P) s)) (congrArg Value.int (hw s (by omega)).2) ?_
              refine am_icmp_eq (tgt := 120) d_M_become_113 (by decide) (fun c113 => ?_) (fun c113 => ?_)
              · refine am_iconst (v := nI 0) d_M_become_120 (by decide) ?_
                refine am_iaddN d_M_become_121 ?_
                refine am_put F_M 30 (by decide) d_M_become_122 w_680 rfl rfl (Nat.le_of_ble_eq_true rfl) rfl rfl ?_
                refine am_hq (hm_ch _) ?_
                refine am_iinc d_M_become_125 rfl (am_inc _) (by decide) ?_
                refine am_goto (tgt := 19) d_M_become_128 (by decide) ?_
                exact am_lo (L' := [(0, .ref 30), (1, .int (nI (s + 1)))]) rfl (ih (s + 1) (by omega) (by omega) _ _ (c + 0) (up_all2 h1 (Eq.symm (pq_lt c35))) (up_all2 h2 (Eq.symm (pq_lt c35))) (by rw [hc, Nat.min_eq_left (by omega), Nat.min_eq_left (by omega), tk_m_0 ⟨((pq_iff hb1 (by omega)).mp c98).1, ((pq_iff hb1 (by omega)).mp c98).2, ((pq_iff hb2 (by omega)).mp c113).2⟩, Nat.add_zero]))
              · refine am_iconst (v := nI 1) d_M_become_116 (by decide) ?_
                refine am_goto (tgt := 121) d_M_become_117 (by decide) ?_
                refine am_iaddN d_M_become_121 ?_
                refine am_put F_M 30 (by decide) d_M_become_122 w_680 rfl rfl (Nat.le_of_ble_eq_true rfl) rfl rfl ?_
                refine am_hq (hm_ch _) ?_
                refine am_iinc d_M_become_125 rfl (am_inc _) (by decide) ?_
                refine am_goto (tgt := 19) d_M_become_128 (by decide) ?_
                exact am_lo (L' := [(0, .ref 30), (1, .int (nI (s + 1)))]) rfl (ih (s + 1) (by omega) (by omega) _ _ (c + 1) (up_all2 h1 (Eq.symm (pq_lt c35))) (up_all2 h2 (Eq.symm (pq_lt c35))) (by rw [hc, Nat.min_eq_left (by omega), Nat.min_eq_left (by omega), tk_m_1 (fun q => c113 ((pq_iff hb2 (by omega)).mpr ⟨q.1, q.2.2⟩))]))
set_option maxRecDepth 20000 in
theorem c_M_become_2 {Q : am_O → am_H → Prop} (hS : sh_ok S) (d bc bs : Nat) (hk : am_W G m_M_become d bc bs Q 159 [(0, .ref 30), (1, .int (nI (sh_jb S)))] [] (hm A S jo (mo_cd M, mo_xx M, mo_hr M, mo_mh M, mo_pd M, mo_fr M, mo_pj M, (tk_u (mo_ro M) (mo_pn M) (sh_jb S)), mo_ph M, mo_pm M, mo_wh M, mo_wm M, mo_co M, mo_bo M, mo_no M, mo_ch M, mo_ro M, mo_tr M, mo_us M) V)) : ∀ (n i : Nat), i ≤ sh_jb S → sh_jb S - i < n →
    am_W G m_M_become d bc bs Q 133 [(0, .ref 30), (1, .int (nI i))] [] (hm A S jo (mo_cd M, mo_xx M, mo_hr M, mo_mh M, mo_pd M, mo_fr M, mo_pj M, (tk_u (mo_ro M) (mo_pn M) i), mo_ph M, mo_pm M, mo_wh M, mo_wm M, mo_co M, mo_bo M, mo_no M, mo_ch M, mo_ro M, mo_tr M, mo_us M) V) := by
  intro n
  have s2 := hS.2.1
  induction n with
  | zero => intro i _ h; omega
  | succ n ih =>
    intro i hi hn
    refine am_iload_n d_M_become_133 rfl rfl ?_
    refine am_aload_n d_M_become_134 rfl rfl ?_
    refine am_get F_M 6 (by decide) d_M_become_135 w_656 rfl rfl ?_
    refine am_icmpN_ge (tgt := 159) d_M_become_138 (by decide) (by omega) (by omega) (fun c138 => ?_) (fun c138 => ?_)
    · have e : i = sh_jb S := by omega
      subst e
      exact hk
    · refine am_aload_n d_M_become_141 rfl rfl ?_
      refine am_get F_M 22 (by decide) d_M_become_142 w_672 rfl rfl ?_
      refine am_iload_n d_M_become_145 rfl rfl ?_
      refine am_aload_n d_M_become_146 rfl rfl ?_
      refine am_get F_M 31 (by decide) d_M_become_147 w_681 rfl rfl ?_
      refine am_iload_n d_M_become_150 rfl rfl ?_
      refine am_ialdA d_M_become_151 rfl (by omega) (by decide) ?_
      refine am_iastA d_M_become_152 rfl (by omega) (by decide) ?_
      refine am_hq (hm_pn _) ?_
      refine am_iinc d_M_become_153 rfl (am_inc _) (by decide) ?_
      refine am_goto (tgt := 133) d_M_become_156 (by decide) ?_
      exact am_lo (L' := [(0, .ref 30), (1, .int (nI (i + 1)))]) rfl (ih (i + 1) (by omega) (by omega))
set_option maxRecDepth 20000 in
theorem c_M_become_3 (hS : sh_ok S) (hsk : sh_k S jo) (hall : ∀ j, j < sh_jb S → sp_fits S j = true) (d bc bs : Nat) : ∀ (n j : Nat), j ≤ sh_jb S → sh_jb S - j < n → ∀ (H1 H2 : Nat → Int32),
    am_W G m_M_become (d + 4) bc bs (fun o h' => ∃ (H1 H2 : Nat → Int32), o = .inl none ∧ h' = (hm A S jo (mo_cd M, mo_xx M, H1, H2, true, true, mo_pj M, mo_pn M, mo_ph M, mo_pm M, mo_wh M, mo_wm M, mo_co M, (se_sum S (sh_jb S)), mo_no M, mo_ch M, mo_ro M, mo_tr M, mo_us M) V)) 174 [(0, .ref 30), (1, .int (nI j))] [] (hm A S jo (mo_cd M, mo_xx M, H1, H2, mo_pd M, mo_fr M, mo_pj M, mo_pn M, mo_ph M, mo_pm M, mo_wh M, mo_wm M, mo_co M, (se_sum S j), mo_no M, mo_ch M, mo_ro M, mo_tr M, mo_us M) V) := by
  intro n
  have s2 := hS.2.1
  induction n with
  | zero => intro i _ h; omega
  | succ n ih =>
    intro j hi hn H1 H2
    refine am_iload_n d_M_become_174 rfl rfl ?_
    refine am_aload_n d_M_become_175 rfl rfl ?_
    refine am_get F_M 6 (by decide) d_M_become_176 w_656 rfl rfl ?_
    refine am_icmpN_ge (tgt := 202) d_M_become_179 (by decide) (by omega) (by omega) (fun c179 => ?_) (fun c179 => ?_)
    · refine am_aload_n d_M_become_202 rfl rfl ?_
      refine am_iconst (v := zI true) d_M_become_203 (by decide) ?_
      refine am_put F_M 19 (by decide) d_M_become_204 w_669 rfl rfl (Nat.le_of_ble_eq_true rfl) rfl rfl ?_
      refine am_hq (hm_pd _) ?_
      refine am_aload_n d_M_become_207 rfl rfl ?_
      refine am_iconst (v := zI true) d_M_become_208 (by decide) ?_
      refine am_put F_M 20 (by decide) d_M_become_209 w_670 rfl rfl (Nat.le_of_ble_eq_true rfl) rfl rfl ?_
      refine am_hq (hm_fr _) ?_
      refine am_vret d_M_become_212 rfl ?_
      have e : j = sh_jb S := by omega
      subst e
      exact ⟨_, _, rfl, rfl⟩
    · refine am_aload_n d_M_become_182 rfl rfl ?_
      refine am_dup d_M_become_183 rfl ?_
      refine am_get F_M 28 (by decide) d_M_become_184 w_678 rfl rfl ?_
      refine am_aload_n d_M_become_187 rfl rfl ?_
      refine am_iload_n d_M_become_188 rfl rfl ?_
      refine am_callQ 2 (am_recvV (z := m_M_aloneOf) rfl d_M_become_189 w_835 w_837 ws_30 w_838 F_M.1 rfl (by decide) np_M_aloneOf) (by decide) (by decide) (Nat.le_of_ble_eq_true rfl) (Nat.le_of_ble_eq_true rfl) (Nat.zero_le _) (Nat.zero_le _) (c_M_aloneOf (M := (mo_cd M, mo_xx M, H1, H2, mo_pd M, mo_fr M, mo_pj M, mo_pn M, mo_ph M, mo_pm M, mo_wh M, mo_wm M, mo_co M, (se_sum S j), mo_no M, mo_ch M, mo_ro M, mo_tr M, mo_us M)) hS hsk d _ _ j (by omega) (hall j (by omega))) (fun v189 h189 q189 => ?_) (fun x189 h189 q189 => ?_)
      · obtain ⟨H3, H4, q1, rfl⟩ := q189
        cases q1
        refine am_laddN d_M_become_192 ?_
        refine am_put F_M 28 (by decide) d_M_become_193 w_678 rfl rfl (Nat.le_of_ble_eq_true rfl) rfl rfl ?_
        refine am_hq (hm_bo _) ?_
        refine am_iinc d_M_become_196 rfl (am_inc _) (by decide) ?_
        refine am_goto (tgt := 174) d_M_become_199 (by decide) ?_
        exact am_lo (L' := [(0, .ref 30), (1, .int (nI (j + 1)))]) rfl (ih (j + 1) (by omega) (by omega) _ _)
      · obtain ⟨H3, H4, q1, -⟩ := q189
        cases q1
set_option maxRecDepth 20000 in
theorem c_M_become {P : pl_T} {g : Nat → Nat} (hS : sh_ok S) (hsk : sh_k S jo) (hall : ∀ j, j < sh_jb S → sp_fits S j = true) (hP : pl_ok P) (hro : ∀ k, k < sh_jb S → mo_ro M k = g k) (hpm : se_pm S g) (hw : ∀ s, s < 24 → mo_wh M s = pq (pl_ss P) (pl_bg P) s ∧ mo_wm M s = pq (pl_ss P) (pl_ma P) s) (d bc bs : Nat) :
    am_W G m_M_become (d + 4) bc bs (fun o h' => ∃ (H1 H2 : Nat → Int32), o = .inl none ∧ h' = (hm A S jo (mo_cd M, mo_xx M, H1, H2, true, true, (sh_jb S), (tk_u (mo_ro M) (mo_pn M) (sh_jb S)), (pq (sh_ss S) (fl_bg (fl_C S g))), (pq (sh_ss S) (fl_ma (fl_C S g))), mo_wh M, mo_wm M, (sp_co S g (sh_jb S)), (se_sum S (sh_jb S)), mo_no M, (tk_m P (fl_C S g) (sh_ss S)), mo_ro M, mo_tr M, mo_us M) V)) 0 (lv_args 0 [.ref 30]) [] (hm A S jo M V) := by
  have s2 := hS.2.1
  have hpm2 : se_pm S (mo_ro M) := se_pm_cg hro hpm
  have hg : ∀ k, k < sh_jb S → mo_ro M k < sh_jb S ∧ sp_fits S (mo_ro M k) = true := fun k hk => ⟨hpm2.1 k hk, hall _ (hpm2.1 k hk)⟩
  have hg2 : ∀ k, k < sh_jb S → g k < sh_jb S ∧ sp_fits S (g k) = true := fun k hk => ⟨hpm.1 k hk, hall _ (hpm.1 k hk)⟩
  have hD : ∀ s, s < sh_ss S → bd_C S (mo_ro M) (sh_jb S) s = true := fun s hs => (bd_C_iff S (mo_ro M) s (sh_jb S)).mpr (se_pm_in hsk hpm2 hs)
  have hD2 : ∀ s, s < sh_ss S → bd_C S g (sh_jb S) s = true := fun s hs => (bd_C_iff S g s (sh_jb S)).mpr (se_pm_in hsk hpm hs)
  have hh : ∀ s, s < sh_ss S → bd_h (fl_C S g) (bd_C S (mo_ro M) (sh_jb S)) s = nI (fl_bg (fl_C S g) s) ∧ bd_m (fl_C S g) (bd_C S (mo_ro M) (sh_jb S)) s = nI (fl_ma (fl_C S g) s) := fun s hs => ⟨if_pos (hD s hs), if_pos (hD s hs)⟩
  have hF : ∀ s, s < sh_ss S → fl_bg (fl_C S g) s < 2 ^ 31 ∧ fl_ma (fl_C S g) s < 2 ^ 31 := fun s hs => by
    have h4 := (fl_co_I hS hsk (sh_jb S) (Nat.le_refl _) hg2 hpm.2.2).2.2.2 s hs (hD2 s hs)
    have s1 := hS.1
    unfold fl_C
    omega
  refine am_aload_n d_M_become_0 rfl rfl ?_
  refine am_aload_n d_M_become_1 rfl rfl ?_
  refine am_aload_n d_M_become_2 rfl rfl ?_
  refine am_get F_M 6 (by decide) d_M_become_3 w_656 rfl rfl ?_
  refine am_callF 2 (am_recvV (z := m_M_costOfRow) rfl d_M_become_6 w_804 w_806 ws_23 w_807 F_M.1 rfl (by decide) np_M_costOfRow) (by decide) (by decide) (Nat.le_of_ble_eq_true rfl) (Nat.le_of_ble_eq_true rfl) (Nat.zero_le _) (Nat.zero_le _) (am_rm (d := 3) (by omega) (c_M_costOfRow hS hsk 0 _ _ (sh_jb S) (Nat.le_refl _) hg hpm2.2.2)) ?_
  rw [show fl_co S (mo_ro M) (fl_clear S fl_0) (sh_jb S) = fl_co S g (fl_clear S fl_0) (sh_jb S) from fl_co_congr hro, show sp_co S (mo_ro M) (sh_jb S) = sp_co S g (sh_jb S) from sp_co_congr hro]
  change am_W _ _ _ _ _ _ _ _ _ (hm A S jo (mo_cd M, mo_xx M, (bd_h (fl_C S g) (bd_C S (mo_ro M) (sh_jb S))), (bd_m (fl_C S g) (bd_C S (mo_ro M) (sh_jb S))), mo_pd M, mo_fr M, mo_pj M, mo_pn M, mo_ph M, mo_pm M, mo_wh M, mo_wm M, mo_co M, mo_bo M, mo_no M, mo_ch M, mo_ro M, mo_tr M, mo_us M) V)
  refine am_put F_M 27 (by decide) d_M_become_9 w_677 rfl rfl (Nat.le_of_ble_eq_true rfl) rfl rfl ?_
  refine am_hq (hm_co _) ?_
  refine am_aload_n d_M_become_12 rfl rfl ?_
  refine am_iconst (v := nI 0) d_M_become_13 (by decide) ?_
  refine am_put F_M 30 (by decide) d_M_become_14 w_680 rfl rfl (Nat.le_of_ble_eq_true rfl) rfl rfl ?_
  refine am_hq (hm_ch _) ?_
  refine am_iconst (v := nI 0) d_M_become_17 (by decide) ?_
  refine am_istore_n d_M_become_18 rfl (by decide) ?_
  refine am_lo (L' := [(0, .ref 30), (1, .int (nI 0))]) rfl (c_M_become_1 (M := (mo_cd M, mo_xx M, (bd_h (fl_C S g) (bd_C S (mo_ro M) (sh_jb S))), (bd_m (fl_C S g) (bd_C S (mo_ro M) (sh_jb S))), mo_pd M, mo_fr M, mo_pj M, mo_pn M, mo_ph M, mo_pm M, mo_wh M, mo_wm M, (sp_co S g (sh_jb S)), mo_bo M, mo_no M, mo_ch M, mo_ro M, mo_tr M, mo_us M)) (P := P) (F := fl_C S g) hS hP (d + 4) bc bs hh hF hw ?_ 25 0 (Nat.zero_le _) (by omega) _ _ 0 (fun q hq => absurd hq (Nat.not_lt_zero q)) (fun q hq => absurd hq (Nat.not_lt_zero q)) (by rw [Nat.min_eq_left (Nat.zero_le _)]; rfl))
  refine am_iconst (v := nI 0) d_M_become_131 (by decide) ?_
  refine am_istore_n d_M_become_132 rfl (by decide) ?_
  refine am_lo (L' := [(0, .ref 30), (1, .int (nI 0))]) rfl (c_M_become_2 (M := (mo_cd M, mo_xx M, (bd_h (fl_C S g) (bd_C S (mo_ro M) (sh_jb S))), (bd_m (fl_C S g) (bd_C S (mo_ro M) (sh_jb S))), mo_pd M, mo_fr M, mo_pj M, mo_pn M, (pq (sh_ss S) (fl_bg (fl_C S g))), (pq (sh_ss S) (fl_ma (fl_C S g))), mo_wh M, mo_wm M, (sp_co S g (sh_jb S)), mo_bo M, mo_no M, (tk_m P (fl_C S g) (sh_ss S)), mo_ro M, mo_tr M, mo_us M)) hS (d + 4) bc bs ?_ (sh_jb S + 1) 0 (Nat.zero_le _) (by omega))
  refine am_aload_n d_M_become_159 rfl rfl ?_
  refine am_aload_n d_M_become_160 rfl rfl ?_
  refine am_get F_M 6 (by decide) d_M_become_161 w_656 rfl rfl ?_
  refine am_put F_M 21 (by decide) d_M_become_164 w_671 rfl rfl (Nat.le_of_ble_eq_true rfl) rfl rfl ?_
  refine am_hq (hm_pj _) ?_
  refine am_aload_n d_M_become_167 rfl rfl ?_
  refine am_lconst (v := lN 0) d_M_become_168 rfl ?_
  refine am_put F_M 28 (by decide) d_M_become_169 w_678 rfl rfl (Nat.le_of_ble_eq_true rfl) rfl rfl ?_
  refine am_hq (hm_bo _) ?_
  refine am_iconst (v := nI 0) d_M_become_172 (by decide) ?_
  refine am_istore_n d_M_become_173 rfl (by decide) ?_
  exact am_lo (L' := [(0, .ref 30), (1, .int (nI 0))]) rfl (c_M_become_3 (M := (mo_cd M, mo_xx M, (bd_h (fl_C S g) (bd_C S (mo_ro M) (sh_jb S))), (bd_m (fl_C S g) (bd_C S (mo_ro M) (sh_jb S))), mo_pd M, mo_fr M, (sh_jb S), (tk_u (mo_ro M) (mo_pn M) (sh_jb S)), (pq (sh_ss S) (fl_bg (fl_C S g))), (pq (sh_ss S) (fl_ma (fl_C S g))), mo_wh M, mo_wm M, (sp_co S g (sh_jb S)), mo_bo M, mo_no M, (tk_m P (fl_C S g) (sh_ss S)), mo_ro M, mo_tr M, mo_us M)) hS hsk hall d bc bs (sh_jb S + 1) 0 (Nat.zero_le _) (by omega) _ _)
set_option maxRecDepth 20000 in
theorem c_M_draw (hS : sh_ok S) (h1 : 1 ≤ sh_jb S) (d bc bs : Nat) : am_Fn G m_M_draw d bc bs [.ref 30] (hm A S jo M V) (some (.int (nI (im_a (im_x (mo_xx M)) (sh_jb S))))) (hm A S jo (mo_cd M, (im_x (mo_xx M)), mo_hr M, mo_mh M, mo_pd M, mo_fr M, mo_pj M, mo_pn M, mo_ph M, mo_pm M, mo_wh M, mo_wm M, mo_co M, mo_bo M, mo_no M, mo_ch M, mo_ro M, mo_tr M, mo_us M) V) := by
  have s2 := hS.2.1
  have hne : ¬ lN (sh_jb S) = 0 := fun e => by have := (lN_eq (a := sh_jb S) (b := 0) (by omega) (by omega)).mp e; omega
  refine am_aload_n d_M_draw_0 rfl rfl ?_
  refine am_aload_n d_M_draw_1 rfl rfl ?_
  refine am_get F_M 16 (by decide) d_M_draw_2 w_666 rfl rfl ?_
  refine am_ldc2 d_M_draw_5 w_851 ?_
  refine am_lmul d_M_draw_8 ?_
  refine am_ldc2 d_M_draw_9 w_852 ?_
  refine am_ladd d_M_draw_12 ?_
  refine am_put F_M 16 (by decide) d_M_draw_13 w_666 rfl rfl (Nat.le_of_ble_eq_true rfl) rfl rfl ?_
  refine am_hq (hm_xx _) ?_
  refine am_aload_n d_M_draw_16 rfl rfl ?_
  refine am_get F_M 16 (by decide) d_M_draw_17 w_666 rfl rfl ?_
  refine am_bipush (v := nI 33) d_M_draw_20 (by decide) ?_
  refine am_lushr d_M_draw_22 ?_
  refine am_sv (v2 := .long (lN ((im_x (mo_xx M)).toUInt64.toNat / 2 ^ 33))) (by rw [← im_sh]; rfl) ?_
  refine am_aload_n d_M_draw_23 rfl rfl ?_
  refine am_get F_M 6 (by decide) d_M_draw_24 w_656 rfl rfl ?_
  refine am_i2lN d_M_draw_27 (by omega) ?_
  refine am_lrem d_M_draw_28 hne ?_
  refine am_l2i d_M_draw_29 ?_
  refine am_sv (v2 := .int (nI (im_a (im_x (mo_xx M)) (sh_jb S)))) (by rw [im_rem (im_x (mo_xx M)) (by omega)]) ?_
  refine am_iret d_M_draw_30 rfl ?_
  exact ⟨rfl, rfl⟩
theorem c_M_swap (d bc bs a b : Nat) (ha : a < 6) (hb : b < 6) : am_Fn G m_M_swap d bc bs [.ref 30, .int (nI a), .int (nI b)] (hm A S jo M V) none (hm A S jo (mo_cd M, mo_xx M, mo_hr M, mo_mh M, mo_pd M, mo_fr M, mo_pj M, mo_pn M, mo_ph M, mo_pm M, mo_wh M, mo_wm M, mo_co M, mo_bo M, mo_no M, mo_ch M, (sw (mo_ro M) a b), mo_tr M, mo_us M) V) := by
  refine am_aload_n d_M_swap_0 rfl rfl ?_
  refine am_get F_M 31 (by decide) d_M_swap_1 w_681 rfl rfl ?_
  refine am_iload_n d_M_swap_4 rfl rfl ?_
  refine am_ialdA d_M_swap_5 rfl (by omega) (by decide) ?_
  refine am_istore_n d_M_swap_6 rfl (by decide) ?_
  refine am_aload_n d_M_swap_7 rfl rfl ?_
  refine am_get F_M 31 (by decide) d_M_swap_8 w_681 rfl rfl ?_
  refine am_iload_n d_M_swap_11 rfl rfl ?_
  refine am_aload_n d_M_swap_12 rfl rfl ?_
  refine am_get F_M 31 (by decide) d_M_swap_13 w_681 rfl rfl ?_
  refine am_iload_n d_M_swap_16 rfl rfl ?_
  refine am_ialdA d_M_swap_17 rfl (by omega) (by decide) ?_
  refine am_iastA d_M_swap_18 rfl (by omega) (by decide) ?_
  refine am_hq (hm_ro _) ?_
  refine am_aload_n d_M_swap_19 rfl rfl ?_
  refine am_get F_M 31 (by decide) d_M_swap_20 w_681 rfl rfl ?_
  refine am_iload_n d_M_swap_23 rfl rfl ?_
  refine am_iload_n d_M_swap_24 rfl rfl ?_
  refine am_iastA d_M_swap_25 rfl (by omega) (by decide) ?_
  refine am_hq (hm_ro _) ?_
  refine am_vret d_M_swap_26 rfl ?_
  exact ⟨rfl, rfl⟩
theorem sw_cg {f g : Nat → Nat} {n a b : Nat} (e : ∀ k, k < n → f k = g k) (ha : a < n) (hb : b < n) : ∀ k, k < n → sw f a b k = sw g a b k := by
  intro k hk
  unfold sw nu
  rw [e a ha, e b hb, e k hk]
set_option maxRecDepth 20000 in
theorem c_M_run_l {Q : am_O → am_H → Prop} (hS : sh_ok S) (d bc bs e : Nat) (hk : am_W G m_M_run d bc bs Q 85 [(0, .ref 30), (2, .int (nI e)), (3, .int (nI (sh_jb S)))] [] (hm A S jo (mo_cd M, mo_xx M, mo_hr M, mo_mh M, mo_pd M, mo_fr M, mo_pj M, mo_pn M, mo_ph M, mo_pm M, mo_wh M, mo_wm M, mo_co M, mo_bo M, mo_no M, mo_ch M, (tk_u (mo_pn M) (mo_ro M) (sh_jb S)), mo_tr M, mo_us M) V)) : ∀ (n i : Nat), i ≤ sh_jb S → sh_jb S - i < n →
    am_W G m_M_run d bc bs Q 59 [(0, .ref 30), (2, .int (nI e)), (3, .int (nI i))] [] (hm A S jo (mo_cd M, mo_xx M, mo_hr M, mo_mh M, mo_pd M, mo_fr M, mo_pj M, mo_pn M, mo_ph M, mo_pm M, mo_wh M, mo_wm M, mo_co M, mo_bo M, mo_no M, mo_ch M, (tk_u (mo_pn M) (mo_ro M) i), mo_tr M, mo_us M) V) := by
  intro n
  have s2 := hS.2.1
  induction n with
  | zero => intro i _ h; omega
  | succ n ih =>
    intro i hi hn
    refine am_iload_n d_M_run_59 rfl rfl ?_
    refine am_aload_n d_M_run_60 rfl rfl ?_
    refine am_get F_M 6 (by decide) d_M_run_61 w_656 rfl rfl ?_
    refine am_icmpN_ge (tgt := 85) d_M_run_64 (by decide) (by omega) (by omega) (fun c64 => ?_) (fun c64 => ?_)
    · have e : i = sh_jb S := by omega
      subst e
      exact hk
    · refine am_aload_n d_M_run_67 rfl rfl ?_
      refine am_get F_M 31 (by decide) d_M_run_68 w_681 rfl rfl ?_
      refine am_iload_n d_M_run_71 rfl rfl ?_
      refine am_aload_n d_M_run_72 rfl rfl ?_
      refine am_get F_M 22 (by decide) d_M_run_73 w_672 rfl rfl ?_
      refine am_iload_n d_M_run_76 rfl rfl ?_
      refine am_ialdA d_M_run_77 rfl (by omega) (by decide) ?_
      refine am_iastA d_M_run_78 rfl (by omega) (by decide) ?_
      refine am_hq (hm_ro _) ?_
      refine am_iinc d_M_run_79 rfl (am_inc _) (by decide) ?_
      refine am_goto (tgt := 59) d_M_run_82 (by decide) ?_
      exact am_lo (L' := [(0, .ref 30), (2, .int (nI e)), (3, .int (nI (i + 1)))]) rfl (ih (i + 1) (by omega) (by omega))
set_option maxRecDepth 20000 in
theorem c_M_run {P : pl_T} {R : se_T} (hS : sh_ok S) (hsk : sh_k S jo) (hr : se_r R) (hP : pl_ok P) (hph : mo_ph M = pq (pl_ss P) (pl_bg P)) (hpm : mo_pm M = pq (pl_ss P) (pl_ma P)) (d bc bs : Nat) (v : Int32) : am_W G m_M_run (d + 6) bc bs (mQ (cd_run S v) (some (.int (nI 0))) (hm A S jo ((cd_run S v), mo_xx M, mo_hr M, mo_mh M, mo_pd M, mo_fr M, mo_pj M, mo_pn M, mo_ph M, mo_pm M, mo_wh M, mo_wm M, mo_co M, mo_bo M, mo_no M, mo_ch M, mo_ro M, mo_tr M, mo_us M) V) (fun o h' => ∀ i, v = nI i → i ≤ 2000 → ∃ (H1 H2 : Nat → Int32) (pn ro tr : Nat → Nat) (us : Nat → Bool), o = some (.int (nI (if (rn_q S R i).1 = true then 0 else 1))) ∧ (∀ k, k < sh_jb S → pn k = (se_bs (rn_q S R i).2) k) ∧ h' = (hm A S jo (0, mo_xx M, H1, H2, true, true, (sh_jb S), pn, (pq (sh_ss S) (fl_bg (fl_C S (se_bs (rn_q S R i).2)))), (pq (sh_ss S) (fl_ma (fl_C S (se_bs (rn_q S R i).2)))), (mo_ph M), (mo_pm M), (sp_co S (se_bs (rn_q S R i).2) (sh_jb S)), (se_sum S (sh_jb S)), (se_no (rn_q S R i).2), (tk_m P (fl_C S (se_bs (rn_q S R i).2)) (sh_ss S)), ro, tr, us) V))) 0 (lv_args 0 [.ref 30, .int v]) [] (hm A S jo M V) := by
  have s2 := hS.2.1
  refine am_aload_n d_M_run_0 rfl rfl ?_
  refine am_iload_n d_M_run_1 rfl rfl ?_
  refine am_iconst (v := nI 1) d_M_run_2 (by decide) ?_
  refine am_sipush (v := nI 2000) d_M_run_3 (by decide) ?_
  refine am_callF 3 (am_lkS (z := m_M_in) d_M_run_6 w_761 w_762 w_6 w_763 (by decide) np_M_in) (by decide) (by decide) (Nat.le_of_ble_eq_true rfl) (Nat.le_of_ble_eq_true rfl) (Nat.zero_le _) (Nat.zero_le _) (c_M_in _ _ _ _ _ _) ?_
  refine am_ifZ_ne (tgt := 16) d_M_run_9 (by decide) (fun c9 => ?_) (fun c9 => ?_)
  · refine am_aload_n d_M_run_16 rfl rfl ?_
    refine am_get F_M 6 (by decide) d_M_run_17 w_656 rfl rfl ?_
    refine am_ifN_eq (tgt := 30) d_M_run_20 (by decide) (by omega) (fun c20 => ?_) (fun c20 => ?_)
    · refine am_iconst (v := nI 2) d_M_run_30 (by decide) ?_
      refine am_goto (tgt := 35) d_M_run_31 (by decide) ?_
      refine am_put F_M 0 (by decide) d_M_run_35 w_650 rfl rfl (Nat.le_of_ble_eq_true rfl) rfl rfl ?_
      refine am_hq (hm_cd _) ?_
      refine am_aload_n d_M_run_38 rfl rfl ?_
      refine am_get F_M 0 (by decide) d_M_run_39 w_650 rfl rfl ?_
      refine am_sv (v2 := .int (nI 2)) rfl ?_
      refine am_ifN_le (tgt := 47) d_M_run_42 (by decide) (by decide) (fun z => absurd z (by decide)) (fun _ => ?_)
      refine am_iconst (v := nI 0) d_M_run_45 (by decide) ?_
      refine am_iret d_M_run_46 rfl ?_
      have ec : cd_run S v = 2 := by unfold cd_run; (try simp only [ek]); (repeat' split) <;> first | rfl | omega | simp_all
      rw [ec]
      exact ⟨rfl, rfl⟩
    · refine am_aload_n d_M_run_23 rfl rfl ?_
      refine am_callF 1 (am_recvV (z := m_M_allFit) rfl d_M_run_24 w_784 w_786 ws_18 w_787 F_M.1 rfl (by decide) np_M_allFit) (by decide) (by decide) (Nat.le_of_ble_eq_true rfl) (Nat.le_of_ble_eq_true rfl) (Nat.zero_le _) (Nat.zero_le _) (c_M_allFit hS _ _ _) ?_
      refine am_ifZ_ne (tgt := 34) d_M_run_27 (by decide) (fun c27 => ?_) (fun c27 => ?_)
      · refine am_iconst (v := nI 0) d_M_run_34 (by decide) ?_
        refine am_put F_M 0 (by decide) d_M_run_35 w_650 rfl rfl (Nat.le_of_ble_eq_true rfl) rfl rfl ?_
        refine am_hq (hm_cd _) ?_
        refine am_aload_n d_M_run_38 rfl rfl ?_
        refine am_get F_M 0 (by decide) d_M_run_39 w_650 rfl rfl ?_
        refine am_sv (v2 := .int (nI 0)) rfl ?_
        refine am_ifN_le (tgt := 47) d_M_run_42 (by decide) (by decide) (fun _ => ?_) (fun z => absurd z (by decide))
        obtain ⟨i, rfl, h1i, hi⟩ := sp_in_t c9 (by decide) (by decide)
        have hall := sp_all_at c27
        have hrn := rn_ok (n := i) hS hall hi hr
        refine am_aload_n d_M_run_47 rfl rfl ?_
        refine am_callF 1 (am_recvV (z := m_M_keepWas) rfl d_M_run_48 w_792 w_794 ws_20 w_795 F_M.1 rfl (by decide) np_M_keepWas) (by decide) (by decide) (Nat.le_of_ble_eq_true rfl) (Nat.le_of_ble_eq_true rfl) (Nat.zero_le _) (Nat.zero_le _) (c_M_keepWas _ _ _) ?_
        refine am_hq (h2 := (hm A S jo (0, mo_xx M, mo_hr M, mo_mh M, mo_pd M, mo_fr M, mo_pj M, mo_pn M, mo_ph M, mo_pm M, (mo_ph M), (mo_pm M), mo_co M, mo_bo M, mo_no M, mo_ch M, mo_ro M, mo_tr M, mo_us M) V)) rfl ?_
        refine am_aload_n d_M_run_51 rfl rfl ?_
        refine am_iload_n d_M_run_52 rfl rfl ?_
        refine am_callQ 2 (am_recvV (z := m_M_search) rfl d_M_run_53 w_796 w_798 ws_21 w_799 F_M.1 rfl (by decide) np_M_search) (by decide) (by decide) (Nat.le_of_ble_eq_true rfl) (Nat.le_of_ble_eq_true rfl) (Nat.zero_le _) (Nat.zero_le _) (c_M_search (R := R) (M := (0, mo_xx M, mo_hr M, mo_mh M, mo_pd M, mo_fr M, mo_pj M, mo_pn M, mo_ph M, mo_pm M, (mo_ph M), (mo_pm M), mo_co M, mo_bo M, mo_no M, mo_ch M, mo_ro M, mo_tr M, mo_us M)) hS hsk hall (by omega) d _ _ i hi hr) (fun v53 h53 q53 => ?_) (fun x53 h53 q53 => ?_)
        · obtain ⟨H1, H2, pn, ro, tr, us, q1, hpn, rfl⟩ := q53
          cases q1
          refine am_hq (h2 := (hm A S jo (0, mo_xx M, H1, H2, mo_pd M, mo_fr M, mo_pj M, pn, mo_ph M, mo_pm M, (mo_ph M), (mo_pm M), mo_co M, mo_bo M, (se_no (rn_q S R i).2), mo_ch M, ro, tr, us) V)) rfl ?_
          refine am_istore_n d_M_run_56 rfl (by decide) ?_
          refine am_iconst (v := nI 0) d_M_run_57 (by decide) ?_
          refine am_istore_n d_M_run_58 rfl (by decide) ?_
          refine am_lo (L' := [(0, .ref 30), (2, .int (nI (if (rn_q S R i).1 = true then 0 else 1))), (3, .int (nI 0))]) rfl (c_M_run_l (M := (0, mo_xx M, H1, H2, mo_pd M, mo_fr M, mo_pj M, pn, mo_ph M, mo_pm M, (mo_ph M), (mo_pm M), mo_co M, mo_bo M, (se_no (rn_q S R i).2), mo_ch M, ro, tr, us)) hS (d + 6) bc bs _ ?_ (sh_jb S + 1) 0 (Nat.zero_le _) (by omega))
          refine am_aload_n d_M_run_85 rfl rfl ?_
          refine am_callQ 1 (am_recvV (z := m_M_become) rfl d_M_run_86 w_839 w_841 ws_31 w_842 F_M.1 rfl (by decide) np_M_become) (by decide) (by decide) (Nat.le_of_ble_eq_true rfl) (Nat.le_of_ble_eq_true rfl) (Nat.zero_le _) (Nat.zero_le _) (am_rm (d := 4) (by omega) (c_M_become (M := (0, mo_xx M, H1, H2, mo_pd M, mo_fr M, mo_pj M, pn, mo_ph M, mo_pm M, (mo_ph M), (mo_pm M), mo_co M, mo_bo M, (se_no (rn_q S R i).2), mo_ch M, (tk_u pn ro (sh_jb S)), tr, us)) (P := P) (g := (se_bs (rn_q S R i).2)) hS hsk hall hP (fun k hk => (tk_u_lt hk).trans (hpn k hk)) hrn.2.2 (fun s _ => ⟨by rw [← hph], by rw [← hpm]⟩) 0 _ _)) (fun v86 h86 q86 => ?_) (fun x86 h86 q86 => ?_)
          · obtain ⟨H3, H4, q1, rfl⟩ := q86
            cases q1
            refine am_iload_n d_M_run_89 rfl rfl ?_
            refine am_iret d_M_run_90 rfl ?_
            have ec : cd_run S (nI i) = 0 := by unfold cd_run; (try simp only [ek]); (repeat' split) <;> first | rfl | omega | simp_all
            rw [ec]
            exact ⟨_, rfl, fun i' e1 e2 => by obtain rfl := nI_inj (by omega) (by omega) e1; exact ⟨H3, H4, _, _, tr, us, rfl, fun k hk => (tk_u_lt hk).trans ((tk_u_lt hk).trans (hpn k hk)), rfl⟩⟩
          · obtain ⟨H3, H4, q1, -⟩ := q86
            cases q1
        · obtain ⟨H1, H2, pn, ro, tr, us, q1, -, -⟩ := q53
          cases q1
      · refine am_iconst (v := nI 2) d_M_run_30 (by decide) ?_
        refine am_goto (tgt := 35) d_M_run_31 (by decide) ?_
        refine am_put F_M 0 (by decide) d_M_run_35 w_650 rfl rfl (Nat.le_of_ble_eq_true rfl) rfl rfl ?_
        refine am_hq (hm_cd _) ?_
        refine am_aload_n d_M_run_38 rfl rfl ?_
        refine am_get F_M 0 (by decide) d_M_run_39 w_650 rfl rfl ?_
        refine am_sv (v2 := .int (nI 2)) rfl ?_
        refine am_ifN_le (tgt := 47) d_M_run_42 (by decide) (by decide) (fun z => absurd z (by decide)) (fun _ => ?_)
        refine am_iconst (v := nI 0) d_M_run_45 (by decide) ?_
        refine am_iret d_M_run_46 rfl ?_
        have ec : cd_run S v = 2 := by unfold cd_run; (try simp only [ek]); (repeat' split) <;> first | rfl | omega | simp_all
        rw [ec]
        exact ⟨rfl, rfl⟩
  · refine am_iconst (v := nI 1) d_M_run_12 (by decide) ?_
    refine am_goto (tgt := 35) d_M_run_13 (by decide) ?_
    refine am_put F_M 0 (by decide) d_M_run_35 w_650 rfl rfl (Nat.le_of_ble_eq_true rfl) rfl rfl ?_
    refine am_hq (hm_cd _) ?_
    refine am_aload_n d_M_run_38 rfl rfl ?_
    refine am_get F_M 0 (by decide) d_M_run_39 w_650 rfl rfl ?_
    refine am_sv (v2 := .int (nI 1)) rfl ?_
    refine am_ifN_le (tgt := 47) d_M_run_42 (by decide) (by decide) (fun z => absurd z (by decide)) (fun _ => ?_)
    refine am_iconst (v := nI 0) d_M_run_45 (by decide) ?_
    refine am_iret d_M_run_46 rfl ?_
    have ec : cd_run S v = 1 := by unfold cd_run; (try simp only [ek]); (repeat' split) <;> first | rfl | omega | simp_all
    rw [ec]
    exact ⟨rfl, rfl⟩
end CM7
