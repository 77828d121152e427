/-! the search: contracts -/
theorem am_rm {G : am_G} {y : am_M} {d d' bc bs : Nat} {Q : am_O → am_H → Prop} {pc : Nat} {L : List (Nat × Value)} {st : List Value} {h : am_H} (h1 : d ≤ d') (k : am_W G y d bc bs Q pc L st h) : am_W G y d' bc bs Q pc L st h :=
  fun p e R s m args below meth c H locs cells slots ls C hR => k p e R s m args below meth c H locs cells slots ls C ⟨Nat.le_trans h1 hR.1, Nat.le_trans (Nat.mul_le_mul_left 64 h1) hR.2.1, hR.2.2.1, hR.2.2.2⟩
/-- how a part of the search ends: u are the jobs whose steps stay -/
def se_Q (x : Int64) (t : Bool) (S : sh_T) (P : pl_T) (W : am_H) (F : fl_T) (u : Nat → Bool) (q : Bool × se_T) : am_O → am_H → Prop := fun o h' =>
  ∃ F', o = .inl (some (.int (zI q.1))) ∧ h' = hx x t S F' q.2 P W ∧ (q.1 = true → fl_eqv (sh_mc S) F F' ∧ ∀ j, j < sh_jb S → u j = true → ∀ i, i < sh_so S j → fl_ma F' (sh_sa S (j * 4 + i)) = fl_ma F (sh_sa S (j * 4 + i)))
theorem se_fo_1 {S : sh_T} {f : se_T → Bool × se_T} {p : Nat} {R : se_T} (h : se_co R ≤ sp_co S (se_be R) (p + 1) + sp_rs S (zu (se_ib R) (se_be R p) true) (sh_jb S)) : se_fo S f p R = (true, R) := if_pos h
theorem se_fo_2 {S : sh_T} {f : se_T → Bool × se_T} {p : Nat} {R : se_T} (h : ¬ se_co R ≤ sp_co S (se_be R) (p + 1) + sp_rs S (zu (se_ib R) (se_be R p) true) (sh_jb S)) (h2 : sh_jb S ≤ p + 1) : se_fo S f p R = (true, (sp_co S (se_be R) (p + 1), se_li R, se_bo R, se_no R, se_al R, se_be R, se_ib R, va_cpy (se_be R) (se_bs R) 0 0 6)) := by
  unfold se_fo
  rw [if_neg h, if_pos h2]
theorem se_fo_3 {S : sh_T} {f : se_T → Bool × se_T} {p : Nat} {R : se_T} (h : ¬ se_co R ≤ sp_co S (se_be R) (p + 1) + sp_rs S (zu (se_ib R) (se_be R p) true) (sh_jb S)) (h2 : ¬ sh_jb S ≤ p + 1) : se_fo S f p R = ((f (se_co R, se_li R, se_bo R, se_no R, se_al R, se_be R, zu (se_ib R) (se_be R p) true, se_bs R)).1,
    let Q := (f (se_co R, se_li R, se_bo R, se_no R, se_al R, se_be R, zu (se_ib R) (se_be R p) true, se_bs R)).2
    (se_co Q, se_li Q, se_bo Q, se_no Q, se_al Q, se_be Q, zu (se_ib Q) (se_be R p) false, se_bs Q)) := by
  unfold se_fo
  rw [if_neg h, if_neg h2]
theorem se_lp_1 {S : sh_T} {f : se_T → Bool × se_T} {p k j : Nat} {R : se_T} (h : se_ib R j = true) : se_lp S f p (k + 1) j R = se_lp S f p k (j + 1) R := if_pos h
theorem se_lp_2 {S : sh_T} {f : se_T → Bool × se_T} {p k j : Nat} {R : se_T} (h : se_ib R j = false) (h2 : se_li R ≤ se_no R) : se_lp S f p (k + 1) j R = (false, R) := by
  rw [se_lp, if_neg (by rw [h]; decide), if_pos h2]
theorem se_lp_3 {S : sh_T} {f : se_T → Bool × se_T} {p k j : Nat} {R : se_T} (h : se_ib R j = false) (h2 : ¬ se_li R ≤ se_no R) (h3 : (se_fo S f p (se_nd R p j)).1 = true) : se_lp S f p (k + 1) j R = se_lp S f p k (j + 1) (se_fo S f p (se_nd R p j)).2 := by
  rw [se_lp, if_neg (by rw [h]; decide), if_neg h2, if_pos h3]
theorem se_lp_4 {S : sh_T} {f : se_T → Bool × se_T} {p k j : Nat} {R : se_T} (h : se_ib R j = false) (h2 : ¬ se_li R ≤ se_no R) (h3 : (se_fo S f p (se_nd R p j)).1 = false) : se_lp S f p (k + 1) j R = (false, (se_fo S f p (se_nd R p j)).2) := by
  rw [se_lp, if_neg (by rw [h]; decide), if_neg h2, if_neg (by rw [h3]; decide)]
theorem se_Q_tr {x : Int64} {t : Bool} {S : sh_T} {P : pl_T} {W : am_H} {F F1 : fl_T} {u : Nat → Bool} {q : Bool × se_T} (he : fl_eqv (sh_mc S) F F1) (hm : ∀ j, j < sh_jb S → u j = true → ∀ i, i < sh_so S j → fl_ma F1 (sh_sa S (j * 4 + i)) = fl_ma F (sh_sa S (j * 4 + i))) (o : am_O) (h : am_H) (hq : se_Q x t S P W F1 u q o h) : se_Q x t S P W F u q o h := by
  obtain ⟨F', a, b, c⟩ := hq
  refine ⟨F', a, b, fun e => ?_⟩
  obtain ⟨c1, c2⟩ := c e
  exact ⟨fl_eqv_tr he c1, fun j hj hu i hi => (c2 j hj hu i hi).trans (hm j hj hu i hi)⟩
section CRB
variable {G : am_G} {x : Int64} {t : Bool} {S : sh_T} {F : fl_T} {R : se_T} {P : pl_T} {W : am_H} {jo : Nat → Nat}
set_option maxRecDepth 20000 in
theorem c_R_follow (hS : sh_ok S) (f : se_T → Bool × se_T) (d bc bs p : Nat) (hp : p < sh_jb S) (hR : se_ok S R) (hco : sp_co S (se_be R) (p + 1) ≤ 4080000) (hrs : sp_rs S (zu (se_ib R) (se_be R p) true) (sh_jb S) ≤ 1680000)
    (hgo : p + 1 < sh_jb S → ∀ bc bs, am_W G m_R_goOn d bc bs (se_Q x t S P W F (zu (se_ib R) (se_be R p) true) (f (se_co R, se_li R, se_bo R, se_no R, se_al R, se_be R, zu (se_ib R) (se_be R p) true, se_bs R))) 0 (lv_args 0 [.ref 21, .int (nI (p + 1)), .long (lN (sp_co S (se_be R) (p + 1))), .long (lN (sp_rs S (zu (se_ib R) (se_be R p) true) (sh_jb S)))]) [] (hx x t S F (se_co R, se_li R, se_bo R, se_no R, se_al R, se_be R, zu (se_ib R) (se_be R p) true, se_bs R) P W)) :
    am_W G m_R_follow (d + 1) bc bs (se_Q x t S P W F (zu (se_ib R) (se_be R p) true) (se_fo S f p R)) 0 (lv_args 0 [.ref 21, .int (nI p), .long (lN (sp_co S (se_be R) (p + 1))), .long (lN (sp_rs S (zu (se_ib R) (se_be R p) true) (sh_jb S)))]) [] (hx x t S F R P W) := by
  have s2 := hS.2.1
  obtain ⟨r1, r2, r3, r4, r5, r6⟩ := id hR
  have hbe := r5 p
  refine am_lload_n d_R_follow_0 rfl rfl ?_
  refine am_lload d_R_follow_1 rfl ?_
  refine am_laddN d_R_follow_3 ?_
  refine am_aload_n d_R_follow_4 rfl rfl ?_
  refine am_get F_R 6 (by decide) d_R_follow_5 w_143 rfl rfl ?_
  refine am_lc_lt (tgt := 14) d_R_follow_8 d_R_follow_9 (by decide) (by omega) (by omega) (fun c9 => ?_) (fun c9 => ?_)
  · refine am_iload_n d_R_follow_14 rfl rfl ?_
    refine am_iconst (v := nI 1) d_R_follow_15 (by decide) ?_
    refine am_iaddN d_R_follow_16 ?_
    refine am_aload_n d_R_follow_17 rfl rfl ?_
    refine am_get F_R 0 (by decide) d_R_follow_18 w_136 rfl rfl ?_
    refine am_get F_S 5 (by decide) d_R_follow_21 w_44 rfl rfl ?_
    refine am_icmpN_lt (tgt := 49) d_R_follow_24 (by decide) (by omega) (by omega) (fun c24 => ?_) (fun c24 => ?_)
    · have e1 := se_fo_3 (f := f) (R := R) (p := p) (S := S) (by omega) (by omega)
      refine am_aload_n d_R_follow_49 rfl rfl ?_
      refine am_get F_R 3 (by decide) d_R_follow_50 w_139 rfl rfl ?_
      refine am_iload_n d_R_follow_53 rfl rfl ?_
      refine am_ialdA d_R_follow_54 rfl (by omega) (by decide) ?_
      refine am_istore d_R_follow_55 (by decide) ?_
      refine am_aload_n d_R_follow_57 rfl rfl ?_
      refine am_get F_R 4 (by decide) d_R_follow_58 w_140 rfl rfl ?_
      refine am_iload d_R_follow_61 rfl ?_
      refine am_iconst (v := zI true) d_R_follow_63 (by decide) ?_
      refine am_zastA d_R_follow_64 rfl hbe (by decide) ?_
      refine am_aload_n d_R_follow_65 rfl rfl ?_
      refine am_iload_n d_R_follow_66 rfl rfl ?_
      refine am_iconst (v := nI 1) d_R_follow_67 (by decide) ?_
      refine am_iaddN d_R_follow_68 ?_
      refine am_lload_n d_R_follow_69 rfl rfl ?_
      refine am_lload d_R_follow_70 rfl ?_
      refine am_callQ 4 (am_recvV (z := m_R_goOn) rfl d_R_follow_72 w_481 w_483 ws_7 w_484 F_R.1 rfl (by decide) np_R_goOn) (by decide) (by decide) (Nat.le_of_ble_eq_true rfl) (Nat.le_of_ble_eq_true rfl) (Nat.zero_le _) (Nat.zero_le _) (am_rm (by omega) (hgo (by omega) _ _)) (fun v72 h72 q72 => ?_) (fun x72 h72 q72 => ?_)
      · obtain ⟨F', q1, rfl, q3⟩ := q72
        cases q1
        refine am_istore d_R_follow_75 (by decide) ?_
        refine am_aload_n d_R_follow_77 rfl rfl ?_
        refine am_get F_R 4 (by decide) d_R_follow_78 w_140 rfl rfl ?_
        refine am_iload d_R_follow_81 rfl ?_
        refine am_iconst (v := zI false) d_R_follow_83 (by decide) ?_
        refine am_zastA d_R_follow_84 rfl hbe (by decide) ?_
        refine am_iload d_R_follow_85 rfl ?_
        refine am_zret d_R_follow_87 rfl (zI_n _) ?_
        rw [e1]
        exact ⟨F', rfl, rfl, q3⟩
      · obtain ⟨F', q1, -, -⟩ := q72
        cases q1
    · have e1 := se_fo_2 (f := f) (R := R) (p := p) (S := S) (by omega) (by omega)
      refine am_aload_n d_R_follow_27 rfl rfl ?_
      refine am_lload_n d_R_follow_28 rfl rfl ?_
      refine am_put F_R 6 (by decide) d_R_follow_29 w_143 rfl rfl (Nat.le_of_ble_eq_true rfl) rfl rfl ?_
      refine am_aload_n d_R_follow_32 rfl rfl ?_
      refine am_get F_R 3 (by decide) d_R_follow_33 w_139 rfl rfl ?_
      refine am_iconst (v := nI 0) d_R_follow_36 (by decide) ?_
      refine am_aload_n d_R_follow_37 rfl rfl ?_
      refine am_get F_R 5 (by decide) d_R_follow_38 w_141 rfl rfl ?_
      refine am_iconst (v := nI 0) d_R_follow_41 (by decide) ?_
      refine am_bipush (v := nI 6) d_R_follow_42 (by decide) ?_
      refine am_copyA 0 0 6 d_R_follow_44 w_491 w_493 w_492 w_13 rfl rfl (by decide) (by decide) (by decide) (by decide) (by omega) (by decide) ?_
      refine am_iconst (v := zI true) d_R_follow_47 (by decide) ?_
      refine am_zret d_R_follow_48 rfl (zI_n _) ?_
      rw [e1]
      exact ⟨F, rfl, rfl, fun _ => ⟨fl_eqv_rfl _ _, fun _ _ _ _ _ => rfl⟩⟩
  · have e1 : se_fo S f p R = (true, R) := se_fo_1 (by omega)
    refine am_iconst (v := zI true) d_R_follow_12 (by decide) ?_
    refine am_zret d_R_follow_13 rfl (zI_n _) ?_
    rw [e1]
    exact ⟨F, rfl, rfl, fun _ => ⟨fl_eqv_rfl _ _, fun _ _ _ _ _ => rfl⟩⟩
/-- what the loop finds -/
def se_in (S : sh_T) (F : fl_T) (R : se_T) (p : Nat) : Prop := se_ok S R ∧ se_px S R p ∧ fl_eqv (sh_mc S) (fl_co S (se_be R) (fl_clear S fl_0) p).1 F
theorem se_in_bd {p : Nat} (hS : sh_ok S) (hk : sh_k S jo) (hall : ∀ j, j < sh_jb S → sp_fits S j = true) (hp : p < sh_jb S) (h : se_in S F R p) : fl_sm (sh_mc S) F (2000 + 800 * p) ∧ (∀ m, m < sh_mc S → fl_bc F m ≤ 28) ∧ (∀ k, k < p → se_be R k < 6 ∧ sp_fits S (se_be R k) = true) := by
  have s2 := hS.2.1
  have h0 : ∀ k, k < p → se_be R k < sh_jb S ∧ sp_fits S (se_be R k) = true := fun k hk => ⟨(h.2.1.1 k hk).1, hall _ (h.2.1.1 k hk).1⟩
  have h1 : ∀ k, k < p → se_be R k < 6 ∧ sp_fits S (se_be R k) = true := fun k hk => ⟨h.1.2.2.2.2.1 k, (h0 k hk).2⟩
  refine ⟨fl_eqv_sm h.2.2 (fl_co_sm hS (fl_clear_sm _ hS) p h1), fun m hm => ?_, h1⟩
  have := fl_co_ct (f := fl_0) hS hk p (by omega) h0 m hm
  rw [← (h.2.2 m hm).1]
  omega
theorem se_in_up {p j : Nat} (hS : sh_ok S) (hk : sh_k S jo) (hall : ∀ j, j < sh_jb S → sp_fits S j = true) (hp : p < sh_jb S) (h : se_in S F R p) (hj : j < sh_jb S) :
    sp_co S (nu (se_be R) p j) (p + 1) = sp_co S (se_be R) p + (fl_end S j F - sh_du S j) * sh_we S j ∧ fl_eqv (sh_mc S) (fl_co S (nu (se_be R) p j) (fl_clear S fl_0) (p + 1)).1 (fl_place S j F) := by
  have hc : fl_co S (nu (se_be R) p j) (fl_clear S fl_0) p = fl_co S (se_be R) (fl_clear S fl_0) p := fl_co_congr (fun k hk => nu_ne _ _ (by omega))
  obtain ⟨-, -, h1⟩ := se_in_bd hS hk hall hp h
  obtain ⟨g1, g2⟩ := fl_place_eqv hS (hall j hj) (fl_co_sm hS (fl_clear_sm fl_0 hS) p h1) h.2.2
  constructor
  · unfold sp_co
    rw [fl_co, hc, nu_eq, g2]
  · rw [fl_co, hc, nu_eq]
    exact g1
set_option maxRecDepth 20000 in
set_option maxHeartbeats 1000000 in
theorem c_R_goOn_l (hS : sh_ok S) (hk : sh_k S jo) (hall : ∀ j, j < sh_jb S → sp_fits S j = true) (f : se_T → Bool × se_T) (D p : Nat) (hD : 3 ≤ D) (hp : p < sh_jb S)
    (hfo : ∀ (F : fl_T) (R : se_T) (j c o bc bs : Nat), se_in S F R p → j < sh_jb S → se_ib R j = false → se_ok S (se_nd R p j) → c = sp_co S (nu (se_be R) p j) (p + 1) → o = sp_rs S (zu (se_ib R) j true) (sh_jb S) → am_W G m_R_follow D bc bs (se_Q x t S P W (fl_place S j F) (zu (se_ib R) j true) (se_fo S f p (se_nd R p j))) 0 (lv_args 0 [.ref 21, .int (nI p), .long (lN c), .long (lN o)]) [] (hx x t S (fl_place S j F) (se_nd R p j) P W))
    (hfp : p + 1 < sh_jb S → ∀ Q, se_ok S Q → se_px S Q (p + 1) → se_ok S (f Q).2 ∧ se_sm (p + 1) Q (f Q).2) :
    ∀ k j, j + k = sh_jb S → ∀ (F : fl_T) (R : se_T) (c o bc bs : Nat), se_in S F R p → c = sp_co S (se_be R) p → o = sp_rs S (se_ib R) (sh_jb S) →
    am_W G m_R_goOn (D + 1) bc bs (se_Q x t S P W F (se_ib R) (se_lp S f p k j R)) 3 [(0, .ref 21), (1, .int (nI p)), (2, .long (lN c)), (4, .long (lN o)), (6, .int (nI j))] [] (hx x t S F R P W) := by
  intro k
  have s2 := hS.2.1
  induction k with
  | zero =>
    intro j hj F R c o bc bs hin hc ho
    refine am_iload d_R_goOn_3 rfl ?_
    refine am_aload_n d_R_goOn_5 rfl rfl ?_
    refine am_get F_R 0 (by decide) d_R_goOn_6 w_136 rfl rfl ?_
    refine am_get F_S 5 (by decide) d_R_goOn_9 w_44 rfl rfl ?_
    refine am_icmpN_ge (tgt := 129) d_R_goOn_12 (by decide) (by omega) (by omega) (fun c12 => ?_) (fun c12 => ?_)
    · refine am_iconst (v := zI true) d_R_goOn_129 (by decide) ?_
      refine am_zret d_R_goOn_130 rfl (zI_n _) ?_
      exact ⟨F, rfl, rfl, fun _ => ⟨fl_eqv_rfl _ _, fun _ _ _ _ _ => rfl⟩⟩
    · exact absurd c12 (by omega)
  | succ k ih =>
    intro j hj F R c o bc bs hin hc ho
    obtain ⟨hsm, h28, hpre⟩ := se_in_bd hS hk hall hp hin
    obtain ⟨r1, r2, r3, r4, r5, r6⟩ := id hin.1
    have hjb : j < sh_jb S := by omega
    obtain ⟨i1, i2⟩ := se_in_up hS hk hall hp hin hjb
    obtain ⟨-, hend⟩ := fl_place_sm hS (hall j hjb) hsm
    have hal := r1 j hjb
    refine am_iload d_R_goOn_3 rfl ?_
    refine am_aload_n d_R_goOn_5 rfl rfl ?_
    refine am_get F_R 0 (by decide) d_R_goOn_6 w_136 rfl rfl ?_
    refine am_get F_S 5 (by decide) d_R_goOn_9 w_44 rfl rfl ?_
    refine am_icmpN_ge (tgt := 129) d_R_goOn_12 (by decide) (by omega) (by omega) (fun c12 => ?_) (fun c12 => ?_)
    · first
        | exact absurd c12 (by omega)
        | exact absurd c23 (by omega)
    · refine am_iload_n d_R_goOn_15 rfl rfl ?_
      refine am_aload_n d_R_goOn_16 rfl rfl ?_
      refine am_get F_R 0 (by decide) d_R_goOn_17 w_136 rfl rfl ?_
      refine am_get F_S 5 (by decide) d_R_goOn_20 w_44 rfl rfl ?_
      refine am_icmpN_ge (tgt := 129) d_R_goOn_23 (by decide) (by omega) (by omega) (fun c23 => ?_) (fun c23 => ?_)
      · first
          | exact absurd c12 (by omega)
          | exact absurd c23 (by omega)
      · refine am_aload_n d_R_goOn_26 rfl rfl ?_
        refine am_get F_R 4 (by decide) d_R_goOn_27 w_140 rfl rfl ?_
        refine am_iload d_R_goOn_30 rfl ?_
        refine am_zaldA d_R_goOn_32 rfl (by omega) (by decide) ?_
        refine am_ifZ_eq (tgt := 39) d_R_goOn_33 (by decide) (fun c33 => ?_) (fun c33 => ?_)
        · refine am_aload_n d_R_goOn_39 rfl rfl ?_
          refine am_get F_R 9 (by decide) d_R_goOn_40 w_147 rfl rfl ?_
          refine am_aload_n d_R_goOn_43 rfl rfl ?_
          refine am_get F_R 7 (by decide) d_R_goOn_44 w_144 rfl rfl ?_
          refine am_icmpN_lt (tgt := 52) d_R_goOn_47 (by decide) (by omega) (by omega) (fun c47 => ?_) (fun c47 => ?_)
          · have hok1 : se_ok S (se_nd R p j) := ⟨r1, by show se_no R + 1 ≤ se_li R; omega, r3, r4, fun i => by show nu _ _ _ i < 6; unfold nu; split; omega; exact r5 i, r6⟩
            have hro := sp_rs_out (S := S) c33 hjb
            have hle : se_al R j ≤ o := by omega
            have hcost : c + (fl_end S j F - sh_du S j) * sh_we S j = sp_co S (nu (se_be R) p j) (p + 1) := by rw [hc]; exact i1.symm
            have hoth : o - se_al R j = sp_rs S (zu (se_ib R) j true) (sh_jb S) := by omega
            refine am_aload_n d_R_goOn_52 rfl rfl ?_
            refine am_dup d_R_goOn_53 rfl ?_
            refine am_get F_R 9 (by decide) d_R_goOn_54 w_147 rfl rfl ?_
            refine am_iconst (v := nI 1) d_R_goOn_57 (by decide) ?_
            refine am_iaddN d_R_goOn_58 ?_
            refine am_put F_R 9 (by decide) d_R_goOn_59 w_147 rfl rfl (Nat.le_of_ble_eq_true rfl) rfl rfl ?_
            refine am_aload_n d_R_goOn_62 rfl rfl ?_
            refine am_get F_R 3 (by decide) d_R_goOn_63 w_139 rfl rfl ?_
            refine am_iload_n d_R_goOn_66 rfl rfl ?_
            refine am_iload d_R_goOn_67 rfl ?_
            refine am_iastA d_R_goOn_69 rfl (by omega) (by decide) ?_
            refine am_lload_n d_R_goOn_70 rfl rfl ?_
            refine am_aload_n d_R_goOn_71 rfl rfl ?_
            refine am_get F_R 0 (by decide) d_R_goOn_72 w_136 rfl rfl ?_
            refine am_iload d_R_goOn_75 rfl ?_
            refine am_aload_n d_R_goOn_77 rfl rfl ?_
            refine am_get F_R 1 (by decide) d_R_goOn_78 w_137 rfl rfl ?_
            refine am_iload d_R_goOn_81 rfl ?_
            refine am_callF 2 (am_recvV (z := m_F_place) rfl d_R_goOn_83 w_485 w_450 w_451 w_452 F_F.1 rfl (by decide) np_F_place) (by decide) (by decide) (Nat.le_of_ble_eq_true rfl) (Nat.le_of_ble_eq_true rfl) (Nat.zero_le _) (Nat.zero_le _) (am_rm (d := 3) hD (c_F_place (R := se_nd R p j) (F := F) hS 0 _ _ j (2000 + 800 * p) (by omega) (hall j hjb) hsm (by omega))) ?_
            refine am_callF 3 (am_recvV (z := m_S_costOf) rfl d_R_goOn_86 w_486 w_469 w_470 w_471 F_S.1 rfl (by decide) np_S_costOf) (by decide) (by decide) (Nat.le_of_ble_eq_true rfl) (Nat.le_of_ble_eq_true rfl) (Nat.zero_le _) (Nat.zero_le _) (c_S_costOf hS _ _ _ j _ (by omega) (by omega)) ?_
            refine am_laddN d_R_goOn_89 ?_
            refine am_lstore d_R_goOn_90 (by decide) ?_
            refine am_aload_n d_R_goOn_92 rfl rfl ?_
            refine am_iload_n d_R_goOn_93 rfl rfl ?_
            refine am_lload d_R_goOn_94 rfl ?_
            refine am_lload d_R_goOn_96 rfl ?_
            refine am_aload_n d_R_goOn_98 rfl rfl ?_
            refine am_get F_R 2 (by decide) d_R_goOn_99 w_138 rfl rfl ?_
            refine am_iload d_R_goOn_102 rfl ?_
            refine am_laldA d_R_goOn_104 rfl (by omega) (by decide) ?_
            refine am_lsubN d_R_goOn_105 hle ?_
            refine am_callQ 4 (am_recvV (z := m_R_follow) rfl d_R_goOn_106 w_487 w_489 ws_8 w_490 F_R.1 rfl (by decide) np_R_follow) (by decide) (by decide) (Nat.le_of_ble_eq_true rfl) (Nat.le_of_ble_eq_true rfl) (Nat.zero_le _) (Nat.zero_le _) (hfo F R j _ _ _ _ hin hjb c33 hok1 hcost hoth) (fun v106 h106 q106 => ?_) (fun x106 h106 q106 => ?_)
            · obtain ⟨F', q1, rfl, q3⟩ := q106
              cases q1
              refine am_ifZ_ne (tgt := 114) d_R_goOn_109 (by decide) (fun c109 => ?_) (fun c109 => ?_)
              · rw [se_lp_3 c33 (by omega) c109]
                obtain ⟨q4, q5⟩ := q3 c109
                obtain ⟨p1, p2, p3, p4⟩ := fl_pj_ct hS hk hjb (hall j hjb) hsm h28 (sh_so S j) (Nat.le_refl _)
                have hmF : ∀ i, i < sh_so S j → fl_ma F' (sh_sa S (j * 4 + i)) = fl_ma (fl_place S j F) (sh_sa S (j * 4 + i)) := fun i hi => q5 j hjb (zu_eq _ _ _) i hi
                have hmm : ∀ i, i < sh_so S j → fl_ma F' (sh_sa S (j * 4 + i)) < sh_mc S := fun i hi => by rw [hmF i hi]; exact p4 i hi
                have hsm1 := fl_eqv_sm q4 (fl_place_sm hS (hall j hjb) hsm).1
                have hbb : ∀ m, m < sh_mc S → fl_bc F' m < 2 ^ 31 := fun m hm => by have := hsm1.1 m hm; omega
                have hbk : fl_eqv (sh_mc S) F (fl_lift S j F') := fl_back hS hk hjb (hall j hjb) hsm h28 q4 hmF
                have hmk : ∀ j', j' < sh_jb S → se_ib R j' = true → ∀ i, i < sh_so S j' → fl_ma (fl_lift S j F') (sh_sa S (j' * 4 + i)) = fl_ma F (sh_sa S (j' * 4 + i)) := fun j' hj' hu i hi => by
                  have hne : j' ≠ j := fun e => by rw [e, c33] at hu; cases hu
                  have e1 : fl_ma (fl_lift S j F') = fl_ma F' := fl_li_ma S j F' _
                  rw [e1, q5 j' hj' (by rw [zu_ne _ _ hne]; exact hu) i hi]
                  exact (p3 _ (fun k hk2 => sh_k_dj hk hj' hi hjb hk2 hne)).1
                have hlo := se_lp_ok (f := f) (p := p) hS hall (by omega) hfp 1 j R (by omega) hin.1 hin.2.1
                rw [se_lp_3 c33 (by omega) c109] at hlo
                obtain ⟨z1, z2⟩ : se_ok S (se_fo S f p (se_nd R p j)).2 ∧ se_sm p R (se_fo S f p (se_nd R p j)).2 := hlo
                have hib : se_ib (se_fo S f p (se_nd R p j)).2 = se_ib R := z2.2.2.2.1
                have hc2 : c = sp_co S (se_be (se_fo S f p (se_nd R p j)).2) p := by rw [hc]; exact sp_co_congr (fun k hk => (z2.2.2.2.2 k hk).symm)
                have ho2 : o = sp_rs S (se_ib (se_fo S f p (se_nd R p j)).2) (sh_jb S) := by rw [hib]; exact ho
                have hin2 : se_in S (fl_lift S j F') (se_fo S f p (se_nd R p j)).2 p := ⟨z1, se_px_sm hin.2.1 z2, fl_eqv_tr (by rw [fl_co_congr (h := se_be R) (fun k hk => z2.2.2.2.2 k hk)]; exact hin.2.2) hbk⟩
                refine am_aload_n d_R_goOn_114 rfl rfl ?_
                refine am_get F_R 1 (by decide) d_R_goOn_115 w_137 rfl rfl ?_
                refine am_iload d_R_goOn_118 rfl ?_
                refine am_callF 2 (am_recvV (z := m_F_lift) rfl d_R_goOn_120 w_494 w_495 w_496 w_497 F_F.1 rfl (by decide) np_F_lift) (by decide) (by decide) (Nat.le_of_ble_eq_true rfl) (Nat.le_of_ble_eq_true rfl) (Nat.zero_le _) (Nat.zero_le _) (c_F_lift hS _ _ _ j (by omega) hmm hbb) ?_
                refine am_iinc d_R_goOn_123 rfl (am_inc _) (by decide) ?_
                refine am_goto (tgt := 3) d_R_goOn_126 (by decide) ?_
                refine am_lo (L' := [(0, .ref 21), (1, .int (nI p)), (2, .long (lN c)), (4, .long (lN o)), (6, .int (nI (j + 1)))]) rfl ?_
                refine am_mono (se_Q_tr hbk hmk) ?_
                have hz := ih (j + 1) (by omega) _ _ c o bc bs hin2 hc2 ho2
                rw [hib] at hz
                exact hz
              · rw [se_lp_4 c33 (by omega) c109]
                refine am_iconst (v := zI false) d_R_goOn_112 (by decide) ?_
                refine am_zret d_R_goOn_113 rfl (zI_n _) ?_
                exact ⟨F', rfl, rfl, fun e => by cases e⟩
            · obtain ⟨F', q1, -, -⟩ := q106
              cases q1
          · rw [se_lp_2 c33 (by omega)]
            refine am_iconst (v := zI false) d_R_goOn_50 (by decide) ?_
            refine am_zret d_R_goOn_51 rfl (zI_n _) ?_
            exact ⟨F, rfl, rfl, fun e => by cases e⟩
        · refine am_goto (tgt := 123) d_R_goOn_36 (by decide) ?_
          rw [se_lp_1 c33]
          refine am_iinc d_R_goOn_123 rfl (am_inc _) (by decide) ?_
          refine am_goto (tgt := 3) d_R_goOn_126 (by decide) ?_
          exact am_lo (L' := [(0, .ref 21), (1, .int (nI p)), (2, .long (lN c)), (4, .long (lN o)), (6, .int (nI (j + 1)))]) rfl (ih (j + 1) (by omega) F R c o bc bs hin hc ho)
theorem c_R_goOn (hS : sh_ok S) (hk : sh_k S jo) (hall : ∀ j, j < sh_jb S → sp_fits S j = true) : ∀ r p, p + r = sh_jb S → 1 ≤ r → ∀ (F : fl_T) (R : se_T) (c o bc bs : Nat), se_in S F R p → c = sp_co S (se_be R) p → o = sp_rs S (se_ib R) (sh_jb S) →
    am_W G m_R_goOn (2 * r + 4) bc bs (se_Q x t S P W F (se_ib R) (se_go S r p R)) 0 (lv_args 0 [.ref 21, .int (nI p), .long (lN c), .long (lN o)]) [] (hx x t S F R P W) := by
  intro r
  have s2 := hS.2.1
  induction r with
  | zero => intro p _ h; omega
  | succ r ihr =>
    intro p hp h1 F R c o bc bs hin hc ho
    have hfo : ∀ (F : fl_T) (R : se_T) (j c o bc bs : Nat), se_in S F R p → j < sh_jb S → se_ib R j = false → se_ok S (se_nd R p j) → c = sp_co S (nu (se_be R) p j) (p + 1) → o = sp_rs S (zu (se_ib R) j true) (sh_jb S) → am_W G m_R_follow (2 * r + 5) bc bs (se_Q x t S P W (fl_place S j F) (zu (se_ib R) j true) (se_fo S (se_go S r (p + 1)) p (se_nd R p j))) 0 (lv_args 0 [.ref 21, .int (nI p), .long (lN c), .long (lN o)]) [] (hx x t S (fl_place S j F) (se_nd R p j) P W) := by
      intro F R j c o bc bs hin hj hb hok hc ho
      subst hc ho
      have e0 : se_be (se_nd R p j) p = j := nu_eq _ _ _
      have hup := se_px_up hin.2.1 hj hb
      obtain ⟨i1, i2⟩ := se_in_up hS hk hall (by omega) hin hj
      obtain ⟨r1, r2, r3, r4, r5, r6⟩ := id hok
      have hcb := sp_co_bd (g := nu (se_be R) p j) (n := p + 1) hS (by omega) (fun k hk => ⟨r5 k, hall _ (hup.1 k hk).1⟩)
      have hrb := sp_rs_bd (u := zu (se_ib R) j true) hS (sh_jb S) hall
      have hfl := c_R_follow (G := G) (x := x) (t := t) (F := fl_place S j F) (P := P) (W := W) (R := se_nd R p j) hS (se_go S r (p + 1)) (2 * r + 4) bc bs p (by omega) hok hcb (by rw [e0]; show sp_rs S (zu (se_ib R) j true) (sh_jb S) ≤ _; omega) (fun hlt bc bs => by
        refine ihr (p + 1) (by omega) (by omega) _ _ _ _ bc bs ⟨⟨r1, r2, r3, r4, r5, r6⟩, hup, i2⟩ rfl rfl)
      rw [e0] at hfl
      exact hfl
    refine am_iconst (v := nI 0) d_R_goOn_0 (by decide) ?_
    refine am_istore d_R_goOn_1 (by decide) ?_
    exact am_lo (L' := [(0, .ref 21), (1, .int (nI p)), (2, .long (lN c)), (4, .long (lN o)), (6, .int (nI 0))]) rfl (c_R_goOn_l hS hk hall (se_go S r (p + 1)) (2 * r + 5) p (by omega) (by omega) hfo (fun _ Q hQ hx' => se_go_ok hS hall r (p + 1) Q (by omega) hQ hx') (sh_jb S) 0 (by omega) F R c o bc bs hin hc ho)
/-- the sum of ALONE of the jobs below n, and the row of them -/
def se_sum (S : sh_T) : Nat → Nat
  | 0 => 0
  | n + 1 => se_sum S n + sp_al S n
def se_als (S : sh_T) (g : Nat → Nat) : Nat → Nat → Nat
  | 0 => g
  | n + 1 => nu (se_als S g n) n (sp_al S n)
theorem se_als_at (S : sh_T) (g : Nat → Nat) : ∀ n k, k < n → se_als S g n k = sp_al S k
  | 0, k, h => absurd h (Nat.not_lt_zero k)
  | n + 1, k, h => by
    unfold se_als
    by_cases e : k = n
    · subst e; exact nu_eq _ _ _
    · rw [nu_ne _ _ e]; exact se_als_at S g n k (by omega)
theorem se_sum_rs (S : sh_T) {u : Nat → Bool} : ∀ n, (∀ k, k < n → u k = false) → sp_rs S u n = se_sum S n
  | 0, _ => rfl
  | n + 1, h => by
    unfold sp_rs se_sum
    rw [se_sum_rs S n (fun k hk => h k (by omega)), h n (by omega)]
    rfl
theorem zc_n_0 {u : Nat → Bool} : ∀ n, (∀ k, k < n → u k = false) → zc_n u n = 0
  | 0, _ => rfl
  | n + 1, h => by
    unfold zc_n
    rw [zc_n_0 n (fun k hk => h k (by omega)), h n (by omega)]
    rfl
/-- the search as it begins: the best order so far is that by due hours -/
def se_st (S : sh_T) (R : se_T) (n : Nat) : se_T := (sp_co S (se_ord (sh_du S) (se_bs R) (sh_jb S)) (sh_jb S), n, se_sum S (sh_jb S), 0, se_als S (se_al R) (sh_jb S), se_be R, se_ib R, se_ord (sh_du S) (se_bs R) (sh_jb S))
/-- the search at rest -/
def se_r (R : se_T) : Prop := (∀ i, se_be R i < 6) ∧ (∀ i, se_bs R i < 6) ∧ (∀ i, se_ib R i = false)
set_option maxRecDepth 20000 in
theorem c_R_findBest_l {Q : am_O → am_H → Prop} (hS : sh_ok S) (hall : ∀ j, j < sh_jb S → sp_fits S j = true) (d bc bs n : Nat) (hk : ∀ F, am_W G m_R_findBest (d + 5) bc bs Q 63 [(0, .ref 21), (1, .int (nI n)), (2, .int (nI (sh_jb S)))] [] (hx x t S F (se_co R, n, se_sum S (sh_jb S), 0, se_als S (se_al R) (sh_jb S), se_be R, se_ib R, se_bs R) P W)) : ∀ (g i : Nat), i ≤ sh_jb S → sh_jb S - i < g → ∀ (F : fl_T),
    am_W G m_R_findBest (d + 5) bc bs Q 17 [(0, .ref 21), (1, .int (nI n)), (2, .int (nI i))] [] (hx x t S F (se_co R, n, se_sum S i, 0, se_als S (se_al R) i, se_be R, se_ib R, se_bs R) P W) := by
  intro g
  have s2 := hS.2.1
  induction g with
  | zero => intro i _ h; omega
  | succ g ih =>
    intro i hi hg F
    refine am_iload_n d_R_findBest_17 rfl rfl ?_
    refine am_aload_n d_R_findBest_18 rfl rfl ?_
    refine am_get F_R 0 (by decide) d_R_findBest_19 w_136 rfl rfl ?_
    refine am_get F_S 5 (by decide) d_R_findBest_22 w_44 rfl rfl ?_
    refine am_icmpN_ge (tgt := 63) d_R_findBest_25 (by decide) (by omega) (by omega) (fun c25 => ?_) (fun c25 => ?_)
    · have e : i = sh_jb S := by omega
      subst e
      exact hk F
    · refine am_aload_n d_R_findBest_28 rfl rfl ?_
      refine am_get F_R 2 (by decide) d_R_findBest_29 w_138 rfl rfl ?_
      refine am_iload_n d_R_findBest_32 rfl rfl ?_
      refine am_aload_n d_R_findBest_33 rfl rfl ?_
      refine am_get F_R 1 (by decide) d_R_findBest_34 w_137 rfl rfl ?_
      refine am_iload_n d_R_findBest_37 rfl rfl ?_
      refine am_callF 2 (am_recvV (z := m_F_costAlone) rfl d_R_findBest_38 w_437 w_438 w_439 w_440 F_F.1 rfl (by decide) np_F_costAlone) (by decide) (by decide) (Nat.le_of_ble_eq_true rfl) (Nat.le_of_ble_eq_true rfl) (Nat.zero_le _) (Nat.zero_le _) (am_rm (d := 4) (by omega) (c_F_costAlone (F := F) (R := (se_co R, n, se_sum S i, 0, se_als S (se_al R) i, se_be R, se_ib R, se_bs R)) hS 0 _ _ i (by omega) (hall i (by omega)))) ?_
      rw [fl_al_eq hS _ (hall i (by omega))]
      refine am_lastA d_R_findBest_41 rfl (by omega) (by decide) ?_
      refine am_aload_n d_R_findBest_42 rfl rfl ?_
      refine am_dup d_R_findBest_43 rfl ?_
      refine am_get F_R 8 (by decide) d_R_findBest_44 w_145 rfl rfl ?_
      refine am_aload_n d_R_findBest_47 rfl rfl ?_
      refine am_get F_R 2 (by decide) d_R_findBest_48 w_138 rfl rfl ?_
      refine am_iload_n d_R_findBest_51 rfl rfl ?_
      refine am_laldA d_R_findBest_52 rfl (by omega) (by decide) ?_
      refine am_laddN d_R_findBest_53 ?_
      refine am_put F_R 8 (by decide) d_R_findBest_54 w_145 rfl rfl (Nat.le_of_ble_eq_true rfl) rfl rfl ?_
      refine am_iinc d_R_findBest_57 rfl (am_inc _) (by decide) ?_
      refine am_goto (tgt := 17) d_R_findBest_60 (by decide) ?_
      exact am_lo (L' := [(0, .ref 21), (1, .int (nI n)), (2, .int (nI (i + 1)))]) rfl (am_hq (h2 := (hx x t S (fl_place S i (fl_clear S F)) (se_co R, n, se_sum S (i + 1), 0, se_als S (se_al R) (i + 1), se_be R, se_ib R, se_bs R) P W)) (by show (hx x t S (fl_place S i (fl_clear S F)) (se_co R, n, se_sum S i + nu (se_als S (se_al R) i) i (sp_al S i) i, 0, nu (se_als S (se_al R) i) i (sp_al S i), se_be R, se_ib R, se_bs R) P W) = _; rw [nu_eq]; rfl) (ih (i + 1) (by omega) (by omega) _))
theorem se_ins_lt (du : Nat → Nat) (j : Nat) : ∀ (p : Nat) (b : Nat → Nat), p ≤ j → (∀ i, i < j → i ≠ p → b i < j ∨ b i < j + 1) → (∀ i, i ≤ j → i ≠ p → b i < j + 1) → ∀ i, i ≤ j → se_ins du j p b i < j + 1
  | 0, b, _, _, hb, i, hi => by
    unfold se_ins
    by_cases e : i = 0
    · subst e; rw [nu_eq]; omega
    · rw [nu_ne _ _ e]; exact hb i hi e
  | p + 1, b, hp, _, hb, i, hi => by
    unfold se_ins
    split
    · refine se_ins_lt du j p _ (by omega) (fun k hk hne => Or.inr ?_) (fun k hk hne => ?_) i hi
      · unfold nu; split
        · exact hb p (by omega) (by omega)
        · exact hb k (by omega) (by assumption)
      · unfold nu; split
        · exact hb p (by omega) (by omega)
        · exact hb k (by omega) (by assumption)
    · by_cases e : i = p + 1
      · subst e; rw [nu_eq]; omega
      · rw [nu_ne _ _ e]; exact hb i hi e
theorem se_ord_lt (du b : Nat → Nat) : ∀ n k, k < n → se_ord du b n k < n
  | 0, k, h => absurd h (Nat.not_lt_zero k)
  | n + 1, k, h => by
    unfold se_ord
    refine se_ins_lt du n n _ (Nat.le_refl _) (fun i hi _ => Or.inl (se_ord_lt du b n i hi)) (fun i hi hne => ?_) k (by omega)
    have := se_ord_lt du b n i (by omega)
    omega
set_option maxRecDepth 20000 in
theorem c_R_findBest (hS : sh_ok S) (hk : sh_k S jo) (hall : ∀ j, j < sh_jb S → sp_fits S j = true) (h1 : 1 ≤ sh_jb S) (bc bs n : Nat) (hn : n ≤ 2000) (hr : se_r R) :
    am_W G m_R_findBest 17 bc bs (fun o h' => ∃ F', o = .inl (some (.int (zI (se_go S (sh_jb S) 0 (se_st S R n)).1))) ∧ h' = (hx x t S F' (se_go S (sh_jb S) 0 (se_st S R n)).2 P W)) 0 (lv_args 0 [.ref 21, .int (nI n)]) [] (hx x t S F R P W) := by
  have s2 := hS.2.1
  have hb : ∀ i, se_bs R i < 6 := hr.2.1
  have hob := se_ord_bd (sh_du S) (se_bs R) hb (sh_jb S) s2
  have hg : ∀ k, k < sh_jb S → se_ord (sh_du S) (se_bs R) (sh_jb S) k < 6 ∧ sp_fits S (se_ord (sh_du S) (se_bs R) (sh_jb S) k) = true := fun k hk => ⟨hob k, hall _ (se_ord_lt (sh_du S) (se_bs R) (sh_jb S) k hk)⟩
  have hok : se_ok S (se_st S R n) := ⟨fun j hj => se_als_at S _ _ j hj, Nat.zero_le _, hn, sp_co_bd hS s2 hg, hr.1, hob⟩
  have hpx : se_px S (se_st S R n) 0 := ⟨fun k hk => absurd hk (Nat.not_lt_zero k), zc_n_0 _ (fun k _ => hr.2.2 k), fun j _ h => by have := hr.2.2 j; rw [show se_ib (se_st S R n) j = se_ib R j from rfl, this] at h; cases h⟩
  have ho : se_sum S (sh_jb S) = sp_rs S (se_ib (se_st S R n)) (sh_jb S) := (se_sum_rs S _ (fun k _ => hr.2.2 k)).symm
  have hin : ∀ F1, se_in S (fl_clear S F1) (se_st S R n) 0 := fun F1 => ⟨hok, hpx, fl_clear_eqv hS fl_0 F1⟩
  refine am_aload_n d_R_findBest_0 rfl rfl ?_
  refine am_iload_n d_R_findBest_1 rfl rfl ?_
  refine am_put F_R 7 (by decide) d_R_findBest_2 w_144 rfl rfl (Nat.le_of_ble_eq_true rfl) rfl rfl ?_
  refine am_aload_n d_R_findBest_5 rfl rfl ?_
  refine am_iconst (v := nI 0) d_R_findBest_6 (by decide) ?_
  refine am_put F_R 9 (by decide) d_R_findBest_7 w_147 rfl rfl (Nat.le_of_ble_eq_true rfl) rfl rfl ?_
  refine am_aload_n d_R_findBest_10 rfl rfl ?_
  refine am_lconst (v := 0) d_R_findBest_11 rfl ?_
  refine am_put F_R 8 (by decide) d_R_findBest_12 w_145 rfl rfl (Nat.le_of_ble_eq_true rfl) rfl rfl ?_
  refine am_iconst (v := nI 0) d_R_findBest_15 (by decide) ?_
  refine am_istore_n d_R_findBest_16 rfl (by decide) ?_
  refine am_lo (L' := [(0, .ref 21), (1, .int (nI n)), (2, .int (nI 0))]) rfl (c_R_findBest_l (R := R) hS hall 12 bc bs n (fun F => ?_) (sh_jb S + 1) 0 (Nat.zero_le _) (by omega) F)
  refine am_aload_n d_R_findBest_63 rfl rfl ?_
  refine am_callF 1 (am_recvV (z := m_R_orderByDue) rfl d_R_findBest_64 w_472 w_474 ws_6 w_475 F_R.1 rfl (by decide) np_R_orderByDue) (by decide) (by decide) (Nat.le_of_ble_eq_true rfl) (Nat.le_of_ble_eq_true rfl) (Nat.zero_le _) (Nat.zero_le _) (c_R_orderByDue (F := F) (R := (se_co R, n, se_sum S (sh_jb S), 0, se_als S (se_al R) (sh_jb S), se_be R, se_ib R, se_bs R)) hS _ _ _ hb) ?_
  refine am_aload_n d_R_findBest_67 rfl rfl ?_
  refine am_aload_n d_R_findBest_68 rfl rfl ?_
  refine am_get F_R 1 (by decide) d_R_findBest_69 w_137 rfl rfl ?_
  refine am_aload_n d_R_findBest_72 rfl rfl ?_
  refine am_get F_R 5 (by decide) d_R_findBest_73 w_141 rfl rfl ?_
  refine am_aload_n d_R_findBest_76 rfl rfl ?_
  refine am_get F_R 0 (by decide) d_R_findBest_77 w_136 rfl rfl ?_
  refine am_get F_S 5 (by decide) d_R_findBest_80 w_44 rfl rfl ?_
  refine am_callF 3 (am_recvV (z := m_F_costInOrder) rfl d_R_findBest_83 w_476 w_477 w_478 w_479 F_F.1 rfl (by decide) np_F_costInOrder) (by decide) (by decide) (Nat.le_of_ble_eq_true rfl) (Nat.le_of_ble_eq_true rfl) (Nat.zero_le _) (Nat.zero_le _) (am_rm (d := 4) (by omega) (c_F_costInOrderR (F := F) (R := se_wb (se_co R, n, se_sum S (sh_jb S), 0, se_als S (se_al R) (sh_jb S), se_be R, se_ib R, se_bs R) (se_ord (sh_du S) (se_bs R) (sh_jb S))) hS 0 _ _ _ s2 hg)) ?_
  rw [fl_co_eq hS _ hg]
  generalize hF1 : (fl_co S _ (fl_clear S F) (sh_jb S)).1 = F1
  refine am_put F_R 6 (by decide) d_R_findBest_86 w_143 rfl rfl (Nat.le_of_ble_eq_true rfl) rfl rfl ?_
  refine am_aload_n d_R_findBest_89 rfl rfl ?_
  refine am_get F_R 1 (by decide) d_R_findBest_90 w_137 rfl rfl ?_
  refine am_callF 1 (am_recvV (z := m_F_clear) rfl d_R_findBest_93 w_480 w_442 w_443 w_444 F_F.1 rfl (by decide) np_F_clear) (by decide) (by decide) (Nat.le_of_ble_eq_true rfl) (Nat.le_of_ble_eq_true rfl) (Nat.zero_le _) (Nat.zero_le _) (c_F_clear (R := se_st S R n) hS _ _ _) ?_
  refine am_aload_n d_R_findBest_96 rfl rfl ?_
  refine am_iconst (v := nI 0) d_R_findBest_97 (by decide) ?_
  refine am_lconst (v := lN 0) d_R_findBest_98 rfl ?_
  refine am_aload_n d_R_findBest_99 rfl rfl ?_
  refine am_get F_R 8 (by decide) d_R_findBest_100 w_145 rfl rfl ?_
  refine am_callQ 4 (am_recvV (z := m_R_goOn) rfl d_R_findBest_103 w_481 w_483 ws_7 w_484 F_R.1 rfl (by decide) np_R_goOn) (by decide) (by decide) (Nat.le_of_ble_eq_true rfl) (Nat.le_of_ble_eq_true rfl) (Nat.zero_le _) (Nat.zero_le _) (am_rm (d := 2 * sh_jb S + 4) (by omega) (c_R_goOn (R := se_st S R n) hS hk hall (sh_jb S) 0 (by omega) h1 (fl_clear S F1) 0 _ _ _ (hin F1) rfl ho)) (fun v103 h103 q103 => ?_) (fun x103 h103 q103 => ?_)
  · obtain ⟨F', q1, rfl, q3⟩ := q103
    cases q1
    refine am_zret d_R_findBest_106 rfl (zI_n _) ?_
    exact ⟨F', rfl, rfl⟩
  · obtain ⟨F', q1, -, -⟩ := q103
    cases q1
end CRB
