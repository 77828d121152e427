/-! the floor: placing jobs, clearing, lifting, costs -/
section CFM
variable {G : am_G} {x : Int64} {t : Bool} {S : sh_T} {F : fl_T} {R : se_T} {P : pl_T} {W : am_H}
theorem fl_sm_mono {N : Nat} {f : fl_T} {B B' : Nat} (h : fl_sm N f B) (hb : B ≤ B') : fl_sm N f B' := ⟨h.1, fun m i hm hi => by have := h.2 m i hm hi; omega⟩
theorem fl_sm_add {N : Nat} {f : fl_T} {B m a b : Nat} (h : fl_sm N f B) (hN : N ≤ 6) (hm : m < N) (ha : a ≤ B) (hb : b ≤ B) : fl_sm N (fl_add f m a b) B := by
  unfold fl_add
  split
  · rename_i hc
    refine ⟨fun k hk => ?_, fun k i hk hi => ?_⟩
    · show nu (fl_bc f) m (fl_bc f m + 1) k ≤ 32
      unfold nu
      split
      · omega
      · exact h.1 k hk
    · have hi' : i < nu (fl_bc f) m (fl_bc f m + 1) k := hi
      show nu (fl_bf f) (m * 32 + fl_bc f m) a (k * 32 + i) ≤ B ∧ nu (fl_bt f) (m * 32 + fl_bc f m) b (k * 32 + i) ≤ B
      have hk32 := h.1 k hk
      by_cases e : k * 32 + i = m * 32 + fl_bc f m
      · rw [e, nu_eq, nu_eq]; exact ⟨ha, hb⟩
      · rw [nu_ne _ _ e, nu_ne _ _ e]
        by_cases ek : k = m
        · subst ek
          rw [nu_eq] at hi'
          exact h.2 k i hk (by omega)
        · rw [nu_ne _ _ ek] at hi'
          exact h.2 k i hk hi'
  · exact h
theorem fl_sm_put {N : Nat} {S : sh_T} {f : fl_T} {B s m b : Nat} (h : fl_sm N f B) (hN : N ≤ 6) (hm : m < N) (hb : b ≤ B) (hh : sh_sh S s ≤ 100) : fl_sm N (fl_put S f s m b) (B + 100) :=
  fl_sm_add (fl_sm_mono (B := B) (f := (nu (fl_bg f) s b, nu (fl_ma f) s m, f.2.2)) h (by omega)) hN hm (by omega) (by omega)
/-- a job's steps in turn: the floor, the end, the hour from which the next may begin -/
def fl_stp (S : sh_T) (q : fl_T × Nat × Nat) (s : Nat) : fl_T × Nat × Nat :=
  (fl_put S q.1 s ((fl_try S q.1 s q.2.2 (sh_mc S)).2.getD 0) (fl_try S q.1 s q.2.2 (sh_mc S)).1, (fl_try S q.1 s q.2.2 (sh_mc S)).1 + sh_sh S s, (fl_try S q.1 s q.2.2 (sh_mc S)).1 + sh_sh S s + sh_sw S s)
def fl_pj (S : sh_T) (j : Nat) (f : fl_T) : Nat → fl_T × Nat × Nat
  | 0 => (f, 0, 0)
  | n + 1 => fl_stp S (fl_pj S j f n) (sh_sa S (j * 4 + n))
theorem sp_fit_has {S : sh_T} {j i : Nat} : ∀ {n}, sp_fit S j n = true → i < n → ∃ m, m < sh_mc S ∧ sh_kd S m = sh_sk S (sh_sa S (j * 4 + i))
  | 0, _, hi => absurd hi (Nat.not_lt_zero i)
  | n + 1, h, hi => by
    rw [sp_fit, Bool.and_eq_true] at h
    rcases Nat.lt_or_ge i n with q | q
    · exact sp_fit_has h.1 q
    · have : i = n := by omega
      subst this
      exact (sp_has_iff _ _ _).mp h.2
theorem fl_pj_sm {S : sh_T} {j : Nat} {f : fl_T} {B : Nat} (hS : sh_ok S) (hf : sp_fits S j = true) (hF : fl_sm (sh_mc S) f B) : ∀ n, n ≤ sh_so S j → fl_sm (sh_mc S) (fl_pj S j f n).1 (B + 200 * n) ∧ (fl_pj S j f n).2.1 ≤ B + 200 * n ∧ (fl_pj S j f n).2.2 ≤ B + 200 * n
  | 0, _ => ⟨hF, Nat.zero_le _, Nat.zero_le _⟩
  | n + 1, hn => by
    obtain ⟨h1, h2, h3⟩ := fl_pj_sm hS hf hF n (by omega)
    obtain ⟨s1, s2, s3, s4, s5, s6, s7, s8, s9, s10, s11, s12, s13, s14⟩ := id hS
    obtain ⟨hb1, hb2⟩ := fl_try_bd (S := S) (s := sh_sa S (j * 4 + n)) h1 h3 (sh_mc S) (Nat.le_refl _)
    have hso := fl_try_some (S := S) (f := (fl_pj S j f n).1) (s := sh_sa S (j * 4 + n)) (r := (fl_pj S j f n).2.2) (sh_mc S) (sp_fit_has hf (by omega))
    have t13 := s13 (sh_sa S (j * 4 + n))
    have t14 := s14 (sh_sa S (j * 4 + n))
    cases hq : (fl_try S (fl_pj S j f n).1 (sh_sa S (j * 4 + n)) (fl_pj S j f n).2.2 (sh_mc S)).2 with
    | none => exact absurd hq hso
    | some m =>
      rw [fl_pj]
      unfold fl_stp
      rw [hq]
      refine ⟨fl_sm_mono (fl_sm_put h1 s1 (hb2 m hq) hb1 t13) (by omega), ?_, ?_⟩
      · show _ + _ ≤ _
        omega
      · show _ + _ + _ ≤ _
        omega
set_option maxRecDepth 20000 in
theorem c_F_place_l {Q : am_O → am_H → Prop} (hS : sh_ok S) (d bc bs j B : Nat) (hj : j < 6) (hf : sp_fits S j = true) (hF : fl_sm (sh_mc S) F B) (hB : B ≤ 900000)
    (hend : am_W G m_F_place (d + 3) bc bs Q 75 [(0, .ref 15), (1, .int (nI j)), (2, .int (nI (fl_pj S j F (sh_so S j)).2.1)), (3, .int (nI (fl_pj S j F (sh_so S j)).2.2)), (4, .int (nI (sh_so S j)))] [] (hx x t S (fl_pj S j F (sh_so S j)).1 R P W)) :
    ∀ (g i : Nat), i ≤ sh_so S j → sh_so S j - i < g → am_W G m_F_place (d + 3) bc bs Q 7 [(0, .ref 15), (1, .int (nI j)), (2, .int (nI (fl_pj S j F i).2.1)), (3, .int (nI (fl_pj S j F i).2.2)), (4, .int (nI i))] [] (hx x t S (fl_pj S j F i).1 R P W) := by
  intro g
  obtain ⟨s1, s2, s3, s4, s5, s6, s7, s8, s9, s10, s11, s12, s13, s14⟩ := id hS
  have t10 := s10 j
  induction g with
  | zero => intro i _ h; omega
  | succ g ih =>
    intro i hi hg
    obtain ⟨h1, h2, h3⟩ := fl_pj_sm hS hf hF i hi
    refine am_iload d_F_place_7 rfl ?_
    refine am_aload_n d_F_place_9 rfl rfl ?_
    refine am_get F_F 0 (by decide) d_F_place_10 w_109 rfl rfl ?_
    refine am_get F_S 8 (by decide) d_F_place_13 w_52 rfl rfl ?_
    refine am_iload_n d_F_place_16 rfl rfl ?_
    refine am_ialdA d_F_place_17 rfl (by omega) (by decide) ?_
    refine am_icmpN_ge (tgt := 75) d_F_place_18 (by decide) (by omega) (by omega) (fun c18 => ?_) (fun c18 => ?_)
    · have e : i = sh_so S j := by omega
      subst e
      exact hend
    · have t11 := s11 (j * 4 + i)
      obtain ⟨hb1, hb2⟩ := fl_try_bd (S := S) (s := sh_sa S (j * 4 + i)) h1 h3 (sh_mc S) (Nat.le_refl _)
      have hso := fl_try_some (S := S) (f := (fl_pj S j F i).1) (s := sh_sa S (j * 4 + i)) (r := (fl_pj S j F i).2.2) (sh_mc S) (sp_fit_has hf (by omega))
      obtain ⟨m, hq⟩ := Option.ne_none_iff_exists'.mp hso
      have t13 := s13 (sh_sa S (j * 4 + i))
      have t14 := s14 (sh_sa S (j * 4 + i))
      refine am_aload_n d_F_place_21 rfl rfl ?_
      refine am_get F_F 0 (by decide) d_F_place_22 w_109 rfl rfl ?_
      refine am_get F_S 9 (by decide) d_F_place_25 w_56 rfl rfl ?_
      refine am_iload_n d_F_place_28 rfl rfl ?_
      refine am_iconst (v := nI 4) d_F_place_29 (by decide) ?_
      refine am_imulN d_F_place_30 ?_
      refine am_iload d_F_place_31 rfl ?_
      refine am_iaddN d_F_place_33 ?_
      refine am_ialdA d_F_place_34 rfl (by omega) (by decide) ?_
      refine am_istore d_F_place_35 (by decide) ?_
      refine am_aload_n d_F_place_37 rfl rfl ?_
      refine am_iload d_F_place_38 rfl ?_
      refine am_iload_n d_F_place_40 rfl rfl ?_
      refine am_callF 3 (am_recvV (z := m_F_placeStep) rfl d_F_place_41 w_453 w_455 ws_4 w_456 F_F.1 rfl (by decide) np_F_placeStep) (by decide) (by decide) (Nat.le_of_ble_eq_true rfl) (Nat.le_of_ble_eq_true rfl) (Nat.zero_le _) (Nat.zero_le _) (c_F_placeStep hS d _ _ _ _ (B + 200 * i) m _ t11 h1 (by omega) h3 (Prod.ext rfl hq)) ?_
      refine am_aload_n d_F_place_44 rfl rfl ?_
      refine am_get F_F 0 (by decide) d_F_place_45 w_109 rfl rfl ?_
      refine am_get F_S 12 (by decide) d_F_place_48 w_64 rfl rfl ?_
      refine am_iload d_F_place_51 rfl ?_
      refine am_ialdA d_F_place_53 rfl (by omega) (by decide) ?_
      refine am_iaddN d_F_place_54 ?_
      refine am_istore_n d_F_place_55 rfl (by decide) ?_
      refine am_iload_n d_F_place_56 rfl rfl ?_
      refine am_aload_n d_F_place_57 rfl rfl ?_
      refine am_get F_F 0 (by decide) d_F_place_58 w_109 rfl rfl ?_
      refine am_get F_S 13 (by decide) d_F_place_61 w_67 rfl rfl ?_
      refine am_iload d_F_place_64 rfl ?_
      refine am_ialdA d_F_place_66 rfl (by omega) (by decide) ?_
      refine am_iaddN d_F_place_67 ?_
      refine am_istore_n d_F_place_68 rfl (by decide) ?_
      refine am_iinc d_F_place_69 rfl (am_inc _) (by decide) ?_
      refine am_goto (tgt := 7) d_F_place_72 (by decide) ?_
      refine am_lo (L' := [(0, .ref 15), (1, .int (nI j)), (2, .int (nI (fl_pj S j F (i + 1)).2.1)), (3, .int (nI (fl_pj S j F (i + 1)).2.2)), (4, .int (nI (i + 1)))]) rfl ?_
      have e : (hx x t S (fl_put S (fl_pj S j F i).1 (sh_sa S (j * 4 + i)) m (fl_try S (fl_pj S j F i).1 (sh_sa S (j * 4 + i)) (fl_pj S j F i).2.2 (sh_mc S)).1) R P W) = (hx x t S (fl_pj S j F (i + 1)).1 R P W) := by rw [fl_pj]; unfold fl_stp; rw [hq]; rfl
      rw [e]
      exact ih (i + 1) (by omega) (by omega)
/-- a job placed: the floor then; the job's end -/
def fl_place (S : sh_T) (j : Nat) (f : fl_T) : fl_T := (fl_pj S j f (sh_so S j)).1
def fl_end (S : sh_T) (j : Nat) (f : fl_T) : Nat := (fl_pj S j f (sh_so S j)).2.1
theorem c_F_place (hS : sh_ok S) (d bc bs j B : Nat) (hj : j < 6) (hf : sp_fits S j = true) (hF : fl_sm (sh_mc S) F B) (hB : B ≤ 900000) : am_Fn G m_F_place (d + 3) bc bs [.ref 15, .int (nI j)] (hx x t S F R P W) (some (.int (nI (fl_end S j F)))) (hx x t S (fl_place S j F) R P W) := by
  refine am_iconst (v := nI 0) d_F_place_0 (by decide) ?_
  refine am_istore_n d_F_place_1 rfl (by decide) ?_
  refine am_iconst (v := nI 0) d_F_place_2 (by decide) ?_
  refine am_istore_n d_F_place_3 rfl (by decide) ?_
  refine am_iconst (v := nI 0) d_F_place_4 (by decide) ?_
  refine am_istore d_F_place_5 (by decide) ?_
  refine am_lo (L' := [(0, .ref 15), (1, .int (nI j)), (2, .int (nI 0)), (3, .int (nI 0)), (4, .int (nI 0))]) rfl (c_F_place_l hS d bc bs j B hj hf hF hB ?_ (sh_so S j + 1) 0 (Nat.zero_le _) (by omega))
  refine am_iload_n d_F_place_75 rfl rfl ?_
  refine am_iret d_F_place_76 rfl ?_
  exact ⟨rfl, rfl⟩
/-- a machine's spans laid into its row -/
def fl_spans (S : sh_T) (m : Nat) (f : fl_T) : Nat → fl_T
  | 0 => f
  | i + 1 => fl_add (fl_spans S m f i) m (sh_sf S (m * 8 + i)) (sh_st S (m * 8 + i))
def fl_zero (f : fl_T) (m : Nat) : fl_T := (fl_bg f, fl_ma f, nu (fl_bc f) m 0, fl_bf f, fl_bt f)
def fl_clr (S : sh_T) (f : fl_T) : Nat → fl_T
  | 0 => f
  | m + 1 => fl_spans S m (fl_zero (fl_clr S f m) m) (sh_sp S m)
def fl_clear (S : sh_T) (f : fl_T) : fl_T := fl_clr S f (sh_mc S)
theorem fl_spans_bc (S : sh_T) (m : Nat) (f : fl_T) : ∀ i, fl_bc (fl_spans S m f i) m ≤ fl_bc f m + i
  | 0 => Nat.le_refl _
  | i + 1 => by
    have h := fl_spans_bc S m f i
    unfold fl_spans fl_add
    split
    · show nu _ m _ m ≤ _
      rw [nu_eq]; omega
    · omega
set_option maxRecDepth 20000 in
theorem c_F_clear_i {Q : am_O → am_H → Prop} {f : fl_T} (hS : sh_ok S) (d bc bs m : Nat) (hm : m < sh_mc S) (hz : fl_bc f m = 0)
    (hend : am_W G m_F_clear (d + 1) bc bs Q 71 [(0, .ref 15), (1, .int (nI m)), (2, .int (nI (sh_sp S m)))] [] (hx x t S (fl_spans S m f (sh_sp S m)) R P W)) :
    ∀ (g i : Nat), i ≤ sh_sp S m → sh_sp S m - i < g → am_W G m_F_clear (d + 1) bc bs Q 22 [(0, .ref 15), (1, .int (nI m)), (2, .int (nI i))] [] (hx x t S (fl_spans S m f i) R P W) := by
  intro g
  obtain ⟨s1, s2, s3, s4, s5, s6, s7, s8, s9, s10, s11, s12, s13, s14⟩ := id hS
  have t5 := s5 m
  induction g with
  | zero => intro i _ h; omega
  | succ g ih =>
    intro i hi hg
    have hbc := fl_spans_bc S m f i
    refine am_iload_n d_F_clear_22 rfl rfl ?_
    refine am_aload_n d_F_clear_23 rfl rfl ?_
    refine am_get F_F 0 (by decide) d_F_clear_24 w_109 rfl rfl ?_
    refine am_get F_S 2 (by decide) d_F_clear_27 w_34 rfl rfl ?_
    refine am_iload_n d_F_clear_30 rfl rfl ?_
    refine am_ialdA d_F_clear_31 rfl (by omega) (by decide) ?_
    refine am_icmpN_ge (tgt := 71) d_F_clear_32 (by decide) (by omega) (by omega) (fun c32 => ?_) (fun c32 => ?_)
    · have e : i = sh_sp S m := by omega
      subst e
      exact hend
    · refine am_iload_n d_F_clear_35 rfl rfl ?_
      refine am_bipush (v := nI 8) d_F_clear_36 (by decide) ?_
      refine am_imulN d_F_clear_38 ?_
      refine am_iload_n d_F_clear_39 rfl rfl ?_
      refine am_iaddN d_F_clear_40 ?_
      refine am_istore_n d_F_clear_41 rfl (by decide) ?_
      refine am_aload_n d_F_clear_42 rfl rfl ?_
      refine am_iload_n d_F_clear_43 rfl rfl ?_
      refine am_aload_n d_F_clear_44 rfl rfl ?_
      refine am_get F_F 0 (by decide) d_F_clear_45 w_109 rfl rfl ?_
      refine am_get F_S 3 (by decide) d_F_clear_48 w_38 rfl rfl ?_
      refine am_iload_n d_F_clear_51 rfl rfl ?_
      refine am_ialdA d_F_clear_52 rfl (by omega) (by decide) ?_
      refine am_aload_n d_F_clear_53 rfl rfl ?_
      refine am_get F_F 0 (by decide) d_F_clear_54 w_109 rfl rfl ?_
      refine am_get F_S 4 (by decide) d_F_clear_57 w_41 rfl rfl ?_
      refine am_iload_n d_F_clear_60 rfl rfl ?_
      refine am_ialdA d_F_clear_61 rfl (by omega) (by decide) ?_
      refine am_callF 4 (am_recvV (z := m_F_addBusy) rfl d_F_clear_62 w_445 w_447 ws_3 w_448 F_F.1 rfl (by decide) np_F_addBusy) (by decide) (by decide) (Nat.le_of_ble_eq_true rfl) (Nat.le_of_ble_eq_true rfl) (Nat.zero_le _) (Nat.zero_le _) (c_F_addBusy (F := fl_spans S m f i) d _ _ m _ _ (by omega) (by omega)) ?_
      refine am_iinc d_F_clear_65 rfl (am_inc _) (by decide) ?_
      refine am_goto (tgt := 22) d_F_clear_68 (by decide) ?_
      exact am_lo (L' := [(0, .ref 15), (1, .int (nI m)), (2, .int (nI (i + 1)))]) rfl (ih (i + 1) (by omega) (by omega))
set_option maxRecDepth 20000 in
theorem c_F_clear_o (hS : sh_ok S) (d bc bs : Nat) : ∀ (g m : Nat), m ≤ sh_mc S → sh_mc S - m < g → am_W G m_F_clear (d + 1) bc bs (fun o h' => o = .inl none ∧ h' = (hx x t S (fl_clear S F) R P W)) 2 [(0, .ref 15), (1, .int (nI m))] [] (hx x t S (fl_clr S F m) R P W) := by
  intro g
  obtain ⟨s1, s2, s3, s4, s5, s6, s7, s8, s9, s10, s11, s12, s13, s14⟩ := id hS
  induction g with
  | zero => intro i _ h; omega
  | succ g ih =>
    intro m hm hg
    refine am_iload_n d_F_clear_2 rfl rfl ?_
    refine am_aload_n d_F_clear_3 rfl rfl ?_
    refine am_get F_F 0 (by decide) d_F_clear_4 w_109 rfl rfl ?_
    refine am_get F_S 0 (by decide) d_F_clear_7 w_29 rfl rfl ?_
    refine am_icmpN_ge (tgt := 77) d_F_clear_10 (by decide) (by omega) (by omega) (fun c10 => ?_) (fun c10 => ?_)
    · refine am_vret d_F_clear_77 rfl ?_
      have e : m = sh_mc S := by omega
      subst e
      exact ⟨rfl, rfl⟩
    · refine am_aload_n d_F_clear_13 rfl rfl ?_
      refine am_get F_F 3 (by decide) d_F_clear_14 w_114 rfl rfl ?_
      refine am_iload_n d_F_clear_17 rfl rfl ?_
      refine am_iconst (v := nI 0) d_F_clear_18 (by decide) ?_
      refine am_iastA d_F_clear_19 rfl (by omega) (by decide) ?_
      refine am_iconst (v := nI 0) d_F_clear_20 (by decide) ?_
      refine am_istore_n d_F_clear_21 rfl (by decide) ?_
      refine am_lo (L' := [(0, .ref 15), (1, .int (nI m)), (2, .int (nI 0))]) rfl (c_F_clear_i (f := fl_zero (fl_clr S F m) m) hS d bc bs m (by omega) (nu_eq _ _ _) ?_ (sh_sp S m + 1) 0 (Nat.zero_le _) (by omega))
      refine am_iinc d_F_clear_71 rfl (am_inc _) (by decide) ?_
      refine am_goto (tgt := 2) d_F_clear_74 (by decide) ?_
      exact am_lo (L' := [(0, .ref 15), (1, .int (nI (m + 1)))]) rfl (ih (m + 1) (by omega) (by omega))
theorem c_F_clear (hS : sh_ok S) (d bc bs : Nat) : am_Fn G m_F_clear (d + 1) bc bs [.ref 15] (hx x t S F R P W) none (hx x t S (fl_clear S F) R P W) := by
  refine am_iconst (v := nI 0) d_F_clear_0 (by decide) ?_
  refine am_istore_n d_F_clear_1 rfl (by decide) ?_
  exact am_lo (L' := [(0, .ref 15), (1, .int (nI 0))]) rfl (c_F_clear_o hS d bc bs (sh_mc S + 1) 0 (Nat.zero_le _) (by omega))
end CFM
