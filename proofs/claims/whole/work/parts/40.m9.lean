/-! the model: check; its constructor -/
/-- the latest step of the same job below n -/
def bf (jo : Nat → Nat) (s : Nat) : Nat → Option Nat
  | 0 => none
  | t + 1 => if jo t = jo s then some t else bf jo s t
theorem bf_none {jo : Nat → Nat} {s : Nat} : ∀ {n}, (∀ t, t < n → jo t ≠ jo s) → bf jo s n = none
  | 0, _ => rfl
  | n + 1, h => by rw [bf, if_neg (h n (by omega))]; exact bf_none (fun t ht => h t (by omega))
theorem bf_some {jo : Nat → Nat} {s b : Nat} (hb : jo b = jo s) : ∀ {n}, b < n → (∀ t, b < t → t < n → jo t ≠ jo s) → bf jo s n = some b
  | 0, h, _ => absurd h (Nat.not_lt_zero b)
  | n + 1, h, hq => by
    rcases Nat.lt_or_ge b n with q | q
    · rw [bf, if_neg (hq n q (by omega))]; exact bf_some hb q (fun t h1 h2 => hq t h1 (by omega))
    · have e : b = n := by omega
      subst e
      rw [bf, if_pos hb]
theorem bf_lt {jo : Nat → Nat} {s b : Nat} : ∀ {n}, bf jo s n = some b → b < n
  | 0, h => by cases h
  | n + 1, h => by
    unfold bf at h
    split at h
    · cases h; omega
    · have := bf_lt h; omega
theorem bf_sb {S : sh_T} {jo : Nat → Nat} (hk : sh_k S jo) {s : Nat} (hs : s < sh_ss S) : sh_sb S s = oI (bf jo s s) := by
  obtain ⟨hj, i, hi, e⟩ := hk.2.2.1 s hs
  have h4 := hk.2.2.2.1 (jo s) i hj hi
  rw [e] at h4
  rw [h4]
  -- a step t of the same job below s stands before it
  have hbel : ∀ t, t < s → jo t = jo s → ∃ k, k < i ∧ sh_sa S (jo s * 4 + k) = t := by
    intro t ht hjt
    obtain ⟨g1, k, g2, g3⟩ := hk.2.2.1 t (by omega)
    rw [hjt] at g2 g3
    refine ⟨k, ?_, g3⟩
    rcases Nat.lt_trichotomy k i with q | q | q
    · exact q
    · subst q; omega
    · have := hk.2.1 (jo s) i k hj q g2; omega
  by_cases e0 : i = 0
  · rw [if_pos e0, bf_none]
    · rfl
    · intro t ht hjt
      obtain ⟨k, h1, -⟩ := hbel t ht hjt
      omega
  · rw [if_neg e0, bf_some (b := sh_sa S (jo s * 4 + (i - 1)))]
    · rfl
    · exact (hk.1 (jo s) (i - 1) hj (by omega)).2
    · have := hk.2.1 (jo s) (i - 1) i hj (by omega) hi; omega
    · intro t h1 h2 hjt
      obtain ⟨k, g1, g2⟩ := hbel t h2 hjt
      rcases Nat.lt_or_ge k (i - 1) with q | q
      · have := hk.2.1 (jo s) k (i - 1) hj q (by omega); omega
      · have e2 : k = i - 1 := by omega
        subst e2
        omega
section CM9
variable {G : am_G} {A : ma_T} {S : sh_T} {jo : Nat → Nat} {M : mo_T} {V : am_H}
set_option maxRecDepth 20000 in
theorem c_M_before_l (d bc bs s : Nat) (hs : s < 24) (hjo : ∀ t, t ≤ s → jo t < 2 ^ 31) : ∀ (n t : Nat), t ≤ s → s - t < n →
    am_W G m_M_before d bc bs (fun o h' => o = .inl (some (.int (oI (bf jo s s)))) ∧ h' = (hm A S jo M V)) 4 [(0, .ref 30), (1, .int (nI s)), (2, .int (oI (bf jo s t))), (3, .int (nI t))] [] (hm A S jo M V) := by
  intro n
  induction n with
  | zero => intro i _ h; omega
  | succ n ih =>
    intro t hi hn
    refine am_iload_n d_M_before_4 rfl rfl ?_
    refine am_iload_n d_M_before_5 rfl rfl ?_
    refine am_icmpN_ge (tgt := 36) d_M_before_6 (by decide) (by omega) (by omega) (fun c6 => ?_) (fun c6 => ?_)
    · refine am_iload_n d_M_before_36 rfl rfl ?_
      refine am_iret d_M_before_37 rfl ?_
      have e : t = s := by omega
      subst e
      exact ⟨rfl, rfl⟩
    · have hjt := hjo t (by omega)
      have hjs := hjo s (by omega)
      refine am_aload_n d_M_before_9 rfl rfl ?_
      refine am_get F_M 12 (by decide) d_M_before_10 w_662 rfl rfl ?_
      refine am_iload_n d_M_before_13 rfl rfl ?_
      refine am_ialdA d_M_before_14 rfl (by omega) (by decide) ?_
      refine am_aload_n d_M_before_15 rfl rfl ?_
      refine am_get F_M 12 (by decide) d_M_before_16 w_662 rfl rfl ?_
      refine am_iload_n d_M_before_19 rfl rfl ?_
      refine am_ialdA d_M_before_20 rfl (by omega) (by decide) ?_
      refine am_icmpN_ne (tgt := 28) d_M_before_21 (by decide) (by omega) (by omega) (fun c21 => ?_) (fun c21 => ?_)
      · refine am_iload_n d_M_before_28 rfl rfl ?_
        refine am_istore_n d_M_before_29 rfl (by decide) ?_
        refine am_iinc d_M_before_30 rfl (am_inc _) (by decide) ?_
        refine am_goto (tgt := 4) d_M_before_33 (by decide) ?_
        exact am_lo (L' := [(0, .ref 30), (1, .int (nI s)), (2, .int (oI (bf jo s t))), (3, .int (nI (t + 1)))]) rfl (am_lq (L2 := [(0, .ref 30), (1, .int (nI s)), (2, .int (oI (bf jo s (t + 1)))), (3, .int (nI (t + 1)))]) (by rw [bf, if_neg c21]) (ih (t + 1) (by omega) (by omega)))
      · refine am_iload_n d_M_before_24 rfl rfl ?_
        refine am_goto (tgt := 29) d_M_before_25 (by decide) ?_
        refine am_istore_n d_M_before_29 rfl (by decide) ?_
        refine am_iinc d_M_before_30 rfl (am_inc _) (by decide) ?_
        refine am_goto (tgt := 4) d_M_before_33 (by decide) ?_
        exact am_lo (L' := [(0, .ref 30), (1, .int (nI s)), (2, .int (oI (some t))), (3, .int (nI (t + 1)))]) rfl (am_lq (L2 := [(0, .ref 30), (1, .int (nI s)), (2, .int (oI (bf jo s (t + 1)))), (3, .int (nI (t + 1)))]) (by rw [bf, if_pos c21]) (ih (t + 1) (by omega) (by omega)))
theorem c_M_before (d bc bs s : Nat) (hs : s < 24) (hjo : ∀ t, t ≤ s → jo t < 2 ^ 31) : am_Fn G m_M_before d bc bs [.ref 30, .int (nI s)] (hm A S jo M V) (some (.int (oI (bf jo s s)))) (hm A S jo M V) := by
  refine am_iconst (v := -1) d_M_before_0 (by decide) ?_
  refine am_istore_n d_M_before_1 rfl (by decide) ?_
  refine am_iconst (v := nI 0) d_M_before_2 (by decide) ?_
  refine am_istore_n d_M_before_3 rfl (by decide) ?_
  exact am_lo (L' := [(0, .ref 30), (1, .int (nI s)), (2, .int (oI none)), (3, .int (nI 0))]) rfl (c_M_before_l d bc bs s hs hjo (s + 1) 0 (Nat.zero_le _) (by omega))
set_option maxRecDepth 20000 in
theorem c_M_breaks_1 {P : pl_T} (hS : sh_ok S) (hsk : sh_k S jo) (hP : pl_ok P) (hph : mo_ph M = pq (pl_ss P) (pl_bg P)) (hpm : mo_pm M = pq (pl_ss P) (pl_ma P)) (d bc bs s : Nat) (hs : s < sh_ss S) : am_Fn G m_M_breaks d bc bs [.ref 30, .int (nI 1), .int (nI s)] (hm A S jo M V) (some (.int (zI (sp_br S P (bf jo s s) s 1)))) (hm A S jo M V) := by
  obtain ⟨s1, s2, s3, s4, s5, s6, s7, s8, s9, s10, s11, s12, s13, s14⟩ := id hS
  obtain ⟨p1, p2, p3, p4, p5, p6⟩ := id hP
  have p5s := p5 s
  have p6s := p6 s
  have t13 := s13 s
  refine am_aload_n d_M_breaks_0 rfl rfl ?_
  refine am_get F_M 23 (by decide) d_M_breaks_1 w_673 rfl rfl ?_
  refine am_iload_n d_M_breaks_4 rfl rfl ?_
  refine am_ialdN _ d_M_breaks_5 rfl rfl (by omega) (by decide) ?_
  refine am_istore_n d_M_breaks_6 rfl (by decide) ?_
  refine am_iload_n d_M_breaks_7 rfl rfl ?_
  refine am_aload_n d_M_breaks_8 rfl rfl ?_
  refine am_get F_M 14 (by decide) d_M_breaks_9 w_664 rfl rfl ?_
  refine am_iload_n d_M_breaks_12 rfl rfl ?_
  refine am_ialdA d_M_breaks_13 rfl (by omega) (by decide) ?_
  refine am_iadd d_M_breaks_14 ?_
  refine am_istore d_M_breaks_15 (by decide) ?_
  refine am_aload_n d_M_breaks_17 rfl rfl ?_
  refine am_get F_M 24 (by decide) d_M_breaks_18 w_674 rfl rfl ?_
  refine am_iload_n d_M_breaks_21 rfl rfl ?_
  refine am_ialdN _ d_M_breaks_22 rfl rfl (by omega) (by decide) ?_
  refine am_istore d_M_breaks_23 (by decide) ?_
  refine am_iload_n d_M_breaks_25 rfl rfl ?_
  refine am_iconst (v := nI 1) d_M_breaks_26 (by decide) ?_
  refine am_icmpN_ne (tgt := 41) d_M_breaks_27 (by decide) (by omega) (by omega) (fun c27 => ?_) (fun c27 => ?_)
  · exact absurd rfl c27
  · refine am_iload_n d_M_breaks_30 rfl rfl ?_
    refine am_iconst (v := -1) d_M_breaks_31 (by decide) ?_
    refine am_icmp_ne (tgt := 39) d_M_breaks_32 (by decide) (fun c32 => ?_) (fun c32 => ?_)
    · refine am_iconst (v := zI false) d_M_breaks_39 (by decide) ?_
      refine am_zret d_M_breaks_40 rfl (zI_n _) ?_
      rw [hph] at c32
      have e : s < pl_ss P := by
        rcases Nat.lt_or_ge s (pl_ss P) with q | q
        · exact q
        · exact absurd (pq_ge q) c32
      exact ⟨by rw [show sp_br S P (bf jo s s) s 1 = false by unfold sp_br; rw [decide_eq_true e]; rfl], rfl⟩
    · refine am_iconst (v := zI true) d_M_breaks_35 (by decide) ?_
      refine am_goto (tgt := 40) d_M_breaks_36 (by decide) ?_
      refine am_zret d_M_breaks_40 rfl (zI_n _) ?_
      rw [hph] at c32
      have e : ¬ s < pl_ss P := fun q => by rw [pq_lt q] at c32; exact nI_m1 (by omega) c32
      exact ⟨by rw [show sp_br S P (bf jo s s) s 1 = true by unfold sp_br; rw [decide_eq_false e]; rfl], rfl⟩
set_option maxRecDepth 20000 in
theorem c_M_breaks_2 {P : pl_T} (hS : sh_ok S) (hsk : sh_k S jo) (hP : pl_ok P) (hph : mo_ph M = pq (pl_ss P) (pl_bg P)) (hpm : mo_pm M = pq (pl_ss P) (pl_ma P)) (d bc bs s : Nat) (hs : s < sh_ss S) (hfu : ∀ s, s < sh_ss S → s < pl_ss P) : am_Fn G m_M_breaks (d + 1) bc bs [.ref 30, .int (nI 2), .int (nI s)] (hm A S jo M V) (some (.int (zI (sp_br S P (bf jo s s) s 2)))) (hm A S jo M V) := by
  obtain ⟨s1, s2, s3, s4, s5, s6, s7, s8, s9, s10, s11, s12, s13, s14⟩ := id hS
  obtain ⟨p1, p2, p3, p4, p5, p6⟩ := id hP
  have p5s := p5 s
  have p6s := p6 s
  have t13 := s13 s
  show am_W _ _ _ _ _ (fun o h' => o = .inl (some (.int (zI (sp_r2 S P s (bf jo s s))))) ∧ _) _ _ _ _
  cases hb : bf jo s s with
  | none =>
    refine am_aload_n d_M_breaks_0 rfl rfl ?_
    refine am_get F_M 23 (by decide) d_M_breaks_1 w_673 rfl rfl ?_
    refine am_iload_n d_M_breaks_4 rfl rfl ?_
    refine am_ialdN _ d_M_breaks_5 rfl rfl (by omega) (by decide) ?_
    refine am_sv (v2 := .int (nI (pl_bg P s))) (by rw [hph, pq_lt (hfu s (by omega))]) ?_
    refine am_istore_n d_M_breaks_6 rfl (by decide) ?_
    refine am_iload_n d_M_breaks_7 rfl rfl ?_
    refine am_aload_n d_M_breaks_8 rfl rfl ?_
    refine am_get F_M 14 (by decide) d_M_breaks_9 w_664 rfl rfl ?_
    refine am_iload_n d_M_breaks_12 rfl rfl ?_
    refine am_ialdA d_M_breaks_13 rfl (by omega) (by decide) ?_
    refine am_iaddN d_M_breaks_14 ?_
    refine am_istore d_M_breaks_15 (by decide) ?_
    refine am_aload_n d_M_breaks_17 rfl rfl ?_
    refine am_get F_M 24 (by decide) d_M_breaks_18 w_674 rfl rfl ?_
    refine am_iload_n d_M_breaks_21 rfl rfl ?_
    refine am_ialdN _ d_M_breaks_22 rfl rfl (by omega) (by decide) ?_
    refine am_sv (v2 := .int (nI (pl_ma P s))) (by rw [hpm, pq_lt (hfu s (by omega))]) ?_
    refine am_istore d_M_breaks_23 (by decide) ?_
    refine am_iload_n d_M_breaks_25 rfl rfl ?_
    refine am_iconst (v := nI 1) d_M_breaks_26 (by decide) ?_
    refine am_icmpN_ne (tgt := 41) d_M_breaks_27 (by decide) (by omega) (by omega) (fun c27 => ?_) (fun c27 => ?_)
    · refine am_iload_n d_M_breaks_41 rfl rfl ?_
      refine am_iconst (v := nI 2) d_M_breaks_42 (by decide) ?_
      refine am_icmpN_ne (tgt := 92) d_M_breaks_43 (by decide) (by omega) (by omega) (fun c43 => ?_) (fun c43 => ?_)
      · exact absurd rfl c43
      · refine am_aload_n d_M_breaks_46 rfl rfl ?_
        refine am_iload_n d_M_breaks_47 rfl rfl ?_
        refine am_callF 2 (am_recvV (z := m_M_before) rfl d_M_breaks_48 w_893 w_895 ws_36 w_896 F_M.1 rfl (by decide) np_M_before) (by decide) (by decide) (Nat.le_of_ble_eq_true rfl) (Nat.le_of_ble_eq_true rfl) (Nat.zero_le _) (Nat.zero_le _) (c_M_before _ _ _ s (by omega) (fun t ht => by have := (hsk.2.2.1 t (by omega)).1; omega)) ?_
        rw [hb]
        refine am_istore d_M_breaks_51 (by decide) ?_
        refine am_iload d_M_breaks_53 rfl ?_
        refine am_iconst (v := -1) d_M_breaks_55 (by decide) ?_
        refine am_icmp_eq (tgt := 90) d_M_breaks_56 (by decide) (fun c56 => ?_) (fun c56 => ?_)
        · refine am_iconst (v := zI false) d_M_breaks_90 (by decide) ?_
          refine am_zret d_M_breaks_91 rfl (zI_n _) ?_
          exact ⟨rfl, rfl⟩
        · exact absurd rfl c56
    · exact absurd c27 (by decide)
  | some b =>
    have hbl := bf_lt hb
    have p5b := p5 b
    have t13b := s13 b
    have t14b := s14 b
    refine am_aload_n d_M_breaks_0 rfl rfl ?_
    refine am_get F_M 23 (by decide) d_M_breaks_1 w_673 rfl rfl ?_
    refine am_iload_n d_M_breaks_4 rfl rfl ?_
    refine am_ialdN _ d_M_breaks_5 rfl rfl (by omega) (by decide) ?_
    refine am_sv (v2 := .int (nI (pl_bg P s))) (by rw [hph, pq_lt (hfu s (by omega))]) ?_
    refine am_istore_n d_M_breaks_6 rfl (by decide) ?_
    refine am_iload_n d_M_breaks_7 rfl rfl ?_
    refine am_aload_n d_M_breaks_8 rfl rfl ?_
    refine am_get F_M 14 (by decide) d_M_breaks_9 w_664 rfl rfl ?_
    refine am_iload_n d_M_breaks_12 rfl rfl ?_
    refine am_ialdA d_M_breaks_13 rfl (by omega) (by decide) ?_
    refine am_iaddN d_M_breaks_14 ?_
    refine am_istore d_M_breaks_15 (by decide) ?_
    refine am_aload_n d_M_breaks_17 rfl rfl ?_
    refine am_get F_M 24 (by decide) d_M_breaks_18 w_674 rfl rfl ?_
    refine am_iload_n d_M_breaks_21 rfl rfl ?_
    refine am_ialdN _ d_M_breaks_22 rfl rfl (by omega) (by decide) ?_
    refine am_sv (v2 := .int (nI (pl_ma P s))) (by rw [hpm, pq_lt (hfu s (by omega))]) ?_
    refine am_istore d_M_breaks_23 (by decide) ?_
    refine am_iload_n d_M_breaks_25 rfl rfl ?_
    refine am_iconst (v := nI 1) d_M_breaks_26 (by decide) ?_
    refine am_icmpN_ne (tgt := 41) d_M_breaks_27 (by decide) (by omega) (by omega) (fun c27 => ?_) (fun c27 => ?_)
    · refine am_iload_n d_M_breaks_41 rfl rfl ?_
      refine am_iconst (v := nI 2) d_M_breaks_42 (by decide) ?_
      refine am_icmpN_ne (tgt := 92) d_M_breaks_43 (by decide) (by omega) (by omega) (fun c43 => ?_) (fun c43 => ?_)
      · exact absurd rfl c43
      · refine am_aload_n d_M_breaks_46 rfl rfl ?_
        refine am_iload_n d_M_breaks_47 rfl rfl ?_
        refine am_callF 2 (am_recvV (z := m_M_before) rfl d_M_breaks_48 w_893 w_895 ws_36 w_896 F_M.1 rfl (by decide) np_M_before) (by decide) (by decide) (Nat.le_of_ble_eq_true rfl) (Nat.le_of_ble_eq_true rfl) (Nat.zero_le _) (Nat.zero_le _) (c_M_before _ _ _ s (by omega) (fun t ht => by have := (hsk.2.2.1 t (by omega)).1; omega)) ?_
        rw [hb]
        refine am_istore d_M_breaks_51 (by decide) ?_
        refine am_iload d_M_breaks_53 rfl ?_
        refine am_iconst (v := -1) d_M_breaks_55 (by decide) ?_
        refine am_icmp_eq (tgt := 90) d_M_breaks_56 (by decide) (fun c56 => ?_) (fun c56 => ?_)
        · exact absurd c56 (nI_m1 (by omega))
        · refine am_iload_n d_M_breaks_59 rfl rfl ?_
          refine am_aload_n d_M_breaks_60 rfl rfl ?_
          refine am_get F_M 23 (by decide) d_M_breaks_61 w_673 rfl rfl ?_
          refine am_iload d_M_breaks_64 rfl ?_
          refine am_ialdN _ d_M_breaks_66 rfl rfl (by omega) (by decide) ?_
          refine am_sv (v2 := .int (nI (pl_bg P b))) (by rw [hph, pq_lt (hfu b (by omega))]) ?_
          refine am_aload_n d_M_breaks_67 rfl rfl ?_
          refine am_get F_M 14 (by decide) d_M_breaks_68 w_664 rfl rfl ?_
          refine am_iload d_M_breaks_71 rfl ?_
          refine am_ialdA d_M_breaks_73 rfl (by omega) (by decide) ?_
          refine am_iaddN d_M_breaks_74 ?_
          refine am_aload_n d_M_breaks_75 rfl rfl ?_
          refine am_get F_M 15 (by decide) d_M_breaks_76 w_665 rfl rfl ?_
          refine am_iload d_M_breaks_79 rfl ?_
          refine am_ialdA d_M_breaks_81 rfl (by omega) (by decide) ?_
          refine am_iaddN d_M_breaks_82 ?_
          refine am_icmpN_ge (tgt := 90) d_M_breaks_83 (by decide) (by omega) (by omega) (fun c83 => ?_) (fun c83 => ?_)
          · refine am_iconst (v := zI false) d_M_breaks_90 (by decide) ?_
            refine am_zret d_M_breaks_91 rfl (zI_n _) ?_
            exact ⟨by rw [show sp_r2 S P s (some b) = false from decide_eq_false (by omega)], rfl⟩
          · refine am_iconst (v := zI true) d_M_breaks_86 (by decide) ?_
            refine am_goto (tgt := 91) d_M_breaks_87 (by decide) ?_
            refine am_zret d_M_breaks_91 rfl (zI_n _) ?_
            exact ⟨by rw [show sp_r2 S P s (some b) = true from decide_eq_true (by omega)], rfl⟩
    · exact absurd c27 (by decide)
set_option maxRecDepth 20000 in
theorem c_M_breaks_l3 {Q : am_O → am_H → Prop} {P : pl_T} (hS : sh_ok S) (hsk : sh_k S jo) (hP : pl_ok P) (hph : mo_ph M = pq (pl_ss P) (pl_bg P)) (hpm : mo_pm M = pq (pl_ss P) (pl_ma P)) (d bc bs s : Nat) (hs : s < sh_ss S) (hfu : ∀ s, s < sh_ss S → s < pl_ss P) (hk : am_W G m_M_breaks (d + 1) bc bs Q 170 [(0, .ref 30), (1, .int (nI 3)), (2, .int (nI s)), (3, .int (nI (pl_bg P s))), (4, .int (nI (pl_bg P s + sh_sh S s))), (5, .int (nI (pl_ma P s))), (6, .int (zI (sp_r3 S P s s))), (7, .int (nI s))] [] (hm A S jo M V)) : ∀ (n t : Nat), t ≤ s → s - t < n →
    am_W G m_M_breaks (d + 1) bc bs Q 98 [(0, .ref 30), (1, .int (nI 3)), (2, .int (nI s)), (3, .int (nI (pl_bg P s))), (4, .int (nI (pl_bg P s + sh_sh S s))), (5, .int (nI (pl_ma P s))), (6, .int (zI (sp_r3 S P s t))), (7, .int (nI t))] [] (hm A S jo M V) := by
  intro n
  obtain ⟨s1, s2, s3, s4, s5, s6, s7, s8, s9, s10, s11, s12, s13, s14⟩ := id hS
  obtain ⟨p1, p2, p3, p4, p5, p6⟩ := id hP
  have p5s := p5 s
  have p6s := p6 s
  have t13 := s13 s
  induction n with
  | zero => intro i _ h; omega
  | succ n ih =>
    intro t hi hn
    refine am_iload d_M_breaks_98 rfl ?_
    refine am_iload_n d_M_breaks_100 rfl rfl ?_
    refine am_icmpN_ge (tgt := 170) d_M_breaks_101 (by decide) (by omega) (by omega) (fun c101 => ?_) (fun c101 => ?_)
    · have e : t = s := by omega
      subst e
      exact hk
    · refine am_iload_n d_M_breaks_104 rfl rfl ?_
      refine am_iconst (v := nI 3) d_M_breaks_105 (by decide) ?_
      refine am_icmpN_ne (tgt := 170) d_M_breaks_106 (by decide) (by omega) (by omega) (fun c106 => ?_) (fun c106 => ?_)
      · exact absurd rfl c106
      · have p5t := p5 t
        have p6t := p6 t
        have t13t := s13 t
        refine am_iload d_M_breaks_109 rfl ?_
        refine am_ifZ_ne (tgt := 157) d_M_breaks_111 (by decide) (fun c111 => ?_) (fun c111 => ?_)
        · refine am_iconst (v := zI true) d_M_breaks_157 (by decide) ?_
          refine am_goto (tgt := 162) d_M_breaks_158 (by decide) ?_
          refine am_istore d_M_breaks_162 (by decide) ?_
          refine am_iinc d_M_breaks_164 rfl (am_inc _) (by decide) ?_
          refine am_goto (tgt := 98) d_M_breaks_167 (by decide) ?_
          exact am_lo (L' := [(0, .ref 30), (1, .int (nI 3)), (2, .int (nI s)), (3, .int (nI (pl_bg P s))), (4, .int (nI (pl_bg P s + sh_sh S s))), (5, .int (nI (pl_ma P s))), (6, .int (zI true)), (7, .int (nI (t + 1)))]) rfl (am_lq (L2 := [(0, .ref 30), (1, .int (nI 3)), (2, .int (nI s)), (3, .int (nI (pl_bg P s))), (4, .int (nI (pl_bg P s + sh_sh S s))), (5, .int (nI (pl_ma P s))), (6, .int (zI (sp_r3 S P s (t + 1)))), (7, .int (nI (t + 1)))]) (by rw [sp_r3, c111, Bool.true_or]) (ih (t + 1) (by omega) (by omega)))
        · refine am_aload_n d_M_breaks_114 rfl rfl ?_
          refine am_get F_M 24 (by decide) d_M_breaks_115 w_674 rfl rfl ?_
          refine am_iload d_M_breaks_118 rfl ?_
          refine am_ialdN _ d_M_breaks_120 rfl rfl (by omega) (by decide) ?_
          refine am_sv (v2 := .int (nI (pl_ma P t))) (by rw [hpm, pq_lt (hfu t (by omega))]) ?_
          refine am_iload d_M_breaks_121 rfl ?_
          refine am_icmpN_ne (tgt := 161) d_M_breaks_123 (by decide) (by omega) (by omega) (fun c123 => ?_) (fun c123 => ?_)
          · refine am_iconst (v := zI false) d_M_breaks_161 (by decide) ?_
            refine am_istore d_M_breaks_162 (by decide) ?_
            refine am_iinc d_M_breaks_164 rfl (am_inc _) (by decide) ?_
            refine am_goto (tgt := 98) d_M_breaks_167 (by decide) ?_
            exact am_lo (L' := [(0, .ref 30), (1, .int (nI 3)), (2, .int (nI s)), (3, .int (nI (pl_bg P s))), (4, .int (nI (pl_bg P s + sh_sh S s))), (5, .int (nI (pl_ma P s))), (6, .int (zI false)), (7, .int (nI (t + 1)))]) rfl (am_lq (L2 := [(0, .ref 30), (1, .int (nI 3)), (2, .int (nI s)), (3, .int (nI (pl_bg P s))), (4, .int (nI (pl_bg P s + sh_sh S s))), (5, .int (nI (pl_ma P s))), (6, .int (zI (sp_r3 S P s (t + 1)))), (7, .int (nI (t + 1)))]) (by rw [sp_r3, c111, decide_eq_false c123, Bool.false_and, Bool.or_self]) (ih (t + 1) (by omega) (by omega)))
          · refine am_iload_n d_M_breaks_126 rfl rfl ?_
            refine am_iload d_M_breaks_127 rfl ?_
            refine am_aload_n d_M_breaks_129 rfl rfl ?_
            refine am_get F_M 23 (by decide) d_M_breaks_130 w_673 rfl rfl ?_
            refine am_iload d_M_breaks_133 rfl ?_
            refine am_ialdN _ d_M_breaks_135 rfl rfl (by omega) (by decide) ?_
            refine am_sv (v2 := .int (nI (pl_bg P t))) (by rw [hph, pq_lt (hfu t (by omega))]) ?_
            refine am_aload_n d_M_breaks_136 rfl rfl ?_
            refine am_get F_M 23 (by decide) d_M_breaks_137 w_673 rfl rfl ?_
            refine am_iload d_M_breaks_140 rfl ?_
            refine am_ialdN _ d_M_breaks_142 rfl rfl (by omega) (by decide) ?_
            refine am_sv (v2 := .int (nI (pl_bg P t))) (by rw [hph, pq_lt (hfu t (by omega))]) ?_
            refine am_aload_n d_M_breaks_143 rfl rfl ?_
            refine am_get F_M 14 (by decide) d_M_breaks_144 w_664 rfl rfl ?_
            refine am_iload d_M_breaks_147 rfl ?_
            refine am_ialdA d_M_breaks_149 rfl (by omega) (by decide) ?_
            refine am_iaddN d_M_breaks_150 ?_
            refine am_callF 4 (am_lkS (z := m_M_meets) d_M_breaks_151 w_820 w_821 w_6 w_822 (by decide) np_M_meets) (by decide) (by decide) (Nat.le_of_ble_eq_true rfl) (Nat.le_of_ble_eq_true rfl) (Nat.zero_le _) (Nat.zero_le _) (c_M_meets _ _ _ _ _ _ _ (by omega) (by omega) (by omega) (by omega)) ?_
            refine am_ifZ_eq (tgt := 161) d_M_breaks_154 (by decide) (fun c154 => ?_) (fun c154 => ?_)
            · refine am_iconst (v := zI false) d_M_breaks_161 (by decide) ?_
              refine am_istore d_M_breaks_162 (by decide) ?_
              refine am_iinc d_M_breaks_164 rfl (am_inc _) (by decide) ?_
              refine am_goto (tgt := 98) d_M_breaks_167 (by decide) ?_
              exact am_lo (L' := [(0, .ref 30), (1, .int (nI 3)), (2, .int (nI s)), (3, .int (nI (pl_bg P s))), (4, .int (nI (pl_bg P s + sh_sh S s))), (5, .int (nI (pl_ma P s))), (6, .int (zI false)), (7, .int (nI (t + 1)))]) rfl (am_lq (L2 := [(0, .ref 30), (1, .int (nI 3)), (2, .int (nI s)), (3, .int (nI (pl_bg P s))), (4, .int (nI (pl_bg P s + sh_sh S s))), (5, .int (nI (pl_ma P s))), (6, .int (zI (sp_r3 S P s (t + 1)))), (7, .int (nI (t + 1)))]) (by rw [sp_r3, c111, c154, Bool.and_false, Bool.or_self]) (ih (t + 1) (by omega) (by omega)))
            · refine am_iconst (v := zI true) d_M_breaks_157 (by decide) ?_
              refine am_goto (tgt := 162) d_M_breaks_158 (by decide) ?_
              refine am_istore d_M_breaks_162 (by decide) ?_
              refine am_iinc d_M_breaks_164 rfl (am_inc _) (by decide) ?_
              refine am_goto (tgt := 98) d_M_breaks_167 (by decide) ?_
              exact am_lo (L' := [(0, .ref 30), (1, .int (nI 3)), (2, .int (nI s)), (3, .int (nI (pl_bg P s))), (4, .int (nI (pl_bg P s + sh_sh S s))), (5, .int (nI (pl_ma P s))), (6, .int (zI true)), (7, .int (nI (t + 1)))]) rfl (am_lq (L2 := [(0, .ref 30), (1, .int (nI 3)), (2, .int (nI s)), (3, .int (nI (pl_bg P s))), (4, .int (nI (pl_bg P s + sh_sh S s))), (5, .int (nI (pl_ma P s))), (6, .int (zI (sp_r3 S P s (t + 1)))), (7, .int (nI (t + 1)))]) (by rw [sp_r3, c111, c154, decide_eq_true c123, Bool.and_self, Bool.false_or]) (ih (t + 1) (by omega) (by omega)))
set_option maxRecDepth 20000 in
theorem c_M_breaks_3 {P : pl_T} (hS : sh_ok S) (hsk : sh_k S jo) (hP : pl_ok P) (hph : mo_ph M = pq (pl_ss P) (pl_bg P)) (hpm : mo_pm M = pq (pl_ss P) (pl_ma P)) (d bc bs s : Nat) (hs : s < sh_ss S) (hfu : ∀ s, s < sh_ss S → s < pl_ss P) : am_Fn G m_M_breaks (d + 1) bc bs [.ref 30, .int (nI 3), .int (nI s)] (hm A S jo M V) (some (.int (zI (sp_br S P (bf jo s s) s 3)))) (hm A S jo M V) := by
  obtain ⟨s1, s2, s3, s4, s5, s6, s7, s8, s9, s10, s11, s12, s13, s14⟩ := id hS
  obtain ⟨p1, p2, p3, p4, p5, p6⟩ := id hP
  have p5s := p5 s
  have p6s := p6 s
  have t13 := s13 s
  have t5 := s5 (pl_ma P s)
  refine am_aload_n d_M_breaks_0 rfl rfl ?_
  refine am_get F_M 23 (by decide) d_M_breaks_1 w_673 rfl rfl ?_
  refine am_iload_n d_M_breaks_4 rfl rfl ?_
  refine am_ialdN _ d_M_breaks_5 rfl rfl (by omega) (by decide) ?_
  refine am_sv (v2 := .int (nI (pl_bg P s))) (by rw [hph, pq_lt (hfu s (by omega))]) ?_
  refine am_istore_n d_M_breaks_6 rfl (by decide) ?_
  refine am_iload_n d_M_breaks_7 rfl rfl ?_
  refine am_aload_n d_M_breaks_8 rfl rfl ?_
  refine am_get F_M 14 (by decide) d_M_breaks_9 w_664 rfl rfl ?_
  refine am_iload_n d_M_breaks_12 rfl rfl ?_
  refine am_ialdA d_M_breaks_13 rfl (by omega) (by decide) ?_
  refine am_iaddN d_M_breaks_14 ?_
  refine am_istore d_M_breaks_15 (by decide) ?_
  refine am_aload_n d_M_breaks_17 rfl rfl ?_
  refine am_get F_M 24 (by decide) d_M_breaks_18 w_674 rfl rfl ?_
  refine am_iload_n d_M_breaks_21 rfl rfl ?_
  refine am_ialdN _ d_M_breaks_22 rfl rfl (by omega) (by decide) ?_
  refine am_sv (v2 := .int (nI (pl_ma P s))) (by rw [hpm, pq_lt (hfu s (by omega))]) ?_
  refine am_istore d_M_breaks_23 (by decide) ?_
  refine am_iload_n d_M_breaks_25 rfl rfl ?_
  refine am_iconst (v := nI 1) d_M_breaks_26 (by decide) ?_
  refine am_icmpN_ne (tgt := 41) d_M_breaks_27 (by decide) (by omega) (by omega) (fun c27 => ?_) (fun c27 => ?_)
  · refine am_iload_n d_M_breaks_41 rfl rfl ?_
    refine am_iconst (v := nI 2) d_M_breaks_42 (by decide) ?_
    refine am_icmpN_ne (tgt := 92) d_M_breaks_43 (by decide) (by omega) (by omega) (fun c43 => ?_) (fun c43 => ?_)
    · refine am_iconst (v := zI false) d_M_breaks_92 (by decide) ?_
      refine am_istore d_M_breaks_93 (by decide) ?_
      refine am_iconst (v := nI 0) d_M_breaks_95 (by decide) ?_
      refine am_istore d_M_breaks_96 (by decide) ?_
      refine am_lo (L' := [(0, .ref 30), (1, .int (nI 3)), (2, .int (nI s)), (3, .int (nI (pl_bg P s))), (4, .int (nI (pl_bg P s + sh_sh S s))), (5, .int (nI (pl_ma P s))), (6, .int (zI false)), (7, .int (nI 0))]) rfl (c_M_breaks_l3 hS hsk hP hph hpm d bc bs s hs hfu ?_ (s + 1) 0 (Nat.zero_le _) (by omega))
      refine am_bipush (v := nI 8) d_M_breaks_170 (by decide) ?_
      refine am_iload d_M_breaks_172 rfl ?_
      refine am_imulC d_M_breaks_174 ?_
      refine am_istore d_M_breaks_175 (by decide) ?_
      refine am_iload d_M_breaks_177 rfl ?_
      refine am_bipush (v := nI 8) d_M_breaks_179 (by decide) ?_
      refine am_iload d_M_breaks_181 rfl ?_
      refine am_imulC d_M_breaks_183 ?_
      refine am_aload_n d_M_breaks_184 rfl rfl ?_
      refine am_get F_M 3 (by decide) d_M_breaks_185 w_653 rfl rfl ?_
      refine am_iload d_M_breaks_188 rfl ?_
      refine am_ialdA d_M_breaks_190 rfl (by omega) (by decide) ?_
      refine am_iaddN d_M_breaks_191 ?_
      refine am_icmpN_ge (tgt := 241) d_M_breaks_192 (by decide) (by omega) (by omega) (fun c192 => ?_) (fun c192 => ?_)
      · refine am_iload d_M_breaks_241 rfl ?_
        refine am_zret d_M_breaks_243 rfl (zI_n _) ?_
        exact ⟨rfl, rfl⟩
      · refine am_iload_n d_M_breaks_195 rfl rfl ?_
        refine am_iconst (v := nI 4) d_M_breaks_196 (by decide) ?_
        refine am_icmpN_ne (tgt := 241) d_M_breaks_197 (by decide) (by omega) (by omega) (fun c197 => ?_) (fun c197 => ?_)
        · refine am_iload d_M_breaks_241 rfl ?_
          refine am_zret d_M_breaks_243 rfl (zI_n _) ?_
          exact ⟨rfl, rfl⟩
        · exact absurd c197 (by decide)
    · exact absurd c43 (by decide)
  · exact absurd c27 (by decide)
set_option maxRecDepth 20000 in
theorem c_M_breaks_l4 {P : pl_T} (hS : sh_ok S) (hP : pl_ok P) (d bc bs s : Nat) : ∀ (n t : Nat), t ≤ sh_sp S (pl_ma P s) → sh_sp S (pl_ma P s) - t < n →
    am_W G m_M_breaks (d + 1) bc bs (fun o h' => o = .inl (some (.int (zI (sp_r4 S P s (sh_sp S (pl_ma P s)))))) ∧ h' = (hm A S jo M V)) 177 [(0, .ref 30), (1, .int (nI 4)), (2, .int (nI s)), (3, .int (nI (pl_bg P s))), (4, .int (nI (pl_bg P s + sh_sh S s))), (5, .int (nI (pl_ma P s))), (6, .int (zI (sp_r4 S P s t))), (7, .int (nI (pl_ma P s * 8 + t)))] [] (hm A S jo M V) := by
  intro n
  obtain ⟨s1, s2, s3, s4, s5, s6, s7, s8, s9, s10, s11, s12, s13, s14⟩ := id hS
  obtain ⟨p1, p2, p3, p4, p5, p6⟩ := id hP
  have p5s := p5 s
  have p6s := p6 s
  have t13 := s13 s
  have t5 := s5 (pl_ma P s)
  induction n with
  | zero => intro i _ h; omega
  | succ n ih =>
    intro t hi hn
    refine am_iload d_M_breaks_177 rfl ?_
    refine am_bipush (v := nI 8) d_M_breaks_179 (by decide) ?_
    refine am_iload d_M_breaks_181 rfl ?_
    refine am_imulC d_M_breaks_183 ?_
    refine am_aload_n d_M_breaks_184 rfl rfl ?_
    refine am_get F_M 3 (by decide) d_M_breaks_185 w_653 rfl rfl ?_
    refine am_iload d_M_breaks_188 rfl ?_
    refine am_ialdA d_M_breaks_190 rfl (by omega) (by decide) ?_
    refine am_iaddN d_M_breaks_191 ?_
    refine am_icmpN_ge (tgt := 241) d_M_breaks_192 (by decide) (by omega) (by omega) (fun c192 => ?_) (fun c192 => ?_)
    · refine am_iload d_M_breaks_241 rfl ?_
      refine am_zret d_M_breaks_243 rfl (zI_n _) ?_
      have e : t = sh_sp S (pl_ma P s) := by omega
      subst e
      exact ⟨rfl, rfl⟩
    · refine am_iload_n d_M_breaks_195 rfl rfl ?_
      refine am_iconst (v := nI 4) d_M_breaks_196 (by decide) ?_
      refine am_icmpN_ne (tgt := 241) d_M_breaks_197 (by decide) (by omega) (by omega) (fun c197 => ?_) (fun c197 => ?_)
      · exact absurd rfl c197
      · have t6t := s6 (pl_ma P s * 8 + t)
        have t7t := s7 (pl_ma P s * 8 + t)
        refine am_iload d_M_breaks_200 rfl ?_
        refine am_ifZ_ne (tgt := 228) d_M_breaks_202 (by decide) (fun c202 => ?_) (fun c202 => ?_)
        · refine am_iconst (v := zI true) d_M_breaks_228 (by decide) ?_
          refine am_goto (tgt := 233) d_M_breaks_229 (by decide) ?_
          refine am_istore d_M_breaks_233 (by decide) ?_
          refine am_iinc d_M_breaks_235 rfl (am_inc _) (by decide) ?_
          refine am_goto (tgt := 177) d_M_breaks_238 (by decide) ?_
          exact am_lo (L' := [(0, .ref 30), (1, .int (nI 4)), (2, .int (nI s)), (3, .int (nI (pl_bg P s))), (4, .int (nI (pl_bg P s + sh_sh S s))), (5, .int (nI (pl_ma P s))), (6, .int (zI true)), (7, .int (nI (pl_ma P s * 8 + t + 1)))]) rfl (am_lq (L2 := [(0, .ref 30), (1, .int (nI 4)), (2, .int (nI s)), (3, .int (nI (pl_bg P s))), (4, .int (nI (pl_bg P s + sh_sh S s))), (5, .int (nI (pl_ma P s))), (6, .int (zI (sp_r4 S P s (t + 1)))), (7, .int (nI (pl_ma P s * 8 + (t + 1))))]) (by rw [sp_r4, c202, Bool.true_or, Nat.add_assoc]) (ih (t + 1) (by omega) (by omega)))
        · refine am_iload_n d_M_breaks_205 rfl rfl ?_
          refine am_iload d_M_breaks_206 rfl ?_
          refine am_aload_n d_M_breaks_208 rfl rfl ?_
          refine am_get F_M 4 (by decide) d_M_breaks_209 w_654 rfl rfl ?_
          refine am_iload d_M_breaks_212 rfl ?_
          refine am_ialdA d_M_breaks_214 rfl (by omega) (by decide) ?_
          refine am_aload_n d_M_breaks_215 rfl rfl ?_
          refine am_get F_M 5 (by decide) d_M_breaks_216 w_655 rfl rfl ?_
          refine am_iload d_M_breaks_219 rfl ?_
          refine am_ialdA d_M_breaks_221 rfl (by omega) (by decide) ?_
          refine am_callF 4 (am_lkS (z := m_M_meets) d_M_breaks_222 w_820 w_821 w_6 w_822 (by decide) np_M_meets) (by decide) (by decide) (Nat.le_of_ble_eq_true rfl) (Nat.le_of_ble_eq_true rfl) (Nat.zero_le _) (Nat.zero_le _) (c_M_meets _ _ _ _ _ _ _ (by omega) (by omega) (by omega) (by omega)) ?_
          refine am_ifZ_eq (tgt := 232) d_M_breaks_225 (by decide) (fun c225 => ?_) (fun c225 => ?_)
          · refine am_iconst (v := zI false) d_M_breaks_232 (by decide) ?_
            refine am_istore d_M_breaks_233 (by decide) ?_
            refine am_iinc d_M_breaks_235 rfl (am_inc _) (by decide) ?_
            refine am_goto (tgt := 177) d_M_breaks_238 (by decide) ?_
            exact am_lo (L' := [(0, .ref 30), (1, .int (nI 4)), (2, .int (nI s)), (3, .int (nI (pl_bg P s))), (4, .int (nI (pl_bg P s + sh_sh S s))), (5, .int (nI (pl_ma P s))), (6, .int (zI false)), (7, .int (nI (pl_ma P s * 8 + t + 1)))]) rfl (am_lq (L2 := [(0, .ref 30), (1, .int (nI 4)), (2, .int (nI s)), (3, .int (nI (pl_bg P s))), (4, .int (nI (pl_bg P s + sh_sh S s))), (5, .int (nI (pl_ma P s))), (6, .int (zI (sp_r4 S P s (t + 1)))), (7, .int (nI (pl_ma P s * 8 + (t + 1))))]) (by rw [sp_r4, c202, c225, Bool.or_self, Nat.add_assoc]) (ih (t + 1) (by omega) (by omega)))
          · refine am_iconst (v := zI true) d_M_breaks_228 (by decide) ?_
            refine am_goto (tgt := 233) d_M_breaks_229 (by decide) ?_
            refine am_istore d_M_breaks_233 (by decide) ?_
            refine am_iinc d_M_breaks_235 rfl (am_inc _) (by decide) ?_
            refine am_goto (tgt := 177) d_M_breaks_238 (by decide) ?_
            exact am_lo (L' := [(0, .ref 30), (1, .int (nI 4)), (2, .int (nI s)), (3, .int (nI (pl_bg P s))), (4, .int (nI (pl_bg P s + sh_sh S s))), (5, .int (nI (pl_ma P s))), (6, .int (zI true)), (7, .int (nI (pl_ma P s * 8 + t + 1)))]) rfl (am_lq (L2 := [(0, .ref 30), (1, .int (nI 4)), (2, .int (nI s)), (3, .int (nI (pl_bg P s))), (4, .int (nI (pl_bg P s + sh_sh S s))), (5, .int (nI (pl_ma P s))), (6, .int (zI (sp_r4 S P s (t + 1)))), (7, .int (nI (pl_ma P s * 8 + (t + 1))))]) (by rw [sp_r4, c202, c225, Bool.false_or, Nat.add_assoc]) (ih (t + 1) (by omega) (by omega)))
set_option maxRecDepth 20000 in
theorem c_M_breaks_4 {P : pl_T} (hS : sh_ok S) (hsk : sh_k S jo) (hP : pl_ok P) (hph : mo_ph M = pq (pl_ss P) (pl_bg P)) (hpm : mo_pm M = pq (pl_ss P) (pl_ma P)) (d bc bs s : Nat) (hs : s < sh_ss S) (hfu : ∀ s, s < sh_ss S → s < pl_ss P) : am_Fn G m_M_breaks (d + 1) bc bs [.ref 30, .int (nI 4), .int (nI s)] (hm A S jo M V) (some (.int (zI (sp_br S P (bf jo s s) s 4)))) (hm A S jo M V) := by
  obtain ⟨s1, s2, s3, s4, s5, s6, s7, s8, s9, s10, s11, s12, s13, s14⟩ := id hS
  obtain ⟨p1, p2, p3, p4, p5, p6⟩ := id hP
  have p5s := p5 s
  have p6s := p6 s
  have t13 := s13 s
  have t5 := s5 (pl_ma P s)
  refine am_aload_n d_M_breaks_0 rfl rfl ?_
  refine am_get F_M 23 (by decide) d_M_breaks_1 w_673 rfl rfl ?_
  refine am_iload_n d_M_breaks_4 rfl rfl ?_
  refine am_ialdN _ d_M_breaks_5 rfl rfl (by omega) (by decide) ?_
  refine am_sv (v2 := .int (nI (pl_bg P s))) (by rw [hph, pq_lt (hfu s (by omega))]) ?_
  refine am_istore_n d_M_breaks_6 rfl (by decide) ?_
  refine am_iload_n d_M_breaks_7 rfl rfl ?_
  refine am_aload_n d_M_breaks_8 rfl rfl ?_
  refine am_get F_M 14 (by decide) d_M_breaks_9 w_664 rfl rfl ?_
  refine am_iload_n d_M_breaks_12 rfl rfl ?_
  refine am_ialdA d_M_breaks_13 rfl (by omega) (by decide) ?_
  refine am_iaddN d_M_breaks_14 ?_
  refine am_istore d_M_breaks_15 (by decide) ?_
  refine am_aload_n d_M_breaks_17 rfl rfl ?_
  refine am_get F_M 24 (by decide) d_M_breaks_18 w_674 rfl rfl ?_
  refine am_iload_n d_M_breaks_21 rfl rfl ?_
  refine am_ialdN _ d_M_breaks_22 rfl rfl (by omega) (by decide) ?_
  refine am_sv (v2 := .int (nI (pl_ma P s))) (by rw [hpm, pq_lt (hfu s (by omega))]) ?_
  refine am_istore d_M_breaks_23 (by decide) ?_
  refine am_iload_n d_M_breaks_25 rfl rfl ?_
  refine am_iconst (v := nI 1) d_M_breaks_26 (by decide) ?_
  refine am_icmpN_ne (tgt := 41) d_M_breaks_27 (by decide) (by omega) (by omega) (fun c27 => ?_) (fun c27 => ?_)
  · refine am_iload_n d_M_breaks_41 rfl rfl ?_
    refine am_iconst (v := nI 2) d_M_breaks_42 (by decide) ?_
    refine am_icmpN_ne (tgt := 92) d_M_breaks_43 (by decide) (by omega) (by omega) (fun c43 => ?_) (fun c43 => ?_)
    · refine am_iconst (v := zI false) d_M_breaks_92 (by decide) ?_
      refine am_istore d_M_breaks_93 (by decide) ?_
      refine am_iconst (v := nI 0) d_M_breaks_95 (by decide) ?_
      refine am_istore d_M_breaks_96 (by decide) ?_
      refine am_iload d_M_breaks_98 rfl ?_
      refine am_iload_n d_M_breaks_100 rfl rfl ?_
      refine am_icmpN_ge (tgt := 170) d_M_breaks_101 (by decide) (by omega) (by omega) (fun c101 => ?_) (fun c101 => ?_)
      · refine am_bipush (v := nI 8) d_M_breaks_170 (by decide) ?_
        refine am_iload d_M_breaks_172 rfl ?_
        refine am_imulC d_M_breaks_174 ?_
        refine am_istore d_M_breaks_175 (by decide) ?_
        exact am_lo (L' := [(0, .ref 30), (1, .int (nI 4)), (2, .int (nI s)), (3, .int (nI (pl_bg P s))), (4, .int (nI (pl_bg P s + sh_sh S s))), (5, .int (nI (pl_ma P s))), (6, .int (zI false)), (7, .int (nI (pl_ma P s * 8)))]) rfl (c_M_breaks_l4 hS hP d bc bs s (sh_sp S (pl_ma P s) + 1) 0 (Nat.zero_le _) (by omega))
      · refine am_iload_n d_M_breaks_104 rfl rfl ?_
        refine am_iconst (v := nI 3) d_M_breaks_105 (by decide) ?_
        refine am_icmpN_ne (tgt := 170) d_M_breaks_106 (by decide) (by omega) (by omega) (fun c106 => ?_) (fun c106 => ?_)
        · refine am_bipush (v := nI 8) d_M_breaks_170 (by decide) ?_
          refine am_iload d_M_breaks_172 rfl ?_
          refine am_imulC d_M_breaks_174 ?_
          refine am_istore d_M_breaks_175 (by decide) ?_
          exact am_lo (L' := [(0, .ref 30), (1, .int (nI 4)), (2, .int (nI s)), (3, .int (nI (pl_bg P s))), (4, .int (nI (pl_bg P s + sh_sh S s))), (5, .int (nI (pl_ma P s))), (6, .int (zI false)), (7, .int (nI (pl_ma P s * 8)))]) rfl (c_M_breaks_l4 hS hP d bc bs s (sh_sp S (pl_ma P s) + 1) 0 (Nat.zero_le _) (by omega))
        · exact absurd c106 (by decide)
    · exact absurd c43 (by decide)
  · exact absurd c27 (by decide)
theorem c_M_breaks {P : pl_T} (hS : sh_ok S) (hsk : sh_k S jo) (hP : pl_ok P) (hph : mo_ph M = pq (pl_ss P) (pl_bg P)) (hpm : mo_pm M = pq (pl_ss P) (pl_ma P)) (d bc bs r s : Nat) (h1 : 1 ≤ r) (h4 : r ≤ 4) (hs : s < sh_ss S) (hfu : r = 1 ∨ ∀ s, s < sh_ss S → s < pl_ss P) : am_Fn G m_M_breaks (d + 1) bc bs [.ref 30, .int (nI r), .int (nI s)] (hm A S jo M V) (some (.int (zI (sp_br S P (bf jo s s) s r)))) (hm A S jo M V) := by
  have hr : r = 1 ∨ r = 2 ∨ r = 3 ∨ r = 4 := by omega
  rcases hr with rfl | rfl | rfl | rfl
  · exact c_M_breaks_1 hS hsk hP hph hpm _ bc bs s hs
  · exact c_M_breaks_2 hS hsk hP hph hpm d bc bs s hs (hfu.resolve_left (by decide))
  · exact c_M_breaks_3 hS hsk hP hph hpm _ bc bs s hs (hfu.resolve_left (by decide))
  · exact c_M_breaks_4 hS hsk hP hph hpm _ bc bs s hs (hfu.resolve_left (by decide))
set_option maxRecDepth 20000 in
theorem c_M_isLate {P : pl_T} (hS : sh_ok S) (hsk : sh_k S jo) (hP : pl_ok P) (hph : mo_ph M = pq (pl_ss P) (pl_bg P)) (hpm : mo_pm M = pq (pl_ss P) (pl_ma P)) (d bc bs j : Nat) (hj : j < sh_jb S) (hfu : ∀ s, s < sh_ss S → s < pl_ss P) : am_Fn G m_M_isLate d bc bs [.ref 30, .int (nI j)] (hm A S jo M V) (some (.int (zI (decide (sh_du S j < sp_ed S P j))))) (hm A S jo M V) := by
  obtain ⟨s1, s2, s3, s4, s5, s6, s7, s8, s9, s10, s11, s12, s13, s14⟩ := id hS
  obtain ⟨p1, p2, p3, p4, p5, p6⟩ := id hP
  have t8 := s8 j
  have t10 := s10 j
  refine am_aload_n d_M_isLate_0 rfl rfl ?_
  refine am_get F_M 9 (by decide) d_M_isLate_1 w_659 rfl rfl ?_
  refine am_iload_n d_M_isLate_4 rfl rfl ?_
  refine am_ialdA d_M_isLate_5 rfl (by omega) (by decide) ?_
  refine am_ifN_ne (tgt := 13) d_M_isLate_6 (by decide) (by omega) (fun c6 => ?_) (fun c6 => ?_)
  · have hla : (sh_sa S (j * 4 + sh_so S j - 1)) < sh_ss S := by
      have := (hsk.1 j (sh_so S j - 1) hj (by omega)).1
      rw [show j * 4 + (sh_so S j - 1) = j * 4 + sh_so S j - 1 by omega] at this
      exact this
    have hpl := hfu _ hla
    have p5l := p5 (sh_sa S (j * 4 + sh_so S j - 1))
    have t13l := s13 (sh_sa S (j * 4 + sh_so S j - 1))
    have hed : sp_ed S P j = pl_bg P (sh_sa S (j * 4 + sh_so S j - 1)) + sh_sh S (sh_sa S (j * 4 + sh_so S j - 1)) := by unfold sp_ed; rw [if_neg (by omega), if_pos hpl]
    refine am_aload_n d_M_isLate_13 rfl rfl ?_
    refine am_get F_M 10 (by decide) d_M_isLate_14 w_660 rfl rfl ?_
    refine am_iconst (v := nI 4) d_M_isLate_17 (by decide) ?_
    refine am_iload_n d_M_isLate_18 rfl rfl ?_
    refine am_imulC d_M_isLate_19 ?_
    refine am_aload_n d_M_isLate_20 rfl rfl ?_
    refine am_get F_M 9 (by decide) d_M_isLate_21 w_659 rfl rfl ?_
    refine am_iload_n d_M_isLate_24 rfl rfl ?_
    refine am_ialdA d_M_isLate_25 rfl (by omega) (by decide) ?_
    refine am_iaddN d_M_isLate_26 ?_
    refine am_iconst (v := nI 1) d_M_isLate_27 (by decide) ?_
    refine am_isubN d_M_isLate_28 (by omega) ?_
    refine am_ialdA d_M_isLate_29 rfl (by omega) (by decide) ?_
    refine am_istore_n d_M_isLate_30 rfl (by decide) ?_
    refine am_iload_n d_M_isLate_31 rfl rfl ?_
    refine am_iconst (v := -1) d_M_isLate_32 (by decide) ?_
    refine am_icmp_eq (tgt := 62) d_M_isLate_33 (by decide) (fun c33 => ?_) (fun c33 => ?_)
    · exact absurd c33 (nI_m1 (by omega))
    · refine am_aload_n d_M_isLate_36 rfl rfl ?_
      refine am_get F_M 23 (by decide) d_M_isLate_37 w_673 rfl rfl ?_
      refine am_iload_n d_M_isLate_40 rfl rfl ?_
      refine am_ialdN _ d_M_isLate_41 rfl rfl (by omega) (by decide) ?_
      refine am_sv (v2 := .int (nI (pl_bg P (sh_sa S (j * 4 + sh_so S j - 1))))) (by rw [hph, pq_lt hpl]) ?_
      refine am_aload_n d_M_isLate_42 rfl rfl ?_
      refine am_get F_M 14 (by decide) d_M_isLate_43 w_664 rfl rfl ?_
      refine am_iload_n d_M_isLate_46 rfl rfl ?_
      refine am_ialdA d_M_isLate_47 rfl (by omega) (by decide) ?_
      refine am_iaddN d_M_isLate_48 ?_
      refine am_aload_n d_M_isLate_49 rfl rfl ?_
      refine am_get F_M 7 (by decide) d_M_isLate_50 w_657 rfl rfl ?_
      refine am_iload_n d_M_isLate_53 rfl rfl ?_
      refine am_ialdA d_M_isLate_54 rfl (by omega) (by decide) ?_
      refine am_icmpN_le (tgt := 62) d_M_isLate_55 (by decide) (by omega) (by omega) (fun c55 => ?_) (fun c55 => ?_)
      · refine am_iconst (v := zI false) d_M_isLate_62 (by decide) ?_
        refine am_zret d_M_isLate_63 rfl (zI_n _) ?_
        exact ⟨by rw [decide_eq_false (by rw [hed]; omega)], rfl⟩
      · refine am_iconst (v := zI true) d_M_isLate_58 (by decide) ?_
        refine am_goto (tgt := 63) d_M_isLate_59 (by decide) ?_
        refine am_zret d_M_isLate_63 rfl (zI_n _) ?_
        exact ⟨by rw [decide_eq_true (by rw [hed]; omega)], rfl⟩
  · refine am_iconst (v := -1) d_M_isLate_9 (by decide) ?_
    refine am_goto (tgt := 30) d_M_isLate_10 (by decide) ?_
    refine am_istore_n d_M_isLate_30 rfl (by decide) ?_
    refine am_iload_n d_M_isLate_31 rfl rfl ?_
    refine am_iconst (v := -1) d_M_isLate_32 (by decide) ?_
    refine am_icmp_eq (tgt := 62) d_M_isLate_33 (by decide) (fun c33 => ?_) (fun c33 => ?_)
    · refine am_iconst (v := zI false) d_M_isLate_62 (by decide) ?_
      refine am_zret d_M_isLate_63 rfl (zI_n _) ?_
      exact ⟨by rw [decide_eq_false (by rw [show sp_ed S P j = 0 by unfold sp_ed; rw [if_pos c6]]; omega)], rfl⟩
    · exact absurd rfl c33
set_option maxRecDepth 20000 in
theorem c_M_check_i {Q : am_O → am_H → Prop} {P : pl_T} (hS : sh_ok S) (hsk : sh_k S jo) (hP : pl_ok P) (hph : mo_ph M = pq (pl_ss P) (pl_bg P)) (hpm : mo_pm M = pq (pl_ss P) (pl_ma P)) (d bc bs r : Nat) (h1 : 1 ≤ r) (h4 : r ≤ 4) (hfu : r = 1 ∨ ∀ s, s < sh_ss S → s < pl_ss P)
    (hk : fs (fun s => sp_br S P (bf jo s s) s r) (sh_ss S) = none → am_W G m_M_check (d + 2) bc bs Q 62 [(0, .ref 30), (1, .int (nI r)), (2, .int (nI (sh_ss S)))] [] (hm A S jo (0, mo_xx M, mo_hr M, mo_mh M, mo_pd M, mo_fr M, mo_pj M, mo_pn M, mo_ph M, mo_pm M, mo_wh M, mo_wm M, mo_co M, mo_bo M, mo_no M, mo_ch M, mo_ro M, mo_tr M, mo_us M) V)) (hq : ∀ s, fs (fun s => sp_br S P (bf jo s s) s r) (sh_ss S) = some s → Q (.inl (some (.int (nI (100 * r + s))))) (hm A S jo (0, mo_xx M, mo_hr M, mo_mh M, mo_pd M, mo_fr M, mo_pj M, mo_pn M, mo_ph M, mo_pm M, mo_wh M, mo_wm M, mo_co M, mo_bo M, mo_no M, mo_ch M, mo_ro M, mo_tr M, mo_us M) V)) : ∀ (n i : Nat), i ≤ sh_ss S → sh_ss S - i < n → fs (fun s => sp_br S P (bf jo s s) s r) i = none →
    am_W G m_M_check (d + 2) bc bs Q 32 [(0, .ref 30), (1, .int (nI r)), (2, .int (nI i))] [] (hm A S jo (0, mo_xx M, mo_hr M, mo_mh M, mo_pd M, mo_fr M, mo_pj M, mo_pn M, mo_ph M, mo_pm M, mo_wh M, mo_wm M, mo_co M, mo_bo M, mo_no M, mo_ch M, mo_ro M, mo_tr M, mo_us M) V) := by
  intro n
  have s3 := hS.2.2.1
  induction n with
  | zero => intro i _ h; omega
  | succ n ih =>
    intro i hi hn hno
    refine am_iload_n d_M_check_32 rfl rfl ?_
    refine am_aload_n d_M_check_33 rfl rfl ?_
    refine am_get F_M 11 (by decide) d_M_check_34 w_661 rfl rfl ?_
    refine am_icmpN_ge (tgt := 62) d_M_check_37 (by decide) (by omega) (by omega) (fun c37 => ?_) (fun c37 => ?_)
    · have e : i = sh_ss S := by omega
      subst e
      exact hk hno
    · refine am_aload_n d_M_check_40 rfl rfl ?_
      refine am_iload_n d_M_check_41 rfl rfl ?_
      refine am_iload_n d_M_check_42 rfl rfl ?_
      refine am_callF 3 (am_recvV (z := m_M_breaks) rfl d_M_check_43 w_889 w_891 ws_35 w_892 F_M.1 rfl (by decide) np_M_breaks) (by decide) (by decide) (Nat.le_of_ble_eq_true rfl) (Nat.le_of_ble_eq_true rfl) (Nat.zero_le _) (Nat.zero_le _) (c_M_breaks (M := (0, mo_xx M, mo_hr M, mo_mh M, mo_pd M, mo_fr M, mo_pj M, mo_pn M, mo_ph M, mo_pm M, mo_wh M, mo_wm M, mo_co M, mo_bo M, mo_no M, mo_ch M, mo_ro M, mo_tr M, mo_us M)) hS hsk hP hph hpm d _ _ r i h1 h4 (by omega) hfu) ?_
      refine am_ifZ_eq (tgt := 56) d_M_check_46 (by decide) (fun c46 => ?_) (fun c46 => ?_)
      · refine am_iinc d_M_check_56 rfl (am_inc _) (by decide) ?_
        refine am_goto (tgt := 32) d_M_check_59 (by decide) ?_
        exact am_lo (L' := [(0, .ref 30), (1, .int (nI r)), (2, .int (nI (i + 1)))]) rfl (ih (i + 1) (by omega) (by omega) (fs_no hno c46))
      · refine am_bipush (v := nI 100) d_M_check_49 (by decide) ?_
        refine am_iload_n d_M_check_51 rfl rfl ?_
        refine am_imulC d_M_check_52 ?_
        refine am_iload_n d_M_check_53 rfl rfl ?_
        refine am_iaddN d_M_check_54 ?_
        refine am_iret d_M_check_55 rfl ?_
        rw [Nat.mul_comm]
        exact hq i (fs_hit hno c46 _ (by omega))
set_option maxRecDepth 20000 in
theorem c_M_check_l {Q : am_O → am_H → Prop} {P : pl_T} (hS : sh_ok S) (hsk : sh_k S jo) (hP : pl_ok P) (hph : mo_ph M = pq (pl_ss P) (pl_bg P)) (hpm : mo_pm M = pq (pl_ss P) (pl_ma P)) (d bc bs : Nat) (hfu : ∀ s, s < sh_ss S → s < pl_ss P)
    (hk : ck_l S P = none → Q (.inl (some (.int (nI 0)))) (hm A S jo (0, mo_xx M, mo_hr M, mo_mh M, mo_pd M, mo_fr M, mo_pj M, mo_pn M, mo_ph M, mo_pm M, mo_wh M, mo_wm M, mo_co M, mo_bo M, mo_no M, mo_ch M, mo_ro M, mo_tr M, mo_us M) V)) (hq : ∀ j, ck_l S P = some j → Q (.inl (some (.int (nI (500 + j))))) (hm A S jo (0, mo_xx M, mo_hr M, mo_mh M, mo_pd M, mo_fr M, mo_pj M, mo_pn M, mo_ph M, mo_pm M, mo_wh M, mo_wm M, mo_co M, mo_bo M, mo_no M, mo_ch M, mo_ro M, mo_tr M, mo_us M) V)) : ∀ (n i : Nat), i ≤ sh_jb S → sh_jb S - i < n → fs (fun j => decide (sh_du S j < sp_ed S P j)) i = none →
    am_W G m_M_check (d + 2) bc bs Q 70 [(0, .ref 30), (1, .int (nI i))] [] (hm A S jo (0, mo_xx M, mo_hr M, mo_mh M, mo_pd M, mo_fr M, mo_pj M, mo_pn M, mo_ph M, mo_pm M, mo_wh M, mo_wm M, mo_co M, mo_bo M, mo_no M, mo_ch M, mo_ro M, mo_tr M, mo_us M) V) := by
  intro n
  have s2 := hS.2.1
  induction n with
  | zero => intro i _ h; omega
  | succ n ih =>
    intro i hi hn hno
    refine am_iload_n d_M_check_70 rfl rfl ?_
    refine am_aload_n d_M_check_71 rfl rfl ?_
    refine am_get F_M 6 (by decide) d_M_check_72 w_656 rfl rfl ?_
    refine am_icmpN_ge (tgt := 105) d_M_check_75 (by decide) (by omega) (by omega) (fun c75 => ?_) (fun c75 => ?_)
    · refine am_iconst (v := nI 0) d_M_check_105 (by decide) ?_
      refine am_iret d_M_check_106 rfl ?_
      have e : i = sh_jb S := by omega
      subst e
      exact hk hno
    · refine am_aload_n d_M_check_78 rfl rfl ?_
      refine am_get F_M 0 (by decide) d_M_check_79 w_650 rfl rfl ?_
      refine am_sv (v2 := .int (nI 0)) rfl ?_
      refine am_ifN_ne (tgt := 105) d_M_check_82 (by decide) (by decide) (fun z => absurd z (by decide)) (fun _ => ?_)
      refine am_aload_n d_M_check_85 rfl rfl ?_
      refine am_iload_n d_M_check_86 rfl rfl ?_
      refine am_callF 2 (am_recvV (z := m_M_isLate) rfl d_M_check_87 w_897 w_899 ws_37 w_900 F_M.1 rfl (by decide) np_M_isLate) (by decide) (by decide) (Nat.le_of_ble_eq_true rfl) (Nat.le_of_ble_eq_true rfl) (Nat.zero_le _) (Nat.zero_le _) (c_M_isLate (M := (0, mo_xx M, mo_hr M, mo_mh M, mo_pd M, mo_fr M, mo_pj M, mo_pn M, mo_ph M, mo_pm M, mo_wh M, mo_wm M, mo_co M, mo_bo M, mo_no M, mo_ch M, mo_ro M, mo_tr M, mo_us M)) hS hsk hP hph hpm _ _ _ i (by omega) hfu) ?_
      refine am_ifZ_eq (tgt := 99) d_M_check_90 (by decide) (fun c90 => ?_) (fun c90 => ?_)
      · refine am_iinc d_M_check_99 rfl (am_inc _) (by decide) ?_
        refine am_goto (tgt := 70) d_M_check_102 (by decide) ?_
        exact am_lo (L' := [(0, .ref 30), (1, .int (nI (i + 1)))]) rfl (ih (i + 1) (by omega) (by omega) (fs_no hno c90))
      · refine am_sipush (v := nI 500) d_M_check_93 (by decide) ?_
        refine am_iload_n d_M_check_96 rfl rfl ?_
        refine am_iaddN d_M_check_97 ?_
        refine am_iret d_M_check_98 rfl ?_
        exact hq i (fs_hit hno c90 _ (by omega))
set_option maxRecDepth 20000 in
theorem c_M_check_r {Q : am_O → am_H → Prop} {P : pl_T} (hS : sh_ok S) (hsk : sh_k S jo) (hP : pl_ok P) (hph : mo_ph M = pq (pl_ss P) (pl_bg P)) (hpm : mo_pm M = pq (pl_ss P) (pl_ma P)) (d bc bs : Nat) : ∀ (n r : Nat), 1 ≤ r → r + n = 5 → (r = 1 ∨ ∀ s, s < sh_ss S → s < pl_ss P) →
    (ck_r S P (fun s => bf jo s s) n r = none → (∀ s, s < sh_ss S → s < pl_ss P) → am_W G m_M_check (d + 2) bc bs Q 68 [(0, .ref 30), (1, .int (nI 5))] [] (hm A S jo (0, mo_xx M, mo_hr M, mo_mh M, mo_pd M, mo_fr M, mo_pj M, mo_pn M, mo_ph M, mo_pm M, mo_wh M, mo_wm M, mo_co M, mo_bo M, mo_no M, mo_ch M, mo_ro M, mo_tr M, mo_us M) V)) → (∀ v, ck_r S P (fun s => bf jo s s) n r = some v → Q (.inl (some (.int (nI v)))) (hm A S jo (0, mo_xx M, mo_hr M, mo_mh M, mo_pd M, mo_fr M, mo_pj M, mo_pn M, mo_ph M, mo_pm M, mo_wh M, mo_wm M, mo_co M, mo_bo M, mo_no M, mo_ch M, mo_ro M, mo_tr M, mo_us M) V)) →
    am_W G m_M_check (d + 2) bc bs Q 18 [(0, .ref 30), (1, .int (nI r))] [] (hm A S jo (0, mo_xx M, mo_hr M, mo_mh M, mo_pd M, mo_fr M, mo_pj M, mo_pn M, mo_ph M, mo_pm M, mo_wh M, mo_wm M, mo_co M, mo_bo M, mo_no M, mo_ch M, mo_ro M, mo_tr M, mo_us M) V) := by
  intro n
  have s3 := hS.2.2.1
  induction n with
  | zero =>
    intro r h1 hr hfu hk hq
    refine am_iload_n d_M_check_18 rfl rfl ?_
    refine am_iconst (v := nI 5) d_M_check_19 (by decide) ?_
    refine am_icmpN_ge (tgt := 68) d_M_check_20 (by decide) (by omega) (by omega) (fun c20 => ?_) (fun c20 => ?_)
    · have e : r = 5 := by omega
      subst e
      exact hk rfl (hfu.resolve_left (by decide))
    · exact absurd c20 (by omega)
  | succ n ih =>
    intro r h1 hr hfu hk hq
    have hful : fs (fun s => sp_br S P (bf jo s s) s r) (sh_ss S) = none → ∀ s, s < sh_ss S → s < pl_ss P := fun hno => by
      rcases hfu with rfl | q
      · intro s hs
        have := fs_none hno s hs
        have h2 : (!decide (s < pl_ss P)) = false := this
        rw [Bool.not_eq_false'] at h2
        exact of_decide_eq_true h2
      · exact q
    refine am_iload_n d_M_check_18 rfl rfl ?_
    refine am_iconst (v := nI 5) d_M_check_19 (by decide) ?_
    refine am_icmpN_ge (tgt := 68) d_M_check_20 (by decide) (by omega) (by omega) (fun c20 => ?_) (fun c20 => ?_)
    · exact absurd c20 (by omega)
    · refine am_aload_n d_M_check_23 rfl rfl ?_
      refine am_get F_M 0 (by decide) d_M_check_24 w_650 rfl rfl ?_
      refine am_sv (v2 := .int (nI 0)) rfl ?_
      refine am_ifN_ne (tgt := 68) d_M_check_27 (by decide) (by decide) (fun z => absurd z (by decide)) (fun _ => ?_)
      refine am_iconst (v := nI 0) d_M_check_30 (by decide) ?_
      refine am_istore_n d_M_check_31 rfl (by decide) ?_
      refine am_lo (L' := [(0, .ref 30), (1, .int (nI r)), (2, .int (nI 0))]) rfl (c_M_check_i (M := M) hS hsk hP hph hpm d bc bs r h1 (by omega) hfu (fun hno => ?_) (fun s hs => hq _ (ck_r1 hs)) (sh_ss S + 1) 0 (Nat.zero_le _) (by omega) rfl)
      rw [ck_r0 hno] at hk hq
      refine am_iinc d_M_check_62 rfl (am_inc _) (by decide) ?_
      refine am_goto (tgt := 18) d_M_check_65 (by decide) ?_
      exact am_lo (L' := [(0, .ref 30), (1, .int (nI (r + 1)))]) rfl (ih (r + 1) (by omega) (by omega) (Or.inr (hful hno)) hk hq)
set_option maxRecDepth 20000 in
theorem c_M_check {P : pl_T} (hS : sh_ok S) (hsk : sh_k S jo) (hP : pl_ok P) (hph : mo_ph M = pq (pl_ss P) (pl_bg P)) (hpm : mo_pm M = pq (pl_ss P) (pl_ma P)) (hpd : mo_pd M = decide (0 < pl_jb P)) (d bc bs : Nat) : am_W G m_M_check (d + 2) bc bs (mQ (cd_check P) (some (.int (nI 0))) (hm A S jo ((cd_check P), mo_xx M, mo_hr M, mo_mh M, mo_pd M, mo_fr M, mo_pj M, mo_pn M, mo_ph M, mo_pm M, mo_wh M, mo_wm M, mo_co M, mo_bo M, mo_no M, mo_ch M, mo_ro M, mo_tr M, mo_us M) V) (fun v h' => v = some (.int (nI (ck_v S P (fun s => bf jo s s)))) ∧ h' = (hm A S jo (0, mo_xx M, mo_hr M, mo_mh M, mo_pd M, mo_fr M, mo_pj M, mo_pn M, mo_ph M, mo_pm M, mo_wh M, mo_wm M, mo_co M, mo_bo M, mo_no M, mo_ch M, mo_ro M, mo_tr M, mo_us M) V))) 0 (lv_args 0 [.ref 30]) [] (hm A S jo M V) := by
  have s2 := hS.2.1
  refine am_aload_n d_M_check_0 rfl rfl ?_
  refine am_aload_n d_M_check_1 rfl rfl ?_
  refine am_get F_M 19 (by decide) d_M_check_2 w_669 rfl rfl ?_
  refine am_ifZ_eq (tgt := 12) d_M_check_5 (by decide) (fun c5 => ?_) (fun c5 => ?_)
  · rw [hpd] at c5
    have c5 := of_decide_eq_false c5
    refine am_iconst (v := nI 1) d_M_check_12 (by decide) ?_
    refine am_put F_M 0 (by decide) d_M_check_13 w_650 rfl rfl (Nat.le_of_ble_eq_true rfl) rfl rfl ?_
    refine am_hq (hm_cd _) ?_
    refine am_iconst (v := nI 1) d_M_check_16 (by decide) ?_
    refine am_istore_n d_M_check_17 rfl (by decide) ?_
    refine am_iload_n d_M_check_18 rfl rfl ?_
    refine am_iconst (v := nI 5) d_M_check_19 (by decide) ?_
    refine am_icmpN_ge (tgt := 68) d_M_check_20 (by decide) (by omega) (by omega) (fun c20 => ?_) (fun c20 => ?_)
    · exact absurd c20 (by decide)
    · refine am_aload_n d_M_check_23 rfl rfl ?_
      refine am_get F_M 0 (by decide) d_M_check_24 w_650 rfl rfl ?_
      refine am_sv (v2 := .int (nI 1)) rfl ?_
      refine am_ifN_ne (tgt := 68) d_M_check_27 (by decide) (by decide) (fun _ => ?_) (fun z => absurd z (by decide))
      refine am_iconst (v := nI 0) d_M_check_68 (by decide) ?_
      refine am_istore_n d_M_check_69 rfl (by decide) ?_
      refine am_iload_n d_M_check_70 rfl rfl ?_
      refine am_aload_n d_M_check_71 rfl rfl ?_
      refine am_get F_M 6 (by decide) d_M_check_72 w_656 rfl rfl ?_
      refine am_icmpN_ge (tgt := 105) d_M_check_75 (by decide) (by omega) (by omega) (fun c75 => ?_) (fun c75 => ?_)
      · refine am_iconst (v := nI 0) d_M_check_105 (by decide) ?_
        refine am_iret d_M_check_106 rfl ?_
        have ec : cd_check P = 1 := by unfold cd_check; (try simp only [ek]); (repeat' split) <;> first | rfl | omega | simp_all
        rw [ec]
        exact ⟨rfl, rfl⟩
      · refine am_aload_n d_M_check_78 rfl rfl ?_
        refine am_get F_M 0 (by decide) d_M_check_79 w_650 rfl rfl ?_
        refine am_sv (v2 := .int (nI 1)) rfl ?_
        refine am_ifN_ne (tgt := 105) d_M_check_82 (by decide) (by decide) (fun _ => ?_) (fun z => absurd z (by decide))
        refine am_iconst (v := nI 0) d_M_check_105 (by decide) ?_
        refine am_iret d_M_check_106 rfl ?_
        have ec : cd_check P = 1 := by unfold cd_check; (try simp only [ek]); (repeat' split) <;> first | rfl | omega | simp_all
        rw [ec]
        exact ⟨rfl, rfl⟩
  · rw [hpd] at c5
    have c5 := of_decide_eq_true c5
    have ec : cd_check P = 0 := if_pos c5
    rw [ec]
    refine am_iconst (v := nI 0) d_M_check_8 (by decide) ?_
    refine am_goto (tgt := 13) d_M_check_9 (by decide) ?_
    refine am_put F_M 0 (by decide) d_M_check_13 w_650 rfl rfl (Nat.le_of_ble_eq_true rfl) rfl rfl ?_
    refine am_hq (hm_cd _) ?_
    refine am_iconst (v := nI 1) d_M_check_16 (by decide) ?_
    refine am_istore_n d_M_check_17 rfl (by decide) ?_
    refine am_lo (L' := [(0, .ref 30), (1, .int (nI 1))]) rfl (c_M_check_r (M := M) hS hsk hP hph hpm d bc bs 4 1 (by omega) (by omega) (Or.inl rfl) (fun e1 hfu => ?_) (fun v e => ⟨_, rfl, by unfold ck_v; rw [e], rfl⟩))
    refine am_iconst (v := nI 0) d_M_check_68 (by decide) ?_
    refine am_istore_n d_M_check_69 rfl (by decide) ?_
    exact am_lo (L' := [(0, .ref 30), (1, .int (nI 0))]) rfl (c_M_check_l (M := M) hS hsk hP hph hpm d bc bs hfu (fun e2 => ⟨_, rfl, by unfold ck_v; rw [e1, e2], rfl⟩) (fun j e2 => ⟨_, rfl, by unfold ck_v; rw [e1, e2], rfl⟩) (sh_jb S + 1) 0 (Nat.zero_le _) (by omega) rfl)
end CM9
/-- the model as it begins -/
def mo_0 (sd : Int32) : mo_T := (0, sd.toInt64, fun _ => nI 0, fun _ => nI 0, false, false, 0, fun _ => 0, fun _ => -1, fun _ => -1, fun _ => nI 0, fun _ => nI 0, 0, 0, 0, 0, fun _ => 0, fun _ => 0, fun _ => false)
section CMI
variable {G : am_G} {A : ma_T} {V : am_H}
set_option maxRecDepth 20000 in
theorem c_M_init_l (d bc bs : Nat) (sd : Int32) : ∀ (n i : Nat), i ≤ 24 → 24 - i < n → ∀ (ph pm : Nat → Int32), (∀ q, q < i → ph q = (fun _ => -1) q) → (∀ q, q < i → pm q = (fun _ => -1) q) →
    am_W G m_M_init d bc bs (fun o h' => o = .inl none ∧ h' = (hm A sh_0 (fun _ => 0) (mo_0 sd) [])) 188 [(0, .ref 30), (2, .int (nI i))] [] (hm A sh_0 (fun _ => 0) (0, sd.toInt64, (fun _ => nI 0), (fun _ => nI 0), false, false, 0, (fun _ => 0), ph, pm, (fun _ => nI 0), (fun _ => nI 0), 0, 0, 0, 0, (fun _ => 0), (fun _ => 0), (fun _ => false)) []) := by
  intro n
  induction n with
  | zero => intro i _ h; omega
  | succ n ih =>
    intro i hi hn ph pm h1 h2
    refine am_iload_n d_M_init_188 rfl rfl ?_
    refine am_bipush (v := nI 24) d_M_init_189 (by decide) ?_
    refine am_icmpN_ge (tgt := 214) d_M_init_191 (by decide) (by omega) (by omega) (fun c191 => ?_) (fun c191 => ?_)
    · have e : i = 24 := by omega
      subst e
      refine am_cell (a := 45) (fun _ => -1) rfl h1 ?_
      refine am_hq (hm_ph _) ?_
      refine am_cell (a := 46) (fun _ => -1) rfl h2 ?_
      refine am_hq (hm_pm _) ?_
      refine am_vret d_M_init_214 rfl ?_
      exact ⟨rfl, rfl⟩
    · refine am_aload_n d_M_init_194 rfl rfl ?_
      refine am_get F_M 23 (by decide) d_M_init_195 w_673 rfl rfl ?_
      refine am_iload_n d_M_init_198 rfl rfl ?_
      refine am_iconst (v := -1) d_M_init_199 (by decide) ?_
      refine am_iastN _ d_M_init_200 rfl rfl (by omega) (by decide) ?_
      refine am_hq (hm_ph _) ?_
      refine am_aload_n d_M_init_201 rfl rfl ?_
      refine am_get F_M 24 (by decide) d_M_init_202 w_674 rfl rfl ?_
      refine am_iload_n d_M_init_205 rfl rfl ?_
      refine am_iconst (v := -1) d_M_init_206 (by decide) ?_
      refine am_iastN _ d_M_init_207 rfl rfl (by omega) (by decide) ?_
      refine am_hq (hm_pm _) ?_
      refine am_iinc d_M_init_208 rfl (am_inc _) (by decide) ?_
      refine am_goto (tgt := 188) d_M_init_211 (by decide) ?_
      exact am_lo (L' := [(0, .ref 30), (2, .int (nI (i + 1)))]) rfl (ih (i + 1) (by omega) (by omega) _ _ (up_all2 h1 rfl) (up_all2 h2 rfl))
set_option maxRecDepth 20000 in
theorem c_M_init (d : Nat) (sd : Int32) : am_Fn G m_M_init (d + 1) 22 414 [.ref 30, .int sd] (hx A.1 A.2.1 A.2.2.1 A.2.2.2.1 A.2.2.2.2.1 A.2.2.2.2.2 [.inr (5, [.int (nI 0), .int (nI 0), .null, .null, .null, .null, .int (nI 0), .null, .null, .null, .null, .int (nI 0), .null, .null, .null, .null, .long (lN 0), .null, .null, .int (zI false), .int (zI false), .int (nI 0), .null, .null, .null, .null, .null, .long (lN 0), .long (lN 0), .int (nI 0), .int (nI 0), .null, .null, .null])]) none (hm A sh_0 (fun _ => 0) (mo_0 sd) []) := by
  refine am_aload_n d_M_init_0 rfl rfl ?_
  refine am_objInit d_M_init_1 w_649 w_20 w_21 (by omega) (by decide) ?_
  refine am_aload_n d_M_init_4 rfl rfl ?_
  refine am_bipush (v := nI 6) d_M_init_5 (by decide) ?_
  refine am_newX (t := 0) (NN := 6) (a0 := (6, .inl (fun _ => nI 0))) 31 (hx A.1 A.2.1 A.2.2.1 A.2.2.2.1 A.2.2.2.2.1 A.2.2.2.2.2 [.inr (5, [.int (nI 0), .int (nI 0), .null, .null, .null, .null, .int (nI 0), .null, .null, .null, .null, .int (nI 0), .null, .null, .null, .null, .long (lN 0), .null, .null, .int (zI false), .int (zI false), .int (nI 0), .null, .null, .null, .null, .null, .long (lN 0), .long (lN 0), .int (nI 0), .int (nI 0), .null, .null, .null]), .inl (0, (6, .inl (fun _ => nI 0)))]) 21 408 rfl rfl rfl rfl d_M_init_7 w_102 rfl (fun cA => rfl) rfl (by decide) (by decide) ?_
  refine am_putF F_M 2 (by decide) d_M_init_9 w_652 rfl rfl rfl rfl (Nat.le_of_ble_eq_true rfl) rfl rfl ?_
  refine am_hq (h2 := (hx A.1 A.2.1 A.2.2.1 A.2.2.2.1 A.2.2.2.2.1 A.2.2.2.2.2 [.inr (5, [.int (nI 0), .int (nI 0), .ref 31, .null, .null, .null, .int (nI 0), .null, .null, .null, .null, .int (nI 0), .null, .null, .null, .null, .long (lN 0), .null, .null, .int (zI false), .int (zI false), .int (nI 0), .null, .null, .null, .null, .null, .long (lN 0), .long (lN 0), .int (nI 0), .int (nI 0), .null, .null, .null]), .inl (0, (6, .inl (fun _ => nI 0)))])) rfl ?_
  refine am_aload_n d_M_init_12 rfl rfl ?_
  refine am_bipush (v := nI 6) d_M_init_13 (by decide) ?_
  refine am_newX (t := 0) (NN := 6) (a0 := (6, .inl (fun _ => nI 0))) 32 (hx A.1 A.2.1 A.2.2.1 A.2.2.2.1 A.2.2.2.2.1 A.2.2.2.2.2 [.inr (5, [.int (nI 0), .int (nI 0), .ref 31, .null, .null, .null, .int (nI 0), .null, .null, .null, .null, .int (nI 0), .null, .null, .null, .null, .long (lN 0), .null, .null, .int (zI false), .int (zI false), .int (nI 0), .null, .null, .null, .null, .null, .long (lN 0), .long (lN 0), .int (nI 0), .int (nI 0), .null, .null, .null]), .inl (0, (6, .inl (fun _ => nI 0))), .inl (0, (6, .inl (fun _ => nI 0)))]) 20 402 rfl rfl rfl rfl d_M_init_15 w_102 rfl (fun cA => rfl) rfl (by decide) (by decide) ?_
  refine am_putF F_M 3 (by decide) d_M_init_17 w_653 rfl rfl rfl rfl (Nat.le_of_ble_eq_true rfl) rfl rfl ?_
  refine am_hq (h2 := (hx A.1 A.2.1 A.2.2.1 A.2.2.2.1 A.2.2.2.2.1 A.2.2.2.2.2 [.inr (5, [.int (nI 0), .int (nI 0), .ref 31, .ref 32, .null, .null, .int (nI 0), .null, .null, .null, .null, .int (nI 0), .null, .null, .null, .null, .long (lN 0), .null, .null, .int (zI false), .int (zI false), .int (nI 0), .null, .null, .null, .null, .null, .long (lN 0), .long (lN 0), .int (nI 0), .int (nI 0), .null, .null, .null]), .inl (0, (6, .inl (fun _ => nI 0))), .inl (0, (6, .inl (fun _ => nI 0)))])) rfl ?_
  refine am_aload_n d_M_init_20 rfl rfl ?_
  refine am_bipush (v := nI 48) d_M_init_21 (by decide) ?_
  refine am_newX (t := 0) (NN := 48) (a0 := (48, .inl (fun _ => nI 0))) 33 (hx A.1 A.2.1 A.2.2.1 A.2.2.2.1 A.2.2.2.2.1 A.2.2.2.2.2 [.inr (5, [.int (nI 0), .int (nI 0), .ref 31, .ref 32, .null, .null, .int (nI 0), .null, .null, .null, .null, .int (nI 0), .null, .null, .null, .null, .long (lN 0), .null, .null, .int (zI false), .int (zI false), .int (nI 0), .null, .null, .null, .null, .null, .long (lN 0), .long (lN 0), .int (nI 0), .int (nI 0), .null, .null, .null]), .inl (0, (6, .inl (fun _ => nI 0))), .inl (0, (6, .inl (fun _ => nI 0))), .inl (0, (48, .inl (fun _ => nI 0)))]) 19 354 rfl rfl rfl rfl d_M_init_23 w_102 rfl (fun cA => rfl) rfl (by decide) (by decide) ?_
  refine am_putF F_M 4 (by decide) d_M_init_25 w_654 rfl rfl rfl rfl (Nat.le_of_ble_eq_true rfl) rfl rfl ?_
  refine am_hq (h2 := (hx A.1 A.2.1 A.2.2.1 A.2.2.2.1 A.2.2.2.2.1 A.2.2.2.2.2 [.inr (5, [.int (nI 0), .int (nI 0), .ref 31, .ref 32, .ref 33, .null, .int (nI 0), .null, .null, .null, .null, .int (nI 0), .null, .null, .null, .null, .long (lN 0), .null, .null, .int (zI false), .int (zI false), .int (nI 0), .null, .null, .null, .null, .null, .long (lN 0), .long (lN 0), .int (nI 0), .int (nI 0), .null, .null, .null]), .inl (0, (6, .inl (fun _ => nI 0))), .inl (0, (6, .inl (fun _ => nI 0))), .inl (0, (48, .inl (fun _ => nI 0)))])) rfl ?_
  refine am_aload_n d_M_init_28 rfl rfl ?_
  refine am_bipush (v := nI 48) d_M_init_29 (by decide) ?_
  refine am_newX (t := 0) (NN := 48) (a0 := (48, .inl (fun _ => nI 0))) 34 (hx A.1 A.2.1 A.2.2.1 A.2.2.2.1 A.2.2.2.2.1 A.2.2.2.2.2 [.inr (5, [.int (nI 0), .int (nI 0), .ref 31, .ref 32, .ref 33, .null, .int (nI 0), .null, .null, .null, .null, .int (nI 0), .null, .null, .null, .null, .long (lN 0), .null, .null, .int (zI false), .int (zI false), .int (nI 0), .null, .null, .null, .null, .null, .long (lN 0), .long (lN 0), .int (nI 0), .int (nI 0), .null, .null, .null]), .inl (0, (6, .inl (fun _ => nI 0))), .inl (0, (6, .inl (fun _ => nI 0))), .inl (0, (48, .inl (fun _ => nI 0))), .inl (0, (48, .inl (fun _ => nI 0)))]) 18 306 rfl rfl rfl rfl d_M_init_31 w_102 rfl (fun cA => rfl) rfl (by decide) (by decide) ?_
  refine am_putF F_M 5 (by decide) d_M_init_33 w_655 rfl rfl rfl rfl (Nat.le_of_ble_eq_true rfl) rfl rfl ?_
  refine am_hq (h2 := (hx A.1 A.2.1 A.2.2.1 A.2.2.2.1 A.2.2.2.2.1 A.2.2.2.2.2 [.inr (5, [.int (nI 0), .int (nI 0), .ref 31, .ref 32, .ref 33, .ref 34, .int (nI 0), .null, .null, .null, .null, .int (nI 0), .null, .null, .null, .null, .long (lN 0), .null, .null, .int (zI false), .int (zI false), .int (nI 0), .null, .null, .null, .null, .null, .long (lN 0), .long (lN 0), .int (nI 0), .int (nI 0), .null, .null, .null]), .inl (0, (6, .inl (fun _ => nI 0))), .inl (0, (6, .inl (fun _ => nI 0))), .inl (0, (48, .inl (fun _ => nI 0))), .inl (0, (48, .inl (fun _ => nI 0)))])) rfl ?_
  refine am_aload_n d_M_init_36 rfl rfl ?_
  refine am_bipush (v := nI 6) d_M_init_37 (by decide) ?_
  refine am_newX (t := 0) (NN := 6) (a0 := (6, .inl (fun _ => nI 0))) 35 (hx A.1 A.2.1 A.2.2.1 A.2.2.2.1 A.2.2.2.2.1 A.2.2.2.2.2 [.inr (5, [.int (nI 0), .int (nI 0), .ref 31, .ref 32, .ref 33, .ref 34, .int (nI 0), .null, .null, .null, .null, .int (nI 0), .null, .null, .null, .null, .long (lN 0), .null, .null, .int (zI false), .int (zI false), .int (nI 0), .null, .null, .null, .null, .null, .long (lN 0), .long (lN 0), .int (nI 0), .int (nI 0), .null, .null, .null]), .inl (0, (6, .inl (fun _ => nI 0))), .inl (0, (6, .inl (fun _ => nI 0))), .inl (0, (48, .inl (fun _ => nI 0))), .inl (0, (48, .inl (fun _ => nI 0))), .inl (0, (6, .inl (fun _ => nI 0)))]) 17 300 rfl rfl rfl rfl d_M_init_39 w_102 rfl (fun cA => rfl) rfl (by decide) (by decide) ?_
  refine am_putF F_M 7 (by decide) d_M_init_41 w_657 rfl rfl rfl rfl (Nat.le_of_ble_eq_true rfl) rfl rfl ?_
  refine am_hq (h2 := (hx A.1 A.2.1 A.2.2.1 A.2.2.2.1 A.2.2.2.2.1 A.2.2.2.2.2 [.inr (5, [.int (nI 0), .int (nI 0), .ref 31, .ref 32, .ref 33, .ref 34, .int (nI 0), .ref 35, .null, .null, .null, .int (nI 0), .null, .null, .null, .null, .long (lN 0), .null, .null, .int (zI false), .int (zI false), .int (nI 0), .null, .null, .null, .null, .null, .long (lN 0), .long (lN 0), .int (nI 0), .int (nI 0), .null, .null, .null]), .inl (0, (6, .inl (fun _ => nI 0))), .inl (0, (6, .inl (fun _ => nI 0))), .inl (0, (48, .inl (fun _ => nI 0))), .inl (0, (48, .inl (fun _ => nI 0))), .inl (0, (6, .inl (fun _ => nI 0)))])) rfl ?_
  refine am_aload_n d_M_init_44 rfl rfl ?_
  refine am_bipush (v := nI 6) d_M_init_45 (by decide) ?_
  refine am_newX (t := 0) (NN := 6) (a0 := (6, .inl (fun _ => nI 0))) 36 (hx A.1 A.2.1 A.2.2.1 A.2.2.2.1 A.2.2.2.2.1 A.2.2.2.2.2 [.inr (5, [.int (nI 0), .int (nI 0), .ref 31, .ref 32, .ref 33, .ref 34, .int (nI 0), .ref 35, .null, .null, .null, .int (nI 0), .null, .null, .null, .null, .long (lN 0), .null, .null, .int (zI false), .int (zI false), .int (nI 0), .null, .null, .null, .null, .null, .long (lN 0), .long (lN 0), .int (nI 0), .int (nI 0), .null, .null, .null]), .inl (0, (6, .inl (fun _ => nI 0))), .inl (0, (6, .inl (fun _ => nI 0))), .inl (0, (48, .inl (fun _ => nI 0))), .inl (0, (48, .inl (fun _ => nI 0))), .inl (0, (6, .inl (fun _ => nI 0))), .inl (0, (6, .inl (fun _ => nI 0)))]) 16 294 rfl rfl rfl rfl d_M_init_47 w_102 rfl (fun cA => rfl) rfl (by decide) (by decide) ?_
  refine am_putF F_M 8 (by decide) d_M_init_49 w_658 rfl rfl rfl rfl (Nat.le_of_ble_eq_true rfl) rfl rfl ?_
  refine am_hq (h2 := (hx A.1 A.2.1 A.2.2.1 A.2.2.2.1 A.2.2.2.2.1 A.2.2.2.2.2 [.inr (5, [.int (nI 0), .int (nI 0), .ref 31, .ref 32, .ref 33, .ref 34, .int (nI 0), .ref 35, .ref 36, .null, .null, .int (nI 0), .null, .null, .null, .null, .long (lN 0), .null, .null, .int (zI false), .int (zI false), .int (nI 0), .null, .null, .null, .null, .null, .long (lN 0), .long (lN 0), .int (nI 0), .int (nI 0), .null, .null, .null]), .inl (0, (6, .inl (fun _ => nI 0))), .inl (0, (6, .inl (fun _ => nI 0))), .inl (0, (48, .inl (fun _ => nI 0))), .inl (0, (48, .inl (fun _ => nI 0))), .inl (0, (6, .inl (fun _ => nI 0))), .inl (0, (6, .inl (fun _ => nI 0)))])) rfl ?_
  refine am_aload_n d_M_init_52 rfl rfl ?_
  refine am_bipush (v := nI 6) d_M_init_53 (by decide) ?_
  refine am_newX (t := 0) (NN := 6) (a0 := (6, .inl (fun _ => nI 0))) 37 (hx A.1 A.2.1 A.2.2.1 A.2.2.2.1 A.2.2.2.2.1 A.2.2.2.2.2 [.inr (5, [.int (nI 0), .int (nI 0), .ref 31, .ref 32, .ref 33, .ref 34, .int (nI 0), .ref 35, .ref 36, .null, .null, .int (nI 0), .null, .null, .null, .null, .long (lN 0), .null, .null, .int (zI false), .int (zI false), .int (nI 0), .null, .null, .null, .null, .null, .long (lN 0), .long (lN 0), .int (nI 0), .int (nI 0), .null, .null, .null]), .inl (0, (6, .inl (fun _ => nI 0))), .inl (0, (6, .inl (fun _ => nI 0))), .inl (0, (48, .inl (fun _ => nI 0))), .inl (0, (48, .inl (fun _ => nI 0))), .inl (0, (6, .inl (fun _ => nI 0))), .inl (0, (6, .inl (fun _ => nI 0))), .inl (0, (6, .inl (fun _ => nI 0)))]) 15 288 rfl rfl rfl rfl d_M_init_55 w_102 rfl (fun cA => rfl) rfl (by decide) (by decide) ?_
  refine am_putF F_M 9 (by decide) d_M_init_57 w_659 rfl rfl rfl rfl (Nat.le_of_ble_eq_true rfl) rfl rfl ?_
  refine am_hq (h2 := (hx A.1 A.2.1 A.2.2.1 A.2.2.2.1 A.2.2.2.2.1 A.2.2.2.2.2 [.inr (5, [.int (nI 0), .int (nI 0), .ref 31, .ref 32, .ref 33, .ref 34, .int (nI 0), .ref 35, .ref 36, .ref 37, .null, .int (nI 0), .null, .null, .null, .null, .long (lN 0), .null, .null, .int (zI false), .int (zI false), .int (nI 0), .null, .null, .null, .null, .null, .long (lN 0), .long (lN 0), .int (nI 0), .int (nI 0), .null, .null, .null]), .inl (0, (6, .inl (fun _ => nI 0))), .inl (0, (6, .inl (fun _ => nI 0))), .inl (0, (48, .inl (fun _ => nI 0))), .inl (0, (48, .inl (fun _ => nI 0))), .inl (0, (6, .inl (fun _ => nI 0))), .inl (0, (6, .inl (fun _ => nI 0))), .inl (0, (6, .inl (fun _ => nI 0)))])) rfl ?_
  refine am_aload_n d_M_init_60 rfl rfl ?_
  refine am_bipush (v := nI 24) d_M_init_61 (by decide) ?_
  refine am_newX (t := 0) (NN := 24) (a0 := (24, .inl (fun _ => nI 0))) 38 (hx A.1 A.2.1 A.2.2.1 A.2.2.2.1 A.2.2.2.2.1 A.2.2.2.2.2 [.inr (5, [.int (nI 0), .int (nI 0), .ref 31, .ref 32, .ref 33, .ref 34, .int (nI 0), .ref 35, .ref 36, .ref 37, .null, .int (nI 0), .null, .null, .null, .null, .long (lN 0), .null, .null, .int (zI false), .int (zI false), .int (nI 0), .null, .null, .null, .null, .null, .long (lN 0), .long (lN 0), .int (nI 0), .int (nI 0), .null, .null, .null]), .inl (0, (6, .inl (fun _ => nI 0))), .inl (0, (6, .inl (fun _ => nI 0))), .inl (0, (48, .inl (fun _ => nI 0))), .inl (0, (48, .inl (fun _ => nI 0))), .inl (0, (6, .inl (fun _ => nI 0))), .inl (0, (6, .inl (fun _ => nI 0))), .inl (0, (6, .inl (fun _ => nI 0))), .inl (0, (24, .inl (fun _ => nI 0)))]) 14 264 rfl rfl rfl rfl d_M_init_63 w_102 rfl (fun cA => rfl) rfl (by decide) (by decide) ?_
  refine am_putF F_M 10 (by decide) d_M_init_65 w_660 rfl rfl rfl rfl (Nat.le_of_ble_eq_true rfl) rfl rfl ?_
  refine am_hq (h2 := (hx A.1 A.2.1 A.2.2.1 A.2.2.2.1 A.2.2.2.2.1 A.2.2.2.2.2 [.inr (5, [.int (nI 0), .int (nI 0), .ref 31, .ref 32, .ref 33, .ref 34, .int (nI 0), .ref 35, .ref 36, .ref 37, .ref 38, .int (nI 0), .null, .null, .null, .null, .long (lN 0), .null, .null, .int (zI false), .int (zI false), .int (nI 0), .null, .null, .null, .null, .null, .long (lN 0), .long (lN 0), .int (nI 0), .int (nI 0), .null, .null, .null]), .inl (0, (6, .inl (fun _ => nI 0))), .inl (0, (6, .inl (fun _ => nI 0))), .inl (0, (48, .inl (fun _ => nI 0))), .inl (0, (48, .inl (fun _ => nI 0))), .inl (0, (6, .inl (fun _ => nI 0))), .inl (0, (6, .inl (fun _ => nI 0))), .inl (0, (6, .inl (fun _ => nI 0))), .inl (0, (24, .inl (fun _ => nI 0)))])) rfl ?_
  refine am_aload_n d_M_init_68 rfl rfl ?_
  refine am_bipush (v := nI 24) d_M_init_69 (by decide) ?_
  refine am_newX (t := 0) (NN := 24) (a0 := (24, .inl (fun _ => nI 0))) 39 (hx A.1 A.2.1 A.2.2.1 A.2.2.2.1 A.2.2.2.2.1 A.2.2.2.2.2 [.inr (5, [.int (nI 0), .int (nI 0), .ref 31, .ref 32, .ref 33, .ref 34, .int (nI 0), .ref 35, .ref 36, .ref 37, .ref 38, .int (nI 0), .null, .null, .null, .null, .long (lN 0), .null, .null, .int (zI false), .int (zI false), .int (nI 0), .null, .null, .null, .null, .null, .long (lN 0), .long (lN 0), .int (nI 0), .int (nI 0), .null, .null, .null]), .inl (0, (6, .inl (fun _ => nI 0))), .inl (0, (6, .inl (fun _ => nI 0))), .inl (0, (48, .inl (fun _ => nI 0))), .inl (0, (48, .inl (fun _ => nI 0))), .inl (0, (6, .inl (fun _ => nI 0))), .inl (0, (6, .inl (fun _ => nI 0))), .inl (0, (6, .inl (fun _ => nI 0))), .inl (0, (24, .inl (fun _ => nI 0))), .inl (0, (24, .inl (fun _ => nI 0)))]) 13 240 rfl rfl rfl rfl d_M_init_71 w_102 rfl (fun cA => rfl) rfl (by decide) (by decide) ?_
  refine am_putF F_M 12 (by decide) d_M_init_73 w_662 rfl rfl rfl rfl (Nat.le_of_ble_eq_true rfl) rfl rfl ?_
  refine am_hq (h2 := (hx A.1 A.2.1 A.2.2.1 A.2.2.2.1 A.2.2.2.2.1 A.2.2.2.2.2 [.inr (5, [.int (nI 0), .int (nI 0), .ref 31, .ref 32, .ref 33, .ref 34, .int (nI 0), .ref 35, .ref 36, .ref 37, .ref 38, .int (nI 0), .ref 39, .null, .null, .null, .long (lN 0), .null, .null, .int (zI false), .int (zI false), .int (nI 0), .null, .null, .null, .null, .null, .long (lN 0), .long (lN 0), .int (nI 0), .int (nI 0), .null, .null, .null]), .inl (0, (6, .inl (fun _ => nI 0))), .inl (0, (6, .inl (fun _ => nI 0))), .inl (0, (48, .inl (fun _ => nI 0))), .inl (0, (48, .inl (fun _ => nI 0))), .inl (0, (6, .inl (fun _ => nI 0))), .inl (0, (6, .inl (fun _ => nI 0))), .inl (0, (6, .inl (fun _ => nI 0))), .inl (0, (24, .inl (fun _ => nI 0))), .inl (0, (24, .inl (fun _ => nI 0)))])) rfl ?_
  refine am_aload_n d_M_init_76 rfl rfl ?_
  refine am_bipush (v := nI 24) d_M_init_77 (by decide) ?_
  refine am_newX (t := 0) (NN := 24) (a0 := (24, .inl (fun _ => nI 0))) 40 (hx A.1 A.2.1 A.2.2.1 A.2.2.2.1 A.2.2.2.2.1 A.2.2.2.2.2 [.inr (5, [.int (nI 0), .int (nI 0), .ref 31, .ref 32, .ref 33, .ref 34, .int (nI 0), .ref 35, .ref 36, .ref 37, .ref 38, .int (nI 0), .ref 39, .null, .null, .null, .long (lN 0), .null, .null, .int (zI false), .int (zI false), .int (nI 0), .null, .null, .null, .null, .null, .long (lN 0), .long (lN 0), .int (nI 0), .int (nI 0), .null, .null, .null]), .inl (0, (6, .inl (fun _ => nI 0))), .inl (0, (6, .inl (fun _ => nI 0))), .inl (0, (48, .inl (fun _ => nI 0))), .inl (0, (48, .inl (fun _ => nI 0))), .inl (0, (6, .inl (fun _ => nI 0))), .inl (0, (6, .inl (fun _ => nI 0))), .inl (0, (6, .inl (fun _ => nI 0))), .inl (0, (24, .inl (fun _ => nI 0))), .inl (0, (24, .inl (fun _ => nI 0))), .inl (0, (24, .inl (fun _ => nI 0)))]) 12 216 rfl rfl rfl rfl d_M_init_79 w_102 rfl (fun cA => rfl) rfl (by decide) (by decide) ?_
  refine am_putF F_M 13 (by decide) d_M_init_81 w_663 rfl rfl rfl rfl (Nat.le_of_ble_eq_true rfl) rfl rfl ?_
  refine am_hq (h2 := (hx A.1 A.2.1 A.2.2.1 A.2.2.2.1 A.2.2.2.2.1 A.2.2.2.2.2 [.inr (5, [.int (nI 0), .int (nI 0), .ref 31, .ref 32, .ref 33, .ref 34, .int (nI 0), .ref 35, .ref 36, .ref 37, .ref 38, .int (nI 0), .ref 39, .ref 40, .null, .null, .long (lN 0), .null, .null, .int (zI false), .int (zI false), .int (nI 0), .null, .null, .null, .null, .null, .long (lN 0), .long (lN 0), .int (nI 0), .int (nI 0), .null, .null, .null]), .inl (0, (6, .inl (fun _ => nI 0))), .inl (0, (6, .inl (fun _ => nI 0))), .inl (0, (48, .inl (fun _ => nI 0))), .inl (0, (48, .inl (fun _ => nI 0))), .inl (0, (6, .inl (fun _ => nI 0))), .inl (0, (6, .inl (fun _ => nI 0))), .inl (0, (6, .inl (fun _ => nI 0))), .inl (0, (24, .inl (fun _ => nI 0))), .inl (0, (24, .inl (fun _ => nI 0))), .inl (0, (24, .inl (fun _ => nI 0)))])) rfl ?_
  refine am_aload_n d_M_init_84 rfl rfl ?_
  refine am_bipush (v := nI 24) d_M_init_85 (by decide) ?_
  refine am_newX (t := 0) (NN := 24) (a0 := (24, .inl (fun _ => nI 0))) 41 (hx A.1 A.2.1 A.2.2.1 A.2.2.2.1 A.2.2.2.2.1 A.2.2.2.2.2 [.inr (5, [.int (nI 0), .int (nI 0), .ref 31, .ref 32, .ref 33, .ref 34, .int (nI 0), .ref 35, .ref 36, .ref 37, .ref 38, .int (nI 0), .ref 39, .ref 40, .null, .null, .long (lN 0), .null, .null, .int (zI false), .int (zI false), .int (nI 0), .null, .null, .null, .null, .null, .long (lN 0), .long (lN 0), .int (nI 0), .int (nI 0), .null, .null, .null]), .inl (0, (6, .inl (fun _ => nI 0))), .inl (0, (6, .inl (fun _ => nI 0))), .inl (0, (48, .inl (fun _ => nI 0))), .inl (0, (48, .inl (fun _ => nI 0))), .inl (0, (6, .inl (fun _ => nI 0))), .inl (0, (6, .inl (fun _ => nI 0))), .inl (0, (6, .inl (fun _ => nI 0))), .inl (0, (24, .inl (fun _ => nI 0))), .inl (0, (24, .inl (fun _ => nI 0))), .inl (0, (24, .inl (fun _ => nI 0))), .inl (0, (24, .inl (fun _ => nI 0)))]) 11 192 rfl rfl rfl rfl d_M_init_87 w_102 rfl (fun cA => rfl) rfl (by decide) (by decide) ?_
  refine am_putF F_M 14 (by decide) d_M_init_89 w_664 rfl rfl rfl rfl (Nat.le_of_ble_eq_true rfl) rfl rfl ?_
  refine am_hq (h2 := (hx A.1 A.2.1 A.2.2.1 A.2.2.2.1 A.2.2.2.2.1 A.2.2.2.2.2 [.inr (5, [.int (nI 0), .int (nI 0), .ref 31, .ref 32, .ref 33, .ref 34, .int (nI 0), .ref 35, .ref 36, .ref 37, .ref 38, .int (nI 0), .ref 39, .ref 40, .ref 41, .null, .long (lN 0), .null, .null, .int (zI false), .int (zI false), .int (nI 0), .null, .null, .null, .null, .null, .long (lN 0), .long (lN 0), .int (nI 0), .int (nI 0), .null, .null, .null]), .inl (0, (6, .inl (fun _ => nI 0))), .inl (0, (6, .inl (fun _ => nI 0))), .inl (0, (48, .inl (fun _ => nI 0))), .inl (0, (48, .inl (fun _ => nI 0))), .inl (0, (6, .inl (fun _ => nI 0))), .inl (0, (6, .inl (fun _ => nI 0))), .inl (0, (6, .inl (fun _ => nI 0))), .inl (0, (24, .inl (fun _ => nI 0))), .inl (0, (24, .inl (fun _ => nI 0))), .inl (0, (24, .inl (fun _ => nI 0))), .inl (0, (24, .inl (fun _ => nI 0)))])) rfl ?_
  refine am_aload_n d_M_init_92 rfl rfl ?_
  refine am_bipush (v := nI 24) d_M_init_93 (by decide) ?_
  refine am_newX (t := 0) (NN := 24) (a0 := (24, .inl (fun _ => nI 0))) 42 (hx A.1 A.2.1 A.2.2.1 A.2.2.2.1 A.2.2.2.2.1 A.2.2.2.2.2 [.inr (5, [.int (nI 0), .int (nI 0), .ref 31, .ref 32, .ref 33, .ref 34, .int (nI 0), .ref 35, .ref 36, .ref 37, .ref 38, .int (nI 0), .ref 39, .ref 40, .ref 41, .null, .long (lN 0), .null, .null, .int (zI false), .int (zI false), .int (nI 0), .null, .null, .null, .null, .null, .long (lN 0), .long (lN 0), .int (nI 0), .int (nI 0), .null, .null, .null]), .inl (0, (6, .inl (fun _ => nI 0))), .inl (0, (6, .inl (fun _ => nI 0))), .inl (0, (48, .inl (fun _ => nI 0))), .inl (0, (48, .inl (fun _ => nI 0))), .inl (0, (6, .inl (fun _ => nI 0))), .inl (0, (6, .inl (fun _ => nI 0))), .inl (0, (6, .inl (fun _ => nI 0))), .inl (0, (24, .inl (fun _ => nI 0))), .inl (0, (24, .inl (fun _ => nI 0))), .inl (0, (24, .inl (fun _ => nI 0))), .inl (0, (24, .inl (fun _ => nI 0))), .inl (0, (24, .inl (fun _ => nI 0)))]) 10 168 rfl rfl rfl rfl d_M_init_95 w_102 rfl (fun cA => rfl) rfl (by decide) (by decide) ?_
  refine am_putF F_M 15 (by decide) d_M_init_97 w_665 rfl rfl rfl rfl (Nat.le_of_ble_eq_true rfl) rfl rfl ?_
  refine am_hq (h2 := (hx A.1 A.2.1 A.2.2.1 A.2.2.2.1 A.2.2.2.2.1 A.2.2.2.2.2 [.inr (5, [.int (nI 0), .int (nI 0), .ref 31, .ref 32, .ref 33, .ref 34, .int (nI 0), .ref 35, .ref 36, .ref 37, .ref 38, .int (nI 0), .ref 39, .ref 40, .ref 41, .ref 42, .long (lN 0), .null, .null, .int (zI false), .int (zI false), .int (nI 0), .null, .null, .null, .null, .null, .long (lN 0), .long (lN 0), .int (nI 0), .int (nI 0), .null, .null, .null]), .inl (0, (6, .inl (fun _ => nI 0))), .inl (0, (6, .inl (fun _ => nI 0))), .inl (0, (48, .inl (fun _ => nI 0))), .inl (0, (48, .inl (fun _ => nI 0))), .inl (0, (6, .inl (fun _ => nI 0))), .inl (0, (6, .inl (fun _ => nI 0))), .inl (0, (6, .inl (fun _ => nI 0))), .inl (0, (24, .inl (fun _ => nI 0))), .inl (0, (24, .inl (fun _ => nI 0))), .inl (0, (24, .inl (fun _ => nI 0))), .inl (0, (24, .inl (fun _ => nI 0))), .inl (0, (24, .inl (fun _ => nI 0)))])) rfl ?_
  refine am_aload_n d_M_init_100 rfl rfl ?_
  refine am_bipush (v := nI 24) d_M_init_101 (by decide) ?_
  refine am_newX (t := 0) (NN := 24) (a0 := (24, .inl (fun _ => nI 0))) 43 (hx A.1 A.2.1 A.2.2.1 A.2.2.2.1 A.2.2.2.2.1 A.2.2.2.2.2 [.inr (5, [.int (nI 0), .int (nI 0), .ref 31, .ref 32, .ref 33, .ref 34, .int (nI 0), .ref 35, .ref 36, .ref 37, .ref 38, .int (nI 0), .ref 39, .ref 40, .ref 41, .ref 42, .long (lN 0), .null, .null, .int (zI false), .int (zI false), .int (nI 0), .null, .null, .null, .null, .null, .long (lN 0), .long (lN 0), .int (nI 0), .int (nI 0), .null, .null, .null]), .inl (0, (6, .inl (fun _ => nI 0))), .inl (0, (6, .inl (fun _ => nI 0))), .inl (0, (48, .inl (fun _ => nI 0))), .inl (0, (48, .inl (fun _ => nI 0))), .inl (0, (6, .inl (fun _ => nI 0))), .inl (0, (6, .inl (fun _ => nI 0))), .inl (0, (6, .inl (fun _ => nI 0))), .inl (0, (24, .inl (fun _ => nI 0))), .inl (0, (24, .inl (fun _ => nI 0))), .inl (0, (24, .inl (fun _ => nI 0))), .inl (0, (24, .inl (fun _ => nI 0))), .inl (0, (24, .inl (fun _ => nI 0))), .inl (0, (24, .inl (fun _ => nI 0)))]) 9 144 rfl rfl rfl rfl d_M_init_103 w_102 rfl (fun cA => rfl) rfl (by decide) (by decide) ?_
  refine am_putF F_M 17 (by decide) d_M_init_105 w_667 rfl rfl rfl rfl (Nat.le_of_ble_eq_true rfl) rfl rfl ?_
  refine am_hq (h2 := (hx A.1 A.2.1 A.2.2.1 A.2.2.2.1 A.2.2.2.2.1 A.2.2.2.2.2 [.inr (5, [.int (nI 0), .int (nI 0), .ref 31, .ref 32, .ref 33, .ref 34, .int (nI 0), .ref 35, .ref 36, .ref 37, .ref 38, .int (nI 0), .ref 39, .ref 40, .ref 41, .ref 42, .long (lN 0), .ref 43, .null, .int (zI false), .int (zI false), .int (nI 0), .null, .null, .null, .null, .null, .long (lN 0), .long (lN 0), .int (nI 0), .int (nI 0), .null, .null, .null]), .inl (0, (6, .inl (fun _ => nI 0))), .inl (0, (6, .inl (fun _ => nI 0))), .inl (0, (48, .inl (fun _ => nI 0))), .inl (0, (48, .inl (fun _ => nI 0))), .inl (0, (6, .inl (fun _ => nI 0))), .inl (0, (6, .inl (fun _ => nI 0))), .inl (0, (6, .inl (fun _ => nI 0))), .inl (0, (24, .inl (fun _ => nI 0))), .inl (0, (24, .inl (fun _ => nI 0))), .inl (0, (24, .inl (fun _ => nI 0))), .inl (0, (24, .inl (fun _ => nI 0))), .inl (0, (24, .inl (fun _ => nI 0))), .inl (0, (24, .inl (fun _ => nI 0)))])) rfl ?_
  refine am_aload_n d_M_init_108 rfl rfl ?_
  refine am_bipush (v := nI 24) d_M_init_109 (by decide) ?_
  refine am_newX (t := 0) (NN := 24) (a0 := (24, .inl (fun _ => nI 0))) 44 (hx A.1 A.2.1 A.2.2.1 A.2.2.2.1 A.2.2.2.2.1 A.2.2.2.2.2 [.inr (5, [.int (nI 0), .int (nI 0), .ref 31, .ref 32, .ref 33, .ref 34, .int (nI 0), .ref 35, .ref 36, .ref 37, .ref 38, .int (nI 0), .ref 39, .ref 40, .ref 41, .ref 42, .long (lN 0), .ref 43, .null, .int (zI false), .int (zI false), .int (nI 0), .null, .null, .null, .null, .null, .long (lN 0), .long (lN 0), .int (nI 0), .int (nI 0), .null, .null, .null]), .inl (0, (6, .inl (fun _ => nI 0))), .inl (0, (6, .inl (fun _ => nI 0))), .inl (0, (48, .inl (fun _ => nI 0))), .inl (0, (48, .inl (fun _ => nI 0))), .inl (0, (6, .inl (fun _ => nI 0))), .inl (0, (6, .inl (fun _ => nI 0))), .inl (0, (6, .inl (fun _ => nI 0))), .inl (0, (24, .inl (fun _ => nI 0))), .inl (0, (24, .inl (fun _ => nI 0))), .inl (0, (24, .inl (fun _ => nI 0))), .inl (0, (24, .inl (fun _ => nI 0))), .inl (0, (24, .inl (fun _ => nI 0))), .inl (0, (24, .inl (fun _ => nI 0))), .inl (0, (24, .inl (fun _ => nI 0)))]) 8 120 rfl rfl rfl rfl d_M_init_111 w_102 rfl (fun cA => rfl) rfl (by decide) (by decide) ?_
  refine am_putF F_M 18 (by decide) d_M_init_113 w_668 rfl rfl rfl rfl (Nat.le_of_ble_eq_true rfl) rfl rfl ?_
  refine am_hq (h2 := (hx A.1 A.2.1 A.2.2.1 A.2.2.2.1 A.2.2.2.2.1 A.2.2.2.2.2 [.inr (5, [.int (nI 0), .int (nI 0), .ref 31, .ref 32, .ref 33, .ref 34, .int (nI 0), .ref 35, .ref 36, .ref 37, .ref 38, .int (nI 0), .ref 39, .ref 40, .ref 41, .ref 42, .long (lN 0), .ref 43, .ref 44, .int (zI false), .int (zI false), .int (nI 0), .null, .null, .null, .null, .null, .long (lN 0), .long (lN 0), .int (nI 0), .int (nI 0), .null, .null, .null]), .inl (0, (6, .inl (fun _ => nI 0))), .inl (0, (6, .inl (fun _ => nI 0))), .inl (0, (48, .inl (fun _ => nI 0))), .inl (0, (48, .inl (fun _ => nI 0))), .inl (0, (6, .inl (fun _ => nI 0))), .inl (0, (6, .inl (fun _ => nI 0))), .inl (0, (6, .inl (fun _ => nI 0))), .inl (0, (24, .inl (fun _ => nI 0))), .inl (0, (24, .inl (fun _ => nI 0))), .inl (0, (24, .inl (fun _ => nI 0))), .inl (0, (24, .inl (fun _ => nI 0))), .inl (0, (24, .inl (fun _ => nI 0))), .inl (0, (24, .inl (fun _ => nI 0))), .inl (0, (24, .inl (fun _ => nI 0)))])) rfl ?_
  refine am_aload_n d_M_init_116 rfl rfl ?_
  refine am_bipush (v := nI 6) d_M_init_117 (by decide) ?_
  refine am_newX (t := 0) (NN := 6) (a0 := (6, .inl (fun _ => nI 0))) 45 (hx A.1 A.2.1 A.2.2.1 A.2.2.2.1 A.2.2.2.2.1 A.2.2.2.2.2 [.inr (5, [.int (nI 0), .int (nI 0), .ref 31, .ref 32, .ref 33, .ref 34, .int (nI 0), .ref 35, .ref 36, .ref 37, .ref 38, .int (nI 0), .ref 39, .ref 40, .ref 41, .ref 42, .long (lN 0), .ref 43, .ref 44, .int (zI false), .int (zI false), .int (nI 0), .null, .null, .null, .null, .null, .long (lN 0), .long (lN 0), .int (nI 0), .int (nI 0), .null, .null, .null]), .inl (0, (6, .inl (fun _ => nI 0))), .inl (0, (6, .inl (fun _ => nI 0))), .inl (0, (48, .inl (fun _ => nI 0))), .inl (0, (48, .inl (fun _ => nI 0))), .inl (0, (6, .inl (fun _ => nI 0))), .inl (0, (6, .inl (fun _ => nI 0))), .inl (0, (6, .inl (fun _ => nI 0))), .inl (0, (24, .inl (fun _ => nI 0))), .inl (0, (24, .inl (fun _ => nI 0))), .inl (0, (24, .inl (fun _ => nI 0))), .inl (0, (24, .inl (fun _ => nI 0))), .inl (0, (24, .inl (fun _ => nI 0))), .inl (0, (24, .inl (fun _ => nI 0))), .inl (0, (24, .inl (fun _ => nI 0))), .inl (0, (6, .inl (fun _ => nI 0)))]) 7 114 rfl rfl rfl rfl d_M_init_119 w_102 rfl (fun cA => rfl) rfl (by decide) (by decide) ?_
  refine am_putF F_M 22 (by decide) d_M_init_121 w_672 rfl rfl rfl rfl (Nat.le_of_ble_eq_true rfl) rfl rfl ?_
  refine am_hq (h2 := (hx A.1 A.2.1 A.2.2.1 A.2.2.2.1 A.2.2.2.2.1 A.2.2.2.2.2 [.inr (5, [.int (nI 0), .int (nI 0), .ref 31, .ref 32, .ref 33, .ref 34, .int (nI 0), .ref 35, .ref 36, .ref 37, .ref 38, .int (nI 0), .ref 39, .ref 40, .ref 41, .ref 42, .long (lN 0), .ref 43, .ref 44, .int (zI false), .int (zI false), .int (nI 0), .ref 45, .null, .null, .null, .null, .long (lN 0), .long (lN 0), .int (nI 0), .int (nI 0), .null, .null, .null]), .inl (0, (6, .inl (fun _ => nI 0))), .inl (0, (6, .inl (fun _ => nI 0))), .inl (0, (48, .inl (fun _ => nI 0))), .inl (0, (48, .inl (fun _ => nI 0))), .inl (0, (6, .inl (fun _ => nI 0))), .inl (0, (6, .inl (fun _ => nI 0))), .inl (0, (6, .inl (fun _ => nI 0))), .inl (0, (24, .inl (fun _ => nI 0))), .inl (0, (24, .inl (fun _ => nI 0))), .inl (0, (24, .inl (fun _ => nI 0))), .inl (0, (24, .inl (fun _ => nI 0))), .inl (0, (24, .inl (fun _ => nI 0))), .inl (0, (24, .inl (fun _ => nI 0))), .inl (0, (24, .inl (fun _ => nI 0))), .inl (0, (6, .inl (fun _ => nI 0)))])) rfl ?_
  refine am_aload_n d_M_init_124 rfl rfl ?_
  refine am_bipush (v := nI 24) d_M_init_125 (by decide) ?_
  refine am_newX (t := 0) (NN := 24) (a0 := (24, .inl (fun _ => nI 0))) 46 (hx A.1 A.2.1 A.2.2.1 A.2.2.2.1 A.2.2.2.2.1 A.2.2.2.2.2 [.inr (5, [.int (nI 0), .int (nI 0), .ref 31, .ref 32, .ref 33, .ref 34, .int (nI 0), .ref 35, .ref 36, .ref 37, .ref 38, .int (nI 0), .ref 39, .ref 40, .ref 41, .ref 42, .long (lN 0), .ref 43, .ref 44, .int (zI false), .int (zI false), .int (nI 0), .ref 45, .null, .null, .null, .null, .long (lN 0), .long (lN 0), .int (nI 0), .int (nI 0), .null, .null, .null]), .inl (0, (6, .inl (fun _ => nI 0))), .inl (0, (6, .inl (fun _ => nI 0))), .inl (0, (48, .inl (fun _ => nI 0))), .inl (0, (48, .inl (fun _ => nI 0))), .inl (0, (6, .inl (fun _ => nI 0))), .inl (0, (6, .inl (fun _ => nI 0))), .inl (0, (6, .inl (fun _ => nI 0))), .inl (0, (24, .inl (fun _ => nI 0))), .inl (0, (24, .inl (fun _ => nI 0))), .inl (0, (24, .inl (fun _ => nI 0))), .inl (0, (24, .inl (fun _ => nI 0))), .inl (0, (24, .inl (fun _ => nI 0))), .inl (0, (24, .inl (fun _ => nI 0))), .inl (0, (24, .inl (fun _ => nI 0))), .inl (0, (6, .inl (fun _ => nI 0))), .inl (0, (24, .inl (fun _ => nI 0)))]) 6 90 rfl rfl rfl rfl d_M_init_127 w_102 rfl (fun cA => rfl) rfl (by decide) (by decide) ?_
  refine am_putF F_M 23 (by decide) d_M_init_129 w_673 rfl rfl rfl rfl (Nat.le_of_ble_eq_true rfl) rfl rfl ?_
  refine am_hq (h2 := (hx A.1 A.2.1 A.2.2.1 A.2.2.2.1 A.2.2.2.2.1 A.2.2.2.2.2 [.inr (5, [.int (nI 0), .int (nI 0), .ref 31, .ref 32, .ref 33, .ref 34, .int (nI 0), .ref 35, .ref 36, .ref 37, .ref 38, .int (nI 0), .ref 39, .ref 40, .ref 41, .ref 42, .long (lN 0), .ref 43, .ref 44, .int (zI false), .int (zI false), .int (nI 0), .ref 45, .ref 46, .null, .null, .null, .long (lN 0), .long (lN 0), .int (nI 0), .int (nI 0), .null, .null, .null]), .inl (0, (6, .inl (fun _ => nI 0))), .inl (0, (6, .inl (fun _ => nI 0))), .inl (0, (48, .inl (fun _ => nI 0))), .inl (0, (48, .inl (fun _ => nI 0))), .inl (0, (6, .inl (fun _ => nI 0))), .inl (0, (6, .inl (fun _ => nI 0))), .inl (0, (6, .inl (fun _ => nI 0))), .inl (0, (24, .inl (fun _ => nI 0))), .inl (0, (24, .inl (fun _ => nI 0))), .inl (0, (24, .inl (fun _ => nI 0))), .inl (0, (24, .inl (fun _ => nI 0))), .inl (0, (24, .inl (fun _ => nI 0))), .inl (0, (24, .inl (fun _ => nI 0))), .inl (0, (24, .inl (fun _ => nI 0))), .inl (0, (6, .inl (fun _ => nI 0))), .inl (0, (24, .inl (fun _ => nI 0)))])) rfl ?_
  refine am_aload_n d_M_init_132 rfl rfl ?_
  refine am_bipush (v := nI 24) d_M_init_133 (by decide) ?_
  refine am_newX (t := 0) (NN := 24) (a0 := (24, .inl (fun _ => nI 0))) 47 (hx A.1 A.2.1 A.2.2.1 A.2.2.2.1 A.2.2.2.2.1 A.2.2.2.2.2 [.inr (5, [.int (nI 0), .int (nI 0), .ref 31, .ref 32, .ref 33, .ref 34, .int (nI 0), .ref 35, .ref 36, .ref 37, .ref 38, .int (nI 0), .ref 39, .ref 40, .ref 41, .ref 42, .long (lN 0), .ref 43, .ref 44, .int (zI false), .int (zI false), .int (nI 0), .ref 45, .ref 46, .null, .null, .null, .long (lN 0), .long (lN 0), .int (nI 0), .int (nI 0), .null, .null, .null]), .inl (0, (6, .inl (fun _ => nI 0))), .inl (0, (6, .inl (fun _ => nI 0))), .inl (0, (48, .inl (fun _ => nI 0))), .inl (0, (48, .inl (fun _ => nI 0))), .inl (0, (6, .inl (fun _ => nI 0))), .inl (0, (6, .inl (fun _ => nI 0))), .inl (0, (6, .inl (fun _ => nI 0))), .inl (0, (24, .inl (fun _ => nI 0))), .inl (0, (24, .inl (fun _ => nI 0))), .inl (0, (24, .inl (fun _ => nI 0))), .inl (0, (24, .inl (fun _ => nI 0))), .inl (0, (24, .inl (fun _ => nI 0))), .inl (0, (24, .inl (fun _ => nI 0))), .inl (0, (24, .inl (fun _ => nI 0))), .inl (0, (6, .inl (fun _ => nI 0))), .inl (0, (24, .inl (fun _ => nI 0))), .inl (0, (24, .inl (fun _ => nI 0)))]) 5 66 rfl rfl rfl rfl d_M_init_135 w_102 rfl (fun cA => rfl) rfl (by decide) (by decide) ?_
  refine am_putF F_M 24 (by decide) d_M_init_137 w_674 rfl rfl rfl rfl (Nat.le_of_ble_eq_true rfl) rfl rfl ?_
  refine am_hq (h2 := (hx A.1 A.2.1 A.2.2.1 A.2.2.2.1 A.2.2.2.2.1 A.2.2.2.2.2 [.inr (5, [.int (nI 0), .int (nI 0), .ref 31, .ref 32, .ref 33, .ref 34, .int (nI 0), .ref 35, .ref 36, .ref 37, .ref 38, .int (nI 0), .ref 39, .ref 40, .ref 41, .ref 42, .long (lN 0), .ref 43, .ref 44, .int (zI false), .int (zI false), .int (nI 0), .ref 45, .ref 46, .ref 47, .null, .null, .long (lN 0), .long (lN 0), .int (nI 0), .int (nI 0), .null, .null, .null]), .inl (0, (6, .inl (fun _ => nI 0))), .inl (0, (6, .inl (fun _ => nI 0))), .inl (0, (48, .inl (fun _ => nI 0))), .inl (0, (48, .inl (fun _ => nI 0))), .inl (0, (6, .inl (fun _ => nI 0))), .inl (0, (6, .inl (fun _ => nI 0))), .inl (0, (6, .inl (fun _ => nI 0))), .inl (0, (24, .inl (fun _ => nI 0))), .inl (0, (24, .inl (fun _ => nI 0))), .inl (0, (24, .inl (fun _ => nI 0))), .inl (0, (24, .inl (fun _ => nI 0))), .inl (0, (24, .inl (fun _ => nI 0))), .inl (0, (24, .inl (fun _ => nI 0))), .inl (0, (24, .inl (fun _ => nI 0))), .inl (0, (6, .inl (fun _ => nI 0))), .inl (0, (24, .inl (fun _ => nI 0))), .inl (0, (24, .inl (fun _ => nI 0)))])) rfl ?_
  refine am_aload_n d_M_init_140 rfl rfl ?_
  refine am_bipush (v := nI 24) d_M_init_141 (by decide) ?_
  refine am_newX (t := 0) (NN := 24) (a0 := (24, .inl (fun _ => nI 0))) 48 (hx A.1 A.2.1 A.2.2.1 A.2.2.2.1 A.2.2.2.2.1 A.2.2.2.2.2 [.inr (5, [.int (nI 0), .int (nI 0), .ref 31, .ref 32, .ref 33, .ref 34, .int (nI 0), .ref 35, .ref 36, .ref 37, .ref 38, .int (nI 0), .ref 39, .ref 40, .ref 41, .ref 42, .long (lN 0), .ref 43, .ref 44, .int (zI false), .int (zI false), .int (nI 0), .ref 45, .ref 46, .ref 47, .null, .null, .long (lN 0), .long (lN 0), .int (nI 0), .int (nI 0), .null, .null, .null]), .inl (0, (6, .inl (fun _ => nI 0))), .inl (0, (6, .inl (fun _ => nI 0))), .inl (0, (48, .inl (fun _ => nI 0))), .inl (0, (48, .inl (fun _ => nI 0))), .inl (0, (6, .inl (fun _ => nI 0))), .inl (0, (6, .inl (fun _ => nI 0))), .inl (0, (6, .inl (fun _ => nI 0))), .inl (0, (24, .inl (fun _ => nI 0))), .inl (0, (24, .inl (fun _ => nI 0))), .inl (0, (24, .inl (fun _ => nI 0))), .inl (0, (24, .inl (fun _ => nI 0))), .inl (0, (24, .inl (fun _ => nI 0))), .inl (0, (24, .inl (fun _ => nI 0))), .inl (0, (24, .inl (fun _ => nI 0))), .inl (0, (6, .inl (fun _ => nI 0))), .inl (0, (24, .inl (fun _ => nI 0))), .inl (0, (24, .inl (fun _ => nI 0))), .inl (0, (24, .inl (fun _ => nI 0)))]) 4 42 rfl rfl rfl rfl d_M_init_143 w_102 rfl (fun cA => rfl) rfl (by decide) (by decide) ?_
  refine am_putF F_M 25 (by decide) d_M_init_145 w_675 rfl rfl rfl rfl (Nat.le_of_ble_eq_true rfl) rfl rfl ?_
  refine am_hq (h2 := (hx A.1 A.2.1 A.2.2.1 A.2.2.2.1 A.2.2.2.2.1 A.2.2.2.2.2 [.inr (5, [.int (nI 0), .int (nI 0), .ref 31, .ref 32, .ref 33, .ref 34, .int (nI 0), .ref 35, .ref 36, .ref 37, .ref 38, .int (nI 0), .ref 39, .ref 40, .ref 41, .ref 42, .long (lN 0), .ref 43, .ref 44, .int (zI false), .int (zI false), .int (nI 0), .ref 45, .ref 46, .ref 47, .ref 48, .null, .long (lN 0), .long (lN 0), .int (nI 0), .int (nI 0), .null, .null, .null]), .inl (0, (6, .inl (fun _ => nI 0))), .inl (0, (6, .inl (fun _ => nI 0))), .inl (0, (48, .inl (fun _ => nI 0))), .inl (0, (48, .inl (fun _ => nI 0))), .inl (0, (6, .inl (fun _ => nI 0))), .inl (0, (6, .inl (fun _ => nI 0))), .inl (0, (6, .inl (fun _ => nI 0))), .inl (0, (24, .inl (fun _ => nI 0))), .inl (0, (24, .inl (fun _ => nI 0))), .inl (0, (24, .inl (fun _ => nI 0))), .inl (0, (24, .inl (fun _ => nI 0))), .inl (0, (24, .inl (fun _ => nI 0))), .inl (0, (24, .inl (fun _ => nI 0))), .inl (0, (24, .inl (fun _ => nI 0))), .inl (0, (6, .inl (fun _ => nI 0))), .inl (0, (24, .inl (fun _ => nI 0))), .inl (0, (24, .inl (fun _ => nI 0))), .inl (0, (24, .inl (fun _ => nI 0)))])) rfl ?_
  refine am_aload_n d_M_init_148 rfl rfl ?_
  refine am_bipush (v := nI 24) d_M_init_149 (by decide) ?_
  refine am_newX (t := 0) (NN := 24) (a0 := (24, .inl (fun _ => nI 0))) 49 (hx A.1 A.2.1 A.2.2.1 A.2.2.2.1 A.2.2.2.2.1 A.2.2.2.2.2 [.inr (5, [.int (nI 0), .int (nI 0), .ref 31, .ref 32, .ref 33, .ref 34, .int (nI 0), .ref 35, .ref 36, .ref 37, .ref 38, .int (nI 0), .ref 39, .ref 40, .ref 41, .ref 42, .long (lN 0), .ref 43, .ref 44, .int (zI false), .int (zI false), .int (nI 0), .ref 45, .ref 46, .ref 47, .ref 48, .null, .long (lN 0), .long (lN 0), .int (nI 0), .int (nI 0), .null, .null, .null]), .inl (0, (6, .inl (fun _ => nI 0))), .inl (0, (6, .inl (fun _ => nI 0))), .inl (0, (48, .inl (fun _ => nI 0))), .inl (0, (48, .inl (fun _ => nI 0))), .inl (0, (6, .inl (fun _ => nI 0))), .inl (0, (6, .inl (fun _ => nI 0))), .inl (0, (6, .inl (fun _ => nI 0))), .inl (0, (24, .inl (fun _ => nI 0))), .inl (0, (24, .inl (fun _ => nI 0))), .inl (0, (24, .inl (fun _ => nI 0))), .inl (0, (24, .inl (fun _ => nI 0))), .inl (0, (24, .inl (fun _ => nI 0))), .inl (0, (24, .inl (fun _ => nI 0))), .inl (0, (24, .inl (fun _ => nI 0))), .inl (0, (6, .inl (fun _ => nI 0))), .inl (0, (24, .inl (fun _ => nI 0))), .inl (0, (24, .inl (fun _ => nI 0))), .inl (0, (24, .inl (fun _ => nI 0))), .inl (0, (24, .inl (fun _ => nI 0)))]) 3 18 rfl rfl rfl rfl d_M_init_151 w_102 rfl (fun cA => rfl) rfl (by decide) (by decide) ?_
  refine am_putF F_M 26 (by decide) d_M_init_153 w_676 rfl rfl rfl rfl (Nat.le_of_ble_eq_true rfl) rfl rfl ?_
  refine am_hq (h2 := (hx A.1 A.2.1 A.2.2.1 A.2.2.2.1 A.2.2.2.2.1 A.2.2.2.2.2 [.inr (5, [.int (nI 0), .int (nI 0), .ref 31, .ref 32, .ref 33, .ref 34, .int (nI 0), .ref 35, .ref 36, .ref 37, .ref 38, .int (nI 0), .ref 39, .ref 40, .ref 41, .ref 42, .long (lN 0), .ref 43, .ref 44, .int (zI false), .int (zI false), .int (nI 0), .ref 45, .ref 46, .ref 47, .ref 48, .ref 49, .long (lN 0), .long (lN 0), .int (nI 0), .int (nI 0), .null, .null, .null]), .inl (0, (6, .inl (fun _ => nI 0))), .inl (0, (6, .inl (fun _ => nI 0))), .inl (0, (48, .inl (fun _ => nI 0))), .inl (0, (48, .inl (fun _ => nI 0))), .inl (0, (6, .inl (fun _ => nI 0))), .inl (0, (6, .inl (fun _ => nI 0))), .inl (0, (6, .inl (fun _ => nI 0))), .inl (0, (24, .inl (fun _ => nI 0))), .inl (0, (24, .inl (fun _ => nI 0))), .inl (0, (24, .inl (fun _ => nI 0))), .inl (0, (24, .inl (fun _ => nI 0))), .inl (0, (24, .inl (fun _ => nI 0))), .inl (0, (24, .inl (fun _ => nI 0))), .inl (0, (24, .inl (fun _ => nI 0))), .inl (0, (6, .inl (fun _ => nI 0))), .inl (0, (24, .inl (fun _ => nI 0))), .inl (0, (24, .inl (fun _ => nI 0))), .inl (0, (24, .inl (fun _ => nI 0))), .inl (0, (24, .inl (fun _ => nI 0)))])) rfl ?_
  refine am_aload_n d_M_init_156 rfl rfl ?_
  refine am_bipush (v := nI 6) d_M_init_157 (by decide) ?_
  refine am_newX (t := 0) (NN := 6) (a0 := (6, .inl (fun _ => nI 0))) 50 (hx A.1 A.2.1 A.2.2.1 A.2.2.2.1 A.2.2.2.2.1 A.2.2.2.2.2 [.inr (5, [.int (nI 0), .int (nI 0), .ref 31, .ref 32, .ref 33, .ref 34, .int (nI 0), .ref 35, .ref 36, .ref 37, .ref 38, .int (nI 0), .ref 39, .ref 40, .ref 41, .ref 42, .long (lN 0), .ref 43, .ref 44, .int (zI false), .int (zI false), .int (nI 0), .ref 45, .ref 46, .ref 47, .ref 48, .ref 49, .long (lN 0), .long (lN 0), .int (nI 0), .int (nI 0), .null, .null, .null]), .inl (0, (6, .inl (fun _ => nI 0))), .inl (0, (6, .inl (fun _ => nI 0))), .inl (0, (48, .inl (fun _ => nI 0))), .inl (0, (48, .inl (fun _ => nI 0))), .inl (0, (6, .inl (fun _ => nI 0))), .inl (0, (6, .inl (fun _ => nI 0))), .inl (0, (6, .inl (fun _ => nI 0))), .inl (0, (24, .inl (fun _ => nI 0))), .inl (0, (24, .inl (fun _ => nI 0))), .inl (0, (24, .inl (fun _ => nI 0))), .inl (0, (24, .inl (fun _ => nI 0))), .inl (0, (24, .inl (fun _ => nI 0))), .inl (0, (24, .inl (fun _ => nI 0))), .inl (0, (24, .inl (fun _ => nI 0))), .inl (0, (6, .inl (fun _ => nI 0))), .inl (0, (24, .inl (fun _ => nI 0))), .inl (0, (24, .inl (fun _ => nI 0))), .inl (0, (24, .inl (fun _ => nI 0))), .inl (0, (24, .inl (fun _ => nI 0))), .inl (0, (6, .inl (fun _ => nI 0)))]) 2 12 rfl rfl rfl rfl d_M_init_159 w_102 rfl (fun cA => rfl) rfl (by decide) (by decide) ?_
  refine am_putF F_M 31 (by decide) d_M_init_161 w_681 rfl rfl rfl rfl (Nat.le_of_ble_eq_true rfl) rfl rfl ?_
  refine am_hq (h2 := (hx A.1 A.2.1 A.2.2.1 A.2.2.2.1 A.2.2.2.2.1 A.2.2.2.2.2 [.inr (5, [.int (nI 0), .int (nI 0), .ref 31, .ref 32, .ref 33, .ref 34, .int (nI 0), .ref 35, .ref 36, .ref 37, .ref 38, .int (nI 0), .ref 39, .ref 40, .ref 41, .ref 42, .long (lN 0), .ref 43, .ref 44, .int (zI false), .int (zI false), .int (nI 0), .ref 45, .ref 46, .ref 47, .ref 48, .ref 49, .long (lN 0), .long (lN 0), .int (nI 0), .int (nI 0), .ref 50, .null, .null]), .inl (0, (6, .inl (fun _ => nI 0))), .inl (0, (6, .inl (fun _ => nI 0))), .inl (0, (48, .inl (fun _ => nI 0))), .inl (0, (48, .inl (fun _ => nI 0))), .inl (0, (6, .inl (fun _ => nI 0))), .inl (0, (6, .inl (fun _ => nI 0))), .inl (0, (6, .inl (fun _ => nI 0))), .inl (0, (24, .inl (fun _ => nI 0))), .inl (0, (24, .inl (fun _ => nI 0))), .inl (0, (24, .inl (fun _ => nI 0))), .inl (0, (24, .inl (fun _ => nI 0))), .inl (0, (24, .inl (fun _ => nI 0))), .inl (0, (24, .inl (fun _ => nI 0))), .inl (0, (24, .inl (fun _ => nI 0))), .inl (0, (6, .inl (fun _ => nI 0))), .inl (0, (24, .inl (fun _ => nI 0))), .inl (0, (24, .inl (fun _ => nI 0))), .inl (0, (24, .inl (fun _ => nI 0))), .inl (0, (24, .inl (fun _ => nI 0))), .inl (0, (6, .inl (fun _ => nI 0)))])) rfl ?_
  refine am_aload_n d_M_init_164 rfl rfl ?_
  refine am_bipush (v := nI 6) d_M_init_165 (by decide) ?_
  refine am_newX (t := 0) (NN := 6) (a0 := (6, .inl (fun _ => nI 0))) 51 (hx A.1 A.2.1 A.2.2.1 A.2.2.2.1 A.2.2.2.2.1 A.2.2.2.2.2 [.inr (5, [.int (nI 0), .int (nI 0), .ref 31, .ref 32, .ref 33, .ref 34, .int (nI 0), .ref 35, .ref 36, .ref 37, .ref 38, .int (nI 0), .ref 39, .ref 40, .ref 41, .ref 42, .long (lN 0), .ref 43, .ref 44, .int (zI false), .int (zI false), .int (nI 0), .ref 45, .ref 46, .ref 47, .ref 48, .ref 49, .long (lN 0), .long (lN 0), .int (nI 0), .int (nI 0), .ref 50, .null, .null]), .inl (0, (6, .inl (fun _ => nI 0))), .inl (0, (6, .inl (fun _ => nI 0))), .inl (0, (48, .inl (fun _ => nI 0))), .inl (0, (48, .inl (fun _ => nI 0))), .inl (0, (6, .inl (fun _ => nI 0))), .inl (0, (6, .inl (fun _ => nI 0))), .inl (0, (6, .inl (fun _ => nI 0))), .inl (0, (24, .inl (fun _ => nI 0))), .inl (0, (24, .inl (fun _ => nI 0))), .inl (0, (24, .inl (fun _ => nI 0))), .inl (0, (24, .inl (fun _ => nI 0))), .inl (0, (24, .inl (fun _ => nI 0))), .inl (0, (24, .inl (fun _ => nI 0))), .inl (0, (24, .inl (fun _ => nI 0))), .inl (0, (6, .inl (fun _ => nI 0))), .inl (0, (24, .inl (fun _ => nI 0))), .inl (0, (24, .inl (fun _ => nI 0))), .inl (0, (24, .inl (fun _ => nI 0))), .inl (0, (24, .inl (fun _ => nI 0))), .inl (0, (6, .inl (fun _ => nI 0))), .inl (0, (6, .inl (fun _ => nI 0)))]) 1 6 rfl rfl rfl rfl d_M_init_167 w_102 rfl (fun cA => rfl) rfl (by decide) (by decide) ?_
  refine am_putF F_M 32 (by decide) d_M_init_169 w_682 rfl rfl rfl rfl (Nat.le_of_ble_eq_true rfl) rfl rfl ?_
  refine am_hq (h2 := (hx A.1 A.2.1 A.2.2.1 A.2.2.2.1 A.2.2.2.2.1 A.2.2.2.2.2 [.inr (5, [.int (nI 0), .int (nI 0), .ref 31, .ref 32, .ref 33, .ref 34, .int (nI 0), .ref 35, .ref 36, .ref 37, .ref 38, .int (nI 0), .ref 39, .ref 40, .ref 41, .ref 42, .long (lN 0), .ref 43, .ref 44, .int (zI false), .int (zI false), .int (nI 0), .ref 45, .ref 46, .ref 47, .ref 48, .ref 49, .long (lN 0), .long (lN 0), .int (nI 0), .int (nI 0), .ref 50, .ref 51, .null]), .inl (0, (6, .inl (fun _ => nI 0))), .inl (0, (6, .inl (fun _ => nI 0))), .inl (0, (48, .inl (fun _ => nI 0))), .inl (0, (48, .inl (fun _ => nI 0))), .inl (0, (6, .inl (fun _ => nI 0))), .inl (0, (6, .inl (fun _ => nI 0))), .inl (0, (6, .inl (fun _ => nI 0))), .inl (0, (24, .inl (fun _ => nI 0))), .inl (0, (24, .inl (fun _ => nI 0))), .inl (0, (24, .inl (fun _ => nI 0))), .inl (0, (24, .inl (fun _ => nI 0))), .inl (0, (24, .inl (fun _ => nI 0))), .inl (0, (24, .inl (fun _ => nI 0))), .inl (0, (24, .inl (fun _ => nI 0))), .inl (0, (6, .inl (fun _ => nI 0))), .inl (0, (24, .inl (fun _ => nI 0))), .inl (0, (24, .inl (fun _ => nI 0))), .inl (0, (24, .inl (fun _ => nI 0))), .inl (0, (24, .inl (fun _ => nI 0))), .inl (0, (6, .inl (fun _ => nI 0))), .inl (0, (6, .inl (fun _ => nI 0)))])) rfl ?_
  refine am_aload_n d_M_init_172 rfl rfl ?_
  refine am_bipush (v := nI 6) d_M_init_173 (by decide) ?_
  refine am_newX (t := 2) (NN := 6) (a0 := (6, .inl (fun _ => zI false))) 52 (hx A.1 A.2.1 A.2.2.1 A.2.2.2.1 A.2.2.2.2.1 A.2.2.2.2.2 [.inr (5, [.int (nI 0), .int (nI 0), .ref 31, .ref 32, .ref 33, .ref 34, .int (nI 0), .ref 35, .ref 36, .ref 37, .ref 38, .int (nI 0), .ref 39, .ref 40, .ref 41, .ref 42, .long (lN 0), .ref 43, .ref 44, .int (zI false), .int (zI false), .int (nI 0), .ref 45, .ref 46, .ref 47, .ref 48, .ref 49, .long (lN 0), .long (lN 0), .int (nI 0), .int (nI 0), .ref 50, .ref 51, .null]), .inl (0, (6, .inl (fun _ => nI 0))), .inl (0, (6, .inl (fun _ => nI 0))), .inl (0, (48, .inl (fun _ => nI 0))), .inl (0, (48, .inl (fun _ => nI 0))), .inl (0, (6, .inl (fun _ => nI 0))), .inl (0, (6, .inl (fun _ => nI 0))), .inl (0, (6, .inl (fun _ => nI 0))), .inl (0, (24, .inl (fun _ => nI 0))), .inl (0, (24, .inl (fun _ => nI 0))), .inl (0, (24, .inl (fun _ => nI 0))), .inl (0, (24, .inl (fun _ => nI 0))), .inl (0, (24, .inl (fun _ => nI 0))), .inl (0, (24, .inl (fun _ => nI 0))), .inl (0, (24, .inl (fun _ => nI 0))), .inl (0, (6, .inl (fun _ => nI 0))), .inl (0, (24, .inl (fun _ => nI 0))), .inl (0, (24, .inl (fun _ => nI 0))), .inl (0, (24, .inl (fun _ => nI 0))), .inl (0, (24, .inl (fun _ => nI 0))), .inl (0, (6, .inl (fun _ => nI 0))), .inl (0, (6, .inl (fun _ => nI 0))), .inl (2, (6, .inl (fun _ => zI false)))]) 0 0 rfl rfl rfl rfl d_M_init_175 w_171 rfl (fun cA => rfl) rfl (by decide) (by decide) ?_
  refine am_putF F_M 33 (by decide) d_M_init_177 w_683 rfl rfl rfl rfl (Nat.le_of_ble_eq_true rfl) rfl rfl ?_
  refine am_hq (h2 := (hx A.1 A.2.1 A.2.2.1 A.2.2.2.1 A.2.2.2.2.1 A.2.2.2.2.2 [.inr (5, [.int (nI 0), .int (nI 0), .ref 31, .ref 32, .ref 33, .ref 34, .int (nI 0), .ref 35, .ref 36, .ref 37, .ref 38, .int (nI 0), .ref 39, .ref 40, .ref 41, .ref 42, .long (lN 0), .ref 43, .ref 44, .int (zI false), .int (zI false), .int (nI 0), .ref 45, .ref 46, .ref 47, .ref 48, .ref 49, .long (lN 0), .long (lN 0), .int (nI 0), .int (nI 0), .ref 50, .ref 51, .ref 52]), .inl (0, (6, .inl (fun _ => nI 0))), .inl (0, (6, .inl (fun _ => nI 0))), .inl (0, (48, .inl (fun _ => nI 0))), .inl (0, (48, .inl (fun _ => nI 0))), .inl (0, (6, .inl (fun _ => nI 0))), .inl (0, (6, .inl (fun _ => nI 0))), .inl (0, (6, .inl (fun _ => nI 0))), .inl (0, (24, .inl (fun _ => nI 0))), .inl (0, (24, .inl (fun _ => nI 0))), .inl (0, (24, .inl (fun _ => nI 0))), .inl (0, (24, .inl (fun _ => nI 0))), .inl (0, (24, .inl (fun _ => nI 0))), .inl (0, (24, .inl (fun _ => nI 0))), .inl (0, (24, .inl (fun _ => nI 0))), .inl (0, (6, .inl (fun _ => nI 0))), .inl (0, (24, .inl (fun _ => nI 0))), .inl (0, (24, .inl (fun _ => nI 0))), .inl (0, (24, .inl (fun _ => nI 0))), .inl (0, (24, .inl (fun _ => nI 0))), .inl (0, (6, .inl (fun _ => nI 0))), .inl (0, (6, .inl (fun _ => nI 0))), .inl (2, (6, .inl (fun _ => zI false)))])) rfl ?_
  refine am_aload_n d_M_init_180 rfl rfl ?_
  refine am_iload_n d_M_init_181 rfl rfl ?_
  refine am_i2l d_M_init_182 ?_
  refine am_put F_M 16 (by decide) d_M_init_183 w_666 rfl rfl (Nat.le_of_ble_eq_true rfl) rfl rfl ?_
  refine am_hq (h2 := (hx A.1 A.2.1 A.2.2.1 A.2.2.2.1 A.2.2.2.2.1 A.2.2.2.2.2 [.inr (5, [.int (nI 0), .int (nI 0), .ref 31, .ref 32, .ref 33, .ref 34, .int (nI 0), .ref 35, .ref 36, .ref 37, .ref 38, .int (nI 0), .ref 39, .ref 40, .ref 41, .ref 42, .long sd.toInt64, .ref 43, .ref 44, .int (zI false), .int (zI false), .int (nI 0), .ref 45, .ref 46, .ref 47, .ref 48, .ref 49, .long (lN 0), .long (lN 0), .int (nI 0), .int (nI 0), .ref 50, .ref 51, .ref 52]), .inl (0, (6, .inl (fun _ => nI 0))), .inl (0, (6, .inl (fun _ => nI 0))), .inl (0, (48, .inl (fun _ => nI 0))), .inl (0, (48, .inl (fun _ => nI 0))), .inl (0, (6, .inl (fun _ => nI 0))), .inl (0, (6, .inl (fun _ => nI 0))), .inl (0, (6, .inl (fun _ => nI 0))), .inl (0, (24, .inl (fun _ => nI 0))), .inl (0, (24, .inl (fun _ => nI 0))), .inl (0, (24, .inl (fun _ => nI 0))), .inl (0, (24, .inl (fun _ => nI 0))), .inl (0, (24, .inl (fun _ => nI 0))), .inl (0, (24, .inl (fun _ => nI 0))), .inl (0, (24, .inl (fun _ => nI 0))), .inl (0, (6, .inl (fun _ => nI 0))), .inl (0, (24, .inl (fun _ => nI 0))), .inl (0, (24, .inl (fun _ => nI 0))), .inl (0, (24, .inl (fun _ => nI 0))), .inl (0, (24, .inl (fun _ => nI 0))), .inl (0, (6, .inl (fun _ => nI 0))), .inl (0, (6, .inl (fun _ => nI 0))), .inl (2, (6, .inl (fun _ => zI false)))])) rfl ?_
  refine am_iconst (v := nI 0) d_M_init_186 (by decide) ?_
  refine am_istore_n d_M_init_187 rfl (by decide) ?_
  exact am_lo (L' := [(0, .ref 30), (2, .int (nI 0))]) rfl (am_hq (h2 := (hm A sh_0 (fun _ => 0) (0, sd.toInt64, (fun _ => nI 0), (fun _ => nI 0), false, false, 0, (fun _ => 0), (fun _ => nI 0), (fun _ => nI 0), (fun _ => nI 0), (fun _ => nI 0), 0, 0, 0, 0, (fun _ => 0), (fun _ => 0), (fun _ => false)) [])) rfl (c_M_init_l (d + 1) 0 0 sd 25 0 (Nat.zero_le _) (by omega) _ _ (fun q hq => absurd hq (Nat.not_lt_zero q)) (fun q hq => absurd hq (Nat.not_lt_zero q))))
end CMI
