/-! the floor's methods -/
section CFL
variable {G : am_G} {x : Int64} {t : Bool} {S : sh_T} {F : fl_T} {R : se_T} {P : pl_T} {W : am_H}
def sp_in (n l m : Int32) : Bool := decide (¬ n < l) && decide (¬ m < n)
theorem c_X_isWithin {h : am_H} (d bc bs : Nat) (n l m : Int32) : am_Fn G m_X_isWithin d bc bs [.int n, .int l, .int m] h (some (.int (zI (sp_in n l m)))) h := by
  refine am_iload_n d_X_isWithin_0 rfl rfl ?_
  refine am_iload_n d_X_isWithin_1 rfl rfl ?_
  refine am_icmp_lt (tgt := 14) d_X_isWithin_2 (by decide) (fun c2 => ?_) (fun c2 => ?_)
  · refine am_iconst (v := nI 0) d_X_isWithin_14 (by decide) ?_
    refine am_zret d_X_isWithin_15 rfl (by decide) ?_
    refine ⟨?_, rfl⟩
    first | (rw [sp_in, decide_eq_false (by simpa using c2)]; rfl) | (rw [sp_in, decide_eq_true c2, decide_eq_false (by simpa using c7)]; rfl) | (rw [sp_in, decide_eq_true c2, decide_eq_true c7]; rfl)
  · refine am_iload_n d_X_isWithin_5 rfl rfl ?_
    refine am_iload_n d_X_isWithin_6 rfl rfl ?_
    refine am_icmp_gt (tgt := 14) d_X_isWithin_7 (by decide) (fun c7 => ?_) (fun c7 => ?_)
    · refine am_iconst (v := nI 0) d_X_isWithin_14 (by decide) ?_
      refine am_zret d_X_isWithin_15 rfl (by decide) ?_
      refine ⟨?_, rfl⟩
      first | (rw [sp_in, decide_eq_false (by simpa using c2)]; rfl) | (rw [sp_in, decide_eq_true c2, decide_eq_false (by simpa using c7)]; rfl) | (rw [sp_in, decide_eq_true c2, decide_eq_true c7]; rfl)
    · refine am_iconst (v := nI 1) d_X_isWithin_10 (by decide) ?_
      refine am_goto (tgt := 15) d_X_isWithin_11 (by decide) ?_
      refine am_zret d_X_isWithin_15 rfl (by decide) ?_
      refine ⟨?_, rfl⟩
      first | (rw [sp_in, decide_eq_false (by simpa using c2)]; rfl) | (rw [sp_in, decide_eq_true c2, decide_eq_false (by simpa using c7)]; rfl) | (rw [sp_in, decide_eq_true c2, decide_eq_true c7]; rfl)
def sp_meets (a b c e : Nat) : Bool := decide (a < e) && decide (c < b)
theorem c_X_shareAnHour {h : am_H} (d bc bs a b c e : Nat) (ha : a < 2 ^ 31) (hb : b < 2 ^ 31) (hc : c < 2 ^ 31) (he : e < 2 ^ 31) : am_Fn G m_X_shareAnHour d bc bs [.int (nI a), .int (nI b), .int (nI c), .int (nI e)] h (some (.int (zI (sp_meets a b c e)))) h := by
  refine am_iload_n d_X_shareAnHour_0 rfl rfl ?_
  refine am_iload_n d_X_shareAnHour_1 rfl rfl ?_
  refine am_icmpN_ge (tgt := 14) d_X_shareAnHour_2 (by decide) (by omega) (by omega) (fun c2 => ?_) (fun c2 => ?_)
  · refine am_iconst (v := nI 0) d_X_shareAnHour_14 (by decide) ?_
    refine am_zret d_X_shareAnHour_15 rfl (by decide) ?_
    refine ⟨?_, rfl⟩
    first | (rw [sp_meets, decide_eq_false (by omega)]; rfl) | (rw [sp_meets, decide_eq_true c2, decide_eq_false (by omega)]; rfl) | (rw [sp_meets, decide_eq_true (by omega), decide_eq_true (by omega)]; rfl)
  · refine am_iload_n d_X_shareAnHour_5 rfl rfl ?_
    refine am_iload_n d_X_shareAnHour_6 rfl rfl ?_
    refine am_icmpN_ge (tgt := 14) d_X_shareAnHour_7 (by decide) (by omega) (by omega) (fun c7 => ?_) (fun c7 => ?_)
    · refine am_iconst (v := nI 0) d_X_shareAnHour_14 (by decide) ?_
      refine am_zret d_X_shareAnHour_15 rfl (by decide) ?_
      refine ⟨?_, rfl⟩
      first | (rw [sp_meets, decide_eq_false (by omega)]; rfl) | (rw [sp_meets, decide_eq_true c2, decide_eq_false (by omega)]; rfl) | (rw [sp_meets, decide_eq_true (by omega), decide_eq_true (by omega)]; rfl)
    · refine am_iconst (v := nI 1) d_X_shareAnHour_10 (by decide) ?_
      refine am_goto (tgt := 15) d_X_shareAnHour_11 (by decide) ?_
      refine am_zret d_X_shareAnHour_15 rfl (by decide) ?_
      refine ⟨?_, rfl⟩
      first | (rw [sp_meets, decide_eq_false (by omega)]; rfl) | (rw [sp_meets, decide_eq_true c2, decide_eq_false (by omega)]; rfl) | (rw [sp_meets, decide_eq_true (by omega), decide_eq_true (by omega)]; rfl)
/-- a busy time more of a machine -/
def fl_add (f : fl_T) (m a b : Nat) : fl_T := if fl_bc f m < 32 then (fl_bg f, fl_ma f, nu (fl_bc f) m (fl_bc f m + 1), nu (fl_bf f) (m * 32 + fl_bc f m) a, nu (fl_bt f) (m * 32 + fl_bc f m) b) else f
theorem c_F_addBusy (d bc bs m a b : Nat) (hm : m < 6) (hc : fl_bc F m < 2 ^ 31) : am_Fn G m_F_addBusy d bc bs [.ref 15, .int (nI m), .int (nI a), .int (nI b)] (hx x t S F R P W) none (hx x t S (fl_add F m a b) R P W) := by
  refine am_aload_n d_F_addBusy_0 rfl rfl ?_
  refine am_get F_F 3 (by decide) d_F_addBusy_1 w_114 rfl rfl ?_
  refine am_iload_n d_F_addBusy_4 rfl rfl ?_
  refine am_ialdA d_F_addBusy_5 rfl (by omega) (by decide) ?_
  refine am_bipush (v := nI 32) d_F_addBusy_6 (by decide) ?_
  refine am_icmpN_ge (tgt := 50) d_F_addBusy_8 (by decide) (by omega) (by omega) (fun c8 => ?_) (fun c8 => ?_)
  · refine am_vret d_F_addBusy_50 rfl ?_
    refine ⟨rfl, ?_⟩
    first | (rw [fl_add, if_neg (by omega)]; done) | (rw [fl_add, if_pos (by omega)]; rfl)
  · refine am_iload_n d_F_addBusy_11 rfl rfl ?_
    refine am_bipush (v := nI 32) d_F_addBusy_12 (by decide) ?_
    refine am_imulN d_F_addBusy_14 ?_
    refine am_aload_n d_F_addBusy_15 rfl rfl ?_
    refine am_get F_F 3 (by decide) d_F_addBusy_16 w_114 rfl rfl ?_
    refine am_iload_n d_F_addBusy_19 rfl rfl ?_
    refine am_ialdA d_F_addBusy_20 rfl (by omega) (by decide) ?_
    refine am_iaddN d_F_addBusy_21 ?_
    refine am_istore d_F_addBusy_22 (by decide) ?_
    refine am_aload_n d_F_addBusy_24 rfl rfl ?_
    refine am_get F_F 4 (by decide) d_F_addBusy_25 w_115 rfl rfl ?_
    refine am_iload d_F_addBusy_28 rfl ?_
    refine am_iload_n d_F_addBusy_30 rfl rfl ?_
    refine am_iastA d_F_addBusy_31 rfl (by omega) (by decide) ?_
    refine am_aload_n d_F_addBusy_32 rfl rfl ?_
    refine am_get F_F 5 (by decide) d_F_addBusy_33 w_116 rfl rfl ?_
    refine am_iload d_F_addBusy_36 rfl ?_
    refine am_iload_n d_F_addBusy_38 rfl rfl ?_
    refine am_iastA d_F_addBusy_39 rfl (by omega) (by decide) ?_
    refine am_aload_n d_F_addBusy_40 rfl rfl ?_
    refine am_get F_F 3 (by decide) d_F_addBusy_41 w_114 rfl rfl ?_
    refine am_iload_n d_F_addBusy_44 rfl rfl ?_
    refine am_dup2 d_F_addBusy_45 rfl rfl ?_
    refine am_ialdA d_F_addBusy_46 rfl (by omega) (by decide) ?_
    refine am_iconst (v := nI 1) d_F_addBusy_47 (by decide) ?_
    refine am_iaddN d_F_addBusy_48 ?_
    refine am_iastA d_F_addBusy_49 rfl (by omega) (by decide) ?_
    refine am_vret d_F_addBusy_50 rfl ?_
    refine ⟨rfl, ?_⟩
    first | (rw [fl_add, if_neg (by omega)]; done) | (rw [fl_add, if_pos (by omega)]; rfl)
/-- a machine's row of busy times -/
def fl_fr (f : fl_T) (m : Nat) : Nat → Nat := fun i => fl_bf f (m * 32 + i)
def fl_to (f : fl_T) (m : Nat) : Nat → Nat := fun i => fl_bt f (m * 32 + i)
def fl_first (f : fl_T) (m r n : Nat) : Nat := mm_it (fl_fr f m) (fl_to f m) (fl_bc f m) n 33 r
/-- the floor's numbers are small -/
def fl_sm (N : Nat) (f : fl_T) (B : Nat) : Prop := (∀ m, m < N → fl_bc f m ≤ 32) ∧ (∀ m i, m < N → i < fl_bc f m → fl_bf f (m * 32 + i) ≤ B ∧ fl_bt f (m * 32 + i) ≤ B)
set_option maxRecDepth 20000 in
theorem c_F_firstBegin_i {Q : am_O → am_H → Prop} {N : Nat} (hN : N ≤ 6) (d bc bs m r n k h B : Nat) (hm : m < N) (hF : fl_sm N F B) (hB : B ≤ 1000000) (hn : n ≤ 100) (hh : h ≤ B) (hk : k ≤ 32)
    (hend : am_W G m_F_firstBegin (d + 1) bc bs Q 15 [(0, .ref 15), (1, .int (nI m)), (2, .int (nI r)), (3, .int (nI n)), (4, .int (nI (mm_pass (fl_fr F m) (fl_to F m) n (fl_bc F m) h).1)), (5, .int (nI (m * 32))), (6, .int (zI (mm_pass (fl_fr F m) (fl_to F m) n (fl_bc F m) h).2)), (7, .int (nI (k + 1)))] [] (hx x t S F R P W)) :
    ∀ (g j : Nat), j ≤ fl_bc F m → fl_bc F m - j < g → am_W G m_F_firstBegin (d + 1) bc bs Q 34 [(0, .ref 15), (1, .int (nI m)), (2, .int (nI r)), (3, .int (nI n)), (4, .int (nI (mm_pass (fl_fr F m) (fl_to F m) n j h).1)), (5, .int (nI (m * 32))), (6, .int (zI (mm_pass (fl_fr F m) (fl_to F m) n j h).2)), (7, .int (nI k)), (8, .int (nI (m * 32 + j)))] [] (hx x t S F R P W) := by
  intro g
  have hc := hF.1 m hm
  induction g with
  | zero => intro j _ h; omega
  | succ g ih =>
    intro j hj hg
    have hp : (mm_pass (fl_fr F m) (fl_to F m) n j h).1 ≤ B := mm_pass_bd _ _ _ _ _ hh j (fun i hi => (hF.2 m i hm (by omega)).2)
    have hp2 : j < fl_bc F m → fl_bf F (m * 32 + j) ≤ B ∧ fl_bt F (m * 32 + j) ≤ B := fun q => hF.2 m j hm q
    refine am_iload d_F_firstBegin_34 rfl ?_
    refine am_iload d_F_firstBegin_36 rfl ?_
    refine am_aload_n d_F_firstBegin_38 rfl rfl ?_
    refine am_get F_F 3 (by decide) d_F_firstBegin_39 w_114 rfl rfl ?_
    refine am_iload_n d_F_firstBegin_42 rfl rfl ?_
    refine am_ialdA d_F_firstBegin_43 rfl (by omega) (by decide) ?_
    refine am_iaddN d_F_firstBegin_44 ?_
    refine am_icmpN_ge (tgt := 92) d_F_firstBegin_45 (by decide) (by omega) (by omega) (fun c45 => ?_) (fun c45 => ?_)
    · refine am_iinc d_F_firstBegin_92 rfl (am_inc _) (by decide) ?_
      refine am_goto (tgt := 15) d_F_firstBegin_95 (by decide) ?_
      have e : j = fl_bc F m := by omega
      subst e
      exact am_lo (L' := [(0, .ref 15), (1, .int (nI m)), (2, .int (nI r)), (3, .int (nI n)), (4, .int (nI (mm_pass (fl_fr F m) (fl_to F m) n (fl_bc F m) h).1)), (5, .int (nI (m * 32))), (6, .int (zI (mm_pass (fl_fr F m) (fl_to F m) n (fl_bc F m) h).2)), (7, .int (nI (k + 1)))]) rfl hend
    · refine am_iload d_F_firstBegin_48 rfl ?_
      refine am_iload d_F_firstBegin_50 rfl ?_
      refine am_iload_n d_F_firstBegin_52 rfl rfl ?_
      refine am_iaddN d_F_firstBegin_53 ?_
      refine am_aload_n d_F_firstBegin_54 rfl rfl ?_
      refine am_get F_F 4 (by decide) d_F_firstBegin_55 w_115 rfl rfl ?_
      refine am_iload d_F_firstBegin_58 rfl ?_
      refine am_ialdA d_F_firstBegin_60 rfl (by omega) (by decide) ?_
      refine am_aload_n d_F_firstBegin_61 rfl rfl ?_
      refine am_get F_F 5 (by decide) d_F_firstBegin_62 w_116 rfl rfl ?_
      refine am_iload d_F_firstBegin_65 rfl ?_
      refine am_ialdA d_F_firstBegin_67 rfl (by omega) (by decide) ?_
      refine am_callF 4 (am_lkSN (host := "WorkPlans") (z := m_X_shareAnHour) d_F_firstBegin_68 (by decide +kernel) w_462 w_1 w_463 (by decide) np_X_shareAnHour) (by decide) (by decide) (Nat.le_of_ble_eq_true rfl) (Nat.le_of_ble_eq_true rfl) (Nat.zero_le _) (Nat.zero_le _) (c_X_shareAnHour _ _ _ _ _ _ _ (by omega) (by omega) (by omega) (by omega)) ?_
      refine am_ifZ_eq (tgt := 86) d_F_firstBegin_71 (by decide) (fun c71 => ?_) (fun c71 => ?_)
      · refine am_iinc d_F_firstBegin_86 rfl (am_inc _) (by decide) ?_
        refine am_goto (tgt := 34) d_F_firstBegin_89 (by decide) ?_
        refine am_lo (L' := [(0, .ref 15), (1, .int (nI m)), (2, .int (nI r)), (3, .int (nI n)), (4, .int (nI (mm_pass (fl_fr F m) (fl_to F m) n (j + 1) h).1)), (5, .int (nI (m * 32))), (6, .int (zI (mm_pass (fl_fr F m) (fl_to F m) n (j + 1) h).2)), (7, .int (nI k)), (8, .int (nI (m * 32 + (j + 1))))]) ?_ (ih (j + 1) (by omega) (by omega))
        first | (rw [mm_pass, if_neg (by simpa [sp_meets, fl_fr, fl_to] using c71)]; rfl) | (rw [mm_pass, if_pos (by simpa [sp_meets, fl_fr, fl_to] using c71)]; rfl)
      · refine am_aload_n d_F_firstBegin_74 rfl rfl ?_
        refine am_get F_F 5 (by decide) d_F_firstBegin_75 w_116 rfl rfl ?_
        refine am_iload d_F_firstBegin_78 rfl ?_
        refine am_ialdA d_F_firstBegin_80 rfl (by omega) (by decide) ?_
        refine am_istore d_F_firstBegin_81 (by decide) ?_
        refine am_iconst (v := nI 1) d_F_firstBegin_83 (by decide) ?_
        refine am_istore d_F_firstBegin_84 (by decide) ?_
        refine am_iinc d_F_firstBegin_86 rfl (am_inc _) (by decide) ?_
        refine am_goto (tgt := 34) d_F_firstBegin_89 (by decide) ?_
        refine am_lo (L' := [(0, .ref 15), (1, .int (nI m)), (2, .int (nI r)), (3, .int (nI n)), (4, .int (nI (mm_pass (fl_fr F m) (fl_to F m) n (j + 1) h).1)), (5, .int (nI (m * 32))), (6, .int (zI (mm_pass (fl_fr F m) (fl_to F m) n (j + 1) h).2)), (7, .int (nI k)), (8, .int (nI (m * 32 + (j + 1))))]) ?_ (ih (j + 1) (by omega) (by omega))
        first | (rw [mm_pass, if_neg (by simpa [sp_meets, fl_fr, fl_to] using c71)]; rfl) | (rw [mm_pass, if_pos (by simpa [sp_meets, fl_fr, fl_to] using c71)]; rfl)
set_option maxRecDepth 20000 in
theorem c_F_firstBegin_o {N : Nat} (hN : N ≤ 6) (d bc bs m r n B : Nat) (hm : m < N) (hF : fl_sm N F B) (hB : B ≤ 1000000) (hn : n ≤ 100) (v : Nat) :
    ∀ (g k h : Nat) (b : Bool), h ≤ B → k ≤ 33 → 33 - k < g → (if b then mm_it (fl_fr F m) (fl_to F m) (fl_bc F m) n (33 - k) h else h) = v →
      am_W G m_F_firstBegin (d + 1) bc bs (fun o h' => o = .inl (some (.int (nI v))) ∧ h' = (hx x t S F R P W)) 15 [(0, .ref 15), (1, .int (nI m)), (2, .int (nI r)), (3, .int (nI n)), (4, .int (nI h)), (5, .int (nI (m * 32))), (6, .int (zI b)), (7, .int (nI k))] [] (hx x t S F R P W) := by
  intro g
  have hc := hF.1 m hm
  induction g with
  | zero => intro k h b _ _ hg; omega
  | succ g ih =>
    intro k h b hh hk hg hv
    refine am_iload d_F_firstBegin_15 rfl ?_
    refine am_bipush (v := nI 32) d_F_firstBegin_17 (by decide) ?_
    refine am_icmpN_gt (tgt := 98) d_F_firstBegin_19 (by decide) (by omega) (by omega) (fun c19 => ?_) (fun c19 => ?_)
    · refine am_iload d_F_firstBegin_98 rfl ?_
      refine am_iret d_F_firstBegin_100 rfl ?_
      refine ⟨?_, rfl⟩
      rw [← hv]
      first | (rw [c24]; rfl) | (rw [show 33 - k = 0 by omega]; cases b <;> rfl)
    · refine am_iload d_F_firstBegin_22 rfl ?_
      refine am_ifZ_eq (tgt := 98) d_F_firstBegin_24 (by decide) (fun c24 => ?_) (fun c24 => ?_)
      · refine am_iload d_F_firstBegin_98 rfl ?_
        refine am_iret d_F_firstBegin_100 rfl ?_
        refine ⟨?_, rfl⟩
        rw [← hv]
        first | (rw [c24]; rfl) | (rw [show 33 - k = 0 by omega]; cases b <;> rfl)
      · refine am_iconst (v := nI 0) d_F_firstBegin_27 (by decide) ?_
        refine am_istore d_F_firstBegin_28 (by decide) ?_
        refine am_iload d_F_firstBegin_30 rfl ?_
        refine am_istore d_F_firstBegin_32 (by decide) ?_
        refine am_lo (L' := [(0, .ref 15), (1, .int (nI m)), (2, .int (nI r)), (3, .int (nI n)), (4, .int (nI h)), (5, .int (nI (m * 32))), (6, .int (zI false)), (7, .int (nI k)), (8, .int (nI (m * 32 + 0)))]) rfl (c_F_firstBegin_i hN d bc bs m r n k h B hm hF hB hn hh (by omega) (ih (k + 1) _ _ (mm_pass_bd _ _ _ _ _ hh _ (fun i hi => (hF.2 m i hm hi).2)) (by omega) (by omega) ?_) (fl_bc F m + 1) 0 (Nat.zero_le _) (by omega))
        rw [← hv, c24, if_pos rfl, show 33 - k = (33 - (k + 1)) + 1 by omega, mm_it]
        cases hm : (mm_pass (fl_fr F m) (fl_to F m) n (fl_bc F m) h).2 with
        | true => rfl
        | false => exact (mm_pass_false _ _ _ _ _ hm).1
theorem c_F_firstBegin {N : Nat} (hN : N ≤ 6) (d bc bs m r n B : Nat) (hm : m < N) (hF : fl_sm N F B) (hB : B ≤ 1000000) (hn : n ≤ 100) (hr : r ≤ B) : am_Fn G m_F_firstBegin (d + 1) bc bs [.ref 15, .int (nI m), .int (nI r), .int (nI n)] (hx x t S F R P W) (some (.int (nI (fl_first F m r n)))) (hx x t S F R P W) := by
  refine am_iload_n d_F_firstBegin_0 rfl rfl ?_
  refine am_istore d_F_firstBegin_1 (by decide) ?_
  refine am_iload_n d_F_firstBegin_3 rfl rfl ?_
  refine am_bipush (v := nI 32) d_F_firstBegin_4 (by decide) ?_
  refine am_imulN d_F_firstBegin_6 ?_
  refine am_istore d_F_firstBegin_7 (by decide) ?_
  refine am_iconst (v := nI 1) d_F_firstBegin_9 (by decide) ?_
  refine am_istore d_F_firstBegin_10 (by decide) ?_
  refine am_iconst (v := nI 0) d_F_firstBegin_12 (by decide) ?_
  refine am_istore d_F_firstBegin_13 (by decide) ?_
  refine am_lo (L' := [(0, .ref 15), (1, .int (nI m)), (2, .int (nI r)), (3, .int (nI n)), (4, .int (nI r)), (5, .int (nI (m * 32))), (6, .int (zI true)), (7, .int (nI 0))]) rfl (c_F_firstBegin_o hN d bc bs m r n B hm hF hB hn _ 34 0 r true hr (by omega) (by omega) rfl)
/-- a step is laid on a machine -/
def fl_put (S : sh_T) (f : fl_T) (s m b : Nat) : fl_T := fl_add (nu (fl_bg f) s b, nu (fl_ma f) s m, f.2.2) m b (b + sh_sh S s)
theorem nI_m1 {a : Nat} (h : a < 2 ^ 31) : ¬ nI a = -1 := by
  intro q
  have h1 := nI_toInt h
  rw [q] at h1
  have h2 : (-1 : Int32).toInt = -1 := by decide
  omega
theorem c_F_put (d bc bs s m b : Nat) (hs : s < 24) (hm : m < 6) (hc : fl_bc F m < 2 ^ 31) (hb : b < 2 ^ 30) : am_Fn G m_F_put (d + 1) bc bs [.ref 15, .int (nI s), .int (nI m), .int (nI b)] (hx x t S F R P W) none (hx x t S (fl_put S F s m b) R P W) := by
  refine am_aload_n d_F_put_0 rfl rfl ?_
  refine am_get F_F 1 (by decide) d_F_put_1 w_110 rfl rfl ?_
  refine am_iload_n d_F_put_4 rfl rfl ?_
  refine am_iload_n d_F_put_5 rfl rfl ?_
  refine am_iastA d_F_put_6 rfl (by omega) (by decide) ?_
  refine am_aload_n d_F_put_7 rfl rfl ?_
  refine am_get F_F 2 (by decide) d_F_put_8 w_112 rfl rfl ?_
  refine am_iload_n d_F_put_11 rfl rfl ?_
  refine am_iload_n d_F_put_12 rfl rfl ?_
  refine am_iastA d_F_put_13 rfl (by omega) (by decide) ?_
  refine am_iload_n d_F_put_14 rfl rfl ?_
  refine am_iconst (v := -1) d_F_put_15 (by decide) ?_
  refine am_icmp_eq (tgt := 36) d_F_put_16 (by decide) (fun c16 => ?_) (fun c16 => ?_)
  · refine am_vret d_F_put_36 rfl ?_
    first | exact absurd c16 (nI_m1 (by omega)) | exact ⟨rfl, rfl⟩
  · refine am_aload_n d_F_put_19 rfl rfl ?_
    refine am_iload_n d_F_put_20 rfl rfl ?_
    refine am_iload_n d_F_put_21 rfl rfl ?_
    refine am_iload_n d_F_put_22 rfl rfl ?_
    refine am_aload_n d_F_put_23 rfl rfl ?_
    refine am_get F_F 0 (by decide) d_F_put_24 w_109 rfl rfl ?_
    refine am_get F_S 12 (by decide) d_F_put_27 w_64 rfl rfl ?_
    refine am_iload_n d_F_put_30 rfl rfl ?_
    refine am_ialdA d_F_put_31 rfl (by omega) (by decide) ?_
    refine am_iaddN d_F_put_32 ?_
    refine am_callF 4 (am_recvV (z := m_F_addBusy) rfl d_F_put_33 w_445 w_447 ws_3 w_448 F_F.1 rfl (by decide) np_F_addBusy) (by decide) (by decide) (Nat.le_of_ble_eq_true rfl) (Nat.le_of_ble_eq_true rfl) (Nat.zero_le _) (Nat.zero_le _) (c_F_addBusy (F := (nu (fl_bg F) s b, nu (fl_ma F) s m, F.2.2)) _ _ _ _ _ _ hm hc) ?_
    refine am_vret d_F_put_36 rfl ?_
    first | exact absurd c16 (nI_m1 (by omega)) | exact ⟨rfl, rfl⟩
/-- the machines tried for a step, from the least on: where it begins, on which -/
def fl_try (S : sh_T) (f : fl_T) (s r : Nat) : Nat → Nat × Option Nat
  | 0 => (r, none)
  | m + 1 => if sh_kd S m = sh_sk S s then (if (fl_try S f s r m).2 = none ∨ fl_first f m r (sh_sh S s) < (fl_try S f s r m).1 then (fl_first f m r (sh_sh S s), some m) else fl_try S f s r m) else fl_try S f s r m
def oI (o : Option Nat) : Int32 := match o with
  | none => -1
  | some m => nI m
theorem fl_first_bd {N : Nat} {f : fl_T} {m r n B : Nat} (hm : m < N) (hF : fl_sm N f B) (hr : r ≤ B) : fl_first f m r n ≤ B := mm_it_bd _ _ _ _ B (fun i hi => (hF.2 m i hm hi).2) _ _ hr
theorem fl_try_bd {N : Nat} {S : sh_T} {f : fl_T} {s r B : Nat} (hF : fl_sm N f B) (hr : r ≤ B) : ∀ n, n ≤ N → (fl_try S f s r n).1 ≤ B ∧ (∀ m, (fl_try S f s r n).2 = some m → m < n)
  | 0, _ => ⟨hr, fun m h => by cases h⟩
  | n + 1, hn => by
    obtain ⟨h1, h2⟩ := fl_try_bd (S := S) (s := s) hF hr n (by omega)
    have h3 : fl_first f n r (sh_sh S s) ≤ B := fl_first_bd (by omega) hF hr
    unfold fl_try
    split
    · split
      · exact ⟨h3, fun m h => by cases h; omega⟩
      · exact ⟨h1, fun m h => by have := h2 m h; omega⟩
    · exact ⟨h1, fun m h => by have := h2 m h; omega⟩
theorem fl_try_some {S : sh_T} {f : fl_T} {s r : Nat} : ∀ n, (∃ m, m < n ∧ sh_kd S m = sh_sk S s) → (fl_try S f s r n).2 ≠ none
  | 0, ⟨m, h, _⟩ => absurd h (Nat.not_lt_zero m)
  | n + 1, ⟨m, h1, h2⟩ => by
    unfold fl_try
    split
    · split
      · simp
      · rename_i h; exact fun e => h (Or.inl e)
    · rename_i h
      exact fl_try_some n ⟨m, by rcases Nat.lt_or_ge m n with q | q; exact q; exact absurd (by rw [← h2, show m = n by omega]) h, h2⟩
set_option maxRecDepth 20000 in
theorem c_F_placeStep_l {Q : am_O → am_H → Prop} (hS : sh_ok S) (d bc bs s r B : Nat) (hs : s < 24) (hF : fl_sm (sh_mc S) F B) (hB : B ≤ 1000000) (hr : r ≤ B)
    (hend : am_W G m_F_placeStep (d + 2) bc bs Q 85 [(0, .ref 15), (1, .int (nI s)), (2, .int (nI r)), (3, .int (nI (fl_try S F s r (sh_mc S)).1)), (4, .int (oI (fl_try S F s r (sh_mc S)).2)), (5, .int (nI (sh_mc S)))] [] (hx x t S F R P W)) :
    ∀ (g i : Nat), i ≤ sh_mc S → sh_mc S - i < g → am_W G m_F_placeStep (d + 2) bc bs Q 8 [(0, .ref 15), (1, .int (nI s)), (2, .int (nI r)), (3, .int (nI (fl_try S F s r i).1)), (4, .int (oI (fl_try S F s r i).2)), (5, .int (nI i))] [] (hx x t S F R P W) := by
  intro g
  obtain ⟨s1, s2, s3, s4, s5, s6, s7, s8, s9, s10, s11, s12, s13, s14⟩ := id hS
  have t12 := s12 s
  induction g with
  | zero => intro i _ h; omega
  | succ g ih =>
    intro i hi hg
    obtain ⟨hb1, hb2⟩ := fl_try_bd (S := S) (s := s) hF hr i (by omega)
    have t4 := s4 i
    have hf1 : i < sh_mc S → fl_first F i r (sh_sh S s) ≤ B := fun q => fl_first_bd q hF hr
    refine am_iload d_F_placeStep_8 rfl ?_
    refine am_aload_n d_F_placeStep_10 rfl rfl ?_
    refine am_get F_F 0 (by decide) d_F_placeStep_11 w_109 rfl rfl ?_
    refine am_get F_S 0 (by decide) d_F_placeStep_14 w_29 rfl rfl ?_
    refine am_icmpN_ge (tgt := 85) d_F_placeStep_17 (by decide) (by omega) (by omega) (fun c17 => ?_) (fun c17 => ?_)
    · have e : i = sh_mc S := by omega
      subst e
      exact hend
    · refine am_aload_n d_F_placeStep_20 rfl rfl ?_
      refine am_get F_F 0 (by decide) d_F_placeStep_21 w_109 rfl rfl ?_
      refine am_get F_S 1 (by decide) d_F_placeStep_24 w_32 rfl rfl ?_
      refine am_iload d_F_placeStep_27 rfl ?_
      refine am_ialdA d_F_placeStep_29 rfl (by omega) (by decide) ?_
      refine am_aload_n d_F_placeStep_30 rfl rfl ?_
      refine am_get F_F 0 (by decide) d_F_placeStep_31 w_109 rfl rfl ?_
      refine am_get F_S 11 (by decide) d_F_placeStep_34 w_62 rfl rfl ?_
      refine am_iload_n d_F_placeStep_37 rfl rfl ?_
      refine am_ialdA d_F_placeStep_38 rfl (by omega) (by decide) ?_
      refine am_icmpN_ne (tgt := 79) d_F_placeStep_39 (by decide) (by omega) (by omega) (fun c39 => ?_) (fun c39 => ?_)
      · refine am_iinc d_F_placeStep_79 rfl (am_inc _) (by decide) ?_
        refine am_goto (tgt := 8) d_F_placeStep_82 (by decide) ?_
        refine am_lo (L' := [(0, .ref 15), (1, .int (nI s)), (2, .int (nI r)), (3, .int (nI (fl_try S F s r (i + 1)).1)), (4, .int (oI (fl_try S F s r (i + 1)).2)), (5, .int (nI (i + 1)))]) ?_ (ih (i + 1) (by omega) (by omega))
        first | (rw [fl_try, if_neg c39]; rfl) | (rw [fl_try, if_pos c39, if_pos (Or.inl (by revert c63; cases htr : (fl_try S F s r i).2 with | none => intro _; rfl | some q => intro c; exact absurd c (nI_m1 (by have := hb2 q htr; omega))))]; rfl) | (rw [fl_try, if_pos c39, if_pos (Or.inr c69)]; rfl) | (rw [fl_try, if_pos c39, if_neg (fun c => c.elim (fun e => c63 (by rw [e]; rfl)) (fun e => absurd e (by omega)))]; rfl)
      · refine am_aload_n d_F_placeStep_42 rfl rfl ?_
        refine am_iload d_F_placeStep_43 rfl ?_
        refine am_iload_n d_F_placeStep_45 rfl rfl ?_
        refine am_aload_n d_F_placeStep_46 rfl rfl ?_
        refine am_get F_F 0 (by decide) d_F_placeStep_47 w_109 rfl rfl ?_
        refine am_get F_S 12 (by decide) d_F_placeStep_50 w_64 rfl rfl ?_
        refine am_iload_n d_F_placeStep_53 rfl rfl ?_
        refine am_ialdA d_F_placeStep_54 rfl (by omega) (by decide) ?_
        refine am_callF 4 (am_recvV (z := m_F_firstBegin) rfl d_F_placeStep_55 w_457 w_459 ws_5 w_460 F_F.1 rfl (by decide) np_F_firstBegin) (by decide) (by decide) (Nat.le_of_ble_eq_true rfl) (Nat.le_of_ble_eq_true rfl) (Nat.zero_le _) (Nat.zero_le _) (c_F_firstBegin s1 d _ _ i r _ B (by omega) hF hB (s13 _) hr) ?_
        refine am_istore d_F_placeStep_58 (by decide) ?_
        refine am_iload d_F_placeStep_60 rfl ?_
        refine am_iconst (v := -1) d_F_placeStep_62 (by decide) ?_
        refine am_icmp_eq (tgt := 72) d_F_placeStep_63 (by decide) (fun c63 => ?_) (fun c63 => ?_)
        · refine am_iload d_F_placeStep_72 rfl ?_
          refine am_istore_n d_F_placeStep_74 rfl (by decide) ?_
          refine am_iload d_F_placeStep_75 rfl ?_
          refine am_istore d_F_placeStep_77 (by decide) ?_
          refine am_iinc d_F_placeStep_79 rfl (am_inc _) (by decide) ?_
          refine am_goto (tgt := 8) d_F_placeStep_82 (by decide) ?_
          refine am_lo (L' := [(0, .ref 15), (1, .int (nI s)), (2, .int (nI r)), (3, .int (nI (fl_try S F s r (i + 1)).1)), (4, .int (oI (fl_try S F s r (i + 1)).2)), (5, .int (nI (i + 1)))]) ?_ (ih (i + 1) (by omega) (by omega))
          first | (rw [fl_try, if_neg c39]; rfl) | (rw [fl_try, if_pos c39, if_pos (Or.inl (by revert c63; cases htr : (fl_try S F s r i).2 with | none => intro _; rfl | some q => intro c; exact absurd c (nI_m1 (by have := hb2 q htr; omega))))]; rfl) | (rw [fl_try, if_pos c39, if_pos (Or.inr c69)]; rfl) | (rw [fl_try, if_pos c39, if_neg (fun c => c.elim (fun e => c63 (by rw [e]; rfl)) (fun e => absurd e (by omega)))]; rfl)
        · refine am_iload d_F_placeStep_66 rfl ?_
          refine am_iload_n d_F_placeStep_68 rfl rfl ?_
          refine am_icmpN_ge (tgt := 79) d_F_placeStep_69 (by decide) (by omega) (by omega) (fun c69 => ?_) (fun c69 => ?_)
          · refine am_iinc d_F_placeStep_79 rfl (am_inc _) (by decide) ?_
            refine am_goto (tgt := 8) d_F_placeStep_82 (by decide) ?_
            refine am_lo (L' := [(0, .ref 15), (1, .int (nI s)), (2, .int (nI r)), (3, .int (nI (fl_try S F s r (i + 1)).1)), (4, .int (oI (fl_try S F s r (i + 1)).2)), (5, .int (nI (i + 1)))]) ?_ (ih (i + 1) (by omega) (by omega))
            first | (rw [fl_try, if_neg c39]; rfl) | (rw [fl_try, if_pos c39, if_pos (Or.inl (by revert c63; cases htr : (fl_try S F s r i).2 with | none => intro _; rfl | some q => intro c; exact absurd c (nI_m1 (by have := hb2 q htr; omega))))]; rfl) | (rw [fl_try, if_pos c39, if_pos (Or.inr c69)]; rfl) | (rw [fl_try, if_pos c39, if_neg (fun c => c.elim (fun e => c63 (by rw [e]; rfl)) (fun e => absurd e (by omega)))]; rfl)
          · refine am_iload d_F_placeStep_72 rfl ?_
            refine am_istore_n d_F_placeStep_74 rfl (by decide) ?_
            refine am_iload d_F_placeStep_75 rfl ?_
            refine am_istore d_F_placeStep_77 (by decide) ?_
            refine am_iinc d_F_placeStep_79 rfl (am_inc _) (by decide) ?_
            refine am_goto (tgt := 8) d_F_placeStep_82 (by decide) ?_
            refine am_lo (L' := [(0, .ref 15), (1, .int (nI s)), (2, .int (nI r)), (3, .int (nI (fl_try S F s r (i + 1)).1)), (4, .int (oI (fl_try S F s r (i + 1)).2)), (5, .int (nI (i + 1)))]) ?_ (ih (i + 1) (by omega) (by omega))
            first | (rw [fl_try, if_neg c39]; rfl) | (rw [fl_try, if_pos c39, if_pos (Or.inl (by revert c63; cases htr : (fl_try S F s r i).2 with | none => intro _; rfl | some q => intro c; exact absurd c (nI_m1 (by have := hb2 q htr; omega))))]; rfl) | (rw [fl_try, if_pos c39, if_pos (Or.inr c69)]; rfl) | (rw [fl_try, if_pos c39, if_neg (fun c => c.elim (fun e => c63 (by rw [e]; rfl)) (fun e => absurd e (by omega)))]; rfl)
set_option maxRecDepth 20000 in
theorem c_F_placeStep_e (hS : sh_ok S) (d bc bs s r B m b : Nat) (hs : s < 24) (hF : fl_sm (sh_mc S) F B) (hB : B ≤ 1000000) (hr : r ≤ B) (hm : m < sh_mc S) (hb : b ≤ B) :
    am_W G m_F_placeStep (d + 2) bc bs (fun o h' => o = .inl (some (.int (nI b))) ∧ h' = (hx x t S (fl_put S F s m b) R P W)) 85 [(0, .ref 15), (1, .int (nI s)), (2, .int (nI r)), (3, .int (nI b)), (4, .int (oI (some m))), (5, .int (nI (sh_mc S)))] [] (hx x t S F R P W) := by
  refine am_aload_n d_F_placeStep_85 rfl rfl ?_
  refine am_iload_n d_F_placeStep_86 rfl rfl ?_
  refine am_iload d_F_placeStep_87 rfl ?_
  refine am_iload_n d_F_placeStep_89 rfl rfl ?_
  refine am_callF 4 (am_recvV (z := m_F_put) rfl d_F_placeStep_90 w_464 w_465 w_466 w_467 F_F.1 rfl (by decide) np_F_put) (by decide) (by decide) (Nat.le_of_ble_eq_true rfl) (Nat.le_of_ble_eq_true rfl) (Nat.zero_le _) (Nat.zero_le _) (c_F_put _ _ _ s m b hs (by have := hS.1; omega) (by have := hF.1 m hm; omega) (by omega)) ?_
  refine am_iload_n d_F_placeStep_93 rfl rfl ?_
  refine am_iret d_F_placeStep_94 rfl ?_
  exact ⟨rfl, rfl⟩
theorem c_F_placeStep (hS : sh_ok S) (d bc bs s r B m b : Nat) (hs : s < 24) (hF : fl_sm (sh_mc S) F B) (hB : B ≤ 1000000) (hr : r ≤ B) (hq : fl_try S F s r (sh_mc S) = (b, some m)) : am_Fn G m_F_placeStep (d + 2) bc bs [.ref 15, .int (nI s), .int (nI r)] (hx x t S F R P W) (some (.int (nI b))) (hx x t S (fl_put S F s m b) R P W) := by
  obtain ⟨s1, s2, s3, s4, s5, s6, s7, s8, s9, s10, s11, s12, s13, s14⟩ := id hS
  obtain ⟨hb1, hb2⟩ := fl_try_bd (S := S) (s := s) hF hr (sh_mc S) (Nat.le_refl _)
  rw [hq] at hb1 hb2
  have hb : b ≤ B := hb1
  have hm : m < sh_mc S := hb2 m rfl
  refine am_iload_n d_F_placeStep_0 rfl rfl ?_
  refine am_istore_n d_F_placeStep_1 rfl (by decide) ?_
  refine am_iconst (v := -1) d_F_placeStep_2 (by decide) ?_
  refine am_istore d_F_placeStep_3 (by decide) ?_
  refine am_iconst (v := nI 0) d_F_placeStep_5 (by decide) ?_
  refine am_istore d_F_placeStep_6 (by decide) ?_
  refine am_lo (L' := [(0, .ref 15), (1, .int (nI s)), (2, .int (nI r)), (3, .int (nI r)), (4, .int (oI none)), (5, .int (nI 0))]) rfl (c_F_placeStep_l hS d bc bs s r B hs hF hB hr ?_ (sh_mc S + 1) 0 (Nat.zero_le _) (by omega))
  rw [hq]
  exact c_F_placeStep_e hS d bc bs s r B m b hs hF hB hr hm hb
end CFL
