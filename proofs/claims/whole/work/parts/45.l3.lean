/-! the law's loop, the law -/
theorem l_ge {n i : Nat} (hn : n < 2 ^ 31) (hi : i < 2 ^ 31) (h : ¬ nI n - nI 5 < nI i) : i + 5 ≤ n := by
  rcases Nat.lt_or_ge n 5 with q | q
  · exfalso
    have h0 := nI_pos hi
    rw [Int32.lt_iff_toInt_lt] at h h0
    have e0 : (0 : Int32).toInt = 0 := by decide
    have hc : n = 0 ∨ n = 1 ∨ n = 2 ∨ n = 3 ∨ n = 4 := by omega
    have e : (nI n - nI 5).toInt < 0 := by
      rcases hc with rfl | rfl | rfl | rfl | rfl <;> decide
    omega
  · rw [pk_sub q] at h
    have h2 : ¬ n - 5 < i := fun z => h ((nI_ltI (a := n - 5) (b := i) (by omega) hi).mpr z)
    omega
theorem l_and (x : Int32) : ∃ c, c < 16 ∧ x &&& nI 15 = nI c := by
  refine ⟨x.toBitVec.toNat % 16, Nat.mod_lt _ (by decide), ?_⟩
  apply Int32.toBitVec_inj.mp
  apply BitVec.eq_of_toNat_eq
  have h15 : (nI 15).toBitVec.toNat = 2 ^ 4 - 1 := by decide
  have hc : (nI (x.toBitVec.toNat % 16)).toBitVec.toNat = x.toBitVec.toNat % 16 := by
    have h16 : x.toBitVec.toNat % 16 < 16 := Nat.mod_lt _ (by decide)
    generalize x.toBitVec.toNat % 16 = c at h16
    have hcs : c = 0 ∨ c = 1 ∨ c = 2 ∨ c = 3 ∨ c = 4 ∨ c = 5 ∨ c = 6 ∨ c = 7 ∨ c = 8 ∨ c = 9 ∨ c = 10 ∨ c = 11 ∨ c = 12 ∨ c = 13 ∨ c = 14 ∨ c = 15 := by omega
    rcases hcs with rfl | rfl | rfl | rfl | rfl | rfl | rfl | rfl | rfl | rfl | rfl | rfl | rfl | rfl | rfl | rfl <;> decide
  rw [hc, Int32.toBitVec_and, BitVec.toNat_and, h15, Nat.and_two_pow_sub_one_eq_mod]
section LL
variable {G : am_G}
theorem c_L_cell {h : am_H} (d bc bs : Nat) (hn : am_gn G < 2 ^ 31) : am_Fn G m_L_cell d bc bs [.ref 0, .int (nI 0)] h (some (.int (if 0 < am_gn G then am_gx G 0 else nI 0))) h := by
  refine am_iload_n d_L_cell_0 rfl rfl ?_
  refine am_aload_n d_L_cell_1 rfl rfl ?_
  refine am_slen d_L_cell_2 ?_
  refine am_icmpN_ge (tgt := 12) d_L_cell_3 (by decide) (by omega) (by omega) (fun c3 => ?_) (fun c3 => ?_)
  · refine am_iconst (v := nI 0) d_L_cell_12 (by decide) ?_
    refine am_iret d_L_cell_13 rfl ?_
    exact ⟨by rw [if_neg (by omega)], rfl⟩
  · refine am_aload_n d_L_cell_6 rfl rfl ?_
    refine am_iload_n d_L_cell_7 rfl rfl ?_
    refine am_sld d_L_cell_8 (vp_in_nI (by omega) (by omega)) ?_
    refine am_sv (v2 := .int (am_gx G 0)) (by rw [l_cl0]) ?_
    refine am_goto (tgt := 13) d_L_cell_9 (by decide) ?_
    refine am_iret d_L_cell_13 rfl ?_
    exact ⟨by rw [if_pos (by omega)], rfl⟩
set_option maxRecDepth 20000 in
theorem c_L_loop (hn : am_gn G < 2 ^ 30) : ∀ (q i bc bs : Nat), am_gn G < i + 5 * q → i ≤ am_gn G + 5 → q ≤ bc → 6 * q ≤ bs → ∀ (x : Int64) (t : Bool) (S : sh_T) (F : fl_T) (R : se_T) (P : pl_T) (jo : Nat → Nat) (M : mo_T) (f : Nat → Int64) (V : am_H), iv_X t S R P jo → iv_M x t P M →
    am_W G m_L_law 33 bc bs (fun o h' => ∃ h, o = .inl (some (.int (zI true))) ∧ h' = h) 33 [(0, .ref 0), (1, .ref 1), (2, .ref 30), (3, .ref 53), (4, .int (nI i))] [] (hl (x, t, S, F, R, P) S jo M f V) := by
  intro q
  have hn31 : am_gn G < 2 ^ 31 := by omega
  induction q with
  | zero =>
    intro i bc bs hq hi hbc hbs x t S F R P jo M f V hI hM
    refine am_iload d_L_law_33 rfl ?_
    refine am_aload_n d_L_law_35 rfl rfl ?_
    refine am_slen d_L_law_36 ?_
    refine am_iconst (v := nI 5) d_L_law_37 (by decide) ?_
    refine am_isub d_L_law_38 ?_
    refine am_icmp_gt (tgt := 972) d_L_law_39 (by decide) (fun c39 => ?_) (fun c39 => ?_)
    · refine am_iconst (v := zI true) d_L_law_972 (by decide) ?_
      refine am_zret d_L_law_973 rfl (zI_n true) ?_
      exact ⟨_, rfl, rfl⟩
    · have hi5 : i + 5 ≤ am_gn G := l_ge hn31 (by omega) c39
      omega
  | succ q ih =>
    intro i bc bs hq hi hbc hbs x t S F R P jo M f V hI hM
    refine am_iload d_L_law_33 rfl ?_
    refine am_aload_n d_L_law_35 rfl rfl ?_
    refine am_slen d_L_law_36 ?_
    refine am_iconst (v := nI 5) d_L_law_37 (by decide) ?_
    refine am_isub d_L_law_38 ?_
    refine am_icmp_gt (tgt := 972) d_L_law_39 (by decide) (fun c39 => ?_) (fun c39 => ?_)
    · refine am_iconst (v := zI true) d_L_law_972 (by decide) ?_
      refine am_zret d_L_law_973 rfl (zI_n true) ?_
      exact ⟨_, rfl, rfl⟩
    · have hi5 : i + 5 ≤ am_gn G := l_ge hn31 (by omega) c39
      refine am_aload_n d_L_law_42 rfl rfl ?_
      refine am_iload d_L_law_43 rfl ?_
      refine am_sld d_L_law_45 (vp_in_nI (by omega) (by omega)) ?_
      refine am_sv (v2 := .int (am_gx G i)) (by rw [nI_clamp (by omega)]) ?_
      refine am_bipush (v := nI 15) d_L_law_46 (by decide) ?_
      refine am_iand d_L_law_48 ?_
      obtain ⟨c, hc, ec⟩ := l_and (am_gx G i)
      rw [ec]
      have hcs : c = 0 ∨ c = 1 ∨ c = 2 ∨ c = 3 ∨ c = 4 ∨ c = 5 ∨ c = 6 ∨ c = 7 ∨ c = 8 ∨ c = 9 ∨ c = 10 ∨ c = 11 ∨ c = 12 ∨ c = 13 ∨ c = 14 ∨ c = 15 := by omega
      rcases hcs with rfl | rfl | rfl | rfl | rfl | rfl | rfl | rfl | rfl | rfl | rfl | rfl | rfl | rfl | rfl | rfl
      · refine am_tableIn (tgt := 120) d_L_law_49 (by decide) (by decide) rfl (by decide) ?_
        refine am_lo (L' := [(0, .ref 0), (1, .ref 1), (2, .ref 30), (3, .ref 53), (4, .int (nI i))]) rfl (c_L_b_machine bc bs i (by omega) (by omega) hi5 hn31 hI hM (fun x t S F R P jo M f V hI hM => ?_))
        refine am_iinc (v := nI (i + 5)) d_L_law_966 rfl (by rw [show Int32.ofInt 5 = nI 5 by decide, nI_add]) (by decide) ?_
        refine am_goto (tgt := 33) d_L_law_969 (by decide) ?_
        exact am_lo (L' := [(0, .ref 0), (1, .ref 1), (2, .ref 30), (3, .ref 53), (4, .int (nI (i + 5)))]) rfl (ih (i + 5) _ _ (by omega) (by omega) (by omega) (by omega) x t S F R P jo M f V hI hM)
      · refine am_tableIn (tgt := 176) d_L_law_49 (by decide) (by decide) rfl (by decide) ?_
        refine am_lo (L' := [(0, .ref 0), (1, .ref 1), (2, .ref 30), (3, .ref 53), (4, .int (nI i))]) rfl (c_L_b_out bc bs i (by omega) (by omega) hi5 hn31 hI hM (fun x t S F R P jo M f V hI hM => ?_))
        refine am_iinc (v := nI (i + 5)) d_L_law_966 rfl (by rw [show Int32.ofInt 5 = nI 5 by decide, nI_add]) (by decide) ?_
        refine am_goto (tgt := 33) d_L_law_969 (by decide) ?_
        exact am_lo (L' := [(0, .ref 0), (1, .ref 1), (2, .ref 30), (3, .ref 53), (4, .int (nI (i + 5)))]) rfl (ih (i + 5) _ _ (by omega) (by omega) (by omega) (by omega) x t S F R P jo M f V hI hM)
      · refine am_tableIn (tgt := 256) d_L_law_49 (by decide) (by decide) rfl (by decide) ?_
        refine am_lo (L' := [(0, .ref 0), (1, .ref 1), (2, .ref 30), (3, .ref 53), (4, .int (nI i))]) rfl (c_L_b_job bc bs i (by omega) (by omega) hi5 hn31 hI hM (fun x t S F R P jo M f V hI hM => ?_))
        refine am_iinc (v := nI (i + 5)) d_L_law_966 rfl (by rw [show Int32.ofInt 5 = nI 5 by decide, nI_add]) (by decide) ?_
        refine am_goto (tgt := 33) d_L_law_969 (by decide) ?_
        exact am_lo (L' := [(0, .ref 0), (1, .ref 1), (2, .ref 30), (3, .ref 53), (4, .int (nI (i + 5)))]) rfl (ih (i + 5) _ _ (by omega) (by omega) (by omega) (by omega) x t S F R P jo M f V hI hM)
      · refine am_tableIn (tgt := 324) d_L_law_49 (by decide) (by decide) rfl (by decide) ?_
        refine am_lo (L' := [(0, .ref 0), (1, .ref 1), (2, .ref 30), (3, .ref 53), (4, .int (nI i))]) rfl (c_L_b_due bc bs i (by omega) (by omega) hi5 hn31 hI hM (fun x t S F R P jo M f V hI hM => ?_))
        refine am_iinc (v := nI (i + 5)) d_L_law_966 rfl (by rw [show Int32.ofInt 5 = nI 5 by decide, nI_add]) (by decide) ?_
        refine am_goto (tgt := 33) d_L_law_969 (by decide) ?_
        exact am_lo (L' := [(0, .ref 0), (1, .ref 1), (2, .ref 30), (3, .ref 53), (4, .int (nI (i + 5)))]) rfl (ih (i + 5) _ _ (by omega) (by omega) (by omega) (by omega) x t S F R P jo M f V hI hM)
      · refine am_tableIn (tgt := 372) d_L_law_49 (by decide) (by decide) rfl (by decide) ?_
        refine am_lo (L' := [(0, .ref 0), (1, .ref 1), (2, .ref 30), (3, .ref 53), (4, .int (nI i))]) rfl (c_L_b_step bc bs i (by omega) (by omega) hi5 hn31 hI hM (fun x t S F R P jo M f V hI hM => ?_))
        refine am_iinc (v := nI (i + 5)) d_L_law_966 rfl (by rw [show Int32.ofInt 5 = nI 5 by decide, nI_add]) (by decide) ?_
        refine am_goto (tgt := 33) d_L_law_969 (by decide) ?_
        exact am_lo (L' := [(0, .ref 0), (1, .ref 1), (2, .ref 30), (3, .ref 53), (4, .int (nI (i + 5)))]) rfl (ih (i + 5) _ _ (by omega) (by omega) (by omega) (by omega) x t S F R P jo M f V hI hM)
      · refine am_tableIn (tgt := 464) d_L_law_49 (by decide) (by decide) rfl (by decide) ?_
        refine am_lo (L' := [(0, .ref 0), (1, .ref 1), (2, .ref 30), (3, .ref 53), (4, .int (nI i))]) rfl (c_L_b_run bc bs i (by omega) (by omega) hi5 hn31 hI hM (fun x t S F R P jo M f V hI hM => ?_))
        refine am_iinc (v := nI (i + 5)) d_L_law_966 rfl (by rw [show Int32.ofInt 5 = nI 5 by decide, nI_add]) (by decide) ?_
        refine am_goto (tgt := 33) d_L_law_969 (by decide) ?_
        exact am_lo (L' := [(0, .ref 0), (1, .ref 1), (2, .ref 30), (3, .ref 53), (4, .int (nI (i + 5)))]) rfl (ih (i + 5) _ _ (by omega) (by omega) (by omega) (by omega) x t S F R P jo M f V hI hM)
      · refine am_tableIn (tgt := 520) d_L_law_49 (by decide) (by decide) rfl (by decide) ?_
        refine am_lo (L' := [(0, .ref 0), (1, .ref 1), (2, .ref 30), (3, .ref 53), (4, .int (nI i))]) rfl (c_L_b_improve bc bs i (by omega) (by omega) hi5 hn31 hI hM (fun x t S F R P jo M f V hI hM => ?_))
        refine am_iinc (v := nI (i + 5)) d_L_law_966 rfl (by rw [show Int32.ofInt 5 = nI 5 by decide, nI_add]) (by decide) ?_
        refine am_goto (tgt := 33) d_L_law_969 (by decide) ?_
        exact am_lo (L' := [(0, .ref 0), (1, .ref 1), (2, .ref 30), (3, .ref 53), (4, .int (nI (i + 5)))]) rfl (ih (i + 5) _ _ (by omega) (by omega) (by omega) (by omega) x t S F R P jo M f V hI hM)
      · refine am_tableIn (tgt := 576) d_L_law_49 (by decide) (by decide) rfl (by decide) ?_
        refine am_lo (L' := [(0, .ref 0), (1, .ref 1), (2, .ref 30), (3, .ref 53), (4, .int (nI i))]) rfl (c_L_b_at bc bs i (by omega) (by omega) hi5 hn31 hI hM (fun x t S F R P jo M f V hI hM => ?_))
        refine am_iinc (v := nI (i + 5)) d_L_law_966 rfl (by rw [show Int32.ofInt 5 = nI 5 by decide, nI_add]) (by decide) ?_
        refine am_goto (tgt := 33) d_L_law_969 (by decide) ?_
        exact am_lo (L' := [(0, .ref 0), (1, .ref 1), (2, .ref 30), (3, .ref 53), (4, .int (nI (i + 5)))]) rfl (ih (i + 5) _ _ (by omega) (by omega) (by omega) (by omega) x t S F R P jo M f V hI hM)
      · refine am_tableIn (tgt := 644) d_L_law_49 (by decide) (by decide) rfl (by decide) ?_
        refine am_lo (L' := [(0, .ref 0), (1, .ref 1), (2, .ref 30), (3, .ref 53), (4, .int (nI i))]) rfl (c_L_b_order bc bs i (by omega) (by omega) hi5 hn31 hI hM (fun x t S F R P jo M f V hI hM => ?_))
        refine am_iinc (v := nI (i + 5)) d_L_law_966 rfl (by rw [show Int32.ofInt 5 = nI 5 by decide, nI_add]) (by decide) ?_
        refine am_goto (tgt := 33) d_L_law_969 (by decide) ?_
        exact am_lo (L' := [(0, .ref 0), (1, .ref 1), (2, .ref 30), (3, .ref 53), (4, .int (nI (i + 5)))]) rfl (ih (i + 5) _ _ (by omega) (by omega) (by omega) (by omega) x t S F R P jo M f V hI hM)
      · refine am_tableIn (tgt := 700) d_L_law_49 (by decide) (by decide) rfl (by decide) ?_
        refine am_lo (L' := [(0, .ref 0), (1, .ref 1), (2, .ref 30), (3, .ref 53), (4, .int (nI i))]) rfl (c_L_b_about bc bs i (by omega) (by omega) hi5 hn31 hI hM (fun x t S F R P jo M f V hI hM => ?_))
        refine am_iinc (v := nI (i + 5)) d_L_law_966 rfl (by rw [show Int32.ofInt 5 = nI 5 by decide, nI_add]) (by decide) ?_
        refine am_goto (tgt := 33) d_L_law_969 (by decide) ?_
        exact am_lo (L' := [(0, .ref 0), (1, .ref 1), (2, .ref 30), (3, .ref 53), (4, .int (nI (i + 5)))]) rfl (ih (i + 5) _ _ (by omega) (by omega) (by omega) (by omega) x t S F R P jo M f V hI hM)
      · refine am_tableIn (tgt := 755) d_L_law_49 (by decide) (by decide) rfl (by decide) ?_
        refine am_lo (L' := [(0, .ref 0), (1, .ref 1), (2, .ref 30), (3, .ref 53), (4, .int (nI i))]) rfl (c_L_b_alone bc bs i (by omega) (by omega) hi5 hn31 hI hM (fun x t S F R P jo M f V hI hM => ?_))
        refine am_iinc (v := nI (i + 5)) d_L_law_966 rfl (by rw [show Int32.ofInt 5 = nI 5 by decide, nI_add]) (by decide) ?_
        refine am_goto (tgt := 33) d_L_law_969 (by decide) ?_
        exact am_lo (L' := [(0, .ref 0), (1, .ref 1), (2, .ref 30), (3, .ref 53), (4, .int (nI (i + 5)))]) rfl (ih (i + 5) _ _ (by omega) (by omega) (by omega) (by omega) x t S F R P jo M f V hI hM)
      · refine am_tableIn (tgt := 810) d_L_law_49 (by decide) (by decide) rfl (by decide) ?_
        refine am_lo (L' := [(0, .ref 0), (1, .ref 1), (2, .ref 30), (3, .ref 53), (4, .int (nI i))]) rfl (c_L_b_promise bc bs i (by omega) (by omega) hi5 hn31 hI hM (fun x t S F R P jo M f V hI hM => ?_))
        refine am_iinc (v := nI (i + 5)) d_L_law_966 rfl (by rw [show Int32.ofInt 5 = nI 5 by decide, nI_add]) (by decide) ?_
        refine am_goto (tgt := 33) d_L_law_969 (by decide) ?_
        exact am_lo (L' := [(0, .ref 0), (1, .ref 1), (2, .ref 30), (3, .ref 53), (4, .int (nI (i + 5)))]) rfl (ih (i + 5) _ _ (by omega) (by omega) (by omega) (by omega) x t S F R P jo M f V hI hM)
      · refine am_tableIn (tgt := 866) d_L_law_49 (by decide) (by decide) rfl (by decide) ?_
        refine am_lo (L' := [(0, .ref 0), (1, .ref 1), (2, .ref 30), (3, .ref 53), (4, .int (nI i))]) rfl (c_L_b_clash bc bs i (by omega) (by omega) hi5 hn31 hI hM (fun x t S F R P jo M f V hI hM => ?_))
        refine am_iinc (v := nI (i + 5)) d_L_law_966 rfl (by rw [show Int32.ofInt 5 = nI 5 by decide, nI_add]) (by decide) ?_
        refine am_goto (tgt := 33) d_L_law_969 (by decide) ?_
        exact am_lo (L' := [(0, .ref 0), (1, .ref 1), (2, .ref 30), (3, .ref 53), (4, .int (nI (i + 5)))]) rfl (ih (i + 5) _ _ (by omega) (by omega) (by omega) (by omega) x t S F R P jo M f V hI hM)
      · refine am_tableIn (tgt := 922) d_L_law_49 (by decide) (by decide) rfl (by decide) ?_
        refine am_lo (L' := [(0, .ref 0), (1, .ref 1), (2, .ref 30), (3, .ref 53), (4, .int (nI i))]) rfl (c_L_b_check bc bs i (by omega) (by omega) hi5 hn31 hI hM (fun x t S F R P jo M f V hI hM => ?_))
        refine am_iinc (v := nI (i + 5)) d_L_law_966 rfl (by rw [show Int32.ofInt 5 = nI 5 by decide, nI_add]) (by decide) ?_
        refine am_goto (tgt := 33) d_L_law_969 (by decide) ?_
        exact am_lo (L' := [(0, .ref 0), (1, .ref 1), (2, .ref 30), (3, .ref 53), (4, .int (nI (i + 5)))]) rfl (ih (i + 5) _ _ (by omega) (by omega) (by omega) (by omega) x t S F R P jo M f V hI hM)
      · refine am_tableOut (tgt := 966) d_L_law_49 (by decide) (by decide) ?_
        refine am_iinc (v := nI (i + 5)) d_L_law_966 rfl (by rw [show Int32.ofInt 5 = nI 5 by decide, nI_add]) (by decide) ?_
        refine am_goto (tgt := 33) d_L_law_969 (by decide) ?_
        exact am_lo (L' := [(0, .ref 0), (1, .ref 1), (2, .ref 30), (3, .ref 53), (4, .int (nI (i + 5)))]) rfl (ih (i + 5) _ _ (by omega) (by omega) (by omega) (by omega) x t S F R P jo M f V hI hM)
      · refine am_tableOut (tgt := 966) d_L_law_49 (by decide) (by decide) ?_
        refine am_iinc (v := nI (i + 5)) d_L_law_966 rfl (by rw [show Int32.ofInt 5 = nI 5 by decide, nI_add]) (by decide) ?_
        refine am_goto (tgt := 33) d_L_law_969 (by decide) ?_
        exact am_lo (L' := [(0, .ref 0), (1, .ref 1), (2, .ref 30), (3, .ref 53), (4, .int (nI (i + 5)))]) rfl (ih (i + 5) _ _ (by omega) (by omega) (by omega) (by omega) x t S F R P jo M f V hI hM)
set_option maxRecDepth 20000 in
theorem c_L_law (hn : am_gn G < 2 ^ 30) (q bc bs : Nat) (hq : am_gn G < 1 + 5 * q) (hbc : q ≤ bc) (hbs : 6 * q ≤ bs) :
    am_W G m_L_law 33 (bc + 53) (bs + 1258) (fun o h' => ∃ h, o = .inl (some (.int (zI true))) ∧ h' = h) 0 [(0, .ref 0)] [] [] := by
  refine am_newO F_X (fs := [.null, .null, .null, .null, .long (lN 0), .int (zI false)]) 1 [.inr (0, [.null, .null, .null, .null, .long (lN 0), .int (zI false)])] (bc + 52) (bs + 1252) rfl rfl (by omega) (by omega) d_L_law_0 w_14 w_15 w_1 (fun j hj => match j, hj with | 0, _ => rfl | 1, _ => rfl | 2, _ => rfl | 3, _ => rfl | 4, _ => rfl | 5, _ => rfl | k + 6, hk => absurd hk (Nat.not_lt.mpr (Nat.le_add_left _ _))) ?_
  refine am_dup d_L_law_3 rfl ?_
  refine am_aload_n d_L_law_4 rfl rfl ?_
  refine am_iconst (v := nI 0) d_L_law_5 (by decide) ?_
  refine am_callF 2 (am_lkS (z := m_L_cell) d_L_law_6 w_236 w_237 w_0 w_238 (by decide) np_L_cell) (by decide) (by decide) (Nat.le_of_ble_eq_true rfl) (Nat.le_of_ble_eq_true rfl) (Nat.zero_le _) (Nat.zero_le _) (c_L_cell _ _ _ (by omega)) ?_
  refine am_callF 2 (am_recvI (z := m_X_init) rfl d_L_law_9 w_16 w_17 w_18 rfl rfl (by decide) np_X_init) (by decide) (by decide) (Nat.le_of_ble_eq_true rfl) (Nat.le_of_ble_eq_true rfl) (by omega) (by omega) (am_rm (d := 2) (by omega) (c_X_init 0 _)) ?_
  refine am_astore_n d_L_law_12 rfl (by decide) ?_
  refine am_newO F_M (fs := [.int (nI 0), .int (nI 0), .null, .null, .null, .null, .int (nI 0), .null, .null, .null, .null, .int (nI 0), .null, .null, .null, .null, .long (lN 0), .null, .null, .int (zI false), .int (zI false), .int (nI 0), .null, .null, .null, .null, .null, .long (lN 0), .long (lN 0), .int (nI 0), .int (nI 0), .null, .null, .null]) 30 (hx (if 0 < am_gn G then am_gx G 0 else nI 0).toInt64 false sh_0 fl_0 se_0 pl_0 [.inr (5, [.int (nI 0), .int (nI 0), .null, .null, .null, .null, .int (nI 0), .null, .null, .null, .null, .int (nI 0), .null, .null, .null, .null, .long (lN 0), .null, .null, .int (zI false), .int (zI false), .int (nI 0), .null, .null, .null, .null, .null, .long (lN 0), .long (lN 0), .int (nI 0), .int (nI 0), .null, .null, .null])]) (bc + 23) (bs + 415) rfl rfl (by omega) (by omega) d_L_law_13 w_644 w_645 w_6 (fun j hj => match j, hj with | 0, _ => rfl | 1, _ => rfl | 2, _ => rfl | 3, _ => rfl | 4, _ => rfl | 5, _ => rfl | 6, _ => rfl | 7, _ => rfl | 8, _ => rfl | 9, _ => rfl | 10, _ => rfl | 11, _ => rfl | 12, _ => rfl | 13, _ => rfl | 14, _ => rfl | 15, _ => rfl | 16, _ => rfl | 17, _ => rfl | 18, _ => rfl | 19, _ => rfl | 20, _ => rfl | 21, _ => rfl | 22, _ => rfl | 23, _ => rfl | 24, _ => rfl | 25, _ => rfl | 26, _ => rfl | 27, _ => rfl | 28, _ => rfl | 29, _ => rfl | 30, _ => rfl | 31, _ => rfl | 32, _ => rfl | 33, _ => rfl | k + 34, hk => absurd hk (Nat.not_lt.mpr (Nat.le_add_left _ _))) ?_
  refine am_dup d_L_law_16 rfl ?_
  refine am_aload_n d_L_law_17 rfl rfl ?_
  refine am_iconst (v := nI 0) d_L_law_18 (by decide) ?_
  refine am_callF 2 (am_lkS (z := m_L_cell) d_L_law_19 w_236 w_237 w_0 w_238 (by decide) np_L_cell) (by decide) (by decide) (Nat.le_of_ble_eq_true rfl) (Nat.le_of_ble_eq_true rfl) (Nat.zero_le _) (Nat.zero_le _) (c_L_cell _ _ _ (by omega)) ?_
  refine am_callF 2 (am_recvI (z := m_M_init) rfl d_L_law_22 w_646 w_647 w_648 rfl rfl (by decide) np_M_init) (by decide) (by decide) (Nat.le_of_ble_eq_true rfl) (Nat.le_of_ble_eq_true rfl) (by omega) (by omega) (am_rm (d := 1) (by omega) (c_M_init (A := ((if 0 < am_gn G then am_gx G 0 else nI 0).toInt64, false, sh_0, fl_0, se_0, pl_0)) 0 _)) ?_
  refine am_astore_n d_L_law_25 rfl (by decide) ?_
  refine am_iconst (v := nI 1) d_L_law_26 (by decide) ?_
  refine am_newX (t := 1) (NN := 1) (a0 := (1, .inr (.inl (fun _ => lN 0)))) 53 (hl ((if 0 < am_gn G then am_gx G 0 else nI 0).toInt64, false, sh_0, fl_0, se_0, pl_0) sh_0 (fun _ => 0) (mo_0 (if 0 < am_gn G then am_gx G 0 else nI 0)) (fun _ => lN 0) []) bc bs rfl rfl (by omega) (by omega) d_L_law_27 w_170 rfl (fun cA => rfl) rfl (by decide) (by decide) ?_
  refine am_astore_n d_L_law_29 rfl (by decide) ?_
  refine am_iconst (v := nI 1) d_L_law_30 (by decide) ?_
  refine am_istore d_L_law_31 (by decide) ?_
  exact am_lo (L' := [(0, .ref 0), (1, .ref 1), (2, .ref 30), (3, .ref 53), (4, .int (nI 1))]) rfl (c_L_loop hn q 1 bc bs hq (by omega) hbc hbs _ _ _ _ _ _ _ _ _ _ iv_0 (iv_M0 _))
end LL
