/-! comparing longs; counting down; copying -/
theorem am_dec {a : Nat} (h : 0 < a) : nI a + Int32.ofInt (-1) = nI (a - 1) := by
  have e : Int32.ofInt (-1) = -(nI 1) := by decide
  rw [e, ← Int32.sub_eq_add_neg, pk_sub h]
section AMV
variable {G : am_G} {y : am_M} {d bc bs : Nat} {Q : am_O → am_H → Prop} {pc : Nat} {L : List (Nat × Value)} {st : List Value} {h : am_H}
theorem am_lc_lt {a b : Nat} {off : Int} {tgt : Nat} (hd : decode y.2.1 pc = .ok (.lcmp, 1)) (hd2 : decode y.2.1 (pc + 1) = .ok (.ifCond .lt off, 3)) (ht : ((pc + 1 : Nat) : Int) + off = (tgt : Int)) (ha : a < 2 ^ 31) (hb : b < 2 ^ 31) (k1 : a < b → am_W G y d bc bs Q tgt L st h) (k2 : b ≤ a → am_W G y d bc bs Q (pc + 1 + 3) L st h) : am_W G y d bc bs Q pc L (.long (lN b) :: .long (lN a) :: st) h := by
  have e : lg_cmp (lN a) (lN b) < 0 ↔ a < b := (lg_cmp_lt _ _).trans (lN_lt ha hb)
  refine am_lcmp hd (am_if_lt hd2 ht (fun q => k1 ?_) (fun q => k2 ?_))
  · exact e.mp q
  · have := mt e.mpr q; omega
theorem am_lc_ge {a b : Nat} {off : Int} {tgt : Nat} (hd : decode y.2.1 pc = .ok (.lcmp, 1)) (hd2 : decode y.2.1 (pc + 1) = .ok (.ifCond .ge off, 3)) (ht : ((pc + 1 : Nat) : Int) + off = (tgt : Int)) (ha : a < 2 ^ 31) (hb : b < 2 ^ 31) (k1 : b ≤ a → am_W G y d bc bs Q tgt L st h) (k2 : a < b → am_W G y d bc bs Q (pc + 1 + 3) L st h) : am_W G y d bc bs Q pc L (.long (lN b) :: .long (lN a) :: st) h := by
  have e : lg_cmp (lN a) (lN b) ≥ 0 ↔ b ≤ a := (lg_cmp_ge _ _).trans (lN_le hb ha)
  refine am_lcmp hd (am_if_ge hd2 ht (fun q => k1 ?_) (fun q => k2 ?_))
  · exact e.mp q
  · have := mt e.mpr q; omega
theorem am_lc_le {a b : Nat} {off : Int} {tgt : Nat} (hd : decode y.2.1 pc = .ok (.lcmp, 1)) (hd2 : decode y.2.1 (pc + 1) = .ok (.ifCond .le off, 3)) (ht : ((pc + 1 : Nat) : Int) + off = (tgt : Int)) (ha : a < 2 ^ 31) (hb : b < 2 ^ 31) (k1 : a ≤ b → am_W G y d bc bs Q tgt L st h) (k2 : b < a → am_W G y d bc bs Q (pc + 1 + 3) L st h) : am_W G y d bc bs Q pc L (.long (lN b) :: .long (lN a) :: st) h := by
  have e : lg_cmp (lN a) (lN b) ≤ 0 ↔ a ≤ b := (lg_cmp_le _ _).trans (lN_le ha hb)
  refine am_lcmp hd (am_if_le hd2 ht (fun q => k1 ?_) (fun q => k2 ?_))
  · exact e.mp q
  · have := mt e.mpr q; omega
theorem am_lc_gt {a b : Nat} {off : Int} {tgt : Nat} (hd : decode y.2.1 pc = .ok (.lcmp, 1)) (hd2 : decode y.2.1 (pc + 1) = .ok (.ifCond .gt off, 3)) (ht : ((pc + 1 : Nat) : Int) + off = (tgt : Int)) (ha : a < 2 ^ 31) (hb : b < 2 ^ 31) (k1 : b < a → am_W G y d bc bs Q tgt L st h) (k2 : a ≤ b → am_W G y d bc bs Q (pc + 1 + 3) L st h) : am_W G y d bc bs Q pc L (.long (lN b) :: .long (lN a) :: st) h := by
  have e : lg_cmp (lN a) (lN b) > 0 ↔ b < a := (lg_cmp_gt _ _).trans (lN_lt hb ha)
  refine am_lcmp hd (am_if_gt hd2 ht (fun q => k1 ?_) (fun q => k2 ?_))
  · exact e.mp q
  · have := mt e.mpr q; omega
theorem am_lc_eq {a b : Nat} {off : Int} {tgt : Nat} (hd : decode y.2.1 pc = .ok (.lcmp, 1)) (hd2 : decode y.2.1 (pc + 1) = .ok (.ifCond .eq off, 3)) (ht : ((pc + 1 : Nat) : Int) + off = (tgt : Int)) (ha : a < 2 ^ 31) (hb : b < 2 ^ 31) (k1 : a = b → am_W G y d bc bs Q tgt L st h) (k2 : a ≠ b → am_W G y d bc bs Q (pc + 1 + 3) L st h) : am_W G y d bc bs Q pc L (.long (lN b) :: .long (lN a) :: st) h := by
  have e : lg_cmp (lN a) (lN b) = 0 ↔ a = b := (lg_cmp_eq _ _).trans (lN_eq ha hb)
  refine am_lcmp hd (am_if_eq hd2 ht (fun q => k1 ?_) (fun q => k2 ?_))
  · exact e.mp q
  · exact fun w => q (e.mpr w)
theorem am_lc_ne {a b : Nat} {off : Int} {tgt : Nat} (hd : decode y.2.1 pc = .ok (.lcmp, 1)) (hd2 : decode y.2.1 (pc + 1) = .ok (.ifCond .ne off, 3)) (ht : ((pc + 1 : Nat) : Int) + off = (tgt : Int)) (ha : a < 2 ^ 31) (hb : b < 2 ^ 31) (k1 : a ≠ b → am_W G y d bc bs Q tgt L st h) (k2 : a = b → am_W G y d bc bs Q (pc + 1 + 3) L st h) : am_W G y d bc bs Q pc L (.long (lN b) :: .long (lN a) :: st) h := by
  have e : lg_cmp (lN a) (lN b) = 0 ↔ a = b := (lg_cmp_eq _ _).trans (lN_eq ha hb)
  refine am_lcmp hd (am_if_ne hd2 ht (fun q => k1 ?_) (fun q => k2 ?_))
  · exact fun w => q (e.mpr w)
  · exact e.mp q
theorem am_isubS {a b c : Nat} (hd : decode y.2.1 pc = .ok (.isub, 1)) (e : a = b + c) (k : am_W G y d bc bs Q (pc + 1) L (.int (nI c) :: st) h) : am_W G y d bc bs Q pc L (.int (nI b) :: .int (nI a) :: st) h := by
  subst e
  exact am_isubN hd (Nat.le_add_right _ _) (by rw [Nat.add_sub_cancel_left]; exact k)
theorem va_cpyN (f g : Nat → Nat) (sp dp n : Nat) : va_cpy (fun j => nI (f j)) (fun j => nI (g j)) sp dp n = fun j => nI (va_cpy f g sp dp n j) := by
  funext k
  unfold va_cpy
  split <;> rfl
theorem am_copyA {index a0 a1 n0 n1 : Nat} {f g : Nat → Nat} (sp dp n : Nat) (hd : decode y.2.1 pc = .ok (.invokestatic index, 3)) (w1 : Cond.methodLink y.1.cls index arraycopyName ∈ am_T) (w2 : Cond.native arraycopyName ∈ am_T) (w3 : Cond.static arraycopyName ∈ am_T) (w4 : Cond.initialized "java/lang/System" ∈ am_T)
    (h0 : h[a0]? = some (am_a n0 f)) (h1 : h[a1]? = some (am_a n1 g)) (hs : sp + n ≤ n0) (ht : dp + n ≤ n1) (hn0 : n0 < 2 ^ 31) (hn1 : n1 < 2 ^ 31) (hdd : 1 ≤ d) (hst : (st.map fun v => v.category).sum ≤ 8)
    (k : am_W G y d bc bs Q (pc + 3) L st (h.set a1 (am_a n1 (va_cpy f g sp dp n)))) : am_W G y d bc bs Q pc L (.int (nI n) :: .int (nI dp) :: .ref (a1 + 1) :: .int (nI sp) :: .ref (a0 + 1) :: st) h :=
  am_copy sp dp n hd w1 w2 w3 w4 h0 h1 hs ht hn0 hn1 hdd hst (by rw [va_cpyN]; exact k)
end AMV
section CRA
variable {G : am_G} {x : Int64} {t : Bool} {S : sh_T} {F : fl_T} {R : se_T} {P : pl_T} {W : am_H}
theorem fl_al_bd {S : sh_T} (hS : sh_ok S) (f : fl_T) {j : Nat} (hf : sp_fits S j = true) : fl_al S f j ≤ 280000 := by
  obtain ⟨-, h⟩ := fl_place_sm hS hf (fl_clear_sm f hS)
  have hw := hS.2.2.2.2.2.2.2.2.1 j
  unfold fl_al
  exact Nat.mul_le_mul (n₂ := 2800) (m₂ := 100) (by omega) hw
theorem fl_tw_bd {S : sh_T} (hS : sh_ok S) (f : fl_T) {i j : Nat} (hi : sp_fits S i = true) (hj : sp_fits S j = true) : fl_tw S f i j ≤ 640000 := by
  obtain ⟨h0, h1⟩ := fl_place_sm hS hi (fl_clear_sm f hS)
  obtain ⟨-, h2⟩ := fl_place_sm hS hj h0
  have hw := hS.2.2.2.2.2.2.2.2.1
  unfold fl_tw
  have e1 := Nat.mul_le_mul (n₁ := fl_end S i (fl_clear S f) - sh_du S i) (n₂ := 2800) (m₁ := sh_we S i) (m₂ := 100) (by omega) (hw i)
  have e2 := Nat.mul_le_mul (n₁ := fl_end S j (fl_place S i (fl_clear S f)) - sh_du S j) (n₂ := 3600) (m₁ := sh_we S j) (m₂ := 100) (by omega) (hw j)
  omega
/-- the two jobs clash -/
def sp_cl (S : sh_T) (i j : Nat) : Bool := decide (sp_al S i = 0 ∧ sp_al S j = 0 ∧ 0 < sp_tw S i j ∧ 0 < sp_tw S j i)
theorem c_F_doClash (hS : sh_ok S) (d bc bs i j : Nat) (hi : i < 6) (hj : j < 6) (hfi : sp_fits S i = true) (hfj : sp_fits S j = true) : am_W G m_F_doClash (d + 5) bc bs (fun o h' => ∃ F', o = .inl (some (.int (zI (sp_cl S i j)))) ∧ h' = (hx x t S F' R P W)) 0 (lv_args 0 [.ref 15, .int (nI i), .int (nI j)]) [] (hx x t S F R P W) := by
  refine am_aload_n d_F_doClash_0 rfl rfl ?_
  refine am_iload_n d_F_doClash_1 rfl rfl ?_
  refine am_callF 2 (am_recvV (z := m_F_costAlone) rfl d_F_doClash_2 w_606 w_438 w_439 w_440 F_F.1 rfl (by decide) np_F_costAlone) (by decide) (by decide) (Nat.le_of_ble_eq_true rfl) (Nat.le_of_ble_eq_true rfl) (Nat.zero_le _) (Nat.zero_le _) (c_F_costAlone hS d _ _ i hi hfi) ?_
  refine am_lconst (v := lN 0) d_F_doClash_5 rfl ?_
  refine am_lc_ne (tgt := 46) d_F_doClash_6 d_F_doClash_7 (by decide) (by first | decide | exact Nat.lt_of_le_of_lt (fl_al_bd hS _ hfi) (by decide) | exact Nat.lt_of_le_of_lt (fl_al_bd hS _ hfj) (by decide) | exact Nat.lt_of_le_of_lt (fl_tw_bd hS _ hfi hfj) (by decide) | exact Nat.lt_of_le_of_lt (fl_tw_bd hS _ hfj hfi) (by decide)) (by first | decide | exact Nat.lt_of_le_of_lt (fl_al_bd hS _ hfi) (by decide) | exact Nat.lt_of_le_of_lt (fl_al_bd hS _ hfj) (by decide) | exact Nat.lt_of_le_of_lt (fl_tw_bd hS _ hfi hfj) (by decide) | exact Nat.lt_of_le_of_lt (fl_tw_bd hS _ hfj hfi) (by decide)) (fun c7 => ?_) (fun c7 => ?_)
  · refine am_iconst (v := nI 0) d_F_doClash_46 (by decide) ?_
    refine am_zret d_F_doClash_47 rfl (by decide) ?_
    try rw [fl_al_eq hS _ hfi] at c7
    try rw [fl_al_eq hS _ hfj] at c17
    try rw [fl_tw_eq hS _ hfi hfj] at c28
    try rw [fl_tw_eq hS _ hfj hfi] at c39
    first
      | exact ⟨_, by rw [show sp_cl S i j = true from decide_eq_true (by omega), zI_t], rfl⟩
      | exact ⟨_, by rw [show sp_cl S i j = false from decide_eq_false (by omega), zI_f], rfl⟩
  · refine am_aload_n d_F_doClash_10 rfl rfl ?_
    refine am_iload_n d_F_doClash_11 rfl rfl ?_
    refine am_callF 2 (am_recvV (z := m_F_costAlone) rfl d_F_doClash_12 w_606 w_438 w_439 w_440 F_F.1 rfl (by decide) np_F_costAlone) (by decide) (by decide) (Nat.le_of_ble_eq_true rfl) (Nat.le_of_ble_eq_true rfl) (Nat.zero_le _) (Nat.zero_le _) (c_F_costAlone hS d _ _ j hj hfj) ?_
    refine am_lconst (v := lN 0) d_F_doClash_15 rfl ?_
    refine am_lc_ne (tgt := 46) d_F_doClash_16 d_F_doClash_17 (by decide) (by first | decide | exact Nat.lt_of_le_of_lt (fl_al_bd hS _ hfi) (by decide) | exact Nat.lt_of_le_of_lt (fl_al_bd hS _ hfj) (by decide) | exact Nat.lt_of_le_of_lt (fl_tw_bd hS _ hfi hfj) (by decide) | exact Nat.lt_of_le_of_lt (fl_tw_bd hS _ hfj hfi) (by decide)) (by first | decide | exact Nat.lt_of_le_of_lt (fl_al_bd hS _ hfi) (by decide) | exact Nat.lt_of_le_of_lt (fl_al_bd hS _ hfj) (by decide) | exact Nat.lt_of_le_of_lt (fl_tw_bd hS _ hfi hfj) (by decide) | exact Nat.lt_of_le_of_lt (fl_tw_bd hS _ hfj hfi) (by decide)) (fun c17 => ?_) (fun c17 => ?_)
    · refine am_iconst (v := nI 0) d_F_doClash_46 (by decide) ?_
      refine am_zret d_F_doClash_47 rfl (by decide) ?_
      try rw [fl_al_eq hS _ hfi] at c7
      try rw [fl_al_eq hS _ hfj] at c17
      try rw [fl_tw_eq hS _ hfi hfj] at c28
      try rw [fl_tw_eq hS _ hfj hfi] at c39
      first
        | exact ⟨_, by rw [show sp_cl S i j = true from decide_eq_true (by omega), zI_t], rfl⟩
        | exact ⟨_, by rw [show sp_cl S i j = false from decide_eq_false (by omega), zI_f], rfl⟩
    · refine am_aload_n d_F_doClash_20 rfl rfl ?_
      refine am_iload_n d_F_doClash_21 rfl rfl ?_
      refine am_iload_n d_F_doClash_22 rfl rfl ?_
      refine am_callF 3 (am_recvV (z := m_F_costOfTwo) rfl d_F_doClash_23 w_607 w_609 ws_13 w_610 F_F.1 rfl (by decide) np_F_costOfTwo) (by decide) (by decide) (Nat.le_of_ble_eq_true rfl) (Nat.le_of_ble_eq_true rfl) (Nat.zero_le _) (Nat.zero_le _) (c_F_costOfTwo hS d _ _ i j hi hj hfi hfj) ?_
      refine am_lconst (v := lN 0) d_F_doClash_26 rfl ?_
      refine am_lc_le (tgt := 46) d_F_doClash_27 d_F_doClash_28 (by decide) (by first | decide | exact Nat.lt_of_le_of_lt (fl_al_bd hS _ hfi) (by decide) | exact Nat.lt_of_le_of_lt (fl_al_bd hS _ hfj) (by decide) | exact Nat.lt_of_le_of_lt (fl_tw_bd hS _ hfi hfj) (by decide) | exact Nat.lt_of_le_of_lt (fl_tw_bd hS _ hfj hfi) (by decide)) (by first | decide | exact Nat.lt_of_le_of_lt (fl_al_bd hS _ hfi) (by decide) | exact Nat.lt_of_le_of_lt (fl_al_bd hS _ hfj) (by decide) | exact Nat.lt_of_le_of_lt (fl_tw_bd hS _ hfi hfj) (by decide) | exact Nat.lt_of_le_of_lt (fl_tw_bd hS _ hfj hfi) (by decide)) (fun c28 => ?_) (fun c28 => ?_)
      · refine am_iconst (v := nI 0) d_F_doClash_46 (by decide) ?_
        refine am_zret d_F_doClash_47 rfl (by decide) ?_
        try rw [fl_al_eq hS _ hfi] at c7
        try rw [fl_al_eq hS _ hfj] at c17
        try rw [fl_tw_eq hS _ hfi hfj] at c28
        try rw [fl_tw_eq hS _ hfj hfi] at c39
        first
          | exact ⟨_, by rw [show sp_cl S i j = true from decide_eq_true (by omega), zI_t], rfl⟩
          | exact ⟨_, by rw [show sp_cl S i j = false from decide_eq_false (by omega), zI_f], rfl⟩
      · refine am_aload_n d_F_doClash_31 rfl rfl ?_
        refine am_iload_n d_F_doClash_32 rfl rfl ?_
        refine am_iload_n d_F_doClash_33 rfl rfl ?_
        refine am_callF 3 (am_recvV (z := m_F_costOfTwo) rfl d_F_doClash_34 w_607 w_609 ws_13 w_610 F_F.1 rfl (by decide) np_F_costOfTwo) (by decide) (by decide) (Nat.le_of_ble_eq_true rfl) (Nat.le_of_ble_eq_true rfl) (Nat.zero_le _) (Nat.zero_le _) (c_F_costOfTwo hS d _ _ j i hj hi hfj hfi) ?_
        refine am_lconst (v := lN 0) d_F_doClash_37 rfl ?_
        refine am_lc_le (tgt := 46) d_F_doClash_38 d_F_doClash_39 (by decide) (by first | decide | exact Nat.lt_of_le_of_lt (fl_al_bd hS _ hfi) (by decide) | exact Nat.lt_of_le_of_lt (fl_al_bd hS _ hfj) (by decide) | exact Nat.lt_of_le_of_lt (fl_tw_bd hS _ hfi hfj) (by decide) | exact Nat.lt_of_le_of_lt (fl_tw_bd hS _ hfj hfi) (by decide)) (by first | decide | exact Nat.lt_of_le_of_lt (fl_al_bd hS _ hfi) (by decide) | exact Nat.lt_of_le_of_lt (fl_al_bd hS _ hfj) (by decide) | exact Nat.lt_of_le_of_lt (fl_tw_bd hS _ hfi hfj) (by decide) | exact Nat.lt_of_le_of_lt (fl_tw_bd hS _ hfj hfi) (by decide)) (fun c39 => ?_) (fun c39 => ?_)
        · refine am_iconst (v := nI 0) d_F_doClash_46 (by decide) ?_
          refine am_zret d_F_doClash_47 rfl (by decide) ?_
          try rw [fl_al_eq hS _ hfi] at c7
          try rw [fl_al_eq hS _ hfj] at c17
          try rw [fl_tw_eq hS _ hfi hfj] at c28
          try rw [fl_tw_eq hS _ hfj hfi] at c39
          first
            | exact ⟨_, by rw [show sp_cl S i j = true from decide_eq_true (by omega), zI_t], rfl⟩
            | exact ⟨_, by rw [show sp_cl S i j = false from decide_eq_false (by omega), zI_f], rfl⟩
        · refine am_iconst (v := nI 1) d_F_doClash_42 (by decide) ?_
          refine am_goto (tgt := 47) d_F_doClash_43 (by decide) ?_
          refine am_zret d_F_doClash_47 rfl (by decide) ?_
          try rw [fl_al_eq hS _ hfi] at c7
          try rw [fl_al_eq hS _ hfj] at c17
          try rw [fl_tw_eq hS _ hfi hfj] at c28
          try rw [fl_tw_eq hS _ hfj hfi] at c39
          first
            | exact ⟨_, by rw [show sp_cl S i j = true from decide_eq_true (by omega), zI_t], rfl⟩
            | exact ⟨_, by rw [show sp_cl S i j = false from decide_eq_false (by omega), zI_f], rfl⟩
/-- a job put into a row by its due hour -/
def se_ins (du : Nat → Nat) (j : Nat) : Nat → (Nat → Nat) → Nat → Nat
  | 0, b => nu b 0 j
  | p + 1, b => if du j < du (b p) then se_ins du j p (nu b (p + 1) (b p)) else nu b (p + 1) j
def se_ord (du : Nat → Nat) (b : Nat → Nat) : Nat → Nat → Nat
  | 0 => b
  | k + 1 => se_ins du k k (se_ord du b k)
abbrev se_wb (R : se_T) (b : Nat → Nat) : se_T := (se_co R, se_li R, se_bo R, se_no R, se_al R, se_be R, se_ib R, b)
theorem se_ins_bd (du : Nat → Nat) (j : Nat) (hj : j < 6) : ∀ (p : Nat) (b : Nat → Nat), (∀ i, b i < 6) → ∀ i, se_ins du j p b i < 6
  | 0, b, hb, i => by
    unfold se_ins nu
    split
    · exact hj
    · exact hb i
  | p + 1, b, hb, i => by
    unfold se_ins
    split
    · refine se_ins_bd du j hj p _ (fun k => ?_) i
      unfold nu
      split
      · exact hb p
      · exact hb k
    · unfold nu
      split
      · exact hj
      · exact hb i
theorem se_ord_bd (du b : Nat → Nat) (hb : ∀ i, b i < 6) : ∀ k, k ≤ 6 → ∀ i, se_ord du b k i < 6
  | 0, _, i => hb i
  | k + 1, hk, i => se_ins_bd du k (by omega) k _ (se_ord_bd du b hb k (by omega)) i
set_option maxRecDepth 20000 in
theorem c_R_orderByDue_i {Q : am_O → am_H → Prop} (hS : sh_ok S) (d bc bs j : Nat) (hj : j < 6) : ∀ (p : Nat), p ≤ j → ∀ (b : Nat → Nat), (∀ i, b i < 6) →
    am_W G m_R_orderByDue d bc bs Q 2 [(0, .ref 21), (1, .int (nI (j + 1)))] [] (hx x t S F (se_wb R (se_ins (sh_du S) j p b)) P W) → am_W G m_R_orderByDue d bc bs Q 15 [(0, .ref 21), (1, .int (nI j)), (2, .int (nI p))] [] (hx x t S F (se_wb R b) P W) := by
  intro p
  induction p with
  | zero =>
    intro hp b hb hk
    refine am_iload_n d_R_orderByDue_15 rfl rfl ?_
    refine am_ifN_le (tgt := 67) d_R_orderByDue_16 (by decide) (by omega) (fun c16 => ?_) (fun c16 => ?_)
    · refine am_aload_n d_R_orderByDue_67 rfl rfl ?_
      refine am_get F_R 5 (by decide) d_R_orderByDue_68 w_141 rfl rfl ?_
      refine am_iload_n d_R_orderByDue_71 rfl rfl ?_
      refine am_iload_n d_R_orderByDue_72 rfl rfl ?_
      refine am_iastA d_R_orderByDue_73 rfl (by omega) (by decide) ?_
      refine am_iinc d_R_orderByDue_74 rfl (am_inc _) (by decide) ?_
      refine am_goto (tgt := 2) d_R_orderByDue_77 (by decide) ?_
      exact am_lo (L' := [(0, .ref 21), (1, .int (nI (j + 1)))]) rfl hk
    · exact absurd c16 (by decide)
  | succ p ih =>
    intro hp b hb hk
    have hbp := hb p
    have t1 := hS.2.2.2.2.2.2.2.1 (b p)
    have t3 : sh_du S (se_bs (se_wb R b) p) = sh_du S (b p) := rfl
    have t2 := hS.2.2.2.2.2.2.2.1 j
    unfold se_ins at hk
    refine am_iload_n d_R_orderByDue_15 rfl rfl ?_
    refine am_ifN_le (tgt := 67) d_R_orderByDue_16 (by decide) (by omega) (fun c16 => ?_) (fun c16 => ?_)
    · exact absurd c16 (by omega)
    · refine am_aload_n d_R_orderByDue_19 rfl rfl ?_
      refine am_get F_R 0 (by decide) d_R_orderByDue_20 w_136 rfl rfl ?_
      refine am_get F_S 6 (by decide) d_R_orderByDue_23 w_48 rfl rfl ?_
      refine am_aload_n d_R_orderByDue_26 rfl rfl ?_
      refine am_get F_R 5 (by decide) d_R_orderByDue_27 w_141 rfl rfl ?_
      refine am_iload_n d_R_orderByDue_30 rfl rfl ?_
      refine am_iconst (v := nI 1) d_R_orderByDue_31 (by decide) ?_
      refine am_isubS (c := p) d_R_orderByDue_32 (by omega) ?_
      refine am_ialdA d_R_orderByDue_33 rfl (by omega) (by decide) ?_
      refine am_ialdA d_R_orderByDue_34 rfl (by omega) (by decide) ?_
      refine am_aload_n d_R_orderByDue_35 rfl rfl ?_
      refine am_get F_R 0 (by decide) d_R_orderByDue_36 w_136 rfl rfl ?_
      refine am_get F_S 6 (by decide) d_R_orderByDue_39 w_48 rfl rfl ?_
      refine am_iload_n d_R_orderByDue_42 rfl rfl ?_
      refine am_ialdA d_R_orderByDue_43 rfl (by omega) (by decide) ?_
      refine am_icmpN_le (tgt := 67) d_R_orderByDue_44 (by decide) (by omega) (by omega) (fun c44 => ?_) (fun c44 => ?_)
      · refine am_aload_n d_R_orderByDue_67 rfl rfl ?_
        refine am_get F_R 5 (by decide) d_R_orderByDue_68 w_141 rfl rfl ?_
        refine am_iload_n d_R_orderByDue_71 rfl rfl ?_
        refine am_iload_n d_R_orderByDue_72 rfl rfl ?_
        refine am_iastA d_R_orderByDue_73 rfl (by omega) (by decide) ?_
        refine am_iinc d_R_orderByDue_74 rfl (am_inc _) (by decide) ?_
        refine am_goto (tgt := 2) d_R_orderByDue_77 (by decide) ?_
        rw [if_neg (by omega)] at hk
        exact am_lo (L' := [(0, .ref 21), (1, .int (nI (j + 1)))]) rfl hk
      · refine am_aload_n d_R_orderByDue_47 rfl rfl ?_
        refine am_get F_R 5 (by decide) d_R_orderByDue_48 w_141 rfl rfl ?_
        refine am_iload_n d_R_orderByDue_51 rfl rfl ?_
        refine am_aload_n d_R_orderByDue_52 rfl rfl ?_
        refine am_get F_R 5 (by decide) d_R_orderByDue_53 w_141 rfl rfl ?_
        refine am_iload_n d_R_orderByDue_56 rfl rfl ?_
        refine am_iconst (v := nI 1) d_R_orderByDue_57 (by decide) ?_
        refine am_isubS (c := p) d_R_orderByDue_58 (by omega) ?_
        refine am_ialdA d_R_orderByDue_59 rfl (by omega) (by decide) ?_
        refine am_iastA d_R_orderByDue_60 rfl (by omega) (by decide) ?_
        refine am_iinc d_R_orderByDue_61 rfl (am_dec (by omega)) (by decide) ?_
        refine am_goto (tgt := 15) d_R_orderByDue_64 (by decide) ?_
        rw [if_pos (by omega)] at hk
        refine am_lo (L' := [(0, .ref 21), (1, .int (nI j)), (2, .int (nI p))]) rfl (ih (by omega) (nu b (p + 1) (b p)) (fun k => ?_) hk)
        unfold nu
        split
        · exact hbp
        · exact hb k
set_option maxRecDepth 20000 in
theorem c_R_orderByDue_o (hS : sh_ok S) (d bc bs : Nat) (hb : ∀ i, se_bs R i < 6) : ∀ (n i : Nat), i ≤ sh_jb S → sh_jb S - i < n →
    am_W G m_R_orderByDue d bc bs (fun o h' => o = .inl none ∧ h' = (hx x t S F (se_wb R (se_ord (sh_du S) (se_bs R) (sh_jb S))) P W)) 2 [(0, .ref 21), (1, .int (nI i))] [] (hx x t S F (se_wb R (se_ord (sh_du S) (se_bs R) i)) P W) := by
  intro n
  have s2 := hS.2.1
  induction n with
  | zero => intro i _ h; omega
  | succ n ih =>
    intro i hi hn
    refine am_iload_n d_R_orderByDue_2 rfl rfl ?_
    refine am_aload_n d_R_orderByDue_3 rfl rfl ?_
    refine am_get F_R 0 (by decide) d_R_orderByDue_4 w_136 rfl rfl ?_
    refine am_get F_S 5 (by decide) d_R_orderByDue_7 w_44 rfl rfl ?_
    refine am_icmpN_ge (tgt := 80) d_R_orderByDue_10 (by decide) (by omega) (by omega) (fun c10 => ?_) (fun c10 => ?_)
    · refine am_vret d_R_orderByDue_80 rfl ?_
      have e : i = sh_jb S := by omega
      subst e
      exact ⟨rfl, rfl⟩
    · refine am_iload_n d_R_orderByDue_13 rfl rfl ?_
      refine am_istore_n d_R_orderByDue_14 rfl (by decide) ?_
      refine am_lo (L' := [(0, .ref 21), (1, .int (nI i)), (2, .int (nI i))]) rfl (c_R_orderByDue_i hS d bc bs i (by omega) i (Nat.le_refl _) _ (se_ord_bd _ _ hb i (by omega)) ?_)
      exact ih (i + 1) (by omega) (by omega)
theorem c_R_orderByDue (hS : sh_ok S) (d bc bs : Nat) (hb : ∀ i, se_bs R i < 6) : am_Fn G m_R_orderByDue d bc bs [.ref 21] (hx x t S F R P W) none (hx x t S F (se_wb R (se_ord (sh_du S) (se_bs R) (sh_jb S))) P W) := by
  refine am_iconst (v := nI 0) d_R_orderByDue_0 (by decide) ?_
  refine am_istore_n d_R_orderByDue_1 rfl (by decide) ?_
  exact am_lo (L' := [(0, .ref 21), (1, .int (nI 0))]) rfl (c_R_orderByDue_o hS d bc bs hb (sh_jb S + 1) 0 (Nat.zero_le _) (by omega))
end CRA
