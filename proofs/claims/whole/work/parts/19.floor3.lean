/-! the floor: lifting, costs -/
section CFN
variable {G : am_G} {x : Int64} {t : Bool} {S : sh_T} {F : fl_T} {R : se_T} {P : pl_T} {W : am_H}
theorem am_hq {y : am_M} {d bc bs : Nat} {Q : am_O → am_H → Prop} {pc : Nat} {L : List (Nat × Value)} {st : List Value} {h h2 : am_H} (e : h = h2) (k : am_W G y d bc bs Q pc L st h2) : am_W G y d bc bs Q pc L st h := e ▸ k
theorem fl_spans_sm {S : sh_T} {f : fl_T} {N m : Nat} (hS : sh_ok S) (hN : N ≤ 6) (hm : m < N) (hF : fl_sm N f 2000) : ∀ i, fl_sm N (fl_spans S m f i) 2000
  | 0 => hF
  | i + 1 => fl_sm_add (fl_spans_sm hS hN hm hF i) hN hm (by have := hS.2.2.2.2.2.1 (m * 8 + i); omega) (hS.2.2.2.2.2.2.1 (m * 8 + i))
theorem fl_clr_sm {S : sh_T} {f : fl_T} (hS : sh_ok S) : ∀ n, n ≤ 6 → fl_sm n (fl_clr S f n) 2000
  | 0, _ => ⟨fun m hm => absurd hm (Nat.not_lt_zero m), fun m i hm => absurd hm (Nat.not_lt_zero m)⟩
  | n + 1, hn => by
    have h := fl_clr_sm (f := f) hS n (by omega)
    unfold fl_clr
    refine fl_spans_sm hS hn (by omega) ⟨fun m hm => ?_, fun m i hm hi => ?_⟩ _
    · show nu (fl_bc (fl_clr S f n)) n 0 m ≤ 32
      unfold nu
      split
      · omega
      · exact h.1 m (by omega)
    · have hi' : i < nu (fl_bc (fl_clr S f n)) n 0 m := hi
      by_cases e : m = n
      · subst e
        rw [nu_eq] at hi'
        omega
      · rw [nu_ne _ _ e] at hi'
        exact h.2 m i (by omega) hi'
theorem fl_clear_sm {S : sh_T} (f : fl_T) (hS : sh_ok S) : fl_sm (sh_mc S) (fl_clear S f) 2000 := fl_clr_sm hS _ hS.1
theorem fl_place_sm {S : sh_T} {f : fl_T} {j B : Nat} (hS : sh_ok S) (hf : sp_fits S j = true) (hF : fl_sm (sh_mc S) f B) : fl_sm (sh_mc S) (fl_place S j f) (B + 800) ∧ fl_end S j f ≤ B + 800 := by
  obtain ⟨h1, h2, -⟩ := fl_pj_sm hS hf hF (sh_so S j) (Nat.le_refl _)
  have := hS.2.2.2.2.2.2.2.2.2.1 j
  exact ⟨fl_sm_mono h1 (by omega), Nat.le_trans h2 (by omega)⟩
/-- jobs by an order, one behind the other: the floor, the cost -/
def fl_co (S : sh_T) (g : Nat → Nat) (f : fl_T) : Nat → fl_T × Nat
  | 0 => (f, 0)
  | k + 1 => (fl_place S (g k) (fl_co S g f k).1, (fl_co S g f k).2 + (fl_end S (g k) (fl_co S g f k).1 - sh_du S (g k)) * sh_we S (g k))
theorem fl_co_sm {S : sh_T} {f : fl_T} {g : Nat → Nat} {B : Nat} (hS : sh_ok S) (hF : fl_sm (sh_mc S) f B) : ∀ n, (∀ k, k < n → g k < 6 ∧ sp_fits S (g k) = true) → fl_sm (sh_mc S) (fl_co S g f n).1 (B + 800 * n)
  | 0, _ => hF
  | n + 1, hg => by
    have h := fl_co_sm hS hF n (fun k hk => hg k (by omega))
    exact fl_sm_mono (fl_place_sm hS (hg n (by omega)).2 h).1 (by omega)
set_option maxRecDepth 20000 in
theorem c_F_costInOrderR_l (hS : sh_ok S) (d bc bs n : Nat) (hn : n ≤ 6) (hg : ∀ k, k < n → (se_bs R) k < 6 ∧ sp_fits S ((se_bs R) k) = true) : ∀ (q k : Nat), k ≤ n → n - k < q →
    am_W G m_F_costInOrder (d + 4) bc bs (fun o h' => o = .inl (some (.long (lN (fl_co S (se_bs R) (fl_clear S F) n).2))) ∧ h' = (hx x t S (fl_co S (se_bs R) (fl_clear S F) n).1 R P W)) 9 [(0, .ref 15), (1, .ref 25), (2, .int (nI n)), (3, .long (lN (fl_co S (se_bs R) (fl_clear S F) k).2)), (5, .int (nI k))] [] (hx x t S (fl_co S (se_bs R) (fl_clear S F) k).1 R P W) := by
  intro q
  induction q with
  | zero => intro i _ h; omega
  | succ q ih =>
    intro k hk hq
    have hsm := fl_co_sm (g := (se_bs R)) hS (fl_clear_sm F hS) k (fun i hi => hg i (by omega))
    refine am_iload d_F_costInOrder_9 rfl ?_
    refine am_iload_n d_F_costInOrder_11 rfl rfl ?_
    refine am_icmpN_ge (tgt := 43) d_F_costInOrder_12 (by decide) (by omega) (by omega) (fun c12 => ?_) (fun c12 => ?_)
    · refine am_lload_n d_F_costInOrder_43 rfl rfl ?_
      refine am_lret d_F_costInOrder_44 rfl ?_
      have e : k = n := by omega
      subst e
      exact ⟨rfl, rfl⟩
    · obtain ⟨h1, h2⟩ := hg k (by omega)
      obtain ⟨-, hend⟩ := fl_place_sm (f := (fl_co S (se_bs R) (fl_clear S F) k).1) hS h2 hsm
      refine am_lload_n d_F_costInOrder_15 rfl rfl ?_
      refine am_aload_n d_F_costInOrder_16 rfl rfl ?_
      refine am_get F_F 0 (by decide) d_F_costInOrder_17 w_109 rfl rfl ?_
      refine am_aload_n d_F_costInOrder_20 rfl rfl ?_
      refine am_iload d_F_costInOrder_21 rfl ?_
      refine am_ialdA d_F_costInOrder_23 rfl (by omega) (by decide) ?_
      refine am_aload_n d_F_costInOrder_24 rfl rfl ?_
      refine am_aload_n d_F_costInOrder_25 rfl rfl ?_
      refine am_iload d_F_costInOrder_26 rfl ?_
      refine am_ialdA d_F_costInOrder_28 rfl (by omega) (by decide) ?_
      refine am_callF 2 (am_recvV (z := m_F_place) rfl d_F_costInOrder_29 w_449 w_450 w_451 w_452 F_F.1 rfl (by decide) np_F_place) (by decide) (by decide) (Nat.le_of_ble_eq_true rfl) (Nat.le_of_ble_eq_true rfl) (Nat.zero_le _) (Nat.zero_le _) (c_F_place hS d _ _ _ (2000 + 800 * k) h1 h2 hsm (by omega)) ?_
      refine am_callF 3 (am_recvV (z := m_S_costOf) rfl d_F_costInOrder_32 w_468 w_469 w_470 w_471 F_S.1 rfl (by decide) np_S_costOf) (by decide) (by decide) (Nat.le_of_ble_eq_true rfl) (Nat.le_of_ble_eq_true rfl) (Nat.zero_le _) (Nat.zero_le _) (c_S_costOf hS _ _ _ _ _ h1 (by omega)) ?_
      refine am_laddN d_F_costInOrder_35 ?_
      refine am_lstore_n d_F_costInOrder_36 rfl (by decide) ?_
      refine am_iinc d_F_costInOrder_37 rfl (am_inc _) (by decide) ?_
      refine am_goto (tgt := 9) d_F_costInOrder_40 (by decide) ?_
      exact am_lo (L' := [(0, .ref 15), (1, .ref 25), (2, .int (nI n)), (3, .long (lN (fl_co S (se_bs R) (fl_clear S F) (k + 1)).2)), (5, .int (nI (k + 1)))]) rfl (ih (k + 1) (by omega) (by omega))
theorem c_F_costInOrderR (hS : sh_ok S) (d bc bs n : Nat) (hn : n ≤ 6) (hg : ∀ k, k < n → (se_bs R) k < 6 ∧ sp_fits S ((se_bs R) k) = true) : am_Fn G m_F_costInOrder (d + 4) bc bs [.ref 15, .ref 25, .int (nI n)] (hx x t S F R P W) (some (.long (lN (fl_co S (se_bs R) (fl_clear S F) n).2))) (hx x t S (fl_co S (se_bs R) (fl_clear S F) n).1 R P W) := by
  refine am_aload_n d_F_costInOrder_0 rfl rfl ?_
  refine am_callF 1 (am_recvV (z := m_F_clear) rfl d_F_costInOrder_1 w_441 w_442 w_443 w_444 F_F.1 rfl (by decide) np_F_clear) (by decide) (by decide) (Nat.le_of_ble_eq_true rfl) (Nat.le_of_ble_eq_true rfl) (Nat.zero_le _) (Nat.zero_le _) (c_F_clear hS _ _ _) ?_
  refine am_lconst (v := 0) d_F_costInOrder_4 rfl ?_
  refine am_lstore_n d_F_costInOrder_5 rfl (by decide) ?_
  refine am_iconst (v := nI 0) d_F_costInOrder_6 (by decide) ?_
  refine am_istore d_F_costInOrder_7 (by decide) ?_
  exact am_lo (L' := [(0, .ref 15), (1, .ref 25), (2, .int (nI n)), (3, .long (lN 0)), (5, .int (nI 0))]) rfl (c_F_costInOrderR_l hS d bc bs n hn hg (n + 1) 0 (Nat.zero_le _) (by omega))
set_option maxRecDepth 20000 in
theorem c_F_costInOrderP_l (hS : sh_ok S) (d bc bs n : Nat) (hn : n ≤ 6) (hg : ∀ k, k < n → (pl_ja P) k < 6 ∧ sp_fits S ((pl_ja P) k) = true) : ∀ (q k : Nat), k ≤ n → n - k < q →
    am_W G m_F_costInOrder (d + 4) bc bs (fun o h' => o = .inl (some (.long (lN (fl_co S (pl_ja P) (fl_clear S F) n).2))) ∧ h' = (hx x t S (fl_co S (pl_ja P) (fl_clear S F) n).1 R P W)) 9 [(0, .ref 15), (1, .ref 27), (2, .int (nI n)), (3, .long (lN (fl_co S (pl_ja P) (fl_clear S F) k).2)), (5, .int (nI k))] [] (hx x t S (fl_co S (pl_ja P) (fl_clear S F) k).1 R P W) := by
  intro q
  induction q with
  | zero => intro i _ h; omega
  | succ q ih =>
    intro k hk hq
    have hsm := fl_co_sm (g := (pl_ja P)) hS (fl_clear_sm F hS) k (fun i hi => hg i (by omega))
    refine am_iload d_F_costInOrder_9 rfl ?_
    refine am_iload_n d_F_costInOrder_11 rfl rfl ?_
    refine am_icmpN_ge (tgt := 43) d_F_costInOrder_12 (by decide) (by omega) (by omega) (fun c12 => ?_) (fun c12 => ?_)
    · refine am_lload_n d_F_costInOrder_43 rfl rfl ?_
      refine am_lret d_F_costInOrder_44 rfl ?_
      have e : k = n := by omega
      subst e
      exact ⟨rfl, rfl⟩
    · obtain ⟨h1, h2⟩ := hg k (by omega)
      obtain ⟨-, hend⟩ := fl_place_sm (f := (fl_co S (pl_ja P) (fl_clear S F) k).1) hS h2 hsm
      refine am_lload_n d_F_costInOrder_15 rfl rfl ?_
      refine am_aload_n d_F_costInOrder_16 rfl rfl ?_
      refine am_get F_F 0 (by decide) d_F_costInOrder_17 w_109 rfl rfl ?_
      refine am_aload_n d_F_costInOrder_20 rfl rfl ?_
      refine am_iload d_F_costInOrder_21 rfl ?_
      refine am_ialdA d_F_costInOrder_23 rfl (by omega) (by decide) ?_
      refine am_aload_n d_F_costInOrder_24 rfl rfl ?_
      refine am_aload_n d_F_costInOrder_25 rfl rfl ?_
      refine am_iload d_F_costInOrder_26 rfl ?_
      refine am_ialdA d_F_costInOrder_28 rfl (by omega) (by decide) ?_
      refine am_callF 2 (am_recvV (z := m_F_place) rfl d_F_costInOrder_29 w_449 w_450 w_451 w_452 F_F.1 rfl (by decide) np_F_place) (by decide) (by decide) (Nat.le_of_ble_eq_true rfl) (Nat.le_of_ble_eq_true rfl) (Nat.zero_le _) (Nat.zero_le _) (c_F_place hS d _ _ _ (2000 + 800 * k) h1 h2 hsm (by omega)) ?_
      refine am_callF 3 (am_recvV (z := m_S_costOf) rfl d_F_costInOrder_32 w_468 w_469 w_470 w_471 F_S.1 rfl (by decide) np_S_costOf) (by decide) (by decide) (Nat.le_of_ble_eq_true rfl) (Nat.le_of_ble_eq_true rfl) (Nat.zero_le _) (Nat.zero_le _) (c_S_costOf hS _ _ _ _ _ h1 (by omega)) ?_
      refine am_laddN d_F_costInOrder_35 ?_
      refine am_lstore_n d_F_costInOrder_36 rfl (by decide) ?_
      refine am_iinc d_F_costInOrder_37 rfl (am_inc _) (by decide) ?_
      refine am_goto (tgt := 9) d_F_costInOrder_40 (by decide) ?_
      exact am_lo (L' := [(0, .ref 15), (1, .ref 27), (2, .int (nI n)), (3, .long (lN (fl_co S (pl_ja P) (fl_clear S F) (k + 1)).2)), (5, .int (nI (k + 1)))]) rfl (ih (k + 1) (by omega) (by omega))
theorem c_F_costInOrderP (hS : sh_ok S) (d bc bs n : Nat) (hn : n ≤ 6) (hg : ∀ k, k < n → (pl_ja P) k < 6 ∧ sp_fits S ((pl_ja P) k) = true) : am_Fn G m_F_costInOrder (d + 4) bc bs [.ref 15, .ref 27, .int (nI n)] (hx x t S F R P W) (some (.long (lN (fl_co S (pl_ja P) (fl_clear S F) n).2))) (hx x t S (fl_co S (pl_ja P) (fl_clear S F) n).1 R P W) := by
  refine am_aload_n d_F_costInOrder_0 rfl rfl ?_
  refine am_callF 1 (am_recvV (z := m_F_clear) rfl d_F_costInOrder_1 w_441 w_442 w_443 w_444 F_F.1 rfl (by decide) np_F_clear) (by decide) (by decide) (Nat.le_of_ble_eq_true rfl) (Nat.le_of_ble_eq_true rfl) (Nat.zero_le _) (Nat.zero_le _) (c_F_clear hS _ _ _) ?_
  refine am_lconst (v := 0) d_F_costInOrder_4 rfl ?_
  refine am_lstore_n d_F_costInOrder_5 rfl (by decide) ?_
  refine am_iconst (v := nI 0) d_F_costInOrder_6 (by decide) ?_
  refine am_istore d_F_costInOrder_7 (by decide) ?_
  exact am_lo (L' := [(0, .ref 15), (1, .ref 27), (2, .int (nI n)), (3, .long (lN 0)), (5, .int (nI 0))]) rfl (c_F_costInOrderP_l hS d bc bs n hn hg (n + 1) 0 (Nat.zero_le _) (by omega))
/-- a job's cost if no other is placed -/
def fl_al (S : sh_T) (f : fl_T) (j : Nat) : Nat := (fl_end S j (fl_clear S f) - sh_du S j) * sh_we S j
/-- the cost of two, one behind the other -/
def fl_tw (S : sh_T) (f : fl_T) (i j : Nat) : Nat := (fl_end S i (fl_clear S f) - sh_du S i) * sh_we S i + (fl_end S j (fl_place S i (fl_clear S f)) - sh_du S j) * sh_we S j
theorem c_F_costAlone (hS : sh_ok S) (d bc bs j : Nat) (hj : j < 6) (hf : sp_fits S j = true) : am_Fn G m_F_costAlone (d + 4) bc bs [.ref 15, .int (nI j)] (hx x t S F R P W) (some (.long (lN (fl_al S F j)))) (hx x t S (fl_place S j (fl_clear S F)) R P W) := by
  have hsm := fl_clear_sm F hS
  obtain ⟨-, hend⟩ := fl_place_sm hS hf hsm
  refine am_aload_n d_F_costAlone_0 rfl rfl ?_
  refine am_callF 1 (am_recvV (z := m_F_clear) rfl d_F_costAlone_1 w_441 w_442 w_443 w_444 F_F.1 rfl (by decide) np_F_clear) (by decide) (by decide) (Nat.le_of_ble_eq_true rfl) (Nat.le_of_ble_eq_true rfl) (Nat.zero_le _) (Nat.zero_le _) (c_F_clear hS _ _ _) ?_
  refine am_aload_n d_F_costAlone_4 rfl rfl ?_
  refine am_get F_F 0 (by decide) d_F_costAlone_5 w_109 rfl rfl ?_
  refine am_iload_n d_F_costAlone_8 rfl rfl ?_
  refine am_aload_n d_F_costAlone_9 rfl rfl ?_
  refine am_iload_n d_F_costAlone_10 rfl rfl ?_
  refine am_callF 2 (am_recvV (z := m_F_place) rfl d_F_costAlone_11 w_449 w_450 w_451 w_452 F_F.1 rfl (by decide) np_F_place) (by decide) (by decide) (Nat.le_of_ble_eq_true rfl) (Nat.le_of_ble_eq_true rfl) (Nat.zero_le _) (Nat.zero_le _) (c_F_place hS d _ _ j 2000 hj hf hsm (by omega)) ?_
  refine am_callF 3 (am_recvV (z := m_S_costOf) rfl d_F_costAlone_14 w_468 w_469 w_470 w_471 F_S.1 rfl (by decide) np_S_costOf) (by decide) (by decide) (Nat.le_of_ble_eq_true rfl) (Nat.le_of_ble_eq_true rfl) (Nat.zero_le _) (Nat.zero_le _) (c_S_costOf hS _ _ _ _ _ hj (by omega)) ?_
  refine am_lret d_F_costAlone_17 rfl ?_
  exact ⟨rfl, rfl⟩
theorem c_F_costOfTwo (hS : sh_ok S) (d bc bs i j : Nat) (hi : i < 6) (hj : j < 6) (hfi : sp_fits S i = true) (hfj : sp_fits S j = true) : am_Fn G m_F_costOfTwo (d + 4) bc bs [.ref 15, .int (nI i), .int (nI j)] (hx x t S F R P W) (some (.long (lN (fl_tw S F i j)))) (hx x t S (fl_place S j (fl_place S i (fl_clear S F))) R P W) := by
  have hsm := fl_clear_sm F hS
  obtain ⟨hsm2, hend⟩ := fl_place_sm hS hfi hsm
  obtain ⟨-, hend2⟩ := fl_place_sm hS hfj hsm2
  refine am_aload_n d_F_costOfTwo_0 rfl rfl ?_
  refine am_callF 1 (am_recvV (z := m_F_clear) rfl d_F_costOfTwo_1 w_441 w_442 w_443 w_444 F_F.1 rfl (by decide) np_F_clear) (by decide) (by decide) (Nat.le_of_ble_eq_true rfl) (Nat.le_of_ble_eq_true rfl) (Nat.zero_le _) (Nat.zero_le _) (c_F_clear hS _ _ _) ?_
  refine am_aload_n d_F_costOfTwo_4 rfl rfl ?_
  refine am_get F_F 0 (by decide) d_F_costOfTwo_5 w_109 rfl rfl ?_
  refine am_iload_n d_F_costOfTwo_8 rfl rfl ?_
  refine am_aload_n d_F_costOfTwo_9 rfl rfl ?_
  refine am_iload_n d_F_costOfTwo_10 rfl rfl ?_
  refine am_callF 2 (am_recvV (z := m_F_place) rfl d_F_costOfTwo_11 w_449 w_450 w_451 w_452 F_F.1 rfl (by decide) np_F_place) (by decide) (by decide) (Nat.le_of_ble_eq_true rfl) (Nat.le_of_ble_eq_true rfl) (Nat.zero_le _) (Nat.zero_le _) (c_F_place hS d _ _ i 2000 hi hfi hsm (by omega)) ?_
  refine am_callF 3 (am_recvV (z := m_S_costOf) rfl d_F_costOfTwo_14 w_468 w_469 w_470 w_471 F_S.1 rfl (by decide) np_S_costOf) (by decide) (by decide) (Nat.le_of_ble_eq_true rfl) (Nat.le_of_ble_eq_true rfl) (Nat.zero_le _) (Nat.zero_le _) (c_S_costOf hS _ _ _ _ _ hi (by omega)) ?_
  refine am_lstore_n d_F_costOfTwo_17 rfl (by decide) ?_
  refine am_lload_n d_F_costOfTwo_18 rfl rfl ?_
  refine am_aload_n d_F_costOfTwo_19 rfl rfl ?_
  refine am_get F_F 0 (by decide) d_F_costOfTwo_20 w_109 rfl rfl ?_
  refine am_iload_n d_F_costOfTwo_23 rfl rfl ?_
  refine am_aload_n d_F_costOfTwo_24 rfl rfl ?_
  refine am_iload_n d_F_costOfTwo_25 rfl rfl ?_
  refine am_callF 2 (am_recvV (z := m_F_place) rfl d_F_costOfTwo_26 w_449 w_450 w_451 w_452 F_F.1 rfl (by decide) np_F_place) (by decide) (by decide) (Nat.le_of_ble_eq_true rfl) (Nat.le_of_ble_eq_true rfl) (Nat.zero_le _) (Nat.zero_le _) (c_F_place hS d _ _ j 2800 hj hfj hsm2 (by omega)) ?_
  refine am_callF 3 (am_recvV (z := m_S_costOf) rfl d_F_costOfTwo_29 w_468 w_469 w_470 w_471 F_S.1 rfl (by decide) np_S_costOf) (by decide) (by decide) (Nat.le_of_ble_eq_true rfl) (Nat.le_of_ble_eq_true rfl) (Nat.zero_le _) (Nat.zero_le _) (c_S_costOf hS _ _ _ _ _ hj (by omega)) ?_
  refine am_laddN d_F_costOfTwo_32 ?_
  refine am_lret d_F_costOfTwo_33 rfl ?_
  exact ⟨rfl, rfl⟩
/-- the job that was placed last is taken away -/
def fl_dec (f : fl_T) (m : Nat) : fl_T := if 0 < fl_bc f m then (fl_bg f, fl_ma f, nu (fl_bc f) m (fl_bc f m - 1), fl_bf f, fl_bt f) else f
def fl_li (S : sh_T) (j : Nat) (f : fl_T) : Nat → fl_T
  | 0 => f
  | i + 1 => fl_dec (fl_li S j f i) (fl_ma f (sh_sa S (j * 4 + i)))
def fl_lift (S : sh_T) (j : Nat) (f : fl_T) : fl_T := fl_li S j f (sh_so S j)
theorem fl_li_ma (S : sh_T) (j : Nat) (f : fl_T) : ∀ i, fl_ma (fl_li S j f i) = fl_ma f
  | 0 => rfl
  | i + 1 => by
    have h := fl_li_ma S j f i
    unfold fl_li fl_dec
    split
    · exact h
    · exact h
theorem fl_li_bc (S : sh_T) (j : Nat) (f : fl_T) (m : Nat) : ∀ i, fl_bc (fl_li S j f i) m ≤ fl_bc f m
  | 0 => Nat.le_refl _
  | i + 1 => by
    have h := fl_li_bc S j f m i
    unfold fl_li fl_dec
    split
    · show nu _ _ _ m ≤ _
      unfold nu
      split
      · rename_i e; rw [← e]; omega
      · exact h
    · exact h
set_option maxRecDepth 20000 in
theorem c_F_lift_l (hS : sh_ok S) (d bc bs j : Nat) (hj : j < 6) (hm : ∀ i, i < sh_so S j → fl_ma F (sh_sa S (j * 4 + i)) < sh_mc S) (hb : ∀ m, m < sh_mc S → fl_bc F m < 2 ^ 31) : ∀ (g i : Nat), i ≤ sh_so S j → sh_so S j - i < g →
    am_W G m_F_lift d bc bs (fun o h' => o = .inl none ∧ h' = (hx x t S (fl_lift S j F) R P W)) 2 [(0, .ref 15), (1, .int (nI j)), (2, .int (nI i))] [] (hx x t S (fl_li S j F i) R P W) := by
  intro g
  obtain ⟨s1, s2, s3, s4, s5, s6, s7, s8, s9, s10, s11, s12, s13, s14⟩ := id hS
  have t10 := s10 j
  induction g with
  | zero => intro i _ h; omega
  | succ g ih =>
    intro i hi hg
    have hma := fl_li_ma S j F i
    refine am_iload_n d_F_lift_2 rfl rfl ?_
    refine am_aload_n d_F_lift_3 rfl rfl ?_
    refine am_get F_F 0 (by decide) d_F_lift_4 w_109 rfl rfl ?_
    refine am_get F_S 8 (by decide) d_F_lift_7 w_52 rfl rfl ?_
    refine am_iload_n d_F_lift_10 rfl rfl ?_
    refine am_ialdA d_F_lift_11 rfl (by omega) (by decide) ?_
    refine am_icmpN_ge (tgt := 64) d_F_lift_12 (by decide) (by omega) (by omega) (fun c12 => ?_) (fun c12 => ?_)
    · refine am_vret d_F_lift_64 rfl ?_
      have e : i = sh_so S j := by omega
      subst e
      exact ⟨rfl, rfl⟩
    · have t11 := s11 (j * 4 + i)
      have hm1 := hm i (by omega)
      rw [← hma] at hm1
      have hb1 := fl_li_bc S j F (fl_ma (fl_li S j F i) (sh_sa S (j * 4 + i))) i
      have hb2 := hb (fl_ma (fl_li S j F i) (sh_sa S (j * 4 + i))) hm1
      refine am_aload_n d_F_lift_15 rfl rfl ?_
      refine am_get F_F 2 (by decide) d_F_lift_16 w_112 rfl rfl ?_
      refine am_aload_n d_F_lift_19 rfl rfl ?_
      refine am_get F_F 0 (by decide) d_F_lift_20 w_109 rfl rfl ?_
      refine am_get F_S 9 (by decide) d_F_lift_23 w_56 rfl rfl ?_
      refine am_iload_n d_F_lift_26 rfl rfl ?_
      refine am_iconst (v := nI 4) d_F_lift_27 (by decide) ?_
      refine am_imulN d_F_lift_28 ?_
      refine am_iload_n d_F_lift_29 rfl rfl ?_
      refine am_iaddN d_F_lift_30 ?_
      refine am_ialdA d_F_lift_31 rfl (by omega) (by decide) ?_
      refine am_ialdA d_F_lift_32 rfl (by omega) (by decide) ?_
      refine am_istore_n d_F_lift_33 rfl (by decide) ?_
      refine am_iload_n d_F_lift_34 rfl rfl ?_
      refine am_iconst (v := -1) d_F_lift_35 (by decide) ?_
      refine am_icmp_eq (tgt := 58) d_F_lift_36 (by decide) (fun c36 => ?_) (fun c36 => ?_)
      · refine am_iinc d_F_lift_58 rfl (am_inc _) (by decide) ?_
        refine am_goto (tgt := 2) d_F_lift_61 (by decide) ?_
        first
          | exact absurd c36 (nI_m1 (by omega))
          | exact am_lo (L' := [(0, .ref 15), (1, .int (nI j)), (2, .int (nI (i + 1)))]) rfl (am_hq (h2 := (hx x t S (fl_li S j F (i + 1)) R P W)) (by rw [fl_li, ← hma, fl_dec, if_neg (by omega)]) (ih (i + 1) (by omega) (by omega)))
          | exact am_lo (L' := [(0, .ref 15), (1, .int (nI j)), (2, .int (nI (i + 1)))]) rfl (am_hq (h2 := (hx x t S (fl_li S j F (i + 1)) R P W)) (show (hx x t S (fl_bg (fl_li S j F i), fl_ma (fl_li S j F i), nu (fl_bc (fl_li S j F i)) (fl_ma (fl_li S j F i) (sh_sa S (j * 4 + i))) (fl_bc (fl_li S j F i) (fl_ma (fl_li S j F i) (sh_sa S (j * 4 + i))) - 1), fl_bf (fl_li S j F i), fl_bt (fl_li S j F i)) R P W) = _ by rw [fl_li, ← hma, fl_dec, if_pos (by omega)]) (ih (i + 1) (by omega) (by omega)))
      · refine am_aload_n d_F_lift_39 rfl rfl ?_
        refine am_get F_F 3 (by decide) d_F_lift_40 w_114 rfl rfl ?_
        refine am_iload_n d_F_lift_43 rfl rfl ?_
        refine am_ialdA d_F_lift_44 rfl (by omega) (by decide) ?_
        refine am_ifN_le (tgt := 58) d_F_lift_45 (by decide) (by omega) (fun c45 => ?_) (fun c45 => ?_)
        · refine am_iinc d_F_lift_58 rfl (am_inc _) (by decide) ?_
          refine am_goto (tgt := 2) d_F_lift_61 (by decide) ?_
          first
            | exact absurd c36 (nI_m1 (by omega))
            | exact am_lo (L' := [(0, .ref 15), (1, .int (nI j)), (2, .int (nI (i + 1)))]) rfl (am_hq (h2 := (hx x t S (fl_li S j F (i + 1)) R P W)) (by rw [fl_li, ← hma, fl_dec, if_neg (by omega)]) (ih (i + 1) (by omega) (by omega)))
            | exact am_lo (L' := [(0, .ref 15), (1, .int (nI j)), (2, .int (nI (i + 1)))]) rfl (am_hq (h2 := (hx x t S (fl_li S j F (i + 1)) R P W)) (show (hx x t S (fl_bg (fl_li S j F i), fl_ma (fl_li S j F i), nu (fl_bc (fl_li S j F i)) (fl_ma (fl_li S j F i) (sh_sa S (j * 4 + i))) (fl_bc (fl_li S j F i) (fl_ma (fl_li S j F i) (sh_sa S (j * 4 + i))) - 1), fl_bf (fl_li S j F i), fl_bt (fl_li S j F i)) R P W) = _ by rw [fl_li, ← hma, fl_dec, if_pos (by omega)]) (ih (i + 1) (by omega) (by omega)))
        · refine am_aload_n d_F_lift_48 rfl rfl ?_
          refine am_get F_F 3 (by decide) d_F_lift_49 w_114 rfl rfl ?_
          refine am_iload_n d_F_lift_52 rfl rfl ?_
          refine am_dup2 d_F_lift_53 rfl rfl ?_
          refine am_ialdA d_F_lift_54 rfl (by omega) (by decide) ?_
          refine am_iconst (v := nI 1) d_F_lift_55 (by decide) ?_
          refine am_isubN d_F_lift_56 (by omega) ?_
          refine am_iastA d_F_lift_57 rfl (by omega) (by decide) ?_
          refine am_iinc d_F_lift_58 rfl (am_inc _) (by decide) ?_
          refine am_goto (tgt := 2) d_F_lift_61 (by decide) ?_
          first
            | exact absurd c36 (nI_m1 (by omega))
            | exact am_lo (L' := [(0, .ref 15), (1, .int (nI j)), (2, .int (nI (i + 1)))]) rfl (am_hq (h2 := (hx x t S (fl_li S j F (i + 1)) R P W)) (by rw [fl_li, ← hma, fl_dec, if_neg (by omega)]) (ih (i + 1) (by omega) (by omega)))
            | exact am_lo (L' := [(0, .ref 15), (1, .int (nI j)), (2, .int (nI (i + 1)))]) rfl (am_hq (h2 := (hx x t S (fl_li S j F (i + 1)) R P W)) (show (hx x t S (fl_bg (fl_li S j F i), fl_ma (fl_li S j F i), nu (fl_bc (fl_li S j F i)) (fl_ma (fl_li S j F i) (sh_sa S (j * 4 + i))) (fl_bc (fl_li S j F i) (fl_ma (fl_li S j F i) (sh_sa S (j * 4 + i))) - 1), fl_bf (fl_li S j F i), fl_bt (fl_li S j F i)) R P W) = _ by rw [fl_li, ← hma, fl_dec, if_pos (by omega)]) (ih (i + 1) (by omega) (by omega)))
theorem c_F_lift (hS : sh_ok S) (d bc bs j : Nat) (hj : j < 6) (hm : ∀ i, i < sh_so S j → fl_ma F (sh_sa S (j * 4 + i)) < sh_mc S) (hb : ∀ m, m < sh_mc S → fl_bc F m < 2 ^ 31) : am_Fn G m_F_lift d bc bs [.ref 15, .int (nI j)] (hx x t S F R P W) none (hx x t S (fl_lift S j F) R P W) := by
  refine am_iconst (v := nI 0) d_F_lift_0 (by decide) ?_
  refine am_istore_n d_F_lift_1 rfl (by decide) ?_
  exact am_lo (L' := [(0, .ref 15), (1, .int (nI j)), (2, .int (nI 0))]) rfl (c_F_lift_l hS d bc bs j hj hm hb (sh_so S j + 1) 0 (Nat.zero_le _) (by omega))
end CFN
