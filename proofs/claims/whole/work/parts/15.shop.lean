/-! the shop's methods -/
section CSH
variable {G : am_G} {x : Int64} {t : Bool} {S : sh_T} {F : fl_T} {R : se_T} {P : pl_T} {W : am_H}
def sp_has (kd : Nat → Nat) : Nat → Nat → Bool
  | 0, _ => false
  | n + 1, k => sp_has kd n k || kd n == k
theorem sp_has_iff (kd : Nat → Nat) (k : Nat) : ∀ n, sp_has kd n k = true ↔ ∃ m, m < n ∧ kd m = k
  | 0 => by simp [sp_has]
  | n + 1 => by
    rw [sp_has, Bool.or_eq_true, sp_has_iff kd k n, beq_iff_eq]
    constructor
    · rintro (⟨m, h1, h2⟩ | h)
      · exact ⟨m, by omega, h2⟩
      · exact ⟨n, by omega, h⟩
    · rintro ⟨m, h1, h2⟩
      rcases Nat.lt_or_ge m n with q | q
      · exact Or.inl ⟨m, q, h2⟩
      · have : m = n := by omega
        subst this
        exact Or.inr h2
theorem sp_has_f {kd : Nat → Nat} {k n : Nat} (h : ∀ m, m < n → kd m ≠ k) : sp_has kd n k = false := by
  cases hb : sp_has kd n k with
  | false => rfl
  | true => obtain ⟨m, h1, h2⟩ := (sp_has_iff kd k n).mp hb; exact absurd h2 (h m h1)
theorem sp_has_t {kd : Nat → Nat} {k n m : Nat} (hm : m < n) (h : kd m = k) : sp_has kd n k = true := (sp_has_iff kd k n).mpr ⟨m, hm, h⟩
set_option maxRecDepth 20000 in
theorem c_S_hasMachine_l (hS : sh_ok S) (d bc bs k : Nat) (hk : k < 4) : ∀ (n i : Nat), i ≤ sh_mc S → sh_mc S - i < n → (∀ m, m < i → sh_kd S m ≠ k) →
    am_W G m_S_hasMachine d bc bs (fun o h' => o = .inl (some (.int (zI (sp_has (sh_kd S) (sh_mc S) k)))) ∧ h' = (hx x t S F R P W)) 2 [(0, .ref 2), (1, .int (nI k)), (2, .int (nI i))] [] (hx x t S F R P W) := by
  intro n
  obtain ⟨s1, s2, s3, s4, -⟩ := hS
  induction n with
  | zero => intro i _ h; omega
  | succ n ih =>
    intro i hi hn hno
    have hki := s4 i
    refine am_iload_n d_S_hasMachine_2 rfl rfl ?_
    refine am_aload_n d_S_hasMachine_3 rfl rfl ?_
    refine am_get F_S 0 (by decide) d_S_hasMachine_4 w_28 rfl rfl ?_
    refine am_icmpN_ge (tgt := 28) d_S_hasMachine_7 (by decide) (by omega) (by omega) (fun c7 => ?_) (fun c7 => ?_)
    · refine am_iconst (v := nI 0) d_S_hasMachine_28 (by decide) ?_
      refine am_zret d_S_hasMachine_29 rfl (by decide) ?_
      refine ⟨?_, rfl⟩
      rw [sp_has_f (fun m hm => hno m (by omega)), zI_f]
    · refine am_aload_n d_S_hasMachine_10 rfl rfl ?_
      refine am_get F_S 1 (by decide) d_S_hasMachine_11 w_31 rfl rfl ?_
      refine am_iload_n d_S_hasMachine_14 rfl rfl ?_
      refine am_ialdA d_S_hasMachine_15 rfl (by omega) (by decide) ?_
      refine am_iload_n d_S_hasMachine_16 rfl rfl ?_
      refine am_icmpN_ne (tgt := 22) d_S_hasMachine_17 (by decide) (by omega) (by omega) (fun c17 => ?_) (fun c17 => ?_)
      · refine am_iinc d_S_hasMachine_22 rfl (am_inc _) (by decide) ?_
        refine am_goto (tgt := 2) d_S_hasMachine_25 (by decide) ?_
        refine am_lo (L' := [(0, .ref 2), (1, .int (nI k)), (2, .int (nI (i + 1)))]) rfl ?_
        refine ih (i + 1) (by omega) (by omega) (fun m hm => ?_)
        rcases Nat.lt_or_ge m i with q | q
        · exact hno m q
        · have : m = i := by omega
          subst this
          exact c17
      · refine am_iconst (v := nI 1) d_S_hasMachine_20 (by decide) ?_
        refine am_zret d_S_hasMachine_21 rfl (by decide) ?_
        refine ⟨?_, rfl⟩
        rw [sp_has_t (m := i) (by omega) c17, zI_t]
theorem c_S_hasMachine (hS : sh_ok S) (d bc bs k : Nat) (hk : k < 4) : am_Fn G m_S_hasMachine d bc bs [.ref 2, .int (nI k)] (hx x t S F R P W) (some (.int (zI (sp_has (sh_kd S) (sh_mc S) k)))) (hx x t S F R P W) := by
  refine am_iconst (v := nI 0) d_S_hasMachine_0 (by decide) ?_
  refine am_istore_n d_S_hasMachine_1 rfl (by decide) ?_
  exact am_lo (L' := [(0, .ref 2), (1, .int (nI k)), (2, .int (nI 0))]) rfl (c_S_hasMachine_l hS d bc bs k hk (sh_mc S + 1) 0 (Nat.zero_le _) (by omega) (fun m hm => absurd hm (Nat.not_lt_zero m)))
end CSH
