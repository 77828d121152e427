/-! PURE: the first hour that is free of a row of busy times -/
/-- no busy time (fr i, to i), i below c, shares an hour with n hours from h on -/
def mm_ok (fr to : Nat → Nat) (c n h : Nat) : Prop := ∀ i, i < c → ¬ (h < to i ∧ fr i < h + n)
/-- one look along the row -/
def mm_pass (fr to : Nat → Nat) (n : Nat) : Nat → Nat → Nat × Bool
  | 0, h => (h, false)
  | i + 1, h => if (mm_pass fr to n i h).1 < to i ∧ fr i < (mm_pass fr to n i h).1 + n then (to i, true) else mm_pass fr to n i h
theorem mm_pass_ge (fr to : Nat → Nat) (n h : Nat) : ∀ c, h ≤ (mm_pass fr to n c h).1
  | 0 => Nat.le_refl h
  | c + 1 => by
    have := mm_pass_ge fr to n h c
    unfold mm_pass
    split
    · show h ≤ to c
      omega
    · exact this
theorem mm_pass_le (fr to : Nat → Nat) (n h g : Nat) (hg : h ≤ g) : ∀ c, mm_ok fr to c n g → (mm_pass fr to n c h).1 ≤ g
  | 0, _ => hg
  | c + 1, ok => by
    have h1 := mm_pass_le fr to n h g hg c (fun i hi => ok i (by omega))
    have h2 := ok c (by omega)
    unfold mm_pass
    split
    · show to c ≤ g
      omega
    · exact h1
theorem mm_pass_false (fr to : Nat → Nat) (n h : Nat) : ∀ c, (mm_pass fr to n c h).2 = false → (mm_pass fr to n c h).1 = h ∧ mm_ok fr to c n h
  | 0, _ => ⟨rfl, fun i hi => absurd hi (Nat.not_lt_zero i)⟩
  | c + 1, hf => by
    unfold mm_pass at hf ⊢
    split at hf
    · cases hf
    · rename_i hc
      obtain ⟨h1, h2⟩ := mm_pass_false fr to n h c hf
      rw [if_neg hc]
      refine ⟨h1, fun i hi => ?_⟩
      rcases Nat.lt_or_ge i c with q | q
      · exact h2 i q
      · have : i = c := by omega
        subst this
        rw [h1] at hc
        exact hc
/-- how many busy times end behind h -/
def mm_left (to : Nat → Nat) : Nat → Nat → Nat
  | 0, _ => 0
  | c + 1, h => mm_left to c h + if h < to c then 1 else 0
theorem mm_left_mono (to : Nat → Nat) {h g : Nat} (hg : h ≤ g) : ∀ c, mm_left to c g ≤ mm_left to c h
  | 0 => Nat.le_refl 0
  | c + 1 => by
    have := mm_left_mono to hg c
    unfold mm_left
    split <;> split <;> omega
theorem mm_left_le (to : Nat → Nat) (h : Nat) : ∀ c, mm_left to c h ≤ c
  | 0 => Nat.le_refl 0
  | c + 1 => by
    have := mm_left_le to h c
    unfold mm_left
    split <;> omega
theorem mm_left_lt (to : Nat → Nat) {h g i : Nat} (hg : h ≤ g) (hi : h < to i) (gi : to i ≤ g) : ∀ c, i < c → mm_left to c g < mm_left to c h
  | 0, hc => absurd hc (Nat.not_lt_zero i)
  | c + 1, hc => by
    have hm := mm_left_mono to hg c
    unfold mm_left
    rcases Nat.lt_or_ge i c with q | q
    · have := mm_left_lt to hg hi gi c q
      split <;> split <;> omega
    · have : i = c := by omega
      subst this
      rw [if_neg (by omega), if_pos hi]
      omega
theorem mm_pass_true (fr to : Nat → Nat) (n h : Nat) : ∀ c, (mm_pass fr to n c h).2 = true → ∃ i, i < c ∧ h < to i ∧ to i ≤ (mm_pass fr to n c h).1
  | 0, hf => by cases hf
  | c + 1, hf => by
    have hge := mm_pass_ge fr to n h c
    unfold mm_pass at hf ⊢
    split at hf
    · rename_i hc
      rw [if_pos hc]
      exact ⟨c, by omega, by omega, Nat.le_refl _⟩
    · rename_i hc
      rw [if_neg hc]
      obtain ⟨i, h1, h2, h3⟩ := mm_pass_true fr to n h c hf
      exact ⟨i, by omega, h2, h3⟩
theorem mm_pass_falls (fr to : Nat → Nat) (n h c : Nat) (hf : (mm_pass fr to n c h).2 = true) : mm_left to c (mm_pass fr to n c h).1 < mm_left to c h := by
  obtain ⟨i, h1, h2, h3⟩ := mm_pass_true fr to n h c hf
  exact mm_left_lt to (mm_pass_ge fr to n h c) h2 h3 c h1
/-- g is the first hour from h on that is free -/
def mm_first (fr to : Nat → Nat) (c n h g : Nat) : Prop := h ≤ g ∧ mm_ok fr to c n g ∧ ∀ k, h ≤ k → mm_ok fr to c n k → g ≤ k
theorem mm_first_one {fr to : Nat → Nat} {c n h g g' : Nat} (a : mm_first fr to c n h g) (b : mm_first fr to c n h g') : g = g' :=
  Nat.le_antisymm (a.2.2 g' b.1 b.2.1) (b.2.2 g a.1 a.2.1)
theorem mm_pass_bd (fr to : Nat → Nat) (n h B : Nat) (hh : h ≤ B) : ∀ c, (∀ i, i < c → to i ≤ B) → (mm_pass fr to n c h).1 ≤ B
  | 0, _ => hh
  | c + 1, hb => by
    have h1 := mm_pass_bd fr to n h B hh c (fun i hi => hb i (by omega))
    have h2 := hb c (by omega)
    unfold mm_pass
    split
    · exact h2
    · exact h1
/-- look after look, k at the most, while one moves -/
def mm_it (fr to : Nat → Nat) (c n : Nat) : Nat → Nat → Nat
  | 0, h => h
  | k + 1, h => if (mm_pass fr to n c h).2 then mm_it fr to c n k (mm_pass fr to n c h).1 else h
theorem mm_it_bd (fr to : Nat → Nat) (c n B : Nat) (hb : ∀ i, i < c → to i ≤ B) : ∀ k h, h ≤ B → mm_it fr to c n k h ≤ B
  | 0, h, hh => hh
  | k + 1, h, hh => by
    unfold mm_it
    split
    · exact mm_it_bd fr to c n B hb k _ (mm_pass_bd fr to n h B hh c hb)
    · exact hh
/-- with looks enough it is the first free hour -/
theorem mm_it_first (fr to : Nat → Nat) (c n : Nat) : ∀ k h, mm_left to c h < k → mm_first fr to c n h (mm_it fr to c n k h)
  | 0, h, hk => absurd hk (Nat.not_lt_zero _)
  | k + 1, h, hk => by
    unfold mm_it
    cases hm : (mm_pass fr to n c h).2 with
    | false =>
      obtain ⟨-, h2⟩ := mm_pass_false fr to n h c hm
      exact ⟨Nat.le_refl _, h2, fun g hg _ => hg⟩
    | true =>
      have hf := mm_pass_falls fr to n h c hm
      obtain ⟨a1, a2, a3⟩ := mm_it_first fr to c n k (mm_pass fr to n c h).1 (by omega)
      have hge := mm_pass_ge fr to n h c
      exact ⟨Nat.le_trans hge a1, a2, fun g hg ok => a3 g (mm_pass_le fr to n h g hg c ok) ok⟩
