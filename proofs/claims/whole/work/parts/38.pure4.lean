/-! PURE: the floor that a plan's steps lie on, and a board beside it -/
theorem fl_put_ct (S : sh_T) (f : fl_T) (s m b k : Nat) : fl_bc (fl_put S f s m b) k ≤ fl_bc f k + 1 := by
  unfold fl_put fl_add
  split
  · show nu (fl_bc f) m (fl_bc f m + 1) k ≤ _
    by_cases e : k = m
    · subst e; rw [nu_eq]; exact Nat.le_refl _
    · rw [nu_ne _ _ e]; exact Nat.le_succ _
  · exact Nat.le_succ _
/-- the steps that the plan shows on f lie there as it says -/
def ly_v (P : pl_T) (f : fl_T) (D : Nat → Bool) : Prop := ∀ s, D s = true → fl_bg f s = pl_bg P s ∧ fl_ma f s = pl_ma P s
theorem ly_j_D {S : sh_T} {jo : Nat → Nat} {P : pl_T} {j : Nat} {f : fl_T} {D : Nat → Bool} (hk : sh_k S jo) (hj : j < sh_jb S) (hs4 : sh_so S j ≤ 4) (hD : fl_D S f D) (hc : ∀ m, m < sh_mc S → fl_bc f m ≤ 24) (hm : ∀ i, i < sh_so S j → pl_ma P (sh_sa S (j * 4 + i)) < sh_mc S) (hv : ly_v P f D) (hD0 : ∀ i, i < sh_so S j → D (sh_sa S (j * 4 + i)) = false) : ∀ n, n ≤ sh_so S j →
    (∀ m, m < sh_mc S → fl_bc (ly_j S P j f n) m ≤ fl_bc f m + n) ∧ fl_D S (ly_j S P j f n) (bd_D S j D n) ∧ ly_v P (ly_j S P j f n) (bd_D S j D n)
  | 0, _ => ⟨fun _ _ => Nat.le_refl _, hD, hv⟩
  | n + 1, hn => by
    obtain ⟨h1, h2, h3⟩ := ly_j_D hk hj hs4 hD hc hm hv hD0 n (by omega)
    have hs := (hk.1 j n hj (by omega)).1
    have hmn := hm n (by omega)
    have hno : bd_D S j D n (sh_sa S (j * 4 + n)) = false := by
      cases hb : bd_D S j D n (sh_sa S (j * 4 + n)) with
      | false => rfl
      | true =>
        rcases (bd_D_iff S j D _ n).mp hb with q | ⟨i, hi, q⟩
        · rw [hD0 n (by omega)] at q; cases q
        · exact absurd q (sh_k_ne hk hj hi (by omega))
    refine ⟨fun m hm2 => ?_, ?_, fun s hs2 => ?_⟩
    · have g1 := fl_put_ct S (ly_j S P j f n) (sh_sa S (j * 4 + n)) (pl_ma P (sh_sa S (j * 4 + n))) (pl_bg P (sh_sa S (j * 4 + n))) m
      have g2 := h1 m hm2
      show fl_bc (fl_put S (ly_j S P j f n) _ _ _) m ≤ _
      omega
    · refine fl_D_put h2 hs hno ?_ (fun m hm2 => ?_)
      · have g2 := h1 _ hmn
        have g3 := hc _ hmn
        omega
      · have g2 := h1 m hm2
        have g3 := hc m hm2
        omega
    · show fl_bg (fl_put S (ly_j S P j f n) _ _ _) s = _ ∧ fl_ma (fl_put S (ly_j S P j f n) _ _ _) s = _
      rw [fl_put_bg, fl_put_ma]
      by_cases e : s = sh_sa S (j * 4 + n)
      · subst e; rw [nu_eq, nu_eq]; exact ⟨rfl, rfl⟩
      · rw [nu_ne _ _ e, nu_ne _ _ e]
        refine h3 s ?_
        have h5 : zu (bd_D S j D n) (sh_sa S (j * 4 + n)) true s = true := hs2
        rw [zu_ne _ _ e] at h5
        exact h5
def ly_D (S : sh_T) (l : Nat) : Nat → Nat → Bool
  | 0 => fun _ => false
  | j + 1 => if j = l then ly_D S l j else bd_D S j (ly_D S l j) (sh_so S j)
theorem ly_D_iff (S : sh_T) (l s : Nat) : ∀ n, ly_D S l n s = true ↔ ∃ j, j < n ∧ j ≠ l ∧ ∃ i, i < sh_so S j ∧ s = sh_sa S (j * 4 + i)
  | 0 => ⟨fun h => Bool.noConfusion (show false = true from h), fun ⟨j, hj, _⟩ => absurd hj (Nat.not_lt_zero j)⟩
  | n + 1 => by
    have ih := ly_D_iff S l s n
    unfold ly_D
    split
    · rename_i e
      rw [ih]
      constructor
      · rintro ⟨j, h1, h2⟩; exact ⟨j, by omega, h2⟩
      · rintro ⟨j, h1, h2, h3⟩; exact ⟨j, by omega, h2, h3⟩
    · rename_i e
      rw [bd_D_iff, ih]
      constructor
      · rintro (⟨j, h1, h2⟩ | h)
        · exact ⟨j, by omega, h2⟩
        · exact ⟨n, by omega, e, h⟩
      · rintro ⟨j, h1, h2, h3⟩
        rcases Nat.lt_or_ge j n with q | q
        · exact Or.inl ⟨j, q, h2, h3⟩
        · have e2 : j = n := by omega
          subst e2
          exact Or.inr h3
theorem ly_D_I {S : sh_T} {jo : Nat → Nat} {P : pl_T} {l : Nat} (hS : sh_ok S) (hk : sh_k S jo) (hm : ∀ s, s < sh_ss S → pl_ma P s < sh_mc S) (hl : l < sh_jb S) : ∀ n, n ≤ sh_jb S →
    (∀ m, m < sh_mc S → fl_bc (ly S P l (fl_clear S fl_0) n) m ≤ 8 + 4 * (if l < n then n - 1 else n)) ∧ fl_D S (ly S P l (fl_clear S fl_0) n) (ly_D S l n) ∧ ly_v P (ly S P l (fl_clear S fl_0) n) (ly_D S l n)
  | 0, _ => ⟨fun m hm => Nat.le_trans (fl_clear_ct hS fl_0 (sh_mc S) m hm) (by omega), fl_D_clear hS fl_0, fun s h => by cases h⟩
  | n + 1, hn => by
    obtain ⟨h1, h2, h3⟩ := ly_D_I hS hk hm hl n (by omega)
    have s2 := hS.2.1
    have s10 := hS.2.2.2.2.2.2.2.2.2.1 n
    by_cases e : n = l
    · have e1 : ly S P l (fl_clear S fl_0) (n + 1) = ly S P l (fl_clear S fl_0) n := by rw [ly, if_pos e]
      have e2 : ly_D S l (n + 1) = ly_D S l n := by rw [ly_D, if_pos e]
      rw [e1, e2]
      refine ⟨fun m hm2 => ?_, h2, h3⟩
      have := h1 m hm2
      rw [if_neg (by omega)] at this
      rw [if_pos (by omega)]
      omega
    · have e1 : ly S P l (fl_clear S fl_0) (n + 1) = ly_j S P n (ly S P l (fl_clear S fl_0) n) (sh_so S n) := by rw [ly, if_neg e]
      have e2 : ly_D S l (n + 1) = bd_D S n (ly_D S l n) (sh_so S n) := by rw [ly_D, if_neg e]
      rw [e1, e2]
      have hc : ∀ m, m < sh_mc S → fl_bc (ly S P l (fl_clear S fl_0) n) m ≤ 24 := fun m hm2 => by
        have := h1 m hm2
        split at this <;> omega
      obtain ⟨g1, g2, g3⟩ := ly_j_D hk (show n < sh_jb S by omega) s10 h2 hc (fun i hi => hm _ (hk.1 n i (by omega) hi).1) h3 (fun i hi => by
        cases hb : ly_D S l n (sh_sa S (n * 4 + i)) with
        | false => rfl
        | true =>
          obtain ⟨j, q1, q2, k, q3, q4⟩ := (ly_D_iff S l _ n).mp hb
          exact absurd q4 (sh_k_dj hk (by omega) hi (by omega) q3 (by omega))) (sh_so S n) (Nat.le_refl _)
      refine ⟨fun m hm2 => ?_, g2, g3⟩
      have a1 := h1 m hm2
      have a2 := g1 m hm2
      split at a1
      · rw [if_pos (by omega)]; omega
      · rw [if_neg (by omega)]; omega
theorem ly_D_jb {S : sh_T} {jo : Nat → Nat} {l s : Nat} (hk : sh_k S jo) : ly_D S l (sh_jb S) s = true ↔ s < sh_ss S ∧ jo s ≠ l := by
  rw [ly_D_iff]
  constructor
  · rintro ⟨j, h1, h2, i, h3, rfl⟩
    have := hk.1 j i h1 h3
    exact ⟨this.1, by rw [this.2]; exact h2⟩
  · rintro ⟨h1, h2⟩
    obtain ⟨g1, i, g2, g3⟩ := hk.2.2.1 s h1
    exact ⟨jo s, g1, h2, i, g2, g3.symm⟩
theorem ly_bd_I {S : sh_T} {jo : Nat → Nat} {P : pl_T} {l : Nat} (hS : sh_ok S) (hk : sh_k S jo) (hP : pl_ok P) (hm : ∀ s, s < sh_ss S → pl_ma P s < sh_mc S) (hl : l < sh_jb S) : bd_I S (ly S P l (fl_clear S fl_0) (sh_jb S)) (ly_D S l (sh_jb S)) 8000 := by
  obtain ⟨h1, h2, h3⟩ := ly_D_I hS hk hm hl (sh_jb S) (Nat.le_refl _)
  have s2 := hS.2.1
  refine ⟨ly_sm hS hP (fun j i hj hi => hm _ (hk.1 j i hj hi).1) (fl_sm_mono (fl_clear_sm fl_0 hS) (by omega)) (sh_jb S) (Nat.le_refl _), fun m hm2 => ?_, h2, fun s hs hd => ?_⟩
  · have := h1 m hm2
    rw [if_pos hl] at this
    omega
  · obtain ⟨g1, g2⟩ := h3 s hd
    rw [g1, g2]
    have := hP.2.2.2.2.1 s
    exact ⟨by omega, hm s hs⟩
theorem sp_co_2 (S : sh_T) (g : Nat → Nat) : sp_co S g 2 = sp_tw S (g 0) (g 1) := by
  show 0 + (fl_end S (g 0) (fl_clear S fl_0) - sh_du S (g 0)) * sh_we S (g 0) + _ = _
  rw [Nat.zero_add]
  rfl
