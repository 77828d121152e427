/-! PURE: steps that are placed; orders of all jobs; draws -/
theorem fl_put_D {S : sh_T} {f g : fl_T} {D : Nat → Prop} {N B s m b : Nat} (hD : ∀ k, D k → fl_bg f k = fl_bg g k ∧ fl_ma f k = fl_ma g k ∧ fl_bg f k ≤ B ∧ fl_ma f k < N) (hm : m < N) (hb : b ≤ B) :
    ∀ k, (D k ∨ k = s) → fl_bg (fl_put S f s m b) k = fl_bg (fl_put S g s m b) k ∧ fl_ma (fl_put S f s m b) k = fl_ma (fl_put S g s m b) k ∧ fl_bg (fl_put S f s m b) k ≤ B ∧ fl_ma (fl_put S f s m b) k < N := by
  have e1 : ∀ h : fl_T, fl_bg (fl_put S h s m b) = nu (fl_bg h) s b := fun h => by unfold fl_put fl_add; split <;> rfl
  have e2 : ∀ h : fl_T, fl_ma (fl_put S h s m b) = nu (fl_ma h) s m := fun h => by unfold fl_put fl_add; split <;> rfl
  intro k hk
  rw [e1, e1, e2, e2]
  by_cases e : k = s
  · subst e
    simp only [nu_eq]
    exact ⟨trivial, trivial, hb, hm⟩
  · rw [nu_ne _ _ e, nu_ne _ _ e, nu_ne _ _ e, nu_ne _ _ e]
    rcases hk with h | h
    · exact hD k h
    · exact absurd h e
theorem fl_pj_D {S : sh_T} {j B : Nat} {f g : fl_T} {D : Nat → Prop} (hS : sh_ok S) (hf : sp_fits S j = true) (hF : fl_sm (sh_mc S) f B) (he : fl_eqv (sh_mc S) f g)
    (hD : ∀ k, D k → fl_bg f k = fl_bg g k ∧ fl_ma f k = fl_ma g k ∧ fl_bg f k ≤ B ∧ fl_ma f k < sh_mc S) : ∀ n, n ≤ sh_so S j →
    ∀ k, (D k ∨ ∃ i, i < n ∧ k = sh_sa S (j * 4 + i)) → fl_bg (fl_pj S j f n).1 k = fl_bg (fl_pj S j g n).1 k ∧ fl_ma (fl_pj S j f n).1 k = fl_ma (fl_pj S j g n).1 k ∧ fl_bg (fl_pj S j f n).1 k ≤ B + 200 * n ∧ fl_ma (fl_pj S j f n).1 k < sh_mc S
  | 0, _, k, hk => by
    rcases hk with h | ⟨i, hi, -⟩
    · exact hD k h
    · exact absurd hi (Nat.not_lt_zero i)
  | n + 1, hn, k, hk => by
    have ih := fl_pj_D hS hf hF he hD n (by omega)
    obtain ⟨g1, -, g3⟩ := fl_pj_sm hS hf hF n (by omega)
    obtain ⟨q1, q2⟩ := fl_pj_eqv hS hf hF he n (by omega)
    obtain ⟨hb1, hb2⟩ := fl_try_bd (S := S) (s := sh_sa S (j * 4 + n)) g1 g3 (sh_mc S) (Nat.le_refl _)
    have hso := fl_try_some (S := S) (f := (fl_pj S j f n).1) (s := sh_sa S (j * 4 + n)) (r := (fl_pj S j f n).2.2) (sh_mc S) (sp_fit_has hf (by omega))
    obtain ⟨m0, hq⟩ := Option.ne_none_iff_exists'.mp hso
    have ht : fl_try S (fl_pj S j g n).1 (sh_sa S (j * 4 + n)) (fl_pj S j g n).2.2 (sh_mc S) = fl_try S (fl_pj S j f n).1 (sh_sa S (j * 4 + n)) (fl_pj S j f n).2.2 (sh_mc S) := by
      rw [← q2]
      exact (fl_try_eqv q1 _ _ _ (Nat.le_refl _)).symm
    have hk' : (D k ∨ ∃ i, i < n ∧ k = sh_sa S (j * 4 + i)) ∨ k = sh_sa S (j * 4 + n) := by
      rcases hk with h | ⟨i, hi, e⟩
      · exact Or.inl (Or.inl h)
      · rcases Nat.lt_or_ge i n with q | q
        · exact Or.inl (Or.inr ⟨i, q, e⟩)
        · have : i = n := by omega
          subst this
          exact Or.inr e
    rw [fl_pj, fl_pj]
    unfold fl_stp
    rw [ht, hq]
    have h2 := fl_put_D (S := S) (s := sh_sa S (j * 4 + n)) (b := (fl_try S (fl_pj S j f n).1 (sh_sa S (j * 4 + n)) (fl_pj S j f n).2.2 (sh_mc S)).1) (B := B + 200 * n) (N := sh_mc S) (D := fun k => D k ∨ ∃ i, i < n ∧ k = sh_sa S (j * 4 + i)) ih (hb2 m0 hq) hb1 k hk'
    exact ⟨h2.1, h2.2.1, Nat.le_trans h2.2.2.1 (by omega), h2.2.2.2⟩
/-- what is placed after n jobs -/
def fl_in (S : sh_T) (g : Nat → Nat) (n : Nat) (s : Nat) : Prop := ∃ k, k < n ∧ ∃ i, i < sh_so S (g k) ∧ s = sh_sa S (g k * 4 + i)
theorem fl_co_D {S : sh_T} {f g : fl_T} {h : Nat → Nat} {B : Nat} (hS : sh_ok S) (hF : fl_sm (sh_mc S) f B) (he : fl_eqv (sh_mc S) f g) : ∀ n, (∀ k, k < n → h k < 6 ∧ sp_fits S (h k) = true) →
    ∀ k, fl_in S h n k → fl_bg (fl_co S h f n).1 k = fl_bg (fl_co S h g n).1 k ∧ fl_ma (fl_co S h f n).1 k = fl_ma (fl_co S h g n).1 k ∧ fl_bg (fl_co S h f n).1 k ≤ B + 800 * n ∧ fl_ma (fl_co S h f n).1 k < sh_mc S
  | 0, _, k, hk => by
    obtain ⟨i, hi, -⟩ := hk
    exact absurd hi (Nat.not_lt_zero i)
  | n + 1, hg, k, hk => by
    have ih := fl_co_D hS hF he n (fun k hk => hg k (by omega))
    obtain ⟨h1, -⟩ := fl_co_eqv hS hF he n (fun k hk => hg k (by omega))
    have h3 := fl_co_sm (g := h) hS hF n (fun k hk => hg k (by omega))
    have h4 := fl_pj_D hS (hg n (by omega)).2 h3 h1 ih (sh_so S (h n)) (Nat.le_refl _) k (by
      obtain ⟨q, hq, i, hi, e⟩ := hk
      rcases Nat.lt_or_ge q n with w | w
      · exact Or.inl ⟨q, w, i, hi, e⟩
      · have : q = n := by omega
        subst this
        exact Or.inr ⟨i, hi, e⟩)
    have h5 := hS.2.2.2.2.2.2.2.2.2.1 (h n)
    exact ⟨h4.1, h4.2.1, Nat.le_trans h4.2.2.1 (by omega), h4.2.2.2⟩
/-- an order of all jobs -/
def se_ij (b : Nat → Nat) (n : Nat) : Prop := ∀ i k, i < k → k < n → b i ≠ b k
def se_pm (S : sh_T) (b : Nat → Nat) : Prop := (∀ k, k < sh_jb S → b k < sh_jb S) ∧ (∀ j, j < sh_jb S → ∃ k, k < sh_jb S ∧ b k = j) ∧ se_ij b (sh_jb S)
theorem se_pm_in {S : sh_T} {jo b : Nat → Nat} (hk : sh_k S jo) (h : se_pm S b) {s : Nat} (hs : s < sh_ss S) : fl_in S b (sh_jb S) s := by
  obtain ⟨h1, i, h2, h3⟩ := hk.2.2.1 s hs
  obtain ⟨k, h4, h5⟩ := h.2.1 _ h1
  exact ⟨k, h4, i, by rw [h5]; exact h2, by rw [h5]; exact h3.symm⟩
/-- the floor when an order's jobs are placed on a floor on which nothing lay -/
def fl_C (S : sh_T) (g : Nat → Nat) : fl_T := (fl_co S g (fl_clear S fl_0) (sh_jb S)).1
theorem fl_C_D {S : sh_T} {jo g : Nat → Nat} (hS : sh_ok S) (hk : sh_k S jo) (hall : ∀ j, j < sh_jb S → sp_fits S j = true) (h : se_pm S g) (f : fl_T) {s : Nat} (hs : s < sh_ss S) :
    fl_bg (fl_co S g (fl_clear S f) (sh_jb S)).1 s = fl_bg (fl_C S g) s ∧ fl_ma (fl_co S g (fl_clear S f) (sh_jb S)).1 s = fl_ma (fl_C S g) s ∧ fl_bg (fl_C S g) s ≤ 7000 ∧ fl_ma (fl_C S g) s < sh_mc S := by
  have s2 := hS.2.1
  have hg : ∀ k, k < sh_jb S → g k < 6 ∧ sp_fits S (g k) = true := fun k hk => ⟨by have := h.1 k hk; omega, hall _ (h.1 k hk)⟩
  have h1 := fl_co_D hS (fl_clear_sm f hS) (fl_clear_eqv hS f fl_0) (sh_jb S) hg s (se_pm_in hk h hs)
  have h2 : 2000 + 800 * sh_jb S ≤ 7000 := by omega
  exact ⟨h1.1, h1.2.1, by have := h1.2.2.1; rw [h1.1] at this; exact Nat.le_trans this h2, by have := h1.2.2.2; rw [h1.2.1] at this; exact this⟩
theorem tk_u_congr {f f' g : Nat → Nat} : ∀ {n}, (∀ s, s < n → f s = f' s) → tk_u f g n = tk_u f' g n
  | 0, _ => rfl
  | n + 1, h => by
    unfold tk_u
    rw [tk_u_congr (fun s hs => h s (by omega)), h n (by omega)]
theorem tk_m_congr {P : pl_T} {f f' : fl_T} : ∀ {n}, (∀ s, s < n → fl_bg f s = fl_bg f' s ∧ fl_ma f s = fl_ma f' s) → tk_m P f n = tk_m P f' n
  | 0, _ => rfl
  | n + 1, h => by
    unfold tk_m
    rw [tk_m_congr (fun s hs => h s (by omega)), (h n (by omega)).1, (h n (by omega)).2]
theorem pl_take_congr {S : sh_T} {g : Nat → Nat} {f f' : fl_T} {P : pl_T} (h : ∀ s, s < sh_ss S → fl_bg f s = fl_bg f' s ∧ fl_ma f s = fl_ma f' s) : pl_take S g f P = pl_take S g f' P := by
  unfold pl_take
  rw [tk_m_congr h, tk_u_congr (fun s hs => (h s hs).1), tk_u_congr (f := fl_ma f) (fun s hs => (h s hs).2)]
/-! the best order stays an order of all jobs -/
theorem se_ij_up {S : sh_T} {p j : Nat} {R : se_T} (hx : se_px S R p) (hij : se_ij (se_be R) p) (hb : se_ib R j = false) : se_ij (nu (se_be R) p j) (p + 1) := by
  intro i k h1 h2
  rw [nu_ne _ _ (show i ≠ p by omega)]
  by_cases e : k = p
  · subst e
    rw [nu_eq]
    intro e2
    have := (hx.1 i h1).2
    rw [e2, hb] at this
    cases this
  · rw [nu_ne _ _ e]
    exact hij i k h1 (by omega)
theorem se_fo_pm {S : sh_T} {f : se_T → Bool × se_T} {p j : Nat} {R : se_T} (hpb : p + 1 ≤ sh_jb S) (hs6 : sh_jb S ≤ 6) (hx : se_px S R p) (hij : se_ij (se_be R) p) (hj : j < sh_jb S) (hb : se_ib R j = false) (hpm : se_pm S (se_bs R))
    (hf : p + 1 < sh_jb S → ∀ Q, se_px S Q (p + 1) → se_pm S (se_bs Q) → se_pm S (se_bs (f Q).2)) : se_pm S (se_bs (se_fo S f p (se_nd R p j)).2) := by
  have hu := se_px_up hx hj hb
  unfold se_fo
  split
  · exact hpm
  · split
    · have e : p + 1 = sh_jb S := by omega
      obtain ⟨u1, u2, u3⟩ := hu
      have hcp : ∀ k, k < sh_jb S → va_cpy (nu (se_be R) p j) (se_bs R) 0 0 6 k = nu (se_be R) p j k := fun k hk => by
        unfold va_cpy
        rw [if_pos ⟨Nat.zero_le _, by omega⟩, Nat.zero_add, Nat.sub_zero]
      refine ⟨fun k hk => ?_, fun i hi => ?_, fun i k h1 h2 => ?_⟩
      · show va_cpy (nu (se_be R) p j) (se_bs R) 0 0 6 k < _
        rw [hcp k hk]
        exact (u1 k (by omega)).1
      rotate_left
      · show va_cpy (nu (se_be R) p j) (se_bs R) 0 0 6 i ≠ va_cpy (nu (se_be R) p j) (se_bs R) 0 0 6 k
        rw [hcp i (by omega), hcp k h2]
        exact se_ij_up hx hij hb i k h1 (by omega)
      · have h1 := zc_n_all (u2.trans e) i hi
        obtain ⟨k, h2, h3⟩ := u3 i hi h1
        exact ⟨k, by omega, (hcp k (by omega)).trans h3⟩
    · exact hf (by omega) _ hu hpm
theorem se_lp_pm {S : sh_T} {f : se_T → Bool × se_T} {p : Nat} (hS : sh_ok S) (hall : ∀ j, j < sh_jb S → sp_fits S j = true) (hpb : p + 1 ≤ sh_jb S)
    (hf0 : p + 1 < sh_jb S → ∀ Q, se_ok S Q → se_px S Q (p + 1) → se_ok S (f Q).2 ∧ se_sm (p + 1) Q (f Q).2)
    (hf : p + 1 < sh_jb S → ∀ Q, se_px S Q (p + 1) → se_ij (se_be Q) (p + 1) → se_pm S (se_bs Q) → se_ok S Q → se_pm S (se_bs (f Q).2)) : ∀ k j R, j + k ≤ sh_jb S → se_ok S R → se_px S R p → se_ij (se_be R) p → se_pm S (se_bs R) → se_pm S (se_bs (se_lp S f p k j R).2)
  | 0, j, R, _, _, _, _, h => h
  | k + 1, j, R, hj, hR, hx, hij, h => by
    have h1 := se_lp_ok hS hall hpb hf0 1 j R (by omega) hR hx
    cases hb : se_ib R j with
    | true =>
      rw [se_lp_1 hb]
      exact se_lp_pm hS hall hpb hf0 hf k (j + 1) R (by omega) hR hx hij h
    | false =>
      by_cases hl : se_li R ≤ se_no R
      · rw [se_lp_2 hb hl]; exact h
      · have hR1 : se_ok S (se_nd R p j) := ⟨hR.1, by show se_no R + 1 ≤ se_li R; omega, hR.2.2.1, hR.2.2.2.1, fun i => by
          have := hS.2.1
          show nu _ _ _ i < 6
          unfold nu
          split
          · omega
          · exact hR.2.2.2.2.1 i, hR.2.2.2.2.2⟩
        have h2 : se_pm S (se_bs (se_fo S f p (se_nd R p j)).2) := by
          unfold se_fo
          split
          · exact h
          · split
            · have h3 := se_fo_pm (f := f) hpb hS.2.1 hx hij (show j < sh_jb S by omega) hb h (fun hlt => by omega)
              rename_i c1 c2
              rw [se_fo_2 c1 c2] at h3
              exact h3
            · exact hf (by omega) _ (se_px_up hx (by omega) hb) (se_ij_up hx hij hb) h ⟨hR1.1, hR1.2.1, hR1.2.2.1, hR1.2.2.2.1, hR1.2.2.2.2.1, hR1.2.2.2.2.2⟩
        cases hc : (se_fo S f p (se_nd R p j)).1 with
        | true =>
          rw [se_lp_3 hb hl hc] at h1 ⊢
          obtain ⟨z1, z2⟩ : se_ok S (se_fo S f p (se_nd R p j)).2 ∧ se_sm p R (se_fo S f p (se_nd R p j)).2 := h1
          exact se_lp_pm hS hall hpb hf0 hf k (j + 1) _ (by omega) z1 (se_px_sm hx z2) (fun i k h1 h2 => by rw [z2.2.2.2.2 i (by omega), z2.2.2.2.2 k h2]; exact hij i k h1 h2) h2
        | false => rw [se_lp_4 hb hl hc]; exact h2
theorem se_go_pm {S : sh_T} (hS : sh_ok S) (hall : ∀ j, j < sh_jb S → sp_fits S j = true) : ∀ r p R, p + r = sh_jb S → se_ok S R → se_px S R p → se_ij (se_be R) p → se_pm S (se_bs R) → se_pm S (se_bs (se_go S r p R).2)
  | 0, p, R, _, _, _, _, h => h
  | r + 1, p, R, hr, hR, hx, hij, h => se_lp_pm hS hall (by omega) (fun _ Q hQ hx' => se_go_ok hS hall r (p + 1) Q (by omega) hQ hx') (fun _ Q hx' hij' hp' hQ => se_go_pm hS hall r (p + 1) Q (by omega) hQ hx' hij' hp') (sh_jb S) 0 R (by omega) hR hx hij h
/-! the order by due hours: sorted by the due hour, then the job -/
def se_sd (du b : Nat → Nat) (n : Nat) : Prop := (∀ i, i < n → b i < n) ∧ (∀ j, j < n → ∃ i, i < n ∧ b i = j) ∧ (∀ i k, i < k → k < n → du (b i) < du (b k) ∨ (du (b i) = du (b k) ∧ b i < b k))
theorem se_ins_at (du : Nat → Nat) (j : Nat) : ∀ (p : Nat) (b : Nat → Nat), ∃ q, q ≤ p ∧ (∀ i, i < q → se_ins du j p b i = b i) ∧ se_ins du j p b q = j ∧ (∀ i, q < i → i ≤ p → se_ins du j p b i = b (i - 1)) ∧ (∀ i, p < i → se_ins du j p b i = b i) ∧ (∀ i, q ≤ i → i < p → du j < du (b i)) ∧ (0 < q → du (b (q - 1)) ≤ du j)
  | 0, b => ⟨0, Nat.le_refl _, fun i hi => absurd hi (Nat.not_lt_zero i), nu_eq _ _ _, fun i h1 h2 => absurd h1 (by omega), fun i hi => nu_ne _ _ (by omega), fun i h1 h2 => absurd h2 (by omega), fun h => absurd h (by omega)⟩
  | p + 1, b => by
    unfold se_ins
    split
    · rename_i hc
      obtain ⟨q, h1, h2, h3, h4, h5, h6, h7⟩ := se_ins_at du j p (nu b (p + 1) (b p))
      refine ⟨q, by omega, fun i hi => ?_, h3, fun i hi hi2 => ?_, fun i hi => ?_, fun i hi hi2 => ?_, fun hq => ?_⟩
      · rw [h2 i hi, nu_ne _ _ (by omega)]
      · rcases Nat.lt_or_ge p i with w | w
        · have e : i = p + 1 := by omega
          subst e
          rw [h5 _ w, nu_eq]
          rfl
        · rw [h4 i hi w, nu_ne _ _ (by omega)]
      · rw [h5 i (by omega), nu_ne _ _ (by omega)]
      · rcases Nat.lt_or_ge i p with w | w
        · have := h6 i hi w
          rw [nu_ne _ _ (by omega)] at this
          exact this
        · have e : i = p := by omega
          subst e
          exact hc
      · have := h7 hq
        rw [nu_ne _ _ (by omega)] at this
        exact this
    · rename_i hc
      exact ⟨p + 1, Nat.le_refl _, fun i hi => nu_ne _ _ (by omega), nu_eq _ _ _, fun i hi hi2 => absurd hi (by omega), fun i hi => nu_ne _ _ (by omega), fun i hi hi2 => absurd hi (by omega), fun _ => by rw [Nat.add_sub_cancel]; omega⟩
theorem se_ord_sd (du b : Nat → Nat) : ∀ n, se_sd du (se_ord du b n) n
  | 0 => ⟨fun i hi => absurd hi (Nat.not_lt_zero i), fun i hi => absurd hi (Nat.not_lt_zero i), fun i k _ hk => absurd hk (Nat.not_lt_zero k)⟩
  | n + 1 => by
    obtain ⟨a1, a2, a3⟩ := se_ord_sd du b n
    unfold se_ord
    obtain ⟨q, h1, h2, h3, h4, -, h6, h7⟩ := se_ins_at du n n (se_ord du b n)
    generalize se_ord du b n = c at *
    generalize se_ins du n n c = r at *
    refine ⟨fun i hi => ?_, fun j hj => ?_, fun i k hik hk => ?_⟩
    · rcases Nat.lt_trichotomy i q with w | w | w
      · rw [h2 i w]; have := a1 i (by omega); omega
      · subst w; omega
      · rw [h4 i w (by omega)]; have := a1 (i - 1) (by omega); omega
    · rcases Nat.lt_or_ge j n with w | w
      · obtain ⟨i, g1, g2⟩ := a2 j w
        rcases Nat.lt_or_ge i q with z | z
        · exact ⟨i, by omega, by rw [h2 i z]; exact g2⟩
        · exact ⟨i + 1, by omega, by rw [h4 (i + 1) (by omega) (by omega)]; exact g2⟩
      · exact ⟨q, by omega, by omega⟩
    · rcases Nat.lt_trichotomy k q with w | w | w
      · rw [h2 k w, h2 i (by omega)]; exact a3 i k hik (by omega)
      · subst w
        rw [h3, h2 i hik]
        have g := a1 i (by omega)
        have g7 := h7 (by omega)
        rcases Nat.lt_or_ge i (k - 1) with z | z
        · have g3 := a3 i (k - 1) z (by omega)
          omega
        · have e : i = k - 1 := by omega
          rw [e] at g ⊢
          omega
      · rw [h4 k w (by omega)]
        rcases Nat.lt_trichotomy i q with z | z | z
        · rw [h2 i z]; exact a3 i (k - 1) (by omega) (by omega)
        · subst z
          rw [h3]
          have g6 := h6 (k - 1) (by omega) (by omega)
          omega
        · rw [h4 i z (by omega)]; exact a3 (i - 1) (k - 1) (by omega) (by omega)
theorem se_sd_pm {S : sh_T} {b : Nat → Nat} (h : se_sd (sh_du S) b (sh_jb S)) : se_pm S b := ⟨h.1, h.2.1, fun i k h1 h2 e => by have := h.2.2 i k h1 h2; rw [e] at this; omega⟩
theorem se_pm_sw {S : sh_T} {g : Nat → Nat} {a b : Nat} (h : se_pm S g) (ha : a < sh_jb S) (hb : b < sh_jb S) : se_pm S (sw g a b) := by
  have hin : ∀ i k, i < sh_jb S → k < sh_jb S → g i = g k → i = k := fun i k hi hk e => by
    rcases Nat.lt_trichotomy i k with q | q | q
    · exact absurd e (h.2.2 i k q hk)
    · exact q
    · exact absurd e.symm (h.2.2 k i q hi)
  refine ⟨fun k hk => ?_, fun j hj => ?_, fun i k h1 h2 e => ?_⟩
  · unfold sw nu
    split
    · exact h.1 a ha
    · split
      · exact h.1 b hb
      · exact h.1 k hk
  rotate_left
  · have hi : i < sh_jb S := by omega
    unfold sw nu at e
    by_cases e1 : i = b
    · have e2 : ¬ k = b := by omega
      rw [if_pos e1, if_neg e2] at e
      by_cases e3 : k = a
      · rw [if_pos e3] at e
        have := hin _ _ ha hb e
        omega
      · rw [if_neg e3] at e
        have := hin _ _ ha h2 e
        omega
    · rw [if_neg e1] at e
      by_cases e2 : k = b
      · rw [if_pos e2] at e
        by_cases e3 : i = a
        · rw [if_pos e3] at e
          have := hin _ _ hb ha e
          omega
        · rw [if_neg e3] at e
          have := hin _ _ hi ha e
          omega
      · rw [if_neg e2] at e
        by_cases e3 : i = a
        · by_cases e4 : k = a
          · omega
          · rw [if_pos e3, if_neg e4] at e
            have := hin _ _ hb h2 e
            omega
        · rw [if_neg e3] at e
          by_cases e4 : k = a
          · rw [if_pos e4] at e
            have := hin _ _ hi hb e
            omega
          · rw [if_neg e4] at e
            exact h.2.2 i k h1 h2 e
  · obtain ⟨k, h1, h2⟩ := h.2.1 j hj
    by_cases e1 : k = a
    · exact ⟨b, hb, by subst e1; unfold sw; rw [nu_eq]; exact h2⟩
    · by_cases e2 : k = b
      · subst e2
        by_cases e3 : a = k
        · exact absurd e3.symm e1
        · exact ⟨a, ha, by unfold sw; rw [nu_ne _ _ e3, nu_eq]; exact h2⟩
      · exact ⟨k, h1, by unfold sw; rw [nu_ne _ _ e2, nu_ne _ _ e1]; exact h2⟩
theorem se_pm_cpy {S : sh_T} {g h : Nat → Nat} (hS : sh_ok S) (hp : se_pm S g) : se_pm S (va_cpy g h 0 0 6) := by
  have s2 := hS.2.1
  have hcp : ∀ k, k < sh_jb S → va_cpy g h 0 0 6 k = g k := fun k hk => by
    unfold va_cpy
    rw [if_pos ⟨Nat.zero_le _, by omega⟩, Nat.zero_add, Nat.sub_zero]
  refine ⟨fun k hk => by rw [hcp k hk]; exact hp.1 k hk, fun j hj => ?_, fun i k h1 h2 => by rw [hcp i (by omega), hcp k h2]; exact hp.2.2 i k h1 h2⟩
  obtain ⟨k, h1, h2⟩ := hp.2.1 j hj
  exact ⟨k, h1, by rw [hcp k h1]; exact h2⟩
theorem va_cpy_lt {g h : Nat → Nat} {k : Nat} (hk : k < 6) : va_cpy g h 0 0 6 k = g k := by
  unfold va_cpy
  rw [if_pos ⟨Nat.zero_le _, by omega⟩, Nat.zero_add, Nat.sub_zero]
/-! draws -/
def im_x (x : Int64) : Int64 := x * 6364136223846793005 + 1442695040888963407
def im_a (x : Int64) (n : Nat) : Nat := (x.toUInt64.toNat / 2 ^ 33) % n
theorem im_sh (x : Int64) : (x.toUInt64 >>> ((nI 33).toInt64.toUInt64 &&& Int64.toUInt64 63)).toInt64 = lN (x.toUInt64.toNat / 2 ^ 33) := by
  have e : (nI 33).toInt64.toUInt64 &&& Int64.toUInt64 63 = 33 := by decide
  rw [e]
  have e2 : (x.toUInt64 >>> (33 : UInt64)).toNat = x.toUInt64.toNat / 2 ^ 33 := by
    rw [UInt64.toNat_shiftRight, Nat.shiftRight_eq_div_pow]
    rfl
  rw [← e2]
  apply Int64.toBitVec_inj.mp
  show (x.toUInt64 >>> (33 : UInt64)).toBitVec = BitVec.ofNat 64 (x.toUInt64 >>> (33 : UInt64)).toBitVec.toNat
  generalize (x.toUInt64 >>> (33 : UInt64)).toBitVec = v
  simp
theorem lN_div {k n : Nat} (hk : k < 2 ^ 31) (hn : n < 2 ^ 31) : lN k / lN n = lN (k / n) := by
  have h := Nat.div_le_self k n
  apply Int64.toInt_inj.mp
  rw [Int64.toInt_div, lN_toInt hk, lN_toInt hn, lN_toInt (by omega), ← Int.ofNat_tdiv]
  generalize k / n = q at h ⊢
  exact Int.bmod_eq_of_le (by omega) (by omega)
theorem im_rem (x : Int64) {n : Nat} (hn : n < 2 ^ 31) : (lN (x.toUInt64.toNat / 2 ^ 33) - lN (x.toUInt64.toNat / 2 ^ 33) / lN n * lN n).toInt32 = nI (im_a x n) := by
  have h : x.toUInt64.toNat < 2 ^ 64 := x.toUInt64.toNat_lt
  have hk : x.toUInt64.toNat / 2 ^ 33 < 2 ^ 31 := by omega
  rw [lN_div hk hn, lN_mul, lN_sub (Nat.div_mul_le_self _ _), lN_i]
  unfold im_a
  rw [Nat.mod_eq_sub_div_mul]
