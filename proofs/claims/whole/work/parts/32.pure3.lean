/-! PURE: the model's board beside the floor -/
def bd_h (f : fl_T) (D : Nat → Bool) : Nat → Int32 := fun s => if D s = true then nI (fl_bg f s) else -1
def bd_m (f : fl_T) (D : Nat → Bool) : Nat → Int32 := fun s => if D s = true then nI (fl_ma f s) else -1
theorem fl_put_bg {S : sh_T} {f : fl_T} {s m b : Nat} : fl_bg (fl_put S f s m b) = nu (fl_bg f) s b := by unfold fl_put fl_add; split <;> rfl
theorem fl_put_ma {S : sh_T} {f : fl_T} {s m b : Nat} : fl_ma (fl_put S f s m b) = nu (fl_ma f) s m := by unfold fl_put fl_add; split <;> rfl
theorem bd_h_put (S : sh_T) (f : fl_T) (D : Nat → Bool) (s m b : Nat) : upd (bd_h f D) s (nI b) = bd_h (fl_put S f s m b) (zu D s true) := by
  funext k
  unfold bd_h upd
  rw [fl_put_bg]
  by_cases e : k = s
  · subst e
    rw [if_pos rfl, zu_eq, if_pos rfl, nu_eq]
  · rw [if_neg e, zu_ne _ _ e, nu_ne _ _ e]
theorem bd_m_put (S : sh_T) (f : fl_T) (D : Nat → Bool) (s m b : Nat) : upd (bd_m f D) s (nI m) = bd_m (fl_put S f s m b) (zu D s true) := by
  funext k
  unfold bd_m upd
  rw [fl_put_ma]
  by_cases e : k = s
  · subst e
    rw [if_pos rfl, zu_eq, if_pos rfl, nu_eq]
  · rw [if_neg e, zu_ne _ _ e, nu_ne _ _ e]
/-- no span of the machine, no placed step on it, meets n hours from h on -/
def bd_free (S : sh_T) (f : fl_T) (D : Nat → Bool) (m n h : Nat) : Prop := (∀ i, i < sh_sp S m → ¬ (h < sh_st S (m * 8 + i) ∧ sh_sf S (m * 8 + i) < h + n)) ∧ (∀ s, s < sh_ss S → D s = true → fl_ma f s = m → ¬ (h < fl_bg f s + sh_sh S s ∧ fl_bg f s < h + n))
/-- the floor's rows say what the board says -/
def fl_D (S : sh_T) (f : fl_T) (D : Nat → Bool) : Prop := ∀ m, m < sh_mc S → ∀ n h, mm_ok (fl_fr f m) (fl_to f m) (fl_bc f m) n h ↔ bd_free S f D m n h
def bd_fr (S : sh_T) (f : fl_T) (D : Nat → Bool) (m : Nat) : Nat → Nat := fun i => if i < sh_ss S then (if D i = true ∧ fl_ma f i = m then fl_bg f i else 0) else sh_sf S (m * 8 + (i - sh_ss S))
def bd_to (S : sh_T) (f : fl_T) (D : Nat → Bool) (m : Nat) : Nat → Nat := fun i => if i < sh_ss S then (if D i = true ∧ fl_ma f i = m then fl_bg f i + sh_sh S i else 0) else sh_st S (m * 8 + (i - sh_ss S))
theorem bd_ok (S : sh_T) (f : fl_T) (D : Nat → Bool) (m n h : Nat) : mm_ok (bd_fr S f D m) (bd_to S f D m) (sh_ss S + sh_sp S m) n h ↔ bd_free S f D m n h := by
  constructor
  · intro ok
    refine ⟨fun i hi => ?_, fun s hs hD hm => ?_⟩
    · have := ok (sh_ss S + i) (by omega)
      unfold bd_fr bd_to at this
      rw [if_neg (by omega), if_neg (by omega), Nat.add_sub_cancel_left] at this
      exact this
    · have := ok s (by omega)
      unfold bd_fr bd_to at this
      rw [if_pos hs, if_pos hs, if_pos ⟨hD, hm⟩, if_pos ⟨hD, hm⟩] at this
      exact this
  · rintro ⟨a, b⟩ i hi
    unfold bd_fr bd_to
    by_cases hs : i < sh_ss S
    · rw [if_pos hs, if_pos hs]
      by_cases hc : D i = true ∧ fl_ma f i = m
      · rw [if_pos hc, if_pos hc]
        exact b i hs hc.1 hc.2
      · rw [if_neg hc, if_neg hc]
        omega
    · rw [if_neg hs, if_neg hs]
      exact a _ (by omega)
theorem bd_first {S : sh_T} {f : fl_T} {D : Nat → Bool} {m n r k : Nat} (hD : fl_D S f D) (hm : m < sh_mc S) (hbc : fl_bc f m ≤ 32) (hk : mm_left (bd_to S f D m) (sh_ss S + sh_sp S m) r < k) : mm_it (bd_fr S f D m) (bd_to S f D m) (sh_ss S + sh_sp S m) n k r = fl_first f m r n := by
  have h1 := mm_it_first (bd_fr S f D m) (bd_to S f D m) (sh_ss S + sh_sp S m) n k r hk
  have h2 := mm_it_first (fl_fr f m) (fl_to f m) (fl_bc f m) n 33 r (by have := mm_left_le (fl_to f m) r (fl_bc f m); omega)
  have e : ∀ h, mm_ok (fl_fr f m) (fl_to f m) (fl_bc f m) n h ↔ mm_ok (bd_fr S f D m) (bd_to S f D m) (sh_ss S + sh_sp S m) n h := fun h => (hD m hm n h).trans (bd_ok S f D m n h).symm
  exact mm_first_one h1 ⟨h2.1, (e _).mp h2.2.1, fun q hq ok => h2.2.2 q hq ((e q).mpr ok)⟩
theorem fl_D_put {S : sh_T} {f : fl_T} {D : Nat → Bool} {s m0 b : Nat} (hD : fl_D S f D) (hs : s < sh_ss S) (hDs : D s = false) (hb : fl_bc f m0 < 32) (hc : ∀ m, m < sh_mc S → fl_bc f m ≤ 32) : fl_D S (fl_put S f s m0 b) (zu D s true) := by
  have e0 : fl_put S f s m0 b = (nu (fl_bg f) s b, nu (fl_ma f) s m0, nu (fl_bc f) m0 (fl_bc f m0 + 1), nu (fl_bf f) (m0 * 32 + fl_bc f m0) b, nu (fl_bt f) (m0 * 32 + fl_bc f m0) (b + sh_sh S s)) := by
    unfold fl_put fl_add
    exact if_pos hb
  rw [e0]
  intro m hm n h
  have h0 := hD m hm n h
  have hcm := hc m hm
  have hrow : ∀ i, i < fl_bc f m → m * 32 + i ≠ m0 * 32 + fl_bc f m0 := fun i hi => by
    by_cases e : m = m0
    · subst e; omega
    · omega
  by_cases e : m = m0
  · subst e
    constructor
    · intro ok
      have ok1 : mm_ok (fl_fr f m) (fl_to f m) (fl_bc f m) n h := fun i hi => by
        have := ok i (by show i < nu (fl_bc f) m (fl_bc f m + 1) m; rw [nu_eq]; omega)
        have w : ¬ (h < nu (fl_bt f) (m * 32 + fl_bc f m) (b + sh_sh S s) (m * 32 + i) ∧ nu (fl_bf f) (m * 32 + fl_bc f m) b (m * 32 + i) < h + n) := this
        rw [nu_ne _ _ (hrow i hi), nu_ne _ _ (hrow i hi)] at w
        exact w
      have ok2 : ¬ (h < b + sh_sh S s ∧ b < h + n) := by
        have := ok (fl_bc f m) (by show _ < nu (fl_bc f) m (fl_bc f m + 1) m; rw [nu_eq]; omega)
        have w : ¬ (h < nu (fl_bt f) (m * 32 + fl_bc f m) (b + sh_sh S s) (m * 32 + fl_bc f m) ∧ nu (fl_bf f) (m * 32 + fl_bc f m) b (m * 32 + fl_bc f m) < h + n) := this
        rw [nu_eq, nu_eq] at w
        exact w
      obtain ⟨a1, a2⟩ := h0.mp ok1
      refine ⟨a1, fun k hk hz hma => ?_⟩
      have hma' : nu (fl_ma f) s m k = m := hma
      show ¬ (h < nu (fl_bg f) s b k + sh_sh S k ∧ nu (fl_bg f) s b k < h + n)
      by_cases ek : k = s
      · subst ek; rw [nu_eq]; exact ok2
      · rw [nu_ne _ _ ek] at hma' ⊢
        rw [zu_ne _ _ ek] at hz
        exact a2 k hk hz hma'
    · rintro ⟨a1, a2⟩
      have ok1 : mm_ok (fl_fr f m) (fl_to f m) (fl_bc f m) n h := h0.mpr ⟨a1, fun k hk hz hma => by
        have ek : k ≠ s := fun e => by rw [e, hDs] at hz; cases hz
        have w : ¬ (h < nu (fl_bg f) s b k + sh_sh S k ∧ nu (fl_bg f) s b k < h + n) := a2 k hk (by rw [zu_ne _ _ ek]; exact hz) (by show nu (fl_ma f) s m k = m; rw [nu_ne _ _ ek]; exact hma)
        rw [nu_ne _ _ ek] at w
        exact w⟩
      intro i hi
      have hi' : i < nu (fl_bc f) m (fl_bc f m + 1) m := hi
      rw [nu_eq] at hi'
      show ¬ (h < nu (fl_bt f) (m * 32 + fl_bc f m) (b + sh_sh S s) (m * 32 + i) ∧ nu (fl_bf f) (m * 32 + fl_bc f m) b (m * 32 + i) < h + n)
      rcases Nat.lt_or_ge i (fl_bc f m) with q | q
      · rw [nu_ne _ _ (hrow i q), nu_ne _ _ (hrow i q)]
        exact ok1 i q
      · have ei : i = fl_bc f m := by omega
        rw [ei, nu_eq, nu_eq]
        have w : ¬ (h < nu (fl_bg f) s b s + sh_sh S s ∧ nu (fl_bg f) s b s < h + n) := a2 s hs (zu_eq _ _ _) (nu_eq _ _ _)
        rw [nu_eq] at w
        exact w
  · have hbc : nu (fl_bc f) m0 (fl_bc f m0 + 1) m = fl_bc f m := nu_ne _ _ e
    have l1 : mm_ok (fl_fr (nu (fl_bg f) s b, nu (fl_ma f) s m0, nu (fl_bc f) m0 (fl_bc f m0 + 1), nu (fl_bf f) (m0 * 32 + fl_bc f m0) b, nu (fl_bt f) (m0 * 32 + fl_bc f m0) (b + sh_sh S s)) m) (fl_to (nu (fl_bg f) s b, nu (fl_ma f) s m0, nu (fl_bc f) m0 (fl_bc f m0 + 1), nu (fl_bf f) (m0 * 32 + fl_bc f m0) b, nu (fl_bt f) (m0 * 32 + fl_bc f m0) (b + sh_sh S s)) m) (nu (fl_bc f) m0 (fl_bc f m0 + 1) m) n h ↔ mm_ok (fl_fr f m) (fl_to f m) (fl_bc f m) n h := by
      rw [hbc]
      have key : ∀ i, i < fl_bc f m → (nu (fl_bf f) (m0 * 32 + fl_bc f m0) b (m * 32 + i) = fl_bf f (m * 32 + i) ∧ nu (fl_bt f) (m0 * 32 + fl_bc f m0) (b + sh_sh S s) (m * 32 + i) = fl_bt f (m * 32 + i)) := fun i hi => ⟨nu_ne _ _ (hrow i hi), nu_ne _ _ (hrow i hi)⟩
      constructor
      · intro ok i hi
        have w : ¬ (h < nu (fl_bt f) (m0 * 32 + fl_bc f m0) (b + sh_sh S s) (m * 32 + i) ∧ nu (fl_bf f) (m0 * 32 + fl_bc f m0) b (m * 32 + i) < h + n) := ok i hi
        rw [(key i hi).1, (key i hi).2] at w
        exact w
      · intro ok i hi
        show ¬ (h < nu (fl_bt f) (m0 * 32 + fl_bc f m0) (b + sh_sh S s) (m * 32 + i) ∧ nu (fl_bf f) (m0 * 32 + fl_bc f m0) b (m * 32 + i) < h + n)
        rw [(key i hi).1, (key i hi).2]
        exact ok i hi
    refine l1.trans (h0.trans ?_)
    constructor
    · rintro ⟨a1, a2⟩
      refine ⟨a1, fun k hk hz hma => ?_⟩
      have hma' : nu (fl_ma f) s m0 k = m := hma
      show ¬ (h < nu (fl_bg f) s b k + sh_sh S k ∧ nu (fl_bg f) s b k < h + n)
      by_cases ek : k = s
      · subst ek; rw [nu_eq] at hma'; exact absurd hma'.symm e
      · rw [nu_ne _ _ ek] at hma' ⊢
        rw [zu_ne _ _ ek] at hz
        exact a2 k hk hz hma'
    · rintro ⟨a1, a2⟩
      refine ⟨a1, fun k hk hz hma => ?_⟩
      have ek : k ≠ s := fun e => by rw [e, hDs] at hz; cases hz
      have w : ¬ (h < nu (fl_bg f) s b k + sh_sh S k ∧ nu (fl_bg f) s b k < h + n) := a2 k hk (by rw [zu_ne _ _ ek]; exact hz) (by show nu (fl_ma f) s m0 k = m; rw [nu_ne _ _ ek]; exact hma)
      rw [nu_ne _ _ ek] at w
      exact w
/-! the cleared floor -/
theorem fl_spans_row {S : sh_T} {m : Nat} {f : fl_T} (h0 : fl_bc f m = 0) : ∀ n, n ≤ 8 → fl_bc (fl_spans S m f n) m = n ∧ (∀ i, i < n → fl_bf (fl_spans S m f n) (m * 32 + i) = sh_sf S (m * 8 + i) ∧ fl_bt (fl_spans S m f n) (m * 32 + i) = sh_st S (m * 8 + i)) ∧ (∀ k, k ≠ m → fl_bc (fl_spans S m f n) k = fl_bc f k ∧ ∀ i, i < 32 → fl_bf (fl_spans S m f n) (k * 32 + i) = fl_bf f (k * 32 + i) ∧ fl_bt (fl_spans S m f n) (k * 32 + i) = fl_bt f (k * 32 + i))
  | 0, _ => ⟨h0, fun i hi => absurd hi (Nat.not_lt_zero i), fun k _ => ⟨rfl, fun i _ => ⟨rfl, rfl⟩⟩⟩
  | n + 1, hn => by
    obtain ⟨a1, a2, a3⟩ := fl_spans_row (S := S) h0 n (by omega)
    unfold fl_spans fl_add
    rw [if_pos (by omega)]
    refine ⟨?_, fun i hi => ?_, fun k hk => ⟨?_, fun i hi => ?_⟩⟩
    · show nu _ _ _ m = _
      rw [nu_eq, a1]
    · show nu _ _ _ _ = _ ∧ nu _ _ _ _ = _
      rw [a1]
      rcases Nat.lt_or_ge i n with q | q
      · rw [nu_ne _ _ (by omega), nu_ne _ _ (by omega)]
        exact a2 i q
      · have e : i = n := by omega
        subst e
        rw [nu_eq, nu_eq]
        exact ⟨rfl, rfl⟩
    · show nu _ _ _ k = _
      rw [nu_ne _ _ hk]
      exact (a3 k hk).1
    · show nu _ _ _ _ = _ ∧ nu _ _ _ _ = _
      rw [a1, nu_ne _ _ (by omega), nu_ne _ _ (by omega)]
      exact (a3 k hk).2 i hi
theorem fl_clr_row {S : sh_T} {f : fl_T} (hS : sh_ok S) : ∀ n m, m < n → fl_bc (fl_clr S f n) m = sh_sp S m ∧ ∀ i, i < sh_sp S m → fl_bf (fl_clr S f n) (m * 32 + i) = sh_sf S (m * 8 + i) ∧ fl_bt (fl_clr S f n) (m * 32 + i) = sh_st S (m * 8 + i)
  | 0, m, h => absurd h (Nat.not_lt_zero m)
  | n + 1, m, h => by
    obtain ⟨a1, a2, a3⟩ := fl_spans_row (S := S) (m := n) (f := fl_zero (fl_clr S f n) n) (nu_eq _ _ _) (sh_sp S n) (hS.2.2.2.2.1 n)
    unfold fl_clr
    by_cases e : m = n
    · subst e
      exact ⟨a1, a2⟩
    · obtain ⟨b1, b2⟩ := a3 m e
      obtain ⟨c1, c2⟩ := fl_clr_row hS n m (by omega)
      have h8 := hS.2.2.2.2.1 m
      refine ⟨b1.trans ((nu_ne _ _ e).trans c1), fun i hi => ?_⟩
      obtain ⟨d1, d2⟩ := b2 i (by omega)
      exact ⟨d1.trans (c2 i hi).1, d2.trans (c2 i hi).2⟩
theorem fl_D_clear {S : sh_T} (hS : sh_ok S) (f : fl_T) : fl_D S (fl_clear S f) (fun _ => false) := by
  intro m hm n h
  obtain ⟨a1, a2⟩ := fl_clr_row (f := f) hS (sh_mc S) m hm
  constructor
  · intro ok
    refine ⟨fun i hi => ?_, fun s _ hz => by cases hz⟩
    have w : ¬ (h < fl_bt (fl_clr S f (sh_mc S)) (m * 32 + i) ∧ fl_bf (fl_clr S f (sh_mc S)) (m * 32 + i) < h + n) := ok i (by show i < fl_bc (fl_clr S f (sh_mc S)) m; rw [a1]; exact hi)
    rw [(a2 i hi).1, (a2 i hi).2] at w
    exact w
  · rintro ⟨b1, -⟩ i hi
    have hi' : i < fl_bc (fl_clr S f (sh_mc S)) m := hi
    rw [a1] at hi'
    show ¬ (h < fl_bt (fl_clr S f (sh_mc S)) (m * 32 + i) ∧ fl_bf (fl_clr S f (sh_mc S)) (m * 32 + i) < h + n)
    rw [(a2 i hi').1, (a2 i hi').2]
    exact b1 i hi'
/-! a job placed on the board -/
def bd_D (S : sh_T) (j : Nat) (D : Nat → Bool) : Nat → Nat → Bool
  | 0 => D
  | n + 1 => zu (bd_D S j D n) (sh_sa S (j * 4 + n)) true
theorem bd_D_iff (S : sh_T) (j : Nat) (D : Nat → Bool) (s : Nat) : ∀ n, bd_D S j D n s = true ↔ D s = true ∨ ∃ i, i < n ∧ s = sh_sa S (j * 4 + i)
  | 0 => ⟨Or.inl, fun h => by rcases h with h | ⟨i, hi, -⟩; exact h; exact absurd hi (Nat.not_lt_zero i)⟩
  | n + 1 => by
    have ih := bd_D_iff S j D s n
    unfold bd_D
    by_cases e : s = sh_sa S (j * 4 + n)
    · rw [← e, zu_eq]
      exact ⟨fun _ => Or.inr ⟨n, by omega, e⟩, fun _ => rfl⟩
    · rw [zu_ne _ _ e, ih]
      constructor
      · rintro (h | ⟨i, hi, h⟩)
        · exact Or.inl h
        · exact Or.inr ⟨i, by omega, h⟩
      · rintro (h | ⟨i, hi, h⟩)
        · exact Or.inl h
        · rcases Nat.lt_or_ge i n with q | q
          · exact Or.inr ⟨i, q, h⟩
          · have e2 : i = n := by omega
            subst e2
            exact absurd h e
/-- all that holds of floor and board, p jobs being placed -/
def bd_I (S : sh_T) (f : fl_T) (D : Nat → Bool) (B : Nat) : Prop := fl_sm (sh_mc S) f B ∧ (∀ m, m < sh_mc S → fl_bc f m ≤ 28) ∧ fl_D S f D ∧ (∀ s, s < sh_ss S → D s = true → fl_bg f s ≤ B ∧ fl_ma f s < sh_mc S)
theorem fl_pj_I {S : sh_T} {jo : Nat → Nat} {j B : Nat} {f : fl_T} {D : Nat → Bool} (hS : sh_ok S) (hk : sh_k S jo) (hj : j < sh_jb S) (hf : sp_fits S j = true) (h : bd_I S f D B) (hD0 : ∀ i, i < sh_so S j → D (sh_sa S (j * 4 + i)) = false) : ∀ n, n ≤ sh_so S j →
    fl_D S (fl_pj S j f n).1 (bd_D S j D n) ∧ (∀ s, s < sh_ss S → bd_D S j D n s = true → fl_bg (fl_pj S j f n).1 s ≤ B + 200 * n ∧ fl_ma (fl_pj S j f n).1 s < sh_mc S) ∧ (∀ m, m < sh_mc S → fl_bc (fl_pj S j f n).1 m ≤ fl_bc f m + n)
  | 0, _ => ⟨h.2.2.1, h.2.2.2, fun m _ => Nat.le_refl _⟩
  | n + 1, hn => by
    obtain ⟨a1, a2, a3⟩ := fl_pj_I hS hk hj hf h hD0 n (by omega)
    obtain ⟨g1, -, g3⟩ := fl_pj_sm hS hf h.1 n (by omega)
    obtain ⟨hb1, hb2⟩ := fl_try_bd (S := S) (s := sh_sa S (j * 4 + n)) g1 g3 (sh_mc S) (Nat.le_refl _)
    have hso := fl_try_some (S := S) (f := (fl_pj S j f n).1) (s := sh_sa S (j * 4 + n)) (r := (fl_pj S j f n).2.2) (sh_mc S) (sp_fit_has hf (by omega))
    obtain ⟨m0, hq⟩ := Option.ne_none_iff_exists'.mp hso
    have hm0 := hb2 m0 hq
    have hso4 := hS.2.2.2.2.2.2.2.2.2.1 j
    have h28 := h.2.1 m0 hm0
    have h3 := a3 m0 hm0
    have hDn : bd_D S j D n (sh_sa S (j * 4 + n)) = false := by
      cases hc : bd_D S j D n (sh_sa S (j * 4 + n)) with
      | false => rfl
      | true =>
        rcases (bd_D_iff S j D _ n).mp hc with w | ⟨i, hi, w⟩
        · rw [hD0 n (by omega)] at w; cases w
        · exact absurd w (sh_k_ne hk hj hi (by omega))
    have e0 : (fl_pj S j f (n + 1)).1 = fl_put S (fl_pj S j f n).1 (sh_sa S (j * 4 + n)) m0 (fl_try S (fl_pj S j f n).1 (sh_sa S (j * 4 + n)) (fl_pj S j f n).2.2 (sh_mc S)).1 := by
      rw [fl_pj]
      unfold fl_stp
      rw [hq]
      rfl
    rw [e0]
    refine ⟨fl_D_put a1 (hk.1 j n hj (by omega)).1 hDn (by omega) g1.1, fun s hs hz => ?_, fun m hm => ?_⟩
    · rw [fl_put_bg, fl_put_ma]
      by_cases e : s = sh_sa S (j * 4 + n)
      · rw [e, nu_eq, nu_eq]
        exact ⟨Nat.le_trans hb1 (by omega), hm0⟩
      · rw [nu_ne _ _ e, nu_ne _ _ e]
        have hz' : zu (bd_D S j D n) (sh_sa S (j * 4 + n)) true s = true := hz
        rw [zu_ne _ _ e] at hz'
        obtain ⟨b1, b2⟩ := a2 s hs hz'
        exact ⟨by omega, b2⟩
    · have h5 := a3 m hm
      unfold fl_put fl_add
      split
      · show nu (fl_bc (fl_pj S j f n).1) m0 (fl_bc (fl_pj S j f n).1 m0 + 1) m ≤ _
        by_cases e : m = m0
        · subst e; rw [nu_eq]; omega
        · rw [nu_ne _ _ e]
          show fl_bc (fl_pj S j f n).1 m ≤ _
          omega
      · show fl_bc (fl_pj S j f n).1 m ≤ _
        omega
/-! an order placed on the board -/
def bd_C (S : sh_T) (g : Nat → Nat) : Nat → Nat → Bool
  | 0 => fun _ => false
  | n + 1 => bd_D S (g n) (bd_C S g n) (sh_so S (g n))
theorem bd_C_iff (S : sh_T) (g : Nat → Nat) (s : Nat) : ∀ n, bd_C S g n s = true ↔ fl_in S g n s
  | 0 => ⟨fun h => Bool.noConfusion (show false = true from h), fun ⟨k, hk, _⟩ => absurd hk (Nat.not_lt_zero k)⟩
  | n + 1 => by
    have ih := bd_C_iff S g s n
    unfold bd_C
    rw [bd_D_iff, ih]
    constructor
    · rintro (⟨k, hk, h⟩ | ⟨i, hi, h⟩)
      · exact ⟨k, by omega, h⟩
      · exact ⟨n, by omega, i, hi, h⟩
    · rintro ⟨k, hk, i, hi, h⟩
      rcases Nat.lt_or_ge k n with q | q
      · exact Or.inl ⟨k, q, i, hi, h⟩
      · have e : k = n := by omega
        subst e
        exact Or.inr ⟨i, hi, h⟩
theorem bd_C_no {S : sh_T} {jo g : Nat → Nat} {n : Nat} (hk : sh_k S jo) (hg : ∀ k, k < n + 1 → g k < sh_jb S) (hij : se_ij g (n + 1)) : ∀ i, i < sh_so S (g n) → bd_C S g n (sh_sa S (g n * 4 + i)) = false := by
  intro i hi
  cases hc : bd_C S g n (sh_sa S (g n * 4 + i)) with
  | false => rfl
  | true =>
    obtain ⟨k, hk1, i', hi', e⟩ := (bd_C_iff S g _ n).mp hc
    exact absurd e (sh_k_dj hk (hg n (by omega)) hi (hg k (by omega)) hi' (Ne.symm (hij k n hk1 (by omega))))
theorem fl_co_I {S : sh_T} {jo g : Nat → Nat} (hS : sh_ok S) (hk : sh_k S jo) : ∀ n, n ≤ sh_jb S → (∀ k, k < n → g k < sh_jb S ∧ sp_fits S (g k) = true) → se_ij g n → fl_sm (sh_mc S) (fl_co S g (fl_clear S fl_0) n).1 (2000 + 800 * n) ∧ (∀ m, m < sh_mc S → fl_bc (fl_co S g (fl_clear S fl_0) n).1 m ≤ 8 + 4 * n) ∧ fl_D S (fl_co S g (fl_clear S fl_0) n).1 (bd_C S g n) ∧ (∀ s, s < sh_ss S → bd_C S g n s = true → fl_bg (fl_co S g (fl_clear S fl_0) n).1 s ≤ 2000 + 800 * n ∧ fl_ma (fl_co S g (fl_clear S fl_0) n).1 s < sh_mc S)
  | 0, _, _, _ => ⟨fl_clear_sm fl_0 hS, fun m hm => fl_clear_ct hS fl_0 (sh_mc S) m hm, fl_D_clear hS fl_0, fun s _ h => by cases h⟩
  | n + 1, hn, hg, hij => by
    have s2 := hS.2.1
    obtain ⟨a1, a2, a3, a4⟩ := fl_co_I (g := g) hS hk n (by omega) (fun k hk => hg k (by omega)) (fun i k h1 h2 => hij i k h1 (by omega))
    obtain ⟨g1, g2⟩ := hg n (by omega)
    have h28 : ∀ m, m < sh_mc S → fl_bc (fl_co S g (fl_clear S fl_0) n).1 m ≤ 28 := fun m hm => by have := a2 m hm; omega
    obtain ⟨b1, b2, b3⟩ := fl_pj_I hS hk g1 g2 (B := 2000 + 800 * n) ⟨a1, h28, a3, a4⟩ (bd_C_no hk (fun k hk => (hg k (by omega)).1) hij) (sh_so S (g n)) (Nat.le_refl _)
    have h4 := hS.2.2.2.2.2.2.2.2.2.1 (g n)
    have hp := (fl_place_sm hS g2 a1).1
    refine ⟨fl_sm_mono hp (by omega), fun m hm => ?_, b1, fun s hs hz => ?_⟩
    · have := b3 m hm
      have := a2 m hm
      show fl_bc (fl_pj S (g n) (fl_co S g (fl_clear S fl_0) n).1 (sh_so S (g n))).1 m ≤ _
      omega
    · obtain ⟨c1, c2⟩ := b2 s hs hz
      exact ⟨Nat.le_trans c1 (by omega), c2⟩
theorem fl_co_bI {S : sh_T} {jo g : Nat → Nat} {n : Nat} (hS : sh_ok S) (hk : sh_k S jo) (hn : n < sh_jb S) (hg : ∀ k, k < n → g k < sh_jb S ∧ sp_fits S (g k) = true) (hij : se_ij g n) : bd_I S (fl_co S g (fl_clear S fl_0) n).1 (bd_C S g n) (2000 + 800 * n) := by
  have s2 := hS.2.1
  obtain ⟨a1, a2, a3, a4⟩ := fl_co_I (g := g) hS hk n (by omega) hg hij
  exact ⟨a1, fun m hm => by have := a2 m hm; omega, a3, a4⟩
