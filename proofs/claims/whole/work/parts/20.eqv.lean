/-! PURE: what the floor answers hangs on its rows of busy times alone -/
def fl_eqv (N : Nat) (f g : fl_T) : Prop := ∀ m, m < N → fl_bc f m = fl_bc g m ∧ ∀ i, i < fl_bc f m → fl_bf f (m * 32 + i) = fl_bf g (m * 32 + i) ∧ fl_bt f (m * 32 + i) = fl_bt g (m * 32 + i)
theorem mm_pass_congr {fr to fr' to' : Nat → Nat} (n h : Nat) : ∀ c, (∀ i, i < c → fr i = fr' i ∧ to i = to' i) → mm_pass fr to n c h = mm_pass fr' to' n c h
  | 0, _ => rfl
  | c + 1, he => by
    have h1 := mm_pass_congr n h c (fun i hi => he i (by omega))
    obtain ⟨h2, h3⟩ := he c (by omega)
    unfold mm_pass
    rw [h1, h2, h3]
theorem mm_it_congr {fr to fr' to' : Nat → Nat} (c n : Nat) (he : ∀ i, i < c → fr i = fr' i ∧ to i = to' i) : ∀ k h, mm_it fr to c n k h = mm_it fr' to' c n k h
  | 0, h => rfl
  | k + 1, h => by
    unfold mm_it
    rw [mm_pass_congr n h c he]
    split
    · exact mm_it_congr c n he k _
    · rfl
theorem fl_first_eqv {N : Nat} {f g : fl_T} (he : fl_eqv N f g) {m : Nat} (hm : m < N) (r n : Nat) : fl_first f m r n = fl_first g m r n := by
  obtain ⟨h1, h2⟩ := he m hm
  unfold fl_first
  rw [← h1]
  exact mm_it_congr _ _ (fun i hi => h2 i hi) _ _
theorem fl_try_eqv {N : Nat} {S : sh_T} {f g : fl_T} (he : fl_eqv N f g) (s r : Nat) : ∀ n, n ≤ N → fl_try S f s r n = fl_try S g s r n
  | 0, _ => rfl
  | n + 1, hn => by
    unfold fl_try
    rw [fl_try_eqv he s r n (by omega), fl_first_eqv he (show n < N by omega)]
theorem fl_add_eqv {N : Nat} {f g : fl_T} (he : fl_eqv N f g) (hc : ∀ m, m < N → fl_bc f m ≤ 32) {m : Nat} (hm : m < N) (a b : Nat) : fl_eqv N (fl_add f m a b) (fl_add g m a b) := by
  obtain ⟨h1, -⟩ := he m hm
  unfold fl_add
  rw [← h1]
  split
  · rename_i hlt
    intro k hk
    obtain ⟨h3, h4⟩ := he k hk
    have hck := hc k hk
    refine ⟨?_, fun i hi => ?_⟩
    · show nu (fl_bc f) m _ k = nu (fl_bc g) m _ k
      unfold nu
      split
      · rfl
      · exact h3
    · have hi' : i < nu (fl_bc f) m (fl_bc f m + 1) k := hi
      show nu (fl_bf f) (m * 32 + fl_bc f m) a (k * 32 + i) = nu (fl_bf g) (m * 32 + fl_bc f m) a (k * 32 + i) ∧ nu (fl_bt f) (m * 32 + fl_bc f m) b (k * 32 + i) = nu (fl_bt g) (m * 32 + fl_bc f m) b (k * 32 + i)
      by_cases e : k * 32 + i = m * 32 + fl_bc f m
      · rw [e, nu_eq, nu_eq, nu_eq, nu_eq]; exact ⟨rfl, rfl⟩
      · rw [nu_ne _ _ e, nu_ne _ _ e, nu_ne _ _ e, nu_ne _ _ e]
        refine h4 i ?_
        by_cases ek : k = m
        · subst ek
          rw [nu_eq] at hi'
          omega
        · rw [nu_ne _ _ ek] at hi'
          exact hi'
  · exact he
theorem fl_put_eqv {N : Nat} {S : sh_T} {f g : fl_T} (he : fl_eqv N f g) (hc : ∀ m, m < N → fl_bc f m ≤ 32) (s : Nat) {m : Nat} (hm : m < N) (b : Nat) : fl_eqv N (fl_put S f s m b) (fl_put S g s m b) :=
  fl_add_eqv (f := (nu (fl_bg f) s b, nu (fl_ma f) s m, f.2.2)) (g := (nu (fl_bg g) s b, nu (fl_ma g) s m, g.2.2)) he hc hm b _
theorem fl_pj_eqv {S : sh_T} {j B : Nat} {f g : fl_T} (hS : sh_ok S) (hf : sp_fits S j = true) (hF : fl_sm (sh_mc S) f B) (he : fl_eqv (sh_mc S) f g) : ∀ n, n ≤ sh_so S j → fl_eqv (sh_mc S) (fl_pj S j f n).1 (fl_pj S j g n).1 ∧ (fl_pj S j f n).2 = (fl_pj S j g n).2
  | 0, _ => ⟨he, rfl⟩
  | n + 1, hn => by
    obtain ⟨h1, h2⟩ := fl_pj_eqv hS hf hF he n (by omega)
    obtain ⟨h3, h4, h5⟩ := fl_pj_sm hS hf hF n (by omega)
    have ht := fl_try_eqv (S := S) h1 (sh_sa S (j * 4 + n)) (fl_pj S j f n).2.2 (sh_mc S) (Nat.le_refl _)
    have hso := fl_try_some (S := S) (f := (fl_pj S j f n).1) (s := sh_sa S (j * 4 + n)) (r := (fl_pj S j f n).2.2) (sh_mc S) (sp_fit_has hf (by omega))
    obtain ⟨hb1, hb2⟩ := fl_try_bd (S := S) (s := sh_sa S (j * 4 + n)) h3 h5 (sh_mc S) (Nat.le_refl _)
    obtain ⟨m, hq⟩ := Option.ne_none_iff_exists'.mp hso
    unfold fl_pj fl_stp
    rw [← h2, ← ht, hq]
    exact ⟨fl_put_eqv h1 h3.1 _ (hb2 m hq) _, rfl⟩
theorem fl_place_eqv {S : sh_T} {j B : Nat} {f g : fl_T} (hS : sh_ok S) (hf : sp_fits S j = true) (hF : fl_sm (sh_mc S) f B) (he : fl_eqv (sh_mc S) f g) : fl_eqv (sh_mc S) (fl_place S j f) (fl_place S j g) ∧ fl_end S j f = fl_end S j g := by
  obtain ⟨h1, h2⟩ := fl_pj_eqv hS hf hF he (sh_so S j) (Nat.le_refl _)
  exact ⟨h1, congrArg Prod.fst h2⟩
theorem fl_spans_eqv {N : Nat} {S : sh_T} {m : Nat} {f g : fl_T} (hS : sh_ok S) (hN : N ≤ 6) (hm : m < N) (hF : fl_sm N f 2000) (he : fl_eqv N f g) : ∀ i, fl_eqv N (fl_spans S m f i) (fl_spans S m g i)
  | 0 => he
  | i + 1 => fl_add_eqv (fl_spans_eqv hS hN hm hF he i) (fl_spans_sm hS hN hm hF i).1 hm _ _
theorem fl_clr_eqv {S : sh_T} (hS : sh_ok S) (f g : fl_T) : ∀ n, n ≤ 6 → fl_eqv n (fl_clr S f n) (fl_clr S g n)
  | 0, _ => fun m hm => absurd hm (Nat.not_lt_zero m)
  | n + 1, hn => by
    have h := fl_clr_eqv hS f g n (by omega)
    have hsm := fl_clr_sm (f := f) hS n (by omega)
    unfold fl_clr
    refine fl_spans_eqv hS hn (by omega) ⟨fun m hm => ?_, fun m i hm hi => ?_⟩ (fun k hk => ?_) _
    · show nu (fl_bc (fl_clr S f n)) n 0 m ≤ 32
      unfold nu
      split
      · omega
      · exact hsm.1 m (by omega)
    · have hi' : i < nu (fl_bc (fl_clr S f n)) n 0 m := hi
      by_cases e : m = n
      · subst e
        rw [nu_eq] at hi'
        omega
      · rw [nu_ne _ _ e] at hi'
        exact hsm.2 m i (by omega) hi'
    · by_cases e : k = n
      · subst e
        refine ⟨?_, fun i hi => ?_⟩
        · show nu (fl_bc (fl_clr S f k)) k 0 k = nu (fl_bc (fl_clr S g k)) k 0 k
          rw [nu_eq, nu_eq]
        · have hi' : i < nu (fl_bc (fl_clr S f k)) k 0 k := hi
          rw [nu_eq] at hi'
          omega
      · obtain ⟨h1, h2⟩ := h k (by omega)
        refine ⟨?_, fun i hi => ?_⟩
        · show nu (fl_bc (fl_clr S f n)) n 0 k = nu (fl_bc (fl_clr S g n)) n 0 k
          rw [nu_ne _ _ e, nu_ne _ _ e]
          exact h1
        · have hi' : i < nu (fl_bc (fl_clr S f n)) n 0 k := hi
          rw [nu_ne _ _ e] at hi'
          exact h2 i hi'
theorem fl_clear_eqv {S : sh_T} (hS : sh_ok S) (f g : fl_T) : fl_eqv (sh_mc S) (fl_clear S f) (fl_clear S g) := fl_clr_eqv hS f g _ hS.1
theorem fl_co_eqv {S : sh_T} {h : Nat → Nat} {B : Nat} {f g : fl_T} (hS : sh_ok S) (hF : fl_sm (sh_mc S) f B) (he : fl_eqv (sh_mc S) f g) : ∀ n, (∀ k, k < n → h k < 6 ∧ sp_fits S (h k) = true) → fl_eqv (sh_mc S) (fl_co S h f n).1 (fl_co S h g n).1 ∧ (fl_co S h f n).2 = (fl_co S h g n).2
  | 0, _ => ⟨he, rfl⟩
  | n + 1, hg => by
    obtain ⟨h1, h2⟩ := fl_co_eqv hS hF he n (fun k hk => hg k (by omega))
    have h3 := fl_co_sm (g := h) hS hF n (fun k hk => hg k (by omega))
    obtain ⟨h4, h5⟩ := fl_place_eqv hS (hg n (by omega)).2 h3 h1
    unfold fl_co
    exact ⟨h4, by show _ + _ = _ + _; rw [h2, h5]⟩
/-- a floor on which nothing lies -/
def fl_0 : fl_T := (fun _ => 0, fun _ => 0, fun _ => 0, fun _ => 0, fun _ => 0)
/-- ALONE of a job; the cost of two; the cost of an order of n jobs -/
def sp_al (S : sh_T) (j : Nat) : Nat := fl_al S fl_0 j
def sp_tw (S : sh_T) (i j : Nat) : Nat := fl_tw S fl_0 i j
def sp_co (S : sh_T) (g : Nat → Nat) (n : Nat) : Nat := (fl_co S g (fl_clear S fl_0) n).2
theorem fl_al_eq {S : sh_T} (hS : sh_ok S) (f : fl_T) {j : Nat} (hf : sp_fits S j = true) : fl_al S f j = sp_al S j := by
  unfold sp_al fl_al
  rw [(fl_place_eqv hS hf (fl_clear_sm f hS) (fl_clear_eqv hS f fl_0)).2]
theorem fl_tw_eq {S : sh_T} (hS : sh_ok S) (f : fl_T) {i j : Nat} (hfi : sp_fits S i = true) (hfj : sp_fits S j = true) : fl_tw S f i j = sp_tw S i j := by
  obtain ⟨h1, h2⟩ := fl_place_eqv hS hfi (fl_clear_sm f hS) (fl_clear_eqv hS f fl_0)
  obtain ⟨-, h3⟩ := fl_place_eqv hS hfj (fl_place_sm hS hfi (fl_clear_sm f hS)).1 h1
  unfold sp_tw fl_tw
  rw [h2, h3]
theorem fl_co_eq {S : sh_T} (hS : sh_ok S) (f : fl_T) {g : Nat → Nat} {n : Nat} (hg : ∀ k, k < n → g k < 6 ∧ sp_fits S (g k) = true) : (fl_co S g (fl_clear S f) n).2 = sp_co S g n :=
  (fl_co_eqv hS (fl_clear_sm f hS) (fl_clear_eqv hS f fl_0) n hg).2
