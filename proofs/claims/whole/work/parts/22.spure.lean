/-! more or less room; a weaker end -/
theorem am_post {G : am_G} {y : am_M} {d bc bs : Nat} {Q Q' : am_O → am_H → Prop} {pc : Nat} {L : List (Nat × Value)} {st : List Value} {h : am_H} (hq : ∀ o h, Q o h → Q' o h) (k : am_W G y d bc bs Q pc L st h) : am_W G y d bc bs Q' pc L st h := by
  intro p e R s m args below meth c H locs cells slots ls C hR hh hS hl T hT X
  obtain ⟨t, a, o, Lc, k, n, ao, h', b1, b2, b3, b4, b5, b6, b7, b8, b9, b10, b11⟩ := k p e R s m args below meth c H locs cells slots ls C hR hh hS hl T hT X
  exact ⟨t, a, o, Lc, k, n, ao, h', b1, b2, b3, b4, b5, b6, b7, b8, b9, b10, hq _ _ b11⟩
/-! PURE: steps of jobs; counts on the floor -/
/-- jo: whose a step is. All steps are some job's, in their order -/
def sh_k (S : sh_T) (jo : Nat → Nat) : Prop :=
  (∀ j i, j < sh_jb S → i < sh_so S j → sh_sa S (j * 4 + i) < sh_ss S ∧ jo (sh_sa S (j * 4 + i)) = j) ∧
  (∀ j i k, j < sh_jb S → i < k → k < sh_so S j → sh_sa S (j * 4 + i) < sh_sa S (j * 4 + k)) ∧
  (∀ s, s < sh_ss S → jo s < sh_jb S ∧ ∃ i, i < sh_so S (jo s) ∧ sh_sa S (jo s * 4 + i) = s) ∧
  (∀ j i, j < sh_jb S → i < sh_so S j → sh_sb S (sh_sa S (j * 4 + i)) = if i = 0 then -1 else nI (sh_sa S (j * 4 + (i - 1)))) ∧
  (∀ j, sh_jb S ≤ j → sh_so S j = 0)
theorem sh_k_ne {S : sh_T} {jo : Nat → Nat} (hk : sh_k S jo) {j i k : Nat} (hj : j < sh_jb S) (hi : i < k) (hks : k < sh_so S j) : sh_sa S (j * 4 + k) ≠ sh_sa S (j * 4 + i) := by
  have := hk.2.1 j i k hj hi hks
  omega
theorem sh_k_dj {S : sh_T} {jo : Nat → Nat} (hk : sh_k S jo) {j i j' k : Nat} (hj : j < sh_jb S) (hi : i < sh_so S j) (hj' : j' < sh_jb S) (hks : k < sh_so S j') (hne : j ≠ j') : sh_sa S (j * 4 + i) ≠ sh_sa S (j' * 4 + k) := by
  intro e
  have h1 := (hk.1 j i hj hi).2
  have h2 := (hk.1 j' k hj' hks).2
  rw [e, h2] at h1
  exact hne h1.symm
/-- how many of a job's first n steps lie on a machine -/
def fl_cn (S : sh_T) (j : Nat) (ma : Nat → Nat) (m : Nat) : Nat → Nat
  | 0 => 0
  | n + 1 => fl_cn S j ma m n + if ma (sh_sa S (j * 4 + n)) = m then 1 else 0
theorem fl_cn_le (S : sh_T) (j : Nat) (ma : Nat → Nat) (m : Nat) : ∀ n, fl_cn S j ma m n ≤ n
  | 0 => Nat.le_refl _
  | n + 1 => by
    have := fl_cn_le S j ma m n
    unfold fl_cn
    split <;> omega
theorem fl_cn_eq {S : sh_T} {j : Nat} {ma mb : Nat → Nat} {m : Nat} : ∀ {n}, (∀ i, i < n → ma (sh_sa S (j * 4 + i)) = mb (sh_sa S (j * 4 + i))) → fl_cn S j ma m n = fl_cn S j mb m n
  | 0, _ => rfl
  | n + 1, h => by
    unfold fl_cn
    rw [fl_cn_eq (fun i hi => h i (by omega)), h n (by omega)]
theorem fl_pj_put {S : sh_T} {j n m0 : Nat} {f : fl_T} (hq : (fl_try S (fl_pj S j f n).1 (sh_sa S (j * 4 + n)) (fl_pj S j f n).2.2 (sh_mc S)).2 = some m0) (hb : fl_bc (fl_pj S j f n).1 m0 < 32) :
    (fl_pj S j f (n + 1)).1 = (nu (fl_bg (fl_pj S j f n).1) (sh_sa S (j * 4 + n)) (fl_try S (fl_pj S j f n).1 (sh_sa S (j * 4 + n)) (fl_pj S j f n).2.2 (sh_mc S)).1, nu (fl_ma (fl_pj S j f n).1) (sh_sa S (j * 4 + n)) m0, nu (fl_bc (fl_pj S j f n).1) m0 (fl_bc (fl_pj S j f n).1 m0 + 1),
      nu (fl_bf (fl_pj S j f n).1) (m0 * 32 + fl_bc (fl_pj S j f n).1 m0) (fl_try S (fl_pj S j f n).1 (sh_sa S (j * 4 + n)) (fl_pj S j f n).2.2 (sh_mc S)).1, nu (fl_bt (fl_pj S j f n).1) (m0 * 32 + fl_bc (fl_pj S j f n).1 m0) ((fl_try S (fl_pj S j f n).1 (sh_sa S (j * 4 + n)) (fl_pj S j f n).2.2 (sh_mc S)).1 + sh_sh S (sh_sa S (j * 4 + n)))) := by
  rw [fl_pj]
  unfold fl_stp
  rw [hq]
  show fl_put S _ _ m0 _ = _
  unfold fl_put fl_add
  exact if_pos hb
theorem fl_pj_ct {S : sh_T} {jo : Nat → Nat} {j B : Nat} {f : fl_T} (hS : sh_ok S) (hk : sh_k S jo) (hj : j < sh_jb S) (hf : sp_fits S j = true) (hF : fl_sm (sh_mc S) f B) (hc : ∀ m, m < sh_mc S → fl_bc f m ≤ 28) : ∀ n, n ≤ sh_so S j →
    (∀ m, m < sh_mc S → fl_bc (fl_pj S j f n).1 m = fl_bc f m + fl_cn S j (fl_ma (fl_pj S j f n).1) m n) ∧
    (∀ m i, m < sh_mc S → i < fl_bc f m → fl_bf (fl_pj S j f n).1 (m * 32 + i) = fl_bf f (m * 32 + i) ∧ fl_bt (fl_pj S j f n).1 (m * 32 + i) = fl_bt f (m * 32 + i)) ∧
    (∀ s, (∀ i, i < n → s ≠ sh_sa S (j * 4 + i)) → fl_ma (fl_pj S j f n).1 s = fl_ma f s ∧ fl_bg (fl_pj S j f n).1 s = fl_bg f s) ∧
    (∀ i, i < n → fl_ma (fl_pj S j f n).1 (sh_sa S (j * 4 + i)) < sh_mc S)
  | 0, _ => ⟨fun m _ => rfl, fun m i _ _ => ⟨rfl, rfl⟩, fun s _ => ⟨rfl, rfl⟩, fun i hi => absurd hi (Nat.not_lt_zero i)⟩
  | n + 1, hn => by
    obtain ⟨h1, h2, h3, h4⟩ := fl_pj_ct hS hk hj hf hF hc n (by omega)
    obtain ⟨g1, -, g3⟩ := fl_pj_sm hS hf hF n (by omega)
    obtain ⟨-, hb2⟩ := fl_try_bd (S := S) (s := sh_sa S (j * 4 + n)) g1 g3 (sh_mc S) (Nat.le_refl _)
    have hso := fl_try_some (S := S) (f := (fl_pj S j f n).1) (s := sh_sa S (j * 4 + n)) (r := (fl_pj S j f n).2.2) (sh_mc S) (sp_fit_has hf (by omega))
    obtain ⟨m0, hq⟩ := Option.ne_none_iff_exists'.mp hso
    have hm0 := hb2 m0 hq
    have hso4 := hS.2.2.2.2.2.2.2.2.2.1 j
    have hcn := fl_cn_le S j (fl_ma (fl_pj S j f n).1) m0 n
    have hbc := h1 m0 hm0
    have hcm := hc m0 hm0
    have hdis : ∀ i, i < n → sh_sa S (j * 4 + n) ≠ sh_sa S (j * 4 + i) := fun i hi => sh_k_ne hk hj hi (by omega)
    rw [fl_pj_put hq (by omega)]
    refine ⟨fun m hm => ?_, fun m i hm hi => ?_, fun s hs => ?_, fun i hi => ?_⟩
    · show nu (fl_bc (fl_pj S j f n).1) m0 (fl_bc (fl_pj S j f n).1 m0 + 1) m = _ + (fl_cn S j (nu (fl_ma (fl_pj S j f n).1) (sh_sa S (j * 4 + n)) m0) m n + if nu (fl_ma (fl_pj S j f n).1) (sh_sa S (j * 4 + n)) m0 (sh_sa S (j * 4 + n)) = m then 1 else 0)
      rw [nu_eq, fl_cn_eq (ma := nu (fl_ma (fl_pj S j f n).1) (sh_sa S (j * 4 + n)) m0) (mb := fl_ma (fl_pj S j f n).1) (fun i hi => nu_ne _ _ (Ne.symm (hdis i hi)))]
      by_cases e : m = m0
      · subst e
        rw [nu_eq, if_pos rfl]
        omega
      · rw [nu_ne _ _ e, if_neg (Ne.symm e)]
        have := h1 m hm
        omega
    · have hi28 := hc m hm
      show nu _ _ _ _ = _ ∧ nu _ _ _ _ = _
      have hne : m * 32 + i ≠ m0 * 32 + fl_bc (fl_pj S j f n).1 m0 := by
        by_cases e : m = m0
        · subst e; omega
        · omega
      rw [nu_ne _ _ hne, nu_ne _ _ hne]
      exact h2 m i hm hi
    · have hne : s ≠ sh_sa S (j * 4 + n) := hs n (by omega)
      show nu _ _ _ _ = _ ∧ nu _ _ _ _ = _
      rw [nu_ne _ _ hne, nu_ne _ _ hne]
      exact h3 s (fun i hi => hs i (by omega))
    · show nu _ _ _ _ < _
      rcases Nat.lt_or_ge i n with q | q
      · rw [nu_ne _ _ (Ne.symm (hdis i q))]
        exact h4 i q
      · have e : i = n := by omega
        subst e
        rw [nu_eq]
        exact hm0
theorem fl_li_ct (S : sh_T) (j : Nat) (f : fl_T) : ∀ n, (∀ m, fl_bc (fl_li S j f n) m = fl_bc f m - fl_cn S j (fl_ma f) m n) ∧ fl_bf (fl_li S j f n) = fl_bf f ∧ fl_bt (fl_li S j f n) = fl_bt f
  | 0 => ⟨fun _ => rfl, rfl, rfl⟩
  | n + 1 => by
    obtain ⟨h1, h2, h3⟩ := fl_li_ct S j f n
    unfold fl_li fl_dec
    split
    · rename_i hp
      refine ⟨fun m => ?_, h2, h3⟩
      show nu (fl_bc (fl_li S j f n)) _ _ m = _
      unfold fl_cn
      by_cases e : m = fl_ma f (sh_sa S (j * 4 + n))
      · rw [e, nu_eq, if_pos rfl, h1]
        omega
      · rw [nu_ne _ _ e, if_neg (Ne.symm e), h1]
        rfl
    · rename_i hp
      refine ⟨fun m => ?_, h2, h3⟩
      unfold fl_cn
      by_cases e : m = fl_ma f (sh_sa S (j * 4 + n))
      · have := h1 m
        rw [← e] at hp
        rw [if_pos e.symm]
        omega
      · rw [if_neg (Ne.symm e), h1]
        rfl
/-- placed, then whatever leaves the rows alike, then lifted: the rows are as before -/
theorem fl_back {S : sh_T} {jo : Nat → Nat} {j B : Nat} {f g : fl_T} (hS : sh_ok S) (hk : sh_k S jo) (hj : j < sh_jb S) (hf : sp_fits S j = true) (hF : fl_sm (sh_mc S) f B) (hc : ∀ m, m < sh_mc S → fl_bc f m ≤ 28)
    (he : fl_eqv (sh_mc S) (fl_place S j f) g) (hm : ∀ i, i < sh_so S j → fl_ma g (sh_sa S (j * 4 + i)) = fl_ma (fl_place S j f) (sh_sa S (j * 4 + i))) : fl_eqv (sh_mc S) f (fl_lift S j g) := by
  obtain ⟨h1, h2, -, -⟩ := fl_pj_ct hS hk hj hf hF hc (sh_so S j) (Nat.le_refl _)
  obtain ⟨l1, l2, l3⟩ := fl_li_ct S j g (sh_so S j)
  intro m hm1
  obtain ⟨e1, e2⟩ := he m hm1
  have e3 := h1 m hm1
  have e4 : fl_bc (fl_lift S j g) m = fl_bc g m - fl_cn S j (fl_ma g) m (sh_so S j) := l1 m
  rw [fl_cn_eq (mb := fl_ma (fl_place S j f)) hm] at e4
  have e5 : fl_bc (fl_place S j f) m = fl_bc f m + fl_cn S j (fl_ma (fl_place S j f)) m (sh_so S j) := e3
  refine ⟨by omega, fun i hi => ?_⟩
  have e6 := e2 i (by omega)
  have e7 := h2 m i hm1 hi
  have e8 : fl_bf (fl_lift S j g) = fl_bf g := l2
  have e9 : fl_bt (fl_lift S j g) = fl_bt g := l3
  rw [e8, e9]
  exact ⟨e7.1.symm.trans e6.1, e7.2.symm.trans e6.2⟩
theorem fl_eqv_rfl (N : Nat) (f : fl_T) : fl_eqv N f f := fun _ _ => ⟨rfl, fun _ _ => ⟨rfl, rfl⟩⟩
theorem fl_eqv_tr {N : Nat} {f g h : fl_T} (a : fl_eqv N f g) (b : fl_eqv N g h) : fl_eqv N f h := fun m hm => ⟨(a m hm).1.trans (b m hm).1, fun i hi => by
  have h1 := (a m hm).2 i hi
  have h2 := (b m hm).2 i (by rw [← (a m hm).1]; exact hi)
  exact ⟨h1.1.trans h2.1, h1.2.trans h2.2⟩⟩
theorem fl_eqv_sm {N : Nat} {f g : fl_T} {B : Nat} (a : fl_eqv N f g) (h : fl_sm N f B) : fl_sm N g B := ⟨fun m hm => by rw [← (a m hm).1]; exact h.1 m hm, fun m i hm hi => by
  have h1 := (a m hm).2 i (by rw [(a m hm).1]; exact hi)
  rw [← h1.1, ← h1.2]
  exact h.2 m i hm (by rw [(a m hm).1]; exact hi)⟩
theorem fl_spans_ct (S : sh_T) (m : Nat) (f : fl_T) : ∀ n, (∀ k, fl_bc (fl_spans S m f n) k ≤ fl_bc f k + if k = m then n else 0)
  | 0, k => by show fl_bc f k ≤ _; omega
  | n + 1, k => by
    have h := fl_spans_ct S m f n k
    unfold fl_spans fl_add
    split
    · show nu _ _ _ k ≤ _
      by_cases e : k = m
      · subst e
        rw [nu_eq, if_pos rfl]
        rw [if_pos rfl] at h
        omega
      · rw [nu_ne _ _ e, if_neg e]
        rw [if_neg e] at h
        exact h
    · split at h <;> split <;> omega
theorem fl_clear_ct {S : sh_T} (hS : sh_ok S) (f : fl_T) : ∀ n k, k < n → fl_bc (fl_clr S f n) k ≤ 8
  | 0, k, hk => absurd hk (Nat.not_lt_zero k)
  | n + 1, k, hk => by
    have h := fl_spans_ct S n (fl_zero (fl_clr S f n) n) (sh_sp S n) k
    have h8 := hS.2.2.2.2.1 n
    unfold fl_clr
    by_cases e : k = n
    · subst e
      rw [if_pos rfl] at h
      have : fl_bc (fl_zero (fl_clr S f k) k) k = 0 := nu_eq _ _ _
      omega
    · rw [if_neg e] at h
      have h2 := fl_clear_ct hS f n k (by omega)
      have : fl_bc (fl_zero (fl_clr S f n) n) k = fl_bc (fl_clr S f n) k := nu_ne _ _ e
      omega
theorem fl_co_ct {S : sh_T} {jo : Nat → Nat} {g : Nat → Nat} {f : fl_T} (hS : sh_ok S) (hk : sh_k S jo) : ∀ n, n ≤ 6 → (∀ k, k < n → g k < sh_jb S ∧ sp_fits S (g k) = true) → ∀ m, m < sh_mc S → fl_bc (fl_co S g (fl_clear S f) n).1 m ≤ 8 + 4 * n
  | 0, _, _, m, hm => by
    have := fl_clear_ct hS f (sh_mc S) m hm
    exact this
  | n + 1, hn, hg, m, hm => by
    have h := fl_co_ct (f := f) (g := g) hS hk n (by omega) (fun k hk => hg k (by omega))
    have hsm := fl_co_sm (g := g) hS (fl_clear_sm f hS) n (fun k hk => ⟨by have := (hg k (by omega)).1; have := hS.2.1; omega, (hg k (by omega)).2⟩)
    obtain ⟨g1, g2⟩ := hg n (by omega)
    obtain ⟨h1, -, -, -⟩ := fl_pj_ct hS hk g1 g2 hsm (fun m hm => by have := h m hm; omega) (sh_so S (g n)) (Nat.le_refl _)
    have h2 := h1 m hm
    have h3 := fl_cn_le S (g n) (fl_ma (fl_pj S (g n) (fl_co S g (fl_clear S f) n).1 (sh_so S (g n))).1) m (sh_so S (g n))
    have h4 := hS.2.2.2.2.2.2.2.2.2.1 (g n)
    have h5 := h m hm
    show fl_bc (fl_pj S (g n) (fl_co S g (fl_clear S f) n).1 (sh_so S (g n))).1 m ≤ _
    omega
theorem fl_co_congr {S : sh_T} {g h : Nat → Nat} {f : fl_T} : ∀ {n}, (∀ k, k < n → g k = h k) → fl_co S g f n = fl_co S h f n
  | 0, _ => rfl
  | n + 1, e => by
    unfold fl_co
    rw [fl_co_congr (fun k hk => e k (by omega)), e n (by omega)]
theorem fl_co_bd {S : sh_T} {g : Nat → Nat} {f : fl_T} (hS : sh_ok S) : ∀ n, (∀ k, k < n → g k < 6 ∧ sp_fits S (g k) = true) → (fl_co S g (fl_clear S f) n).2 ≤ (2000 + 800 * n) * 100 * n
  | 0, _ => Nat.le_refl _
  | n + 1, hg => by
    have h := fl_co_bd (f := f) (g := g) hS n (fun k hk => hg k (by omega))
    have hsm := fl_co_sm (g := g) hS (fl_clear_sm f hS) n (fun k hk => hg k (by omega))
    obtain ⟨-, he⟩ := fl_place_sm hS (hg n (by omega)).2 hsm
    have hw := hS.2.2.2.2.2.2.2.2.1 (g n)
    have e1 := Nat.mul_le_mul (n₁ := fl_end S (g n) (fl_co S g (fl_clear S f) n).1 - sh_du S (g n)) (n₂ := 2000 + 800 * (n + 1)) (m₁ := sh_we S (g n)) (m₂ := 100) (by omega) hw
    have e2 : (2000 + 800 * n) * 100 * n ≤ (2000 + 800 * (n + 1)) * 100 * n := Nat.mul_le_mul_right _ (Nat.mul_le_mul_right _ (by omega))
    show (fl_co S g (fl_clear S f) n).2 + _ ≤ _
    rw [Nat.mul_succ]
    omega
theorem sp_co_bd {S : sh_T} {g : Nat → Nat} (hS : sh_ok S) {n : Nat} (hn : n ≤ 6) (hg : ∀ k, k < n → g k < 6 ∧ sp_fits S (g k) = true) : sp_co S g n ≤ 4080000 := by
  have h := fl_co_bd (f := fl_0) (g := g) hS n hg
  have : (2000 + 800 * n) * 100 * n ≤ 6800 * 100 * 6 := Nat.mul_le_mul (Nat.mul_le_mul_right _ (by omega)) hn
  exact Nat.le_trans h this
theorem sp_co_congr {S : sh_T} {g h : Nat → Nat} {n : Nat} (e : ∀ k, k < n → g k = h k) : sp_co S g n = sp_co S h n := by
  unfold sp_co
  rw [fl_co_congr e]
/-! PURE: the search -/
/-- the sum of ALONE of the jobs below n that are not in u -/
def sp_rs (S : sh_T) (u : Nat → Bool) : Nat → Nat
  | 0 => 0
  | n + 1 => sp_rs S u n + if u n then 0 else sp_al S n
def zc_n (u : Nat → Bool) : Nat → Nat
  | 0 => 0
  | n + 1 => zc_n u n + if u n then 1 else 0
theorem zu_eq (u : Nat → Bool) (k : Nat) (v : Bool) : zu u k v k = v := by simp [zu]
theorem zu_ne (u : Nat → Bool) {k j : Nat} (v : Bool) (h : j ≠ k) : zu u k v j = u j := by simp [zu, h]
theorem zu_back (u : Nat → Bool) {k : Nat} (h : u k = false) : zu (zu u k true) k false = u := by
  funext j
  by_cases e : j = k
  · subst e; rw [zu_eq, h]
  · rw [zu_ne _ _ e, zu_ne _ _ e]
theorem sp_rs_same {S : sh_T} {u w : Nat → Bool} : ∀ {n}, (∀ k, k < n → u k = w k) → sp_rs S u n = sp_rs S w n
  | 0, _ => rfl
  | n + 1, h => by
    unfold sp_rs
    rw [sp_rs_same (fun k hk => h k (by omega)), h n (by omega)]
theorem sp_rs_out {S : sh_T} {u : Nat → Bool} {j : Nat} (hj : u j = false) : ∀ {n}, j < n → sp_rs S u n = sp_rs S (zu u j true) n + sp_al S j
  | 0, h => absurd h (Nat.not_lt_zero j)
  | n + 1, h => by
    unfold sp_rs
    rcases Nat.lt_or_ge j n with q | q
    · rw [sp_rs_out hj q, zu_ne _ _ (show n ≠ j by omega)]
      omega
    · have e : j = n := by omega
      subst e
      rw [zu_eq, hj, if_pos rfl, if_neg (by decide), sp_rs_same (w := zu u j true) (fun k hk => (zu_ne _ _ (by omega)).symm)]
      omega
theorem zc_n_same {u w : Nat → Bool} : ∀ {n}, (∀ k, k < n → u k = w k) → zc_n u n = zc_n w n
  | 0, _ => rfl
  | n + 1, h => by
    unfold zc_n
    rw [zc_n_same (fun k hk => h k (by omega)), h n (by omega)]
theorem zc_n_in {u : Nat → Bool} {j : Nat} (hj : u j = false) : ∀ {n}, j < n → zc_n (zu u j true) n = zc_n u n + 1
  | 0, h => absurd h (Nat.not_lt_zero j)
  | n + 1, h => by
    unfold zc_n
    rcases Nat.lt_or_ge j n with q | q
    · rw [zc_n_in hj q, zu_ne _ _ (show n ≠ j by omega)]
      omega
    · have e : j = n := by omega
      subst e
      rw [zu_eq, hj, if_pos rfl, if_neg (by decide), zc_n_same (u := zu u j true) (w := u) (fun k hk => zu_ne _ _ (by omega))]
theorem zc_n_le (u : Nat → Bool) : ∀ n, zc_n u n ≤ n
  | 0 => Nat.le_refl _
  | n + 1 => by
    have := zc_n_le u n
    unfold zc_n
    split <;> omega
theorem zc_n_all {u : Nat → Bool} : ∀ {n}, zc_n u n = n → ∀ k, k < n → u k = true
  | 0, _, k, h => absurd h (Nat.not_lt_zero k)
  | n + 1, e, k, h => by
    have h1 := zc_n_le u n
    unfold zc_n at e
    split at e
    · rename_i hu
      rcases Nat.lt_or_ge k n with q | q
      · exact zc_n_all (by omega) k q
      · have : k = n := by omega
        subst this
        exact hu
    · omega
theorem sp_rs_0 {S : sh_T} {u : Nat → Bool} : ∀ {n}, (∀ k, k < n → u k = true) → sp_rs S u n = 0
  | 0, _ => rfl
  | n + 1, h => by
    unfold sp_rs
    rw [sp_rs_0 (fun k hk => h k (by omega)), h n (by omega)]
    rfl
theorem sp_rs_bd {S : sh_T} {u : Nat → Bool} (hS : sh_ok S) : ∀ n, (∀ j, j < n → sp_fits S j = true) → sp_rs S u n ≤ 280000 * n
  | 0, _ => Nat.le_refl _
  | n + 1, h => by
    have h1 := sp_rs_bd (u := u) hS n (fun j hj => h j (by omega))
    have h2 : sp_al S n ≤ 280000 := fl_al_bd hS fl_0 (h n (by omega))
    unfold sp_rs
    split <;> omega
/-- behind a node: p is the place, j its job -/
def se_fo (S : sh_T) (f : se_T → Bool × se_T) (p : Nat) (R : se_T) : Bool × se_T :=
  if se_co R ≤ sp_co S (se_be R) (p + 1) + sp_rs S (zu (se_ib R) (se_be R p) true) (sh_jb S) then (true, R)
  else if sh_jb S ≤ p + 1 then (true, (sp_co S (se_be R) (p + 1), se_li R, se_bo R, se_no R, se_al R, se_be R, se_ib R, va_cpy (se_be R) (se_bs R) 0 0 6))
  else ((f (se_co R, se_li R, se_bo R, se_no R, se_al R, se_be R, zu (se_ib R) (se_be R p) true, se_bs R)).1,
    let Q := (f (se_co R, se_li R, se_bo R, se_no R, se_al R, se_be R, zu (se_ib R) (se_be R p) true, se_bs R)).2
    (se_co Q, se_li Q, se_bo Q, se_no Q, se_al Q, se_be Q, zu (se_ib Q) (se_be R p) false, se_bs Q))
/-- a node is made -/
abbrev se_nd (R : se_T) (p j : Nat) : se_T := (se_co R, se_li R, se_bo R, se_no R + 1, se_al R, nu (se_be R) p j, se_ib R, se_bs R)
/-- all jobs at a place, from j on, k of them -/
def se_lp (S : sh_T) (f : se_T → Bool × se_T) (p : Nat) : Nat → Nat → se_T → Bool × se_T
  | 0, _, R => (true, R)
  | k + 1, j, R => if se_ib R j then se_lp S f p k (j + 1) R else if se_li R ≤ se_no R then (false, R)
    else if (se_fo S f p (se_nd R p j)).1 then se_lp S f p k (j + 1) (se_fo S f p (se_nd R p j)).2 else (false, (se_fo S f p (se_nd R p j)).2)
def se_go (S : sh_T) : Nat → Nat → se_T → Bool × se_T
  | 0, _, R => (true, R)
  | r + 1, p, R => se_lp S (se_go S r (p + 1)) p (sh_jb S) 0 R
/-- what holds all along -/
def se_ok (S : sh_T) (R : se_T) : Prop := (∀ j, j < sh_jb S → se_al R j = sp_al S j) ∧ se_no R ≤ se_li R ∧ se_li R ≤ 2000 ∧ se_co R ≤ 4080000 ∧ (∀ i, se_be R i < 6) ∧ (∀ i, se_bs R i < 6)
/-- what a part of the search leaves as it is -/
def se_sm (p : Nat) (R Q : se_T) : Prop := se_li Q = se_li R ∧ se_bo Q = se_bo R ∧ se_al Q = se_al R ∧ se_ib Q = se_ib R ∧ ∀ k, k < p → se_be Q k = se_be R k
theorem se_sm_tr {p : Nat} {A B C : se_T} (a : se_sm p A B) (b : se_sm p B C) : se_sm p A C := ⟨b.1.trans a.1, b.2.1.trans a.2.1, b.2.2.1.trans a.2.2.1, b.2.2.2.1.trans a.2.2.2.1, fun k hk => (b.2.2.2.2 k hk).trans (a.2.2.2.2 k hk)⟩
/-- the place's prefix: jobs that are begun, and no others are -/
def se_px (S : sh_T) (R : se_T) (p : Nat) : Prop := (∀ k, k < p → se_be R k < sh_jb S ∧ se_ib R (se_be R k) = true) ∧ zc_n (se_ib R) (sh_jb S) = p ∧ (∀ j, j < sh_jb S → se_ib R j = true → ∃ k, k < p ∧ se_be R k = j)
theorem se_px_sm {S : sh_T} {R Q : se_T} {p : Nat} (h : se_px S R p) (e : se_sm p R Q) : se_px S Q p := by
  obtain ⟨-, -, -, e4, e5⟩ := e
  refine ⟨fun k hk => ?_, by rw [e4]; exact h.2.1, fun j hj hb => ?_⟩
  · rw [e5 k hk, e4]; exact h.1 k hk
  · rw [e4] at hb
    obtain ⟨k, h1, h2⟩ := h.2.2 j hj hb
    exact ⟨k, h1, by rw [e5 k h1]; exact h2⟩
theorem se_px_up {S : sh_T} {R : se_T} {p j : Nat} (h : se_px S R p) (hj : j < sh_jb S) (hb : se_ib R j = false) : se_px S (se_co (se_nd R p j), se_li (se_nd R p j), se_bo (se_nd R p j), se_no (se_nd R p j), se_al (se_nd R p j), se_be (se_nd R p j), zu (se_ib (se_nd R p j)) (se_be (se_nd R p j) p) true, se_bs (se_nd R p j)) (p + 1) := by
  have e0 : se_be (se_nd R p j) p = j := nu_eq _ _ _
  rw [e0]
  refine ⟨fun k hk => ?_, ?_, fun i hi hu => ?_⟩
  · show nu (se_be R) p j k < _ ∧ zu (se_ib R) j true (nu (se_be R) p j k) = true
    by_cases e : k = p
    · subst e; rw [nu_eq, zu_eq]; exact ⟨hj, rfl⟩
    · rw [nu_ne _ _ e]
      obtain ⟨h1, h2⟩ := h.1 k (by omega)
      refine ⟨h1, ?_⟩
      rw [zu_ne _ _ (fun e => by rw [e, hb] at h2; cases h2)]
      exact h2
  · show zc_n (zu (se_ib R) j true) _ = _
    rw [zc_n_in hb hj, h.2.1]
  · by_cases e : i = j
    · exact ⟨p, by omega, by rw [e]; exact e0⟩
    · have hu' : zu (se_ib R) j true i = true := hu
      rw [zu_ne _ _ e] at hu'
      obtain ⟨k, h1, h2⟩ := h.2.2 i hi hu'
      exact ⟨k, by omega, by show nu (se_be R) p j k = i; rw [nu_ne _ _ (by omega)]; exact h2⟩
theorem va_cpy_bd {f g : Nat → Nat} (hf : ∀ i, f i < 6) (hg : ∀ i, g i < 6) (i : Nat) : va_cpy f g 0 0 6 i < 6 := by
  unfold va_cpy
  split
  · exact hf _
  · exact hg _
theorem se_fo_ok {S : sh_T} {f : se_T → Bool × se_T} {p : Nat} {R : se_T} (hS : sh_ok S) (hall : ∀ j, j < sh_jb S → sp_fits S j = true) (hp : ∀ k, k < p + 1 → se_be R k < sh_jb S) (hpb : p + 1 ≤ sh_jb S) (hR : se_ok S R) (hib : se_ib R (se_be R p) = false)
    (hf : p + 1 < sh_jb S → ∀ Q, se_ok S Q → se_be Q = se_be R → se_ib Q = zu (se_ib R) (se_be R p) true → se_ok S (f Q).2 ∧ se_sm (p + 1) Q (f Q).2) : se_ok S (se_fo S f p R).2 ∧ se_sm (p + 1) R (se_fo S f p R).2 := by
  obtain ⟨r1, r2, r3, r4, r5, r6⟩ := id hR
  unfold se_fo
  split
  · exact ⟨hR, rfl, rfl, rfl, rfl, fun k _ => rfl⟩
  · split
    · refine ⟨⟨r1, r2, r3, ?_, r5, va_cpy_bd r5 r6⟩, rfl, rfl, rfl, rfl, fun k _ => rfl⟩
      exact sp_co_bd hS (by have := hS.2.1; omega) (fun k hk => ⟨r5 k, hall _ (hp k hk)⟩)
    · obtain ⟨⟨q1, q2, q3, q4, q5, q6⟩, t1, t2, t3, t4, t5⟩ := hf (by omega) (se_co R, se_li R, se_bo R, se_no R, se_al R, se_be R, zu (se_ib R) (se_be R p) true, se_bs R) ⟨r1, r2, r3, r4, r5, r6⟩ rfl rfl
      refine ⟨⟨q1, q2, q3, q4, q5, q6⟩, t1, t2, t3, ?_, t5⟩
      show zu (se_ib (f _).2) (se_be R p) false = _
      rw [t4]
      exact zu_back _ hib
theorem se_lp_ok {S : sh_T} {f : se_T → Bool × se_T} {p : Nat} (hS : sh_ok S) (hall : ∀ j, j < sh_jb S → sp_fits S j = true) (hpb : p + 1 ≤ sh_jb S)
    (hf : p + 1 < sh_jb S → ∀ Q, se_ok S Q → se_px S Q (p + 1) → se_ok S (f Q).2 ∧ se_sm (p + 1) Q (f Q).2) : ∀ k j R, j + k ≤ sh_jb S → se_ok S R → se_px S R p → se_ok S (se_lp S f p k j R).2 ∧ se_sm p R (se_lp S f p k j R).2
  | 0, j, R, _, hR, _ => ⟨hR, rfl, rfl, rfl, rfl, fun k _ => rfl⟩
  | k + 1, j, R, hj, hR, hx => by
    unfold se_lp
    split
    · exact se_lp_ok hS hall hpb hf k (j + 1) R (by omega) hR hx
    · rename_i hb
      rw [Bool.not_eq_true] at hb
      split
      · exact ⟨hR, rfl, rfl, rfl, rfl, fun k _ => rfl⟩
      · rename_i hl
        obtain ⟨r1, r2, r3, r4, r5, r6⟩ := id hR
        have hs2 := hS.2.1
        have hR1 : se_ok S (se_nd R p j) := ⟨r1, by show se_no R + 1 ≤ se_li R; omega, r3, r4, fun i => by show nu _ _ _ i < 6; unfold nu; split; omega; exact r5 i, r6⟩
        have e0 : se_be (se_nd R p j) p = j := nu_eq _ _ _
        have hfo := se_fo_ok (f := f) (p := p) (R := se_nd R p j) hS hall (fun i hi => by
            show nu (se_be R) p j i < _
            by_cases e : i = p
            · subst e; rw [nu_eq]; omega
            · rw [nu_ne _ _ e]; exact (hx.1 i (by omega)).1) hpb hR1 (by rw [e0]; exact hb) (fun hlt Q hQ h1 h2 => hf hlt Q hQ (by
            have hu := se_px_up hx (show j < sh_jb S by omega) hb
            obtain ⟨u1, u2, u3⟩ := hu
            refine ⟨fun i hi => ?_, ?_, fun i hi hv => ?_⟩
            · rw [h1, h2]; exact u1 i hi
            · rw [h2]; exact u2
            · rw [h2] at hv; rw [h1]; exact u3 i hi hv))
        obtain ⟨g1, g2⟩ := hfo
        have hsm : se_sm p R (se_fo S f p (se_nd R p j)).2 := by
          obtain ⟨a1, a2, a3, a4, a5⟩ := g2
          exact ⟨a1, a2, a3, a4, fun i hi => (a5 i (by omega)).trans (nu_ne _ _ (by omega))⟩
        split
        · obtain ⟨w1, w2⟩ := se_lp_ok hS hall hpb hf k (j + 1) (se_fo S f p (se_nd R p j)).2 (by omega) g1 (se_px_sm hx hsm)
          exact ⟨w1, se_sm_tr hsm w2⟩
        · exact ⟨g1, hsm⟩
theorem se_go_ok {S : sh_T} (hS : sh_ok S) (hall : ∀ j, j < sh_jb S → sp_fits S j = true) : ∀ r p R, p + r = sh_jb S → se_ok S R → se_px S R p → se_ok S (se_go S r p R).2 ∧ se_sm p R (se_go S r p R).2
  | 0, p, R, _, hR, _ => ⟨hR, rfl, rfl, rfl, rfl, fun k _ => rfl⟩
  | r + 1, p, R, hr, hR, hx => se_lp_ok hS hall (by omega) (fun _ Q hQ hx' => se_go_ok hS hall r (p + 1) Q (by omega) hQ hx') (sh_jb S) 0 R (by omega) hR hx
