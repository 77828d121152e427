/-! PURE: what holds between the object and the model after every call -/
/-- what a plan that is not stale knows -/
def iv_f (S : sh_T) (P : pl_T) : Prop := im_I S P ∧ pl_ss P = sh_ss S ∧ sp_all S (sh_jb S) = true ∧ pl_co P = sp_co S (pl_ja P) (sh_jb S) ∧ pl_bo P = se_sum S (sh_jb S) ∧ ∀ s, s < sh_ss S → pl_ma P s < sh_mc S
/-- the object's own -/
def iv_X (t : Bool) (S : sh_T) (R : se_T) (P : pl_T) (jo : Nat → Nat) : Prop := sh_ok S ∧ sh_k S jo ∧ sh_su S ∧ se_r R ∧ pl_ok P ∧ pl_no P < 2 ^ 31 ∧ pl_mv P < 2 ^ 31 ∧ (0 < pl_jb P → t = false → iv_f S P)
/-- the model beside it -/
def iv_M (x : Int64) (t : Bool) (P : pl_T) (M : mo_T) : Prop := mo_xx M = x ∧ mo_pd M = decide (0 < pl_jb P) ∧ (0 < pl_jb P → mo_fr M = !t) ∧ mo_pj M = pl_jb P ∧ mo_co M = pl_co P ∧ mo_bo M = pl_bo P ∧ mo_no M = pl_no P ∧ mo_ch M = pl_mv P ∧ (∀ k, k < pl_jb P → mo_pn M k = pl_ja P k) ∧ mo_ph M = pq (pl_ss P) (pl_bg P) ∧ mo_pm M = pq (pl_ss P) (pl_ma P)
theorem nu_bd {g : Nat → Nat} {k v B : Nat} (h : ∀ i, g i ≤ B) (hv : v ≤ B) : ∀ i, nu g k v i ≤ B := by
  intro i
  unfold nu
  split
  · exact hv
  · exact h i
theorem nu_bl {g : Nat → Nat} {k v B : Nat} (h : ∀ i, g i < B) (hv : v < B) : ∀ i, nu g k v i < B := by
  intro i
  unfold nu
  split
  · exact hv
  · exact h i
theorem iv_stale {t : Bool} {S S' : sh_T} {R : se_T} {P : pl_T} {jo jo' : Nat → Nat} (h : iv_X t S R P jo) (h1 : sh_ok S') (h2 : sh_k S' jo') (h3 : sh_su S') : iv_X true S' R P jo' := ⟨h1, h2, h3, h.2.2.2.1, h.2.2.2.2.1, h.2.2.2.2.2.1, h.2.2.2.2.2.2.1, fun _ e => by cases e⟩
theorem iv_machine {t : Bool} {S : sh_T} {R : se_T} {P : pl_T} {jo : Nat → Nat} {k : Int32} {n : Nat} (h : iv_X t S R P jo) (hc : cd_machine S k = 0) (hn : n ≤ 3) : iv_X true (sh_mc S + 1, nu (sh_kd S) (sh_mc S) n, S.2.2) R P jo := by
  obtain ⟨⟨s1, s2, s3, s4, s5, s6, s7, s8, s9, s10, s11, s12, s13, s14⟩, hk, hu, -⟩ := id h
  refine iv_stale h ⟨?_, s2, s3, nu_bl s4 (by omega), s5, s6, s7, s8, s9, s10, s11, s12, s13, s14⟩ hk hu
  show sh_mc S + 1 ≤ 6
  unfold cd_machine at hc
  split at hc
  · split at hc
    · cases hc
    · omega
  · cases hc
theorem iv_out {t : Bool} {S : sh_T} {R : se_T} {P : pl_T} {jo : Nat → Nat} {m u w : Int32} {i a b : Nat} (h : iv_X t S R P jo) (hc : cd_out S m u w = 0) (hm : m = nI i) (hi : i < sh_mc S) (ha : a ≤ 1000) (hb : b ≤ 2000) : iv_X true (sh_mc S, sh_kd S, nu (sh_sp S) i (sh_sp S i + 1), nu (sh_sf S) (i * 8 + sh_sp S i) a, nu (sh_st S) (i * 8 + sh_sp S i) b, S.2.2.2.2.2) R P jo := by
  obtain ⟨⟨s1, s2, s3, s4, s5, s6, s7, s8, s9, s10, s11, s12, s13, s14⟩, hk, hu, -⟩ := id h
  refine iv_stale h ⟨s1, s2, s3, s4, nu_bd s5 ?_, nu_bd s6 ha, nu_bd s7 hb, s8, s9, s10, s11, s12, s13, s14⟩ hk hu
  subst hm
  have ek : (nI i).toNatClampNeg = i := nI_clamp (by omega)
  unfold cd_out at hc
  rw [ek] at hc
  split at hc
  · split at hc
    · split at hc
      · cases hc
      · omega
    · cases hc
  · cases hc
theorem iv_job {t : Bool} {S : sh_T} {R : se_T} {P : pl_T} {jo : Nat → Nat} {u w : Int32} {a b : Nat} (h : iv_X t S R P jo) (hc : cd_job S u w = 0) (ha : a ≤ 10000) (hb : b ≤ 100) : iv_X true (sh_mc S, sh_kd S, sh_sp S, sh_sf S, sh_st S, sh_jb S + 1, nu (sh_du S) (sh_jb S) a, nu (sh_we S) (sh_jb S) b, S.2.2.2.2.2.2.2.2) R P jo := by
  obtain ⟨⟨s1, s2, s3, s4, s5, s6, s7, s8, s9, s10, s11, s12, s13, s14⟩, hk, hu, -⟩ := id h
  refine iv_stale h ⟨s1, ?_, s3, s4, s5, s6, s7, nu_bd s8 ha, nu_bd s9 hb, s10, s11, s12, s13, s14⟩ ?_ hu
  · show sh_jb S + 1 ≤ 6
    unfold cd_job at hc
    split at hc
    · split at hc
      · cases hc
      · omega
    · cases hc
  · obtain ⟨k1, k2, k3, k4, k5⟩ := hk
    have h0 := k5 (sh_jb S) (Nat.le_refl _)
    have hlt : ∀ j i, j < sh_jb S + 1 → i < sh_so S j → j < sh_jb S := fun j i hj hi => by
      rcases Nat.lt_or_ge j (sh_jb S) with q | q
      · exact q
      · have e : j = sh_jb S := by omega
        rw [e, h0] at hi
        omega
    refine ⟨fun j i hj hi => k1 j i (hlt j i hj hi) hi, fun j i k hj hi hkk => k2 j i k (hlt j k hj hkk) hi hkk, fun s hs => ?_, fun j i hj hi => k4 j i (hlt j i hj hi) hi, fun j hj => k5 j (Nat.le_of_succ_le hj)⟩
    exact ⟨Nat.lt_succ_of_lt (k3 s hs).1, (k3 s hs).2⟩
theorem iv_due {t : Bool} {S : sh_T} {R : se_T} {P : pl_T} {jo : Nat → Nat} {i a : Nat} (h : iv_X t S R P jo) (ha : a ≤ 10000) : iv_X true (sh_mc S, sh_kd S, sh_sp S, sh_sf S, sh_st S, sh_jb S, nu (sh_du S) i a, S.2.2.2.2.2.2.2) R P jo := by
  obtain ⟨⟨s1, s2, s3, s4, s5, s6, s7, s8, s9, s10, s11, s12, s13, s14⟩, hk, hu, -⟩ := id h
  exact iv_stale h ⟨s1, s2, s3, s4, s5, s6, s7, nu_bd s8 ha, s9, s10, s11, s12, s13, s14⟩ hk hu
theorem iv_step {t : Bool} {S : sh_T} {R : se_T} {P : pl_T} {jo : Nat → Nat} {j k h w : Int32} {i a b c : Nat} (hI : iv_X t S R P jo) (hc : cd_step S j k h w = 0) (hj : j = nI i) (hi : i < sh_jb S) (ha : a ≤ 3) (hb : b ≤ 100) (hcc : c ≤ 100) : iv_X true (sp_addStep S i a b c) R P (nu jo (sh_ss S) i) := by
  obtain ⟨hS, hk, hu, -⟩ := id hI
  obtain ⟨s1, s2, s3, s4, s5, s6, s7, s8, s9, s10, s11, s12, s13, s14⟩ := id hS
  have hso : sh_so S i < 4 := by
    subst hj
    have ek : (nI i).toNatClampNeg = i := nI_clamp (by omega)
    unfold cd_step at hc
    rw [ek] at hc
    split at hc
    · split at hc
      · split at hc
        · cases hc
        · omega
      · cases hc
    · cases hc
  have hss := sh_su_lt hS hu (show i < 6 by omega) hso
  refine iv_stale hI ⟨s1, s2, ?_, s4, s5, s6, s7, s8, s9, nu_bd s10 (by omega), nu_bl s11 hss, nu_bl s12 (by omega), nu_bd s13 hb, nu_bd s14 hcc⟩ ?_ ?_
  · show sh_ss S + 1 ≤ 24
    omega
  · obtain ⟨k1, k2, k3, k4, k5⟩ := hk
    -- places of other steps
    have hso' : ∀ j', nu (sh_so S) i (sh_so S i + 1) j' = if j' = i then sh_so S i + 1 else sh_so S j' := fun j' => by
      by_cases e : j' = i
      · subst e; rw [nu_eq, if_pos rfl]
      · rw [nu_ne _ _ e, if_neg e]
    have hold : ∀ j' i', j' < sh_jb S → i' < sh_so S j' → nu (sh_sa S) (i * 4 + sh_so S i) (sh_ss S) (j' * 4 + i') = sh_sa S (j' * 4 + i') := fun j' i' h1 h2 => by
      refine nu_ne _ _ ?_
      have h3 := s10 j'
      by_cases e : j' = i
      · subst e; omega
      · omega
    have hnew : nu (sh_sa S) (i * 4 + sh_so S i) (sh_ss S) (i * 4 + sh_so S i) = sh_ss S := nu_eq _ _ _
    have hcase : ∀ j' i', i' < nu (sh_so S) i (sh_so S i + 1) j' → i' < sh_so S j' ∨ (j' = i ∧ i' = sh_so S i) := fun j' i' h1 => by
      rw [hso'] at h1
      split at h1
      · rename_i e
        subst e
        omega
      · exact Or.inl h1
    refine ⟨fun j' i' h1 h2 => ?_, fun j' i' k' h1 h2 h3 => ?_, fun s hs => ?_, fun j' i' h1 h2 => ?_, fun j' h1 => ?_⟩
    · show nu (sh_sa S) (i * 4 + sh_so S i) (sh_ss S) (j' * 4 + i') < sh_ss S + 1 ∧ nu jo (sh_ss S) i (nu (sh_sa S) (i * 4 + sh_so S i) (sh_ss S) (j' * 4 + i')) = j'
      rcases hcase j' i' h2 with q | ⟨rfl, rfl⟩
      · obtain ⟨g1, g2⟩ := k1 j' i' h1 q
        rw [hold j' i' h1 q, nu_ne _ _ (by omega)]
        exact ⟨by omega, g2⟩
      · rw [hnew, nu_eq]
        exact ⟨by omega, rfl⟩
    · show nu (sh_sa S) (i * 4 + sh_so S i) (sh_ss S) (j' * 4 + i') < nu (sh_sa S) (i * 4 + sh_so S i) (sh_ss S) (j' * 4 + k')
      rcases hcase j' k' h3 with q | ⟨rfl, rfl⟩
      · rw [hold j' i' h1 (by omega), hold j' k' h1 q]
        exact k2 j' i' k' h1 h2 q
      · rw [hnew, hold j' i' h1 h2]
        exact (k1 j' i' h1 h2).1
    · have hs' : s < sh_ss S + 1 := hs
      show nu jo (sh_ss S) i s < sh_jb S ∧ ∃ i', i' < nu (sh_so S) i (sh_so S i + 1) (nu jo (sh_ss S) i s) ∧ nu (sh_sa S) (i * 4 + sh_so S i) (sh_ss S) (nu jo (sh_ss S) i s * 4 + i') = s
      by_cases e : s = sh_ss S
      · subst e
        rw [nu_eq]
        exact ⟨hi, sh_so S i, by rw [nu_eq]; omega, hnew⟩
      · rw [nu_ne _ _ e]
        obtain ⟨g1, i', g2, g3⟩ := k3 s (by omega)
        refine ⟨g1, i', ?_, by rw [hold _ _ g1 g2]; exact g3⟩
        rw [hso']
        split
        · rename_i e2; rw [e2] at g2; omega
        · exact g2
    · show upd (sh_sb S) (sh_ss S) (sp_last S i) (nu (sh_sa S) (i * 4 + sh_so S i) (sh_ss S) (j' * 4 + i')) = if i' = 0 then -1 else nI (nu (sh_sa S) (i * 4 + sh_so S i) (sh_ss S) (j' * 4 + (i' - 1)))
      rcases hcase j' i' h2 with q | ⟨rfl, rfl⟩
      · have g1 := (k1 j' i' h1 q).1
        rw [hold j' i' h1 q, up_ne _ _ (by omega), k4 j' i' h1 q]
        split
        · rfl
        · rw [hold j' (i' - 1) h1 (by omega)]
      · rw [hnew, up_eq]
        unfold sp_last
        split
        · rfl
        · rw [hold j' (sh_so S j' - 1) h1 (by omega), show j' * 4 + sh_so S j' - 1 = j' * 4 + (sh_so S j' - 1) by omega]
    · show nu (sh_so S) i (sh_so S i + 1) j' = 0
      have h1' : sh_jb S ≤ j' := h1
      rw [nu_ne _ _ (by omega)]
      exact k5 j' h1'
  · show sh_ss S + 1 = nu (sh_so S) i (sh_so S i + 1) 0 + nu (sh_so S) i (sh_so S i + 1) 1 + nu (sh_so S) i (sh_so S i + 1) 2 + nu (sh_so S) i (sh_so S i + 1) 3 + nu (sh_so S) i (sh_so S i + 1) 4 + nu (sh_so S) i (sh_so S i + 1) 5
    have hu' : sh_ss S = sh_so S 0 + sh_so S 1 + sh_so S 2 + sh_so S 3 + sh_so S 4 + sh_so S 5 := hu
    have hi6 : i = 0 ∨ i = 1 ∨ i = 2 ∨ i = 3 ∨ i = 4 ∨ i = 5 := by omega
    rcases hi6 with rfl | rfl | rfl | rfl | rfl | rfl <;> (unfold nu; simp; omega)
theorem tk_m_le (P : pl_T) (f : fl_T) : ∀ n, tk_m P f n ≤ n
  | 0 => Nat.le_refl _
  | n + 1 => by
    have := tk_m_le P f n
    unfold tk_m
    split <;> omega
theorem tk_u_bd {f g : Nat → Nat} {n B : Nat} (hf : ∀ s, s < n → f s ≤ B) (hg : ∀ s, g s ≤ B) (s : Nat) : tk_u f g n s ≤ B := by
  rcases Nat.lt_or_ge s n with q | q
  · rw [tk_u_lt q]; exact hf s q
  · rw [tk_u_ge q]; exact hg s
theorem fl_C_bd {S : sh_T} {jo g : Nat → Nat} (hS : sh_ok S) (hk : sh_k S jo) (hall : ∀ j, j < sh_jb S → sp_fits S j = true) (h : se_pm S g) {s : Nat} (hs : s < sh_ss S) : fl_bg (fl_C S g) s ≤ 7000 ∧ fl_ma (fl_C S g) s < sh_mc S := by
  have h4 := (fl_co_I hS hk (sh_jb S) (Nat.le_refl _) (fun k hk2 => ⟨h.1 k hk2, hall _ (h.1 k hk2)⟩) h.2.2).2.2.2 s hs ((bd_C_iff S g s (sh_jb S)).mpr (se_pm_in hk h hs))
  have s2 := hS.2.1
  unfold fl_C
  omega
/-- a plan just made of an order -/
theorem iv_take {S : sh_T} {R : se_T} {P : pl_T} {jo g : Nat → Nat} {co bo no mv : Nat} (hS : sh_ok S) (hk : sh_k S jo) (hu : sh_su S) (hR : se_r R) (hP : pl_ok P) (hal : sp_all S (sh_jb S) = true) (hg : se_pm S g) (hg6 : ∀ i, g i < 6) (hco : co = sp_co S g (sh_jb S)) (hbo : bo = se_sum S (sh_jb S)) (hno : no < 2 ^ 31) (hmv : mv ≤ 24) :
    iv_X false S R (sh_jb S, sh_ss S, co, bo, no, mv, va_cpy g (pl_ja P) 0 0 6, tk_u (fl_bg (fl_C S g)) (pl_bg P) (sh_ss S), tk_u (fl_ma (fl_C S g)) (pl_ma P) (sh_ss S)) jo := by
  have hall := sp_all_at hal
  obtain ⟨p1, p2, p3, p4, p5, p6⟩ := id hP
  have s1 := hS.1
  have s2 := hS.2.1
  have s3 := hS.2.2.1
  have hcb : co ≤ 4080000 := by rw [hco]; exact sp_co_bd hS s2 (fun k hk2 => ⟨hg6 k, hall _ (hg.1 k hk2)⟩)
  have hok : pl_ok (sh_jb S, sh_ss S, co, bo, no, mv, va_cpy g (pl_ja P) 0 0 6, tk_u (fl_bg (fl_C S g)) (pl_bg P) (sh_ss S), tk_u (fl_ma (fl_C S g)) (pl_ma P) (sh_ss S)) :=
    ⟨s2, s3, hcb, va_cpy_bd hg6 p4, fun s => tk_u_bd (fun s hs => (fl_C_bd hS hk hall hg hs).1) p5 s, fun s => by
      have := tk_u_bd (f := fl_ma (fl_C S g)) (g := pl_ma P) (n := sh_ss S) (B := 5) (fun s hs => by have := (fl_C_bd hS hk hall hg hs).2; omega) (fun s => by have := p6 s; omega) s
      show tk_u _ _ _ s < 6
      omega⟩
  refine ⟨hS, hk, hu, hR, hok, hno, Nat.lt_of_le_of_lt hmv (by omega), fun _ _ => ⟨⟨hok, se_pm_cpy hS hg, rfl⟩, rfl, hal, ?_, hbo, fun s hs => ?_⟩⟩
  · show co = sp_co S (va_cpy g (pl_ja P) 0 0 6) (sh_jb S)
    rw [hco]
    exact sp_co_congr (fun k hk2 => (va_cpy_lt (by omega)).symm)
  · show tk_u _ _ _ s < _
    rw [tk_u_lt hs]
    exact (fl_C_bd hS hk hall hg hs).2
theorem im_it_sm {S : sh_T} {q : Int64 × pl_T × Nat} : ∀ n, pl_ss (im_it S q n).2.1 = pl_ss q.2.1 ∧ pl_bg (im_it S q n).2.1 = pl_bg q.2.1 ∧ pl_ma (im_it S q n).2.1 = pl_ma q.2.1 ∧ pl_bo (im_it S q n).2.1 = pl_bo q.2.1 ∧ pl_no (im_it S q n).2.1 = pl_no q.2.1
  | 0 => ⟨rfl, rfl, rfl, rfl, rfl⟩
  | n + 1 => by
    have ih := im_it_sm (S := S) (q := q) n
    have h : ∀ a b, pl_ss (pl_ch S (im_it S q n).2.1 a b).2 = pl_ss (im_it S q n).2.1 ∧ pl_bg (pl_ch S (im_it S q n).2.1 a b).2 = pl_bg (im_it S q n).2.1 ∧ pl_ma (pl_ch S (im_it S q n).2.1 a b).2 = pl_ma (im_it S q n).2.1 ∧ pl_bo (pl_ch S (im_it S q n).2.1 a b).2 = pl_bo (im_it S q n).2.1 ∧ pl_no (pl_ch S (im_it S q n).2.1 a b).2 = pl_no (im_it S q n).2.1 := fun a b => by
      unfold pl_ch
      split <;> exact ⟨rfl, rfl, rfl, rfl, rfl⟩
    obtain ⟨h1, h2, h3, h4, h5⟩ := h (im_a (im_x (im_it S q n).1) (pl_jb (im_it S q n).2.1)) (im_a (im_x (im_x (im_it S q n).1)) (pl_jb (im_it S q n).2.1))
    obtain ⟨g1, g2, g3, g4, g5⟩ := ih
    exact ⟨h1.trans g1, h2.trans g2, h3.trans g3, h4.trans g4, h5.trans g5⟩
theorem tk_m_P {P P' : pl_T} {f : fl_T} (h1 : pl_ss P' = pl_ss P) (h2 : pl_bg P' = pl_bg P) (h3 : pl_ma P' = pl_ma P) : ∀ n, tk_m P' f n = tk_m P f n
  | 0 => rfl
  | n + 1 => by unfold tk_m; rw [tk_m_P h1 h2 h3 n, h1, h2, h3]
theorem iv_0 : iv_X false sh_0 se_0 pl_0 (fun _ => 0) := by
  refine ⟨⟨by decide, by decide, by decide, fun _ => Nat.le_of_ble_eq_true rfl, fun _ => Nat.le_of_ble_eq_true rfl, fun _ => Nat.le_of_ble_eq_true rfl, fun _ => Nat.le_of_ble_eq_true rfl, fun _ => Nat.le_of_ble_eq_true rfl, fun _ => Nat.le_of_ble_eq_true rfl, fun _ => Nat.le_of_ble_eq_true rfl, fun _ => Nat.le_of_ble_eq_true rfl, fun _ => Nat.le_of_ble_eq_true rfl, fun _ => Nat.le_of_ble_eq_true rfl, fun _ => Nat.le_of_ble_eq_true rfl⟩, ⟨fun j i h => absurd h (Nat.not_lt_zero j), fun j i k h => absurd h (Nat.not_lt_zero j), fun s h => absurd h (Nat.not_lt_zero s), fun j i h => absurd h (Nat.not_lt_zero j), fun j _ => rfl⟩, rfl, ⟨fun _ => Nat.le_of_ble_eq_true rfl, fun _ => Nat.le_of_ble_eq_true rfl, fun _ => rfl⟩, ⟨by decide, by decide, by decide, fun _ => Nat.le_of_ble_eq_true rfl, fun _ => Nat.le_of_ble_eq_true rfl, fun _ => Nat.le_of_ble_eq_true rfl⟩, by decide, by decide, fun h => absurd h (Nat.not_lt_zero 0)⟩
theorem iv_M0 (sd : Int32) : iv_M sd.toInt64 false pl_0 (mo_0 sd) := ⟨rfl, rfl, fun h => absurd h (Nat.not_lt_zero 0), rfl, rfl, rfl, rfl, rfl, fun k h => absurd h (Nat.not_lt_zero k), by funext s; exact (pq_ge (Nat.zero_le s)).symm, by funext s; exact (pq_ge (Nat.zero_le s)).symm⟩
