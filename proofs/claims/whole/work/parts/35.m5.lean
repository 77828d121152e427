/-! the model: the order by due hours, the search -/
section CM5
variable {G : am_G} {A : ma_T} {S : sh_T} {jo : Nat → Nat} {M : mo_T} {V : am_H}
/-- the least of the first j that are not in U -/
def ld_I (du : Nat → Nat) (U : Nat → Bool) (j : Nat) : Option Nat → Prop
  | none => ∀ i, i < j → U i = true
  | some x => x < j ∧ U x = false ∧ ∀ i, i < j → U i = false → du x < du i ∨ (du x = du i ∧ x ≤ i)
theorem zu_all {U : Nat → Bool} {i : Nat} (hU : ∀ j, j < i → U j = false) : ∀ j, j < i + 1 → zu U i false j = false := by
  intro j hj
  by_cases e : j = i
  · subst e; exact zu_eq _ _ _
  · rw [zu_ne _ _ e]; exact hU j (by omega)
theorem ld_A {du : Nat → Nat} {U : Nat → Bool} {j : Nat} {o : Option Nat} (hI : ld_I du U j o) (c : U j = true) : ld_I du U (j + 1) o := by
  cases o with
  | none =>
    intro i hi
    by_cases e : i = j
    · subst e; exact c
    · exact hI i (by omega)
  | some x =>
    refine ⟨by have := hI.1; omega, hI.2.1, fun i hi hu => hI.2.2 i ?_ hu⟩
    have : i ≠ j := fun e => by rw [e, c] at hu; cases hu
    omega
theorem ld_B {du : Nat → Nat} {U : Nat → Bool} {j : Nat} (hI : ld_I du U j none) (c : U j = false) : ld_I du U (j + 1) (some j) := by
  refine ⟨by omega, c, fun i hi hu => ?_⟩
  by_cases e : i = j
  · subst e; omega
  · have := hI i (by omega)
    rw [hu] at this
    cases this
theorem ld_C {du : Nat → Nat} {U : Nat → Bool} {j x : Nat} (hI : ld_I du U j (some x)) (c2 : du x ≤ du j) : ld_I du U (j + 1) (some x) := by
  have h1 := hI.1
  refine ⟨by omega, hI.2.1, fun i hi hu => ?_⟩
  by_cases e : i = j
  · subst e; omega
  · exact hI.2.2 i (by omega) hu
theorem ld_D {du : Nat → Nat} {U : Nat → Bool} {j x : Nat} (hI : ld_I du U j (some x)) (c : U j = false) (c2 : du j < du x) : ld_I du U (j + 1) (some j) := by
  refine ⟨by omega, c, fun i hi hu => ?_⟩
  by_cases e : i = j
  · subst e; omega
  · have := hI.2.2 i (by omega) hu
    omega
theorem ld_end {du b : Nat → Nat} {U : Nat → Bool} {n k : Nat} {o : Option Nat} (hs : se_sd du b n) (hk : k < n) (hU : ∀ j, j < n → (U j = true ↔ ∃ i, i < k ∧ b i = j)) (h : ld_I du U n o) : o = some (b k) := by
  have hbk : U (b k) = false := by
    cases hc : U (b k) with
    | false => rfl
    | true =>
      obtain ⟨i, h1, h2⟩ := (hU _ (hs.1 k hk)).mp hc
      have := hs.2.2 i k h1 hk
      rw [h2] at this
      omega
  cases o with
  | none => have := h (b k) (hs.1 k hk); rw [hbk] at this; cases this
  | some x =>
    obtain ⟨h1, h2, h3⟩ := h
    obtain ⟨i, g1, g2⟩ := hs.2.1 x h1
    have h4 := h3 (b k) (hs.1 k hk) hbk
    rcases Nat.lt_trichotomy i k with q | q | q
    · have := (hU x h1).mpr ⟨i, q, g2⟩
      rw [h2] at this; cases this
    · subst q; rw [g2]
    · have := hs.2.2 k i q g1
      rw [g2] at this
      omega
theorem hm0_hr (A : ma_T) (S : sh_T) (jo : Nat → Nat) (M : mo_T) (V : am_H) (g : Nat → Int32) : (hm A S jo M V).set 42 (.inl (0, 24, .inl g)) = (hm A S jo (mo_cd M, mo_xx M, g, mo_mh M, mo_pd M, mo_fr M, mo_pj M, mo_pn M, mo_ph M, mo_pm M, mo_wh M, mo_wm M, mo_co M, mo_bo M, mo_no M, mo_ch M, mo_ro M, mo_tr M, mo_us M) V) := rfl
theorem hm_hr {A : ma_T} {S : sh_T} {jo : Nat → Nat} {V : am_H} {v_cd : Nat} {v_xx : Int64} {v_hr : (Nat → Int32)} {v_mh : (Nat → Int32)} {v_pd : Bool} {v_fr : Bool} {v_pj : Nat} {v_pn : (Nat → Nat)} {v_ph : (Nat → Int32)} {v_pm : (Nat → Int32)} {v_wh : (Nat → Int32)} {v_wm : (Nat → Int32)} {v_co : Nat} {v_bo : Nat} {v_no : Nat} {v_ch : Nat} {v_ro : (Nat → Nat)} {v_tr : (Nat → Nat)} {v_us : (Nat → Bool)} (g : Nat → Int32) : (hm A S jo (v_cd, v_xx, v_hr, v_mh, v_pd, v_fr, v_pj, v_pn, v_ph, v_pm, v_wh, v_wm, v_co, v_bo, v_no, v_ch, v_ro, v_tr, v_us) V).set 42 (.inl (0, 24, .inl g)) = hm A S jo (v_cd, v_xx, g, v_mh, v_pd, v_fr, v_pj, v_pn, v_ph, v_pm, v_wh, v_wm, v_co, v_bo, v_no, v_ch, v_ro, v_tr, v_us) V := hm0_hr A S jo (v_cd, v_xx, v_hr, v_mh, v_pd, v_fr, v_pj, v_pn, v_ph, v_pm, v_wh, v_wm, v_co, v_bo, v_no, v_ch, v_ro, v_tr, v_us) V g
theorem hm0_mh (A : ma_T) (S : sh_T) (jo : Nat → Nat) (M : mo_T) (V : am_H) (g : Nat → Int32) : (hm A S jo M V).set 43 (.inl (0, 24, .inl g)) = (hm A S jo (mo_cd M, mo_xx M, mo_hr M, g, mo_pd M, mo_fr M, mo_pj M, mo_pn M, mo_ph M, mo_pm M, mo_wh M, mo_wm M, mo_co M, mo_bo M, mo_no M, mo_ch M, mo_ro M, mo_tr M, mo_us M) V) := rfl
theorem hm_mh {A : ma_T} {S : sh_T} {jo : Nat → Nat} {V : am_H} {v_cd : Nat} {v_xx : Int64} {v_hr : (Nat → Int32)} {v_mh : (Nat → Int32)} {v_pd : Bool} {v_fr : Bool} {v_pj : Nat} {v_pn : (Nat → Nat)} {v_ph : (Nat → Int32)} {v_pm : (Nat → Int32)} {v_wh : (Nat → Int32)} {v_wm : (Nat → Int32)} {v_co : Nat} {v_bo : Nat} {v_no : Nat} {v_ch : Nat} {v_ro : (Nat → Nat)} {v_tr : (Nat → Nat)} {v_us : (Nat → Bool)} (g : Nat → Int32) : (hm A S jo (v_cd, v_xx, v_hr, v_mh, v_pd, v_fr, v_pj, v_pn, v_ph, v_pm, v_wh, v_wm, v_co, v_bo, v_no, v_ch, v_ro, v_tr, v_us) V).set 43 (.inl (0, 24, .inl g)) = hm A S jo (v_cd, v_xx, v_hr, g, v_pd, v_fr, v_pj, v_pn, v_ph, v_pm, v_wh, v_wm, v_co, v_bo, v_no, v_ch, v_ro, v_tr, v_us) V := hm0_mh A S jo (v_cd, v_xx, v_hr, v_mh, v_pd, v_fr, v_pj, v_pn, v_ph, v_pm, v_wh, v_wm, v_co, v_bo, v_no, v_ch, v_ro, v_tr, v_us) V g
theorem hm0_pn (A : ma_T) (S : sh_T) (jo : Nat → Nat) (M : mo_T) (V : am_H) (g : Nat → Nat) : (hm A S jo M V).set 44 (am_a 6 g) = (hm A S jo (mo_cd M, mo_xx M, mo_hr M, mo_mh M, mo_pd M, mo_fr M, mo_pj M, g, mo_ph M, mo_pm M, mo_wh M, mo_wm M, mo_co M, mo_bo M, mo_no M, mo_ch M, mo_ro M, mo_tr M, mo_us M) V) := rfl
theorem hm_pn {A : ma_T} {S : sh_T} {jo : Nat → Nat} {V : am_H} {v_cd : Nat} {v_xx : Int64} {v_hr : (Nat → Int32)} {v_mh : (Nat → Int32)} {v_pd : Bool} {v_fr : Bool} {v_pj : Nat} {v_pn : (Nat → Nat)} {v_ph : (Nat → Int32)} {v_pm : (Nat → Int32)} {v_wh : (Nat → Int32)} {v_wm : (Nat → Int32)} {v_co : Nat} {v_bo : Nat} {v_no : Nat} {v_ch : Nat} {v_ro : (Nat → Nat)} {v_tr : (Nat → Nat)} {v_us : (Nat → Bool)} (g : Nat → Nat) : (hm A S jo (v_cd, v_xx, v_hr, v_mh, v_pd, v_fr, v_pj, v_pn, v_ph, v_pm, v_wh, v_wm, v_co, v_bo, v_no, v_ch, v_ro, v_tr, v_us) V).set 44 (am_a 6 g) = hm A S jo (v_cd, v_xx, v_hr, v_mh, v_pd, v_fr, v_pj, g, v_ph, v_pm, v_wh, v_wm, v_co, v_bo, v_no, v_ch, v_ro, v_tr, v_us) V := hm0_pn A S jo (v_cd, v_xx, v_hr, v_mh, v_pd, v_fr, v_pj, v_pn, v_ph, v_pm, v_wh, v_wm, v_co, v_bo, v_no, v_ch, v_ro, v_tr, v_us) V g
theorem hm0_ph (A : ma_T) (S : sh_T) (jo : Nat → Nat) (M : mo_T) (V : am_H) (g : Nat → Int32) : (hm A S jo M V).set 45 (.inl (0, 24, .inl g)) = (hm A S jo (mo_cd M, mo_xx M, mo_hr M, mo_mh M, mo_pd M, mo_fr M, mo_pj M, mo_pn M, g, mo_pm M, mo_wh M, mo_wm M, mo_co M, mo_bo M, mo_no M, mo_ch M, mo_ro M, mo_tr M, mo_us M) V) := rfl
theorem hm_ph {A : ma_T} {S : sh_T} {jo : Nat → Nat} {V : am_H} {v_cd : Nat} {v_xx : Int64} {v_hr : (Nat → Int32)} {v_mh : (Nat → Int32)} {v_pd : Bool} {v_fr : Bool} {v_pj : Nat} {v_pn : (Nat → Nat)} {v_ph : (Nat → Int32)} {v_pm : (Nat → Int32)} {v_wh : (Nat → Int32)} {v_wm : (Nat → Int32)} {v_co : Nat} {v_bo : Nat} {v_no : Nat} {v_ch : Nat} {v_ro : (Nat → Nat)} {v_tr : (Nat → Nat)} {v_us : (Nat → Bool)} (g : Nat → Int32) : (hm A S jo (v_cd, v_xx, v_hr, v_mh, v_pd, v_fr, v_pj, v_pn, v_ph, v_pm, v_wh, v_wm, v_co, v_bo, v_no, v_ch, v_ro, v_tr, v_us) V).set 45 (.inl (0, 24, .inl g)) = hm A S jo (v_cd, v_xx, v_hr, v_mh, v_pd, v_fr, v_pj, v_pn, g, v_pm, v_wh, v_wm, v_co, v_bo, v_no, v_ch, v_ro, v_tr, v_us) V := hm0_ph A S jo (v_cd, v_xx, v_hr, v_mh, v_pd, v_fr, v_pj, v_pn, v_ph, v_pm, v_wh, v_wm, v_co, v_bo, v_no, v_ch, v_ro, v_tr, v_us) V g
theorem hm0_pm (A : ma_T) (S : sh_T) (jo : Nat → Nat) (M : mo_T) (V : am_H) (g : Nat → Int32) : (hm A S jo M V).set 46 (.inl (0, 24, .inl g)) = (hm A S jo (mo_cd M, mo_xx M, mo_hr M, mo_mh M, mo_pd M, mo_fr M, mo_pj M, mo_pn M, mo_ph M, g, mo_wh M, mo_wm M, mo_co M, mo_bo M, mo_no M, mo_ch M, mo_ro M, mo_tr M, mo_us M) V) := rfl
theorem hm_pm {A : ma_T} {S : sh_T} {jo : Nat → Nat} {V : am_H} {v_cd : Nat} {v_xx : Int64} {v_hr : (Nat → Int32)} {v_mh : (Nat → Int32)} {v_pd : Bool} {v_fr : Bool} {v_pj : Nat} {v_pn : (Nat → Nat)} {v_ph : (Nat → Int32)} {v_pm : (Nat → Int32)} {v_wh : (Nat → Int32)} {v_wm : (Nat → Int32)} {v_co : Nat} {v_bo : Nat} {v_no : Nat} {v_ch : Nat} {v_ro : (Nat → Nat)} {v_tr : (Nat → Nat)} {v_us : (Nat → Bool)} (g : Nat → Int32) : (hm A S jo (v_cd, v_xx, v_hr, v_mh, v_pd, v_fr, v_pj, v_pn, v_ph, v_pm, v_wh, v_wm, v_co, v_bo, v_no, v_ch, v_ro, v_tr, v_us) V).set 46 (.inl (0, 24, .inl g)) = hm A S jo (v_cd, v_xx, v_hr, v_mh, v_pd, v_fr, v_pj, v_pn, v_ph, g, v_wh, v_wm, v_co, v_bo, v_no, v_ch, v_ro, v_tr, v_us) V := hm0_pm A S jo (v_cd, v_xx, v_hr, v_mh, v_pd, v_fr, v_pj, v_pn, v_ph, v_pm, v_wh, v_wm, v_co, v_bo, v_no, v_ch, v_ro, v_tr, v_us) V g
theorem hm0_wh (A : ma_T) (S : sh_T) (jo : Nat → Nat) (M : mo_T) (V : am_H) (g : Nat → Int32) : (hm A S jo M V).set 47 (.inl (0, 24, .inl g)) = (hm A S jo (mo_cd M, mo_xx M, mo_hr M, mo_mh M, mo_pd M, mo_fr M, mo_pj M, mo_pn M, mo_ph M, mo_pm M, g, mo_wm M, mo_co M, mo_bo M, mo_no M, mo_ch M, mo_ro M, mo_tr M, mo_us M) V) := rfl
theorem hm_wh {A : ma_T} {S : sh_T} {jo : Nat → Nat} {V : am_H} {v_cd : Nat} {v_xx : Int64} {v_hr : (Nat → Int32)} {v_mh : (Nat → Int32)} {v_pd : Bool} {v_fr : Bool} {v_pj : Nat} {v_pn : (Nat → Nat)} {v_ph : (Nat → Int32)} {v_pm : (Nat → Int32)} {v_wh : (Nat → Int32)} {v_wm : (Nat → Int32)} {v_co : Nat} {v_bo : Nat} {v_no : Nat} {v_ch : Nat} {v_ro : (Nat → Nat)} {v_tr : (Nat → Nat)} {v_us : (Nat → Bool)} (g : Nat → Int32) : (hm A S jo (v_cd, v_xx, v_hr, v_mh, v_pd, v_fr, v_pj, v_pn, v_ph, v_pm, v_wh, v_wm, v_co, v_bo, v_no, v_ch, v_ro, v_tr, v_us) V).set 47 (.inl (0, 24, .inl g)) = hm A S jo (v_cd, v_xx, v_hr, v_mh, v_pd, v_fr, v_pj, v_pn, v_ph, v_pm, g, v_wm, v_co, v_bo, v_no, v_ch, v_ro, v_tr, v_us) V := hm0_wh A S jo (v_cd, v_xx, v_hr, v_mh, v_pd, v_fr, v_pj, v_pn, v_ph, v_pm, v_wh, v_wm, v_co, v_bo, v_no, v_ch, v_ro, v_tr, v_us) V g
theorem hm0_wm (A : ma_T) (S : sh_T) (jo : Nat → Nat) (M : mo_T) (V : am_H) (g : Nat → Int32) : (hm A S jo M V).set 48 (.inl (0, 24, .inl g)) = (hm A S jo (mo_cd M, mo_xx M, mo_hr M, mo_mh M, mo_pd M, mo_fr M, mo_pj M, mo_pn M, mo_ph M, mo_pm M, mo_wh M, g, mo_co M, mo_bo M, mo_no M, mo_ch M, mo_ro M, mo_tr M, mo_us M) V) := rfl
theorem hm_wm {A : ma_T} {S : sh_T} {jo : Nat → Nat} {V : am_H} {v_cd : Nat} {v_xx : Int64} {v_hr : (Nat → Int32)} {v_mh : (Nat → Int32)} {v_pd : Bool} {v_fr : Bool} {v_pj : Nat} {v_pn : (Nat → Nat)} {v_ph : (Nat → Int32)} {v_pm : (Nat → Int32)} {v_wh : (Nat → Int32)} {v_wm : (Nat → Int32)} {v_co : Nat} {v_bo : Nat} {v_no : Nat} {v_ch : Nat} {v_ro : (Nat → Nat)} {v_tr : (Nat → Nat)} {v_us : (Nat → Bool)} (g : Nat → Int32) : (hm A S jo (v_cd, v_xx, v_hr, v_mh, v_pd, v_fr, v_pj, v_pn, v_ph, v_pm, v_wh, v_wm, v_co, v_bo, v_no, v_ch, v_ro, v_tr, v_us) V).set 48 (.inl (0, 24, .inl g)) = hm A S jo (v_cd, v_xx, v_hr, v_mh, v_pd, v_fr, v_pj, v_pn, v_ph, v_pm, v_wh, g, v_co, v_bo, v_no, v_ch, v_ro, v_tr, v_us) V := hm0_wm A S jo (v_cd, v_xx, v_hr, v_mh, v_pd, v_fr, v_pj, v_pn, v_ph, v_pm, v_wh, v_wm, v_co, v_bo, v_no, v_ch, v_ro, v_tr, v_us) V g
theorem hm0_ro (A : ma_T) (S : sh_T) (jo : Nat → Nat) (M : mo_T) (V : am_H) (g : Nat → Nat) : (hm A S jo M V).set 49 (am_a 6 g) = (hm A S jo (mo_cd M, mo_xx M, mo_hr M, mo_mh M, mo_pd M, mo_fr M, mo_pj M, mo_pn M, mo_ph M, mo_pm M, mo_wh M, mo_wm M, mo_co M, mo_bo M, mo_no M, mo_ch M, g, mo_tr M, mo_us M) V) := rfl
theorem hm_ro {A : ma_T} {S : sh_T} {jo : Nat → Nat} {V : am_H} {v_cd : Nat} {v_xx : Int64} {v_hr : (Nat → Int32)} {v_mh : (Nat → Int32)} {v_pd : Bool} {v_fr : Bool} {v_pj : Nat} {v_pn : (Nat → Nat)} {v_ph : (Nat → Int32)} {v_pm : (Nat → Int32)} {v_wh : (Nat → Int32)} {v_wm : (Nat → Int32)} {v_co : Nat} {v_bo : Nat} {v_no : Nat} {v_ch : Nat} {v_ro : (Nat → Nat)} {v_tr : (Nat → Nat)} {v_us : (Nat → Bool)} (g : Nat → Nat) : (hm A S jo (v_cd, v_xx, v_hr, v_mh, v_pd, v_fr, v_pj, v_pn, v_ph, v_pm, v_wh, v_wm, v_co, v_bo, v_no, v_ch, v_ro, v_tr, v_us) V).set 49 (am_a 6 g) = hm A S jo (v_cd, v_xx, v_hr, v_mh, v_pd, v_fr, v_pj, v_pn, v_ph, v_pm, v_wh, v_wm, v_co, v_bo, v_no, v_ch, g, v_tr, v_us) V := hm0_ro A S jo (v_cd, v_xx, v_hr, v_mh, v_pd, v_fr, v_pj, v_pn, v_ph, v_pm, v_wh, v_wm, v_co, v_bo, v_no, v_ch, v_ro, v_tr, v_us) V g
theorem hm0_tr (A : ma_T) (S : sh_T) (jo : Nat → Nat) (M : mo_T) (V : am_H) (g : Nat → Nat) : (hm A S jo M V).set 50 (am_a 6 g) = (hm A S jo (mo_cd M, mo_xx M, mo_hr M, mo_mh M, mo_pd M, mo_fr M, mo_pj M, mo_pn M, mo_ph M, mo_pm M, mo_wh M, mo_wm M, mo_co M, mo_bo M, mo_no M, mo_ch M, mo_ro M, g, mo_us M) V) := rfl
theorem hm_tr {A : ma_T} {S : sh_T} {jo : Nat → Nat} {V : am_H} {v_cd : Nat} {v_xx : Int64} {v_hr : (Nat → Int32)} {v_mh : (Nat → Int32)} {v_pd : Bool} {v_fr : Bool} {v_pj : Nat} {v_pn : (Nat → Nat)} {v_ph : (Nat → Int32)} {v_pm : (Nat → Int32)} {v_wh : (Nat → Int32)} {v_wm : (Nat → Int32)} {v_co : Nat} {v_bo : Nat} {v_no : Nat} {v_ch : Nat} {v_ro : (Nat → Nat)} {v_tr : (Nat → Nat)} {v_us : (Nat → Bool)} (g : Nat → Nat) : (hm A S jo (v_cd, v_xx, v_hr, v_mh, v_pd, v_fr, v_pj, v_pn, v_ph, v_pm, v_wh, v_wm, v_co, v_bo, v_no, v_ch, v_ro, v_tr, v_us) V).set 50 (am_a 6 g) = hm A S jo (v_cd, v_xx, v_hr, v_mh, v_pd, v_fr, v_pj, v_pn, v_ph, v_pm, v_wh, v_wm, v_co, v_bo, v_no, v_ch, v_ro, g, v_us) V := hm0_tr A S jo (v_cd, v_xx, v_hr, v_mh, v_pd, v_fr, v_pj, v_pn, v_ph, v_pm, v_wh, v_wm, v_co, v_bo, v_no, v_ch, v_ro, v_tr, v_us) V g
theorem hm0_us (A : ma_T) (S : sh_T) (jo : Nat → Nat) (M : mo_T) (V : am_H) (g : Nat → Bool) : (hm A S jo M V).set 51 (am_zc 6 g) = (hm A S jo (mo_cd M, mo_xx M, mo_hr M, mo_mh M, mo_pd M, mo_fr M, mo_pj M, mo_pn M, mo_ph M, mo_pm M, mo_wh M, mo_wm M, mo_co M, mo_bo M, mo_no M, mo_ch M, mo_ro M, mo_tr M, g) V) := rfl
theorem hm_us {A : ma_T} {S : sh_T} {jo : Nat → Nat} {V : am_H} {v_cd : Nat} {v_xx : Int64} {v_hr : (Nat → Int32)} {v_mh : (Nat → Int32)} {v_pd : Bool} {v_fr : Bool} {v_pj : Nat} {v_pn : (Nat → Nat)} {v_ph : (Nat → Int32)} {v_pm : (Nat → Int32)} {v_wh : (Nat → Int32)} {v_wm : (Nat → Int32)} {v_co : Nat} {v_bo : Nat} {v_no : Nat} {v_ch : Nat} {v_ro : (Nat → Nat)} {v_tr : (Nat → Nat)} {v_us : (Nat → Bool)} (g : Nat → Bool) : (hm A S jo (v_cd, v_xx, v_hr, v_mh, v_pd, v_fr, v_pj, v_pn, v_ph, v_pm, v_wh, v_wm, v_co, v_bo, v_no, v_ch, v_ro, v_tr, v_us) V).set 51 (am_zc 6 g) = hm A S jo (v_cd, v_xx, v_hr, v_mh, v_pd, v_fr, v_pj, v_pn, v_ph, v_pm, v_wh, v_wm, v_co, v_bo, v_no, v_ch, v_ro, v_tr, g) V := hm0_us A S jo (v_cd, v_xx, v_hr, v_mh, v_pd, v_fr, v_pj, v_pn, v_ph, v_pm, v_wh, v_wm, v_co, v_bo, v_no, v_ch, v_ro, v_tr, v_us) V g
set_option maxRecDepth 20000 in
theorem c_M_toPlan_l (hS : sh_ok S) (d bc bs : Nat) : ∀ (n i : Nat), i ≤ sh_jb S → sh_jb S - i < n →
    am_W G m_M_toPlan d bc bs (fun o h' => o = .inl none ∧ h' = (hm A S jo (mo_cd M, mo_xx M, mo_hr M, mo_mh M, mo_pd M, mo_fr M, mo_pj M, (tk_u (mo_ro M) (mo_pn M) (sh_jb S)), mo_ph M, mo_pm M, mo_wh M, mo_wm M, mo_co M, mo_bo M, mo_no M, mo_ch M, mo_ro M, mo_tr M, mo_us M) V)) 2 [(0, .ref 30), (1, .int (nI i))] [] (hm A S jo (mo_cd M, mo_xx M, mo_hr M, mo_mh M, mo_pd M, mo_fr M, mo_pj M, (tk_u (mo_ro M) (mo_pn M) i), mo_ph M, mo_pm M, mo_wh M, mo_wm M, mo_co M, mo_bo M, mo_no M, mo_ch M, mo_ro M, mo_tr M, mo_us M) V) := by
  intro n
  have s2 := hS.2.1
  induction n with
  | zero => intro i _ h; omega
  | succ n ih =>
    intro i hi hn
    refine am_iload_n d_M_toPlan_2 rfl rfl ?_
    refine am_aload_n d_M_toPlan_3 rfl rfl ?_
    refine am_get F_M 6 (by decide) d_M_toPlan_4 w_656 rfl rfl ?_
    refine am_icmpN_ge (tgt := 28) d_M_toPlan_7 (by decide) (by omega) (by omega) (fun c7 => ?_) (fun c7 => ?_)
    · refine am_vret d_M_toPlan_28 rfl ?_
      have e : i = sh_jb S := by omega
      subst e
      exact ⟨rfl, rfl⟩
    · refine am_aload_n d_M_toPlan_10 rfl rfl ?_
      refine am_get F_M 22 (by decide) d_M_toPlan_11 w_672 rfl rfl ?_
      refine am_iload_n d_M_toPlan_14 rfl rfl ?_
      refine am_aload_n d_M_toPlan_15 rfl rfl ?_
      refine am_get F_M 31 (by decide) d_M_toPlan_16 w_681 rfl rfl ?_
      refine am_iload_n d_M_toPlan_19 rfl rfl ?_
      refine am_ialdA d_M_toPlan_20 rfl (by omega) (by decide) ?_
      refine am_iastA d_M_toPlan_21 rfl (by omega) (by decide) ?_
      refine am_hq (hm_pn _) ?_
      refine am_iinc d_M_toPlan_22 rfl (am_inc _) (by decide) ?_
      refine am_goto (tgt := 2) d_M_toPlan_25 (by decide) ?_
      exact am_lo (L' := [(0, .ref 30), (1, .int (nI (i + 1)))]) rfl (ih (i + 1) (by omega) (by omega))
theorem c_M_toPlan (hS : sh_ok S) (d bc bs : Nat) : am_Fn G m_M_toPlan d bc bs [.ref 30] (hm A S jo M V) none (hm A S jo (mo_cd M, mo_xx M, mo_hr M, mo_mh M, mo_pd M, mo_fr M, mo_pj M, (tk_u (mo_ro M) (mo_pn M) (sh_jb S)), mo_ph M, mo_pm M, mo_wh M, mo_wm M, mo_co M, mo_bo M, mo_no M, mo_ch M, mo_ro M, mo_tr M, mo_us M) V) := by
  refine am_iconst (v := nI 0) d_M_toPlan_0 (by decide) ?_
  refine am_istore_n d_M_toPlan_1 rfl (by decide) ?_
  exact am_lo (L' := [(0, .ref 30), (1, .int (nI 0))]) rfl (c_M_toPlan_l hS d bc bs (sh_jb S + 1) 0 (Nat.zero_le _) (by have := hS.2.1; omega))
set_option maxRecDepth 20000 in
theorem c_M_layByDue_1 {Q : am_O → am_H → Prop} (hS : sh_ok S) (d bc bs : Nat) (hk : ∀ U, (∀ j, j < sh_jb S → U j = false) → am_W G m_M_layByDue d bc bs Q 23 [(0, .ref 30), (1, .int (nI (sh_jb S)))] [] (hm A S jo (mo_cd M, mo_xx M, mo_hr M, mo_mh M, mo_pd M, mo_fr M, mo_pj M, mo_pn M, mo_ph M, mo_pm M, mo_wh M, mo_wm M, mo_co M, mo_bo M, mo_no M, mo_ch M, (mo_ro M), mo_tr M, U) V)) : ∀ (n i : Nat), i ≤ sh_jb S → sh_jb S - i < n → ∀ U, (∀ j, j < i → U j = false) →
    am_W G m_M_layByDue d bc bs Q 2 [(0, .ref 30), (1, .int (nI i))] [] (hm A S jo (mo_cd M, mo_xx M, mo_hr M, mo_mh M, mo_pd M, mo_fr M, mo_pj M, mo_pn M, mo_ph M, mo_pm M, mo_wh M, mo_wm M, mo_co M, mo_bo M, mo_no M, mo_ch M, (mo_ro M), mo_tr M, U) V) := by
  intro n
  have s2 := hS.2.1
  induction n with
  | zero => intro i _ h; omega
  | succ n ih =>
    intro i hi hn U hU
    refine am_iload_n d_M_layByDue_2 rfl rfl ?_
    refine am_aload_n d_M_layByDue_3 rfl rfl ?_
    refine am_get F_M 6 (by decide) d_M_layByDue_4 w_656 rfl rfl ?_
    refine am_icmpN_ge (tgt := 23) d_M_layByDue_7 (by decide) (by omega) (by omega) (fun c7 => ?_) (fun c7 => ?_)
    · have e : i = sh_jb S := by omega
      subst e
      exact hk U hU
    · refine am_aload_n d_M_layByDue_10 rfl rfl ?_
      refine am_get F_M 33 (by decide) d_M_layByDue_11 w_683 rfl rfl ?_
      refine am_iload_n d_M_layByDue_14 rfl rfl ?_
      refine am_iconst (v := zI false) d_M_layByDue_15 (by decide) ?_
      refine am_zastA d_M_layByDue_16 rfl (by omega) (by decide) ?_
      refine am_hq (hm_us _) ?_
      refine am_iinc d_M_layByDue_17 rfl (am_inc _) (by decide) ?_
      refine am_goto (tgt := 2) d_M_layByDue_20 (by decide) ?_
      exact am_lo (L' := [(0, .ref 30), (1, .int (nI (i + 1)))]) rfl (ih (i + 1) (by omega) (by omega) (zu U i false) (zu_all hU))
set_option maxRecDepth 20000 in
theorem c_M_layByDue_2 {Q : am_O → am_H → Prop} {U : Nat → Bool} {ro : Nat → Nat} (hS : sh_ok S) (d bc bs k : Nat) (hk : ∀ o, ld_I (sh_du S) U (sh_jb S) o → am_W G m_M_layByDue d bc bs Q 86 [(0, .ref 30), (1, .int (nI k)), (2, .int (oI o)), (3, .int (nI (sh_jb S)))] [] (hm A S jo (mo_cd M, mo_xx M, mo_hr M, mo_mh M, mo_pd M, mo_fr M, mo_pj M, mo_pn M, mo_ph M, mo_pm M, mo_wh M, mo_wm M, mo_co M, mo_bo M, mo_no M, mo_ch M, ro, mo_tr M, U) V)) : ∀ (n j : Nat), j ≤ sh_jb S → sh_jb S - j < n → ∀ o, ld_I (sh_du S) U j o →
    am_W G m_M_layByDue d bc bs Q 37 [(0, .ref 30), (1, .int (nI k)), (2, .int (oI o)), (3, .int (nI j))] [] (hm A S jo (mo_cd M, mo_xx M, mo_hr M, mo_mh M, mo_pd M, mo_fr M, mo_pj M, mo_pn M, mo_ph M, mo_pm M, mo_wh M, mo_wm M, mo_co M, mo_bo M, mo_no M, mo_ch M, ro, mo_tr M, U) V) := by
  intro n
  obtain ⟨s1, s2, s3, s4, s5, s6, s7, s8, s9, s10, s11, s12, s13, s14⟩ := id hS
  induction n with
  | zero => intro i _ h; omega
  | succ n ih =>
    intro j hi hn o hI
    refine am_iload_n d_M_layByDue_37 rfl rfl ?_
    refine am_aload_n d_M_layByDue_38 rfl rfl ?_
    refine am_get F_M 6 (by decide) d_M_layByDue_39 w_656 rfl rfl ?_
    refine am_icmpN_ge (tgt := 86) d_M_layByDue_42 (by decide) (by omega) (by omega) (fun c42 => ?_) (fun c42 => ?_)
    · have e : j = sh_jb S := by omega
      subst e
      exact hk o hI
    · have t8 := s8 j
      refine am_aload_n d_M_layByDue_45 rfl rfl ?_
      refine am_get F_M 33 (by decide) d_M_layByDue_46 w_683 rfl rfl ?_
      refine am_iload_n d_M_layByDue_49 rfl rfl ?_
      refine am_zaldA d_M_layByDue_50 rfl (by omega) (by decide) ?_
      refine am_ifZ_ne (tgt := 78) d_M_layByDue_51 (by decide) (fun c51 => ?_) (fun c51 => ?_)
      · refine am_iload_n d_M_layByDue_78 rfl rfl ?_
        refine am_istore_n d_M_layByDue_79 rfl (by decide) ?_
        refine am_iinc d_M_layByDue_80 rfl (am_inc _) (by decide) ?_
        refine am_goto (tgt := 37) d_M_layByDue_83 (by decide) ?_
        exact am_lo (L' := [(0, .ref 30), (1, .int (nI k)), (2, .int (oI o)), (3, .int (nI (j + 1)))]) rfl (ih (j + 1) (by omega) (by omega) o (ld_A hI c51))
      · refine am_iload_n d_M_layByDue_54 rfl rfl ?_
        refine am_iconst (v := -1) d_M_layByDue_55 (by decide) ?_
        refine am_icmp_eq (tgt := 74) d_M_layByDue_56 (by decide) (fun c56 => ?_) (fun c56 => ?_)
        · refine am_iload_n d_M_layByDue_74 rfl rfl ?_
          refine am_goto (tgt := 79) d_M_layByDue_75 (by decide) ?_
          refine am_istore_n d_M_layByDue_79 rfl (by decide) ?_
          refine am_iinc d_M_layByDue_80 rfl (am_inc _) (by decide) ?_
          refine am_goto (tgt := 37) d_M_layByDue_83 (by decide) ?_
          cases o with
          | none => exact am_lo (L' := [(0, .ref 30), (1, .int (nI k)), (2, .int (oI (some j))), (3, .int (nI (j + 1)))]) rfl (ih (j + 1) (by omega) (by omega) (some j) (ld_B hI c51))
          | some x => exact absurd c56 (nI_m1 (by have := hI.1; omega))
        · refine am_aload_n d_M_layByDue_59 rfl rfl ?_
          refine am_get F_M 7 (by decide) d_M_layByDue_60 w_657 rfl rfl ?_
          refine am_iload_n d_M_layByDue_63 rfl rfl ?_
          refine am_ialdA d_M_layByDue_64 rfl (by omega) (by decide) ?_
          refine am_aload_n d_M_layByDue_65 rfl rfl ?_
          refine am_get F_M 7 (by decide) d_M_layByDue_66 w_657 rfl rfl ?_
          refine am_iload_n d_M_layByDue_69 rfl rfl ?_
          cases o with
          | none => exact absurd rfl c56
          | some x =>
            have hx := hI.1
            have t8x := s8 x
            refine am_ialdA d_M_layByDue_70 rfl (by omega) (by decide) ?_
            refine am_icmpN_ge (tgt := 78) d_M_layByDue_71 (by decide) (by omega) (by omega) (fun c71 => ?_) (fun c71 => ?_)
            · refine am_iload_n d_M_layByDue_78 rfl rfl ?_
              refine am_istore_n d_M_layByDue_79 rfl (by decide) ?_
              refine am_iinc d_M_layByDue_80 rfl (am_inc _) (by decide) ?_
              refine am_goto (tgt := 37) d_M_layByDue_83 (by decide) ?_
              exact am_lo (L' := [(0, .ref 30), (1, .int (nI k)), (2, .int (oI (some x))), (3, .int (nI (j + 1)))]) rfl (ih (j + 1) (by omega) (by omega) (some x) (ld_C hI c71))
            · refine am_iload_n d_M_layByDue_74 rfl rfl ?_
              refine am_goto (tgt := 79) d_M_layByDue_75 (by decide) ?_
              refine am_istore_n d_M_layByDue_79 rfl (by decide) ?_
              refine am_iinc d_M_layByDue_80 rfl (am_inc _) (by decide) ?_
              refine am_goto (tgt := 37) d_M_layByDue_83 (by decide) ?_
              exact am_lo (L' := [(0, .ref 30), (1, .int (nI k)), (2, .int (oI (some j))), (3, .int (nI (j + 1)))]) rfl (ih (j + 1) (by omega) (by omega) (some j) (ld_D hI c51 c71))
set_option maxRecDepth 20000 in
theorem c_M_layByDue_3 {b : Nat → Nat} (hS : sh_ok S) (hsd : se_sd (sh_du S) b (sh_jb S)) (d bc bs : Nat) : ∀ (n k : Nat), k ≤ sh_jb S → sh_jb S - k < n → ∀ U, (∀ j, j < sh_jb S → (U j = true ↔ ∃ i, i < k ∧ b i = j)) →
    am_W G m_M_layByDue d bc bs (fun o h' => ∃ U, o = .inl none ∧ h' = (hm A S jo (mo_cd M, mo_xx M, mo_hr M, mo_mh M, mo_pd M, mo_fr M, mo_pj M, mo_pn M, mo_ph M, mo_pm M, mo_wh M, mo_wm M, mo_co M, mo_bo M, mo_no M, mo_ch M, (tk_u b (mo_ro M) (sh_jb S)), mo_tr M, U) V)) 25 [(0, .ref 30), (1, .int (nI k))] [] (hm A S jo (mo_cd M, mo_xx M, mo_hr M, mo_mh M, mo_pd M, mo_fr M, mo_pj M, mo_pn M, mo_ph M, mo_pm M, mo_wh M, mo_wm M, mo_co M, mo_bo M, mo_no M, mo_ch M, (tk_u b (mo_ro M) k), mo_tr M, U) V) := by
  intro n
  obtain ⟨s1, s2, s3, s4, s5, s6, s7, s8, s9, s10, s11, s12, s13, s14⟩ := id hS
  induction n with
  | zero => intro i _ h; omega
  | succ n ih =>
    intro k hi hn U hU
    refine am_iload_n d_M_layByDue_25 rfl rfl ?_
    refine am_aload_n d_M_layByDue_26 rfl rfl ?_
    refine am_get F_M 6 (by decide) d_M_layByDue_27 w_656 rfl rfl ?_
    refine am_icmpN_ge (tgt := 106) d_M_layByDue_30 (by decide) (by omega) (by omega) (fun c30 => ?_) (fun c30 => ?_)
    · refine am_vret d_M_layByDue_106 rfl ?_
      have e : k = sh_jb S := by omega
      subst e
      exact ⟨U, rfl, rfl⟩
    · refine am_iconst (v := -1) d_M_layByDue_33 (by decide) ?_
      refine am_istore_n d_M_layByDue_34 rfl (by decide) ?_
      refine am_iconst (v := nI 0) d_M_layByDue_35 (by decide) ?_
      refine am_istore_n d_M_layByDue_36 rfl (by decide) ?_
      refine am_lo (L' := [(0, .ref 30), (1, .int (nI k)), (2, .int (oI none)), (3, .int (nI 0))]) rfl (c_M_layByDue_2 hS d bc bs k (fun o ho => ?_) (sh_jb S + 1) 0 (Nat.zero_le _) (by omega) none (fun i hi => absurd hi (Nat.not_lt_zero i)))
      obtain rfl := ld_end hsd (by omega) hU ho
      have hbk := hsd.1 k (by omega)
      have hU2 : ∀ j, j < sh_jb S → (zu U (b k) true j = true ↔ ∃ i, i < k + 1 ∧ b i = j) := fun j hj => by
        by_cases e : j = b k
        · subst e; rw [zu_eq]; exact ⟨fun _ => ⟨k, by omega, rfl⟩, fun _ => rfl⟩
        · rw [zu_ne _ _ e, hU j hj]
          constructor
          · rintro ⟨i, h1, h2⟩; exact ⟨i, by omega, h2⟩
          · rintro ⟨i, h1, h2⟩
            have e2 : i ≠ k := fun e2 => by rw [e2] at h2; exact e h2.symm
            exact ⟨i, by omega, h2⟩
      refine am_aload_n d_M_layByDue_86 rfl rfl ?_
      refine am_get F_M 31 (by decide) d_M_layByDue_87 w_681 rfl rfl ?_
      refine am_iload_n d_M_layByDue_90 rfl rfl ?_
      refine am_iload_n d_M_layByDue_91 rfl rfl ?_
      refine am_iastA d_M_layByDue_92 rfl (by omega) (by decide) ?_
      refine am_hq (hm_ro _) ?_
      refine am_aload_n d_M_layByDue_93 rfl rfl ?_
      refine am_get F_M 33 (by decide) d_M_layByDue_94 w_683 rfl rfl ?_
      refine am_iload_n d_M_layByDue_97 rfl rfl ?_
      refine am_iconst (v := zI true) d_M_layByDue_98 (by decide) ?_
      refine am_zastA d_M_layByDue_99 rfl (by omega) (by decide) ?_
      refine am_hq (hm_us _) ?_
      refine am_iinc d_M_layByDue_100 rfl (am_inc _) (by decide) ?_
      refine am_goto (tgt := 25) d_M_layByDue_103 (by decide) ?_
      exact am_lo (L' := [(0, .ref 30), (1, .int (nI (k + 1)))]) rfl (ih (k + 1) (by omega) (by omega) (zu U (b k) true) hU2)
theorem c_M_layByDue {b : Nat → Nat} (hS : sh_ok S) (hsd : se_sd (sh_du S) b (sh_jb S)) (d bc bs : Nat) : am_W G m_M_layByDue d bc bs (fun o h' => ∃ U, o = .inl none ∧ h' = (hm A S jo (mo_cd M, mo_xx M, mo_hr M, mo_mh M, mo_pd M, mo_fr M, mo_pj M, mo_pn M, mo_ph M, mo_pm M, mo_wh M, mo_wm M, mo_co M, mo_bo M, mo_no M, mo_ch M, (tk_u b (mo_ro M) (sh_jb S)), mo_tr M, U) V)) 0 (lv_args 0 [.ref 30]) [] (hm A S jo M V) := by
  refine am_iconst (v := nI 0) d_M_layByDue_0 (by decide) ?_
  refine am_istore_n d_M_layByDue_1 rfl (by decide) ?_
  refine am_lo (L' := [(0, .ref 30), (1, .int (nI 0))]) rfl (c_M_layByDue_1 hS d bc bs (fun U hU => ?_) (sh_jb S + 1) 0 (Nat.zero_le _) (by have := hS.2.1; omega) (mo_us M) (fun j hj => absurd hj (Nat.not_lt_zero j)))
  refine am_iconst (v := nI 0) d_M_layByDue_23 (by decide) ?_
  refine am_istore_n d_M_layByDue_24 rfl (by decide) ?_
  exact am_lo (L' := [(0, .ref 30), (1, .int (nI 0))]) rfl (c_M_layByDue_3 hS hsd d bc bs (sh_jb S + 1) 0 (Nat.zero_le _) (by have := hS.2.1; omega) U (fun j hj => ⟨fun h => absurd (h.symm.trans (hU j hj)) (by decide), fun ⟨i, hi, _⟩ => absurd hi (Nat.not_lt_zero i)⟩))
end CM5
