/-! the model: the search -/
section CM6
variable {G : am_G} {A : ma_T} {S : sh_T} {jo : Nat → Nat} {M : mo_T} {V : am_H}
theorem hm0_cd (A : ma_T) (S : sh_T) (jo : Nat → Nat) (M : mo_T) (V : am_H) (g : Nat) : (hm A S jo M V).set 29 (.inr (5, [.int (nI (mo_cd M)), .int (nI (sh_mc S)), .ref 31, .ref 32, .ref 33, .ref 34, .int (nI (sh_jb S)), .ref 35, .ref 36, .ref 37, .ref 38, .int (nI (sh_ss S)), .ref 39, .ref 40, .ref 41, .ref 42, .long (mo_xx M), .ref 43, .ref 44, .int (zI (mo_pd M)), .int (zI (mo_fr M)), .int (nI (mo_pj M)), .ref 45, .ref 46, .ref 47, .ref 48, .ref 49, .long (lN (mo_co M)), .long (lN (mo_bo M)), .int (nI (mo_no M)), .int (nI (mo_ch M)), .ref 50, .ref 51, .ref 52].set 0 (.int (nI g)))) = (hm A S jo (g, mo_xx M, mo_hr M, mo_mh M, mo_pd M, mo_fr M, mo_pj M, mo_pn M, mo_ph M, mo_pm M, mo_wh M, mo_wm M, mo_co M, mo_bo M, mo_no M, mo_ch M, mo_ro M, mo_tr M, mo_us M) V) := rfl
theorem hm_cd {A : ma_T} {S : sh_T} {jo : Nat → Nat} {V : am_H} {v_cd : Nat} {v_xx : Int64} {v_hr : (Nat → Int32)} {v_mh : (Nat → Int32)} {v_pd : Bool} {v_fr : Bool} {v_pj : Nat} {v_pn : (Nat → Nat)} {v_ph : (Nat → Int32)} {v_pm : (Nat → Int32)} {v_wh : (Nat → Int32)} {v_wm : (Nat → Int32)} {v_co : Nat} {v_bo : Nat} {v_no : Nat} {v_ch : Nat} {v_ro : (Nat → Nat)} {v_tr : (Nat → Nat)} {v_us : (Nat → Bool)} (g : Nat) : (hm A S jo (v_cd, v_xx, v_hr, v_mh, v_pd, v_fr, v_pj, v_pn, v_ph, v_pm, v_wh, v_wm, v_co, v_bo, v_no, v_ch, v_ro, v_tr, v_us) V).set 29 (.inr (5, [.int (nI (mo_cd (v_cd, v_xx, v_hr, v_mh, v_pd, v_fr, v_pj, v_pn, v_ph, v_pm, v_wh, v_wm, v_co, v_bo, v_no, v_ch, v_ro, v_tr, v_us))), .int (nI (sh_mc S)), .ref 31, .ref 32, .ref 33, .ref 34, .int (nI (sh_jb S)), .ref 35, .ref 36, .ref 37, .ref 38, .int (nI (sh_ss S)), .ref 39, .ref 40, .ref 41, .ref 42, .long (mo_xx (v_cd, v_xx, v_hr, v_mh, v_pd, v_fr, v_pj, v_pn, v_ph, v_pm, v_wh, v_wm, v_co, v_bo, v_no, v_ch, v_ro, v_tr, v_us)), .ref 43, .ref 44, .int (zI (mo_pd (v_cd, v_xx, v_hr, v_mh, v_pd, v_fr, v_pj, v_pn, v_ph, v_pm, v_wh, v_wm, v_co, v_bo, v_no, v_ch, v_ro, v_tr, v_us))), .int (zI (mo_fr (v_cd, v_xx, v_hr, v_mh, v_pd, v_fr, v_pj, v_pn, v_ph, v_pm, v_wh, v_wm, v_co, v_bo, v_no, v_ch, v_ro, v_tr, v_us))), .int (nI (mo_pj (v_cd, v_xx, v_hr, v_mh, v_pd, v_fr, v_pj, v_pn, v_ph, v_pm, v_wh, v_wm, v_co, v_bo, v_no, v_ch, v_ro, v_tr, v_us))), .ref 45, .ref 46, .ref 47, .ref 48, .ref 49, .long (lN (mo_co (v_cd, v_xx, v_hr, v_mh, v_pd, v_fr, v_pj, v_pn, v_ph, v_pm, v_wh, v_wm, v_co, v_bo, v_no, v_ch, v_ro, v_tr, v_us))), .long (lN (mo_bo (v_cd, v_xx, v_hr, v_mh, v_pd, v_fr, v_pj, v_pn, v_ph, v_pm, v_wh, v_wm, v_co, v_bo, v_no, v_ch, v_ro, v_tr, v_us))), .int (nI (mo_no (v_cd, v_xx, v_hr, v_mh, v_pd, v_fr, v_pj, v_pn, v_ph, v_pm, v_wh, v_wm, v_co, v_bo, v_no, v_ch, v_ro, v_tr, v_us))), .int (nI (mo_ch (v_cd, v_xx, v_hr, v_mh, v_pd, v_fr, v_pj, v_pn, v_ph, v_pm, v_wh, v_wm, v_co, v_bo, v_no, v_ch, v_ro, v_tr, v_us))), .ref 50, .ref 51, .ref 52].set 0 (.int (nI g)))) = hm A S jo (g, v_xx, v_hr, v_mh, v_pd, v_fr, v_pj, v_pn, v_ph, v_pm, v_wh, v_wm, v_co, v_bo, v_no, v_ch, v_ro, v_tr, v_us) V := hm0_cd A S jo (v_cd, v_xx, v_hr, v_mh, v_pd, v_fr, v_pj, v_pn, v_ph, v_pm, v_wh, v_wm, v_co, v_bo, v_no, v_ch, v_ro, v_tr, v_us) V g
theorem hm0_xx (A : ma_T) (S : sh_T) (jo : Nat → Nat) (M : mo_T) (V : am_H) (g : Int64) : (hm A S jo M V).set 29 (.inr (5, [.int (nI (mo_cd M)), .int (nI (sh_mc S)), .ref 31, .ref 32, .ref 33, .ref 34, .int (nI (sh_jb S)), .ref 35, .ref 36, .ref 37, .ref 38, .int (nI (sh_ss S)), .ref 39, .ref 40, .ref 41, .ref 42, .long (mo_xx M), .ref 43, .ref 44, .int (zI (mo_pd M)), .int (zI (mo_fr M)), .int (nI (mo_pj M)), .ref 45, .ref 46, .ref 47, .ref 48, .ref 49, .long (lN (mo_co M)), .long (lN (mo_bo M)), .int (nI (mo_no M)), .int (nI (mo_ch M)), .ref 50, .ref 51, .ref 52].set 16 (.long g))) = (hm A S jo (mo_cd M, g, mo_hr M, mo_mh M, mo_pd M, mo_fr M, mo_pj M, mo_pn M, mo_ph M, mo_pm M, mo_wh M, mo_wm M, mo_co M, mo_bo M, mo_no M, mo_ch M, mo_ro M, mo_tr M, mo_us M) V) := rfl
theorem hm_xx {A : ma_T} {S : sh_T} {jo : Nat → Nat} {V : am_H} {v_cd : Nat} {v_xx : Int64} {v_hr : (Nat → Int32)} {v_mh : (Nat → Int32)} {v_pd : Bool} {v_fr : Bool} {v_pj : Nat} {v_pn : (Nat → Nat)} {v_ph : (Nat → Int32)} {v_pm : (Nat → Int32)} {v_wh : (Nat → Int32)} {v_wm : (Nat → Int32)} {v_co : Nat} {v_bo : Nat} {v_no : Nat} {v_ch : Nat} {v_ro : (Nat → Nat)} {v_tr : (Nat → Nat)} {v_us : (Nat → Bool)} (g : Int64) : (hm A S jo (v_cd, v_xx, v_hr, v_mh, v_pd, v_fr, v_pj, v_pn, v_ph, v_pm, v_wh, v_wm, v_co, v_bo, v_no, v_ch, v_ro, v_tr, v_us) V).set 29 (.inr (5, [.int (nI (mo_cd (v_cd, v_xx, v_hr, v_mh, v_pd, v_fr, v_pj, v_pn, v_ph, v_pm, v_wh, v_wm, v_co, v_bo, v_no, v_ch, v_ro, v_tr, v_us))), .int (nI (sh_mc S)), .ref 31, .ref 32, .ref 33, .ref 34, .int (nI (sh_jb S)), .ref 35, .ref 36, .ref 37, .ref 38, .int (nI (sh_ss S)), .ref 39, .ref 40, .ref 41, .ref 42, .long (mo_xx (v_cd, v_xx, v_hr, v_mh, v_pd, v_fr, v_pj, v_pn, v_ph, v_pm, v_wh, v_wm, v_co, v_bo, v_no, v_ch, v_ro, v_tr, v_us)), .ref 43, .ref 44, .int (zI (mo_pd (v_cd, v_xx, v_hr, v_mh, v_pd, v_fr, v_pj, v_pn, v_ph, v_pm, v_wh, v_wm, v_co, v_bo, v_no, v_ch, v_ro, v_tr, v_us))), .int (zI (mo_fr (v_cd, v_xx, v_hr, v_mh, v_pd, v_fr, v_pj, v_pn, v_ph, v_pm, v_wh, v_wm, v_co, v_bo, v_no, v_ch, v_ro, v_tr, v_us))), .int (nI (mo_pj (v_cd, v_xx, v_hr, v_mh, v_pd, v_fr, v_pj, v_pn, v_ph, v_pm, v_wh, v_wm, v_co, v_bo, v_no, v_ch, v_ro, v_tr, v_us))), .ref 45, .ref 46, .ref 47, .ref 48, .ref 49, .long (lN (mo_co (v_cd, v_xx, v_hr, v_mh, v_pd, v_fr, v_pj, v_pn, v_ph, v_pm, v_wh, v_wm, v_co, v_bo, v_no, v_ch, v_ro, v_tr, v_us))), .long (lN (mo_bo (v_cd, v_xx, v_hr, v_mh, v_pd, v_fr, v_pj, v_pn, v_ph, v_pm, v_wh, v_wm, v_co, v_bo, v_no, v_ch, v_ro, v_tr, v_us))), .int (nI (mo_no (v_cd, v_xx, v_hr, v_mh, v_pd, v_fr, v_pj, v_pn, v_ph, v_pm, v_wh, v_wm, v_co, v_bo, v_no, v_ch, v_ro, v_tr, v_us))), .int (nI (mo_ch (v_cd, v_xx, v_hr, v_mh, v_pd, v_fr, v_pj, v_pn, v_ph, v_pm, v_wh, v_wm, v_co, v_bo, v_no, v_ch, v_ro, v_tr, v_us))), .ref 50, .ref 51, .ref 52].set 16 (.long g))) = hm A S jo (v_cd, g, v_hr, v_mh, v_pd, v_fr, v_pj, v_pn, v_ph, v_pm, v_wh, v_wm, v_co, v_bo, v_no, v_ch, v_ro, v_tr, v_us) V := hm0_xx A S jo (v_cd, v_xx, v_hr, v_mh, v_pd, v_fr, v_pj, v_pn, v_ph, v_pm, v_wh, v_wm, v_co, v_bo, v_no, v_ch, v_ro, v_tr, v_us) V g
theorem hm0_pd (A : ma_T) (S : sh_T) (jo : Nat → Nat) (M : mo_T) (V : am_H) (g : Bool) : (hm A S jo M V).set 29 (.inr (5, [.int (nI (mo_cd M)), .int (nI (sh_mc S)), .ref 31, .ref 32, .ref 33, .ref 34, .int (nI (sh_jb S)), .ref 35, .ref 36, .ref 37, .ref 38, .int (nI (sh_ss S)), .ref 39, .ref 40, .ref 41, .ref 42, .long (mo_xx M), .ref 43, .ref 44, .int (zI (mo_pd M)), .int (zI (mo_fr M)), .int (nI (mo_pj M)), .ref 45, .ref 46, .ref 47, .ref 48, .ref 49, .long (lN (mo_co M)), .long (lN (mo_bo M)), .int (nI (mo_no M)), .int (nI (mo_ch M)), .ref 50, .ref 51, .ref 52].set 19 (.int (zI g)))) = (hm A S jo (mo_cd M, mo_xx M, mo_hr M, mo_mh M, g, mo_fr M, mo_pj M, mo_pn M, mo_ph M, mo_pm M, mo_wh M, mo_wm M, mo_co M, mo_bo M, mo_no M, mo_ch M, mo_ro M, mo_tr M, mo_us M) V) := rfl
theorem hm_pd {A : ma_T} {S : sh_T} {jo : Nat → Nat} {V : am_H} {v_cd : Nat} {v_xx : Int64} {v_hr : (Nat → Int32)} {v_mh : (Nat → Int32)} {v_pd : Bool} {v_fr : Bool} {v_pj : Nat} {v_pn : (Nat → Nat)} {v_ph : (Nat → Int32)} {v_pm : (Nat → Int32)} {v_wh : (Nat → Int32)} {v_wm : (Nat → Int32)} {v_co : Nat} {v_bo : Nat} {v_no : Nat} {v_ch : Nat} {v_ro : (Nat → Nat)} {v_tr : (Nat → Nat)} {v_us : (Nat → Bool)} (g : Bool) : (hm A S jo (v_cd, v_xx, v_hr, v_mh, v_pd, v_fr, v_pj, v_pn, v_ph, v_pm, v_wh, v_wm, v_co, v_bo, v_no, v_ch, v_ro, v_tr, v_us) V).set 29 (.inr (5, [.int (nI (mo_cd (v_cd, v_xx, v_hr, v_mh, v_pd, v_fr, v_pj, v_pn, v_ph, v_pm, v_wh, v_wm, v_co, v_bo, v_no, v_ch, v_ro, v_tr, v_us))), .int (nI (sh_mc S)), .ref 31, .ref 32, .ref 33, .ref 34, .int (nI (sh_jb S)), .ref 35, .ref 36, .ref 37, .ref 38, .int (nI (sh_ss S)), .ref 39, .ref 40, .ref 41, .ref 42, .long (mo_xx (v_cd, v_xx, v_hr, v_mh, v_pd, v_fr, v_pj, v_pn, v_ph, v_pm, v_wh, v_wm, v_co, v_bo, v_no, v_ch, v_ro, v_tr, v_us)), .ref 43, .ref 44, .int (zI (mo_pd (v_cd, v_xx, v_hr, v_mh, v_pd, v_fr, v_pj, v_pn, v_ph, v_pm, v_wh, v_wm, v_co, v_bo, v_no, v_ch, v_ro, v_tr, v_us))), .int (zI (mo_fr (v_cd, v_xx, v_hr, v_mh, v_pd, v_fr, v_pj, v_pn, v_ph, v_pm, v_wh, v_wm, v_co, v_bo, v_no, v_ch, v_ro, v_tr, v_us))), .int (nI (mo_pj (v_cd, v_xx, v_hr, v_mh, v_pd, v_fr, v_pj, v_pn, v_ph, v_pm, v_wh, v_wm, v_co, v_bo, v_no, v_ch, v_ro, v_tr, v_us))), .ref 45, .ref 46, .ref 47, .ref 48, .ref 49, .long (lN (mo_co (v_cd, v_xx, v_hr, v_mh, v_pd, v_fr, v_pj, v_pn, v_ph, v_pm, v_wh, v_wm, v_co, v_bo, v_no, v_ch, v_ro, v_tr, v_us))), .long (lN (mo_bo (v_cd, v_xx, v_hr, v_mh, v_pd, v_fr, v_pj, v_pn, v_ph, v_pm, v_wh, v_wm, v_co, v_bo, v_no, v_ch, v_ro, v_tr, v_us))), .int (nI (mo_no (v_cd, v_xx, v_hr, v_mh, v_pd, v_fr, v_pj, v_pn, v_ph, v_pm, v_wh, v_wm, v_co, v_bo, v_no, v_ch, v_ro, v_tr, v_us))), .int (nI (mo_ch (v_cd, v_xx, v_hr, v_mh, v_pd, v_fr, v_pj, v_pn, v_ph, v_pm, v_wh, v_wm, v_co, v_bo, v_no, v_ch, v_ro, v_tr, v_us))), .ref 50, .ref 51, .ref 52].set 19 (.int (zI g)))) = hm A S jo (v_cd, v_xx, v_hr, v_mh, g, v_fr, v_pj, v_pn, v_ph, v_pm, v_wh, v_wm, v_co, v_bo, v_no, v_ch, v_ro, v_tr, v_us) V := hm0_pd A S jo (v_cd, v_xx, v_hr, v_mh, v_pd, v_fr, v_pj, v_pn, v_ph, v_pm, v_wh, v_wm, v_co, v_bo, v_no, v_ch, v_ro, v_tr, v_us) V g
theorem hm0_fr (A : ma_T) (S : sh_T) (jo : Nat → Nat) (M : mo_T) (V : am_H) (g : Bool) : (hm A S jo M V).set 29 (.inr (5, [.int (nI (mo_cd M)), .int (nI (sh_mc S)), .ref 31, .ref 32, .ref 33, .ref 34, .int (nI (sh_jb S)), .ref 35, .ref 36, .ref 37, .ref 38, .int (nI (sh_ss S)), .ref 39, .ref 40, .ref 41, .ref 42, .long (mo_xx M), .ref 43, .ref 44, .int (zI (mo_pd M)), .int (zI (mo_fr M)), .int (nI (mo_pj M)), .ref 45, .ref 46, .ref 47, .ref 48, .ref 49, .long (lN (mo_co M)), .long (lN (mo_bo M)), .int (nI (mo_no M)), .int (nI (mo_ch M)), .ref 50, .ref 51, .ref 52].set 20 (.int (zI g)))) = (hm A S jo (mo_cd M, mo_xx M, mo_hr M, mo_mh M, mo_pd M, g, mo_pj M, mo_pn M, mo_ph M, mo_pm M, mo_wh M, mo_wm M, mo_co M, mo_bo M, mo_no M, mo_ch M, mo_ro M, mo_tr M, mo_us M) V) := rfl
theorem hm_fr {A : ma_T} {S : sh_T} {jo : Nat → Nat} {V : am_H} {v_cd : Nat} {v_xx : Int64} {v_hr : (Nat → Int32)} {v_mh : (Nat → Int32)} {v_pd : Bool} {v_fr : Bool} {v_pj : Nat} {v_pn : (Nat → Nat)} {v_ph : (Nat → Int32)} {v_pm : (Nat → Int32)} {v_wh : (Nat → Int32)} {v_wm : (Nat → Int32)} {v_co : Nat} {v_bo : Nat} {v_no : Nat} {v_ch : Nat} {v_ro : (Nat → Nat)} {v_tr : (Nat → Nat)} {v_us : (Nat → Bool)} (g : Bool) : (hm A S jo (v_cd, v_xx, v_hr, v_mh, v_pd, v_fr, v_pj, v_pn, v_ph, v_pm, v_wh, v_wm, v_co, v_bo, v_no, v_ch, v_ro, v_tr, v_us) V).set 29 (.inr (5, [.int (nI (mo_cd (v_cd, v_xx, v_hr, v_mh, v_pd, v_fr, v_pj, v_pn, v_ph, v_pm, v_wh, v_wm, v_co, v_bo, v_no, v_ch, v_ro, v_tr, v_us))), .int (nI (sh_mc S)), .ref 31, .ref 32, .ref 33, .ref 34, .int (nI (sh_jb S)), .ref 35, .ref 36, .ref 37, .ref 38, .int (nI (sh_ss S)), .ref 39, .ref 40, .ref 41, .ref 42, .long (mo_xx (v_cd, v_xx, v_hr, v_mh, v_pd, v_fr, v_pj, v_pn, v_ph, v_pm, v_wh, v_wm, v_co, v_bo, v_no, v_ch, v_ro, v_tr, v_us)), .ref 43, .ref 44, .int (zI (mo_pd (v_cd, v_xx, v_hr, v_mh, v_pd, v_fr, v_pj, v_pn, v_ph, v_pm, v_wh, v_wm, v_co, v_bo, v_no, v_ch, v_ro, v_tr, v_us))), .int (zI (mo_fr (v_cd, v_xx, v_hr, v_mh, v_pd, v_fr, v_pj, v_pn, v_ph, v_pm, v_wh, v_wm, v_co, v_bo, v_no, v_ch, v_ro, v_tr, v_us))), .int (nI (mo_pj (v_cd, v_xx, v_hr, v_mh, v_pd, v_fr, v_pj, v_pn, v_ph, v_pm, v_wh, v_wm, v_co, v_bo, v_no, v_ch, v_ro, v_tr, v_us))), .ref 45, .ref 46, .ref 47, .ref 48, .ref 49, .long (lN (mo_co (v_cd, v_xx, v_hr, v_mh, v_pd, v_fr, v_pj, v_pn, v_ph, v_pm, v_wh, v_wm, v_co, v_bo, v_no, v_ch, v_ro, v_tr, v_us))), .long (lN (mo_bo (v_cd, v_xx, v_hr, v_mh, v_pd, v_fr, v_pj, v_pn, v_ph, v_pm, v_wh, v_wm, v_co, v_bo, v_no, v_ch, v_ro, v_tr, v_us))), .int (nI (mo_no (v_cd, v_xx, v_hr, v_mh, v_pd, v_fr, v_pj, v_pn, v_ph, v_pm, v_wh, v_wm, v_co, v_bo, v_no, v_ch, v_ro, v_tr, v_us))), .int (nI (mo_ch (v_cd, v_xx, v_hr, v_mh, v_pd, v_fr, v_pj, v_pn, v_ph, v_pm, v_wh, v_wm, v_co, v_bo, v_no, v_ch, v_ro, v_tr, v_us))), .ref 50, .ref 51, .ref 52].set 20 (.int (zI g)))) = hm A S jo (v_cd, v_xx, v_hr, v_mh, v_pd, g, v_pj, v_pn, v_ph, v_pm, v_wh, v_wm, v_co, v_bo, v_no, v_ch, v_ro, v_tr, v_us) V := hm0_fr A S jo (v_cd, v_xx, v_hr, v_mh, v_pd, v_fr, v_pj, v_pn, v_ph, v_pm, v_wh, v_wm, v_co, v_bo, v_no, v_ch, v_ro, v_tr, v_us) V g
theorem hm0_pj (A : ma_T) (S : sh_T) (jo : Nat → Nat) (M : mo_T) (V : am_H) (g : Nat) : (hm A S jo M V).set 29 (.inr (5, [.int (nI (mo_cd M)), .int (nI (sh_mc S)), .ref 31, .ref 32, .ref 33, .ref 34, .int (nI (sh_jb S)), .ref 35, .ref 36, .ref 37, .ref 38, .int (nI (sh_ss S)), .ref 39, .ref 40, .ref 41, .ref 42, .long (mo_xx M), .ref 43, .ref 44, .int (zI (mo_pd M)), .int (zI (mo_fr M)), .int (nI (mo_pj M)), .ref 45, .ref 46, .ref 47, .ref 48, .ref 49, .long (lN (mo_co M)), .long (lN (mo_bo M)), .int (nI (mo_no M)), .int (nI (mo_ch M)), .ref 50, .ref 51, .ref 52].set 21 (.int (nI g)))) = (hm A S jo (mo_cd M, mo_xx M, mo_hr M, mo_mh M, mo_pd M, mo_fr M, g, mo_pn M, mo_ph M, mo_pm M, mo_wh M, mo_wm M, mo_co M, mo_bo M, mo_no M, mo_ch M, mo_ro M, mo_tr M, mo_us M) V) := rfl
theorem hm_pj {A : ma_T} {S : sh_T} {jo : Nat → Nat} {V : am_H} {v_cd : Nat} {v_xx : Int64} {v_hr : (Nat → Int32)} {v_mh : (Nat → Int32)} {v_pd : Bool} {v_fr : Bool} {v_pj : Nat} {v_pn : (Nat → Nat)} {v_ph : (Nat → Int32)} {v_pm : (Nat → Int32)} {v_wh : (Nat → Int32)} {v_wm : (Nat → Int32)} {v_co : Nat} {v_bo : Nat} {v_no : Nat} {v_ch : Nat} {v_ro : (Nat → Nat)} {v_tr : (Nat → Nat)} {v_us : (Nat → Bool)} (g : Nat) : (hm A S jo (v_cd, v_xx, v_hr, v_mh, v_pd, v_fr, v_pj, v_pn, v_ph, v_pm, v_wh, v_wm, v_co, v_bo, v_no, v_ch, v_ro, v_tr, v_us) V).set 29 (.inr (5, [.int (nI (mo_cd (v_cd, v_xx, v_hr, v_mh, v_pd, v_fr, v_pj, v_pn, v_ph, v_pm, v_wh, v_wm, v_co, v_bo, v_no, v_ch, v_ro, v_tr, v_us))), .int (nI (sh_mc S)), .ref 31, .ref 32, .ref 33, .ref 34, .int (nI (sh_jb S)), .ref 35, .ref 36, .ref 37, .ref 38, .int (nI (sh_ss S)), .ref 39, .ref 40, .ref 41, .ref 42, .long (mo_xx (v_cd, v_xx, v_hr, v_mh, v_pd, v_fr, v_pj, v_pn, v_ph, v_pm, v_wh, v_wm, v_co, v_bo, v_no, v_ch, v_ro, v_tr, v_us)), .ref 43, .ref 44, .int (zI (mo_pd (v_cd, v_xx, v_hr, v_mh, v_pd, v_fr, v_pj, v_pn, v_ph, v_pm, v_wh, v_wm, v_co, v_bo, v_no, v_ch, v_ro, v_tr, v_us))), .int (zI (mo_fr (v_cd, v_xx, v_hr, v_mh, v_pd, v_fr, v_pj, v_pn, v_ph, v_pm, v_wh, v_wm, v_co, v_bo, v_no, v_ch, v_ro, v_tr, v_us))), .int (nI (mo_pj (v_cd, v_xx, v_hr, v_mh, v_pd, v_fr, v_pj, v_pn, v_ph, v_pm, v_wh, v_wm, v_co, v_bo, v_no, v_ch, v_ro, v_tr, v_us))), .ref 45, .ref 46, .ref 47, .ref 48, .ref 49, .long (lN (mo_co (v_cd, v_xx, v_hr, v_mh, v_pd, v_fr, v_pj, v_pn, v_ph, v_pm, v_wh, v_wm, v_co, v_bo, v_no, v_ch, v_ro, v_tr, v_us))), .long (lN (mo_bo (v_cd, v_xx, v_hr, v_mh, v_pd, v_fr, v_pj, v_pn, v_ph, v_pm, v_wh, v_wm, v_co, v_bo, v_no, v_ch, v_ro, v_tr, v_us))), .int (nI (mo_no (v_cd, v_xx, v_hr, v_mh, v_pd, v_fr, v_pj, v_pn, v_ph, v_pm, v_wh, v_wm, v_co, v_bo, v_no, v_ch, v_ro, v_tr, v_us))), .int (nI (mo_ch (v_cd, v_xx, v_hr, v_mh, v_pd, v_fr, v_pj, v_pn, v_ph, v_pm, v_wh, v_wm, v_co, v_bo, v_no, v_ch, v_ro, v_tr, v_us))), .ref 50, .ref 51, .ref 52].set 21 (.int (nI g)))) = hm A S jo (v_cd, v_xx, v_hr, v_mh, v_pd, v_fr, g, v_pn, v_ph, v_pm, v_wh, v_wm, v_co, v_bo, v_no, v_ch, v_ro, v_tr, v_us) V := hm0_pj A S jo (v_cd, v_xx, v_hr, v_mh, v_pd, v_fr, v_pj, v_pn, v_ph, v_pm, v_wh, v_wm, v_co, v_bo, v_no, v_ch, v_ro, v_tr, v_us) V g
theorem hm0_co (A : ma_T) (S : sh_T) (jo : Nat → Nat) (M : mo_T) (V : am_H) (g : Nat) : (hm A S jo M V).set 29 (.inr (5, [.int (nI (mo_cd M)), .int (nI (sh_mc S)), .ref 31, .ref 32, .ref 33, .ref 34, .int (nI (sh_jb S)), .ref 35, .ref 36, .ref 37, .ref 38, .int (nI (sh_ss S)), .ref 39, .ref 40, .ref 41, .ref 42, .long (mo_xx M), .ref 43, .ref 44, .int (zI (mo_pd M)), .int (zI (mo_fr M)), .int (nI (mo_pj M)), .ref 45, .ref 46, .ref 47, .ref 48, .ref 49, .long (lN (mo_co M)), .long (lN (mo_bo M)), .int (nI (mo_no M)), .int (nI (mo_ch M)), .ref 50, .ref 51, .ref 52].set 27 (.long (lN g)))) = (hm A S jo (mo_cd M, mo_xx M, mo_hr M, mo_mh M, mo_pd M, mo_fr M, mo_pj M, mo_pn M, mo_ph M, mo_pm M, mo_wh M, mo_wm M, g, mo_bo M, mo_no M, mo_ch M, mo_ro M, mo_tr M, mo_us M) V) := rfl
theorem hm_co {A : ma_T} {S : sh_T} {jo : Nat → Nat} {V : am_H} {v_cd : Nat} {v_xx : Int64} {v_hr : (Nat → Int32)} {v_mh : (Nat → Int32)} {v_pd : Bool} {v_fr : Bool} {v_pj : Nat} {v_pn : (Nat → Nat)} {v_ph : (Nat → Int32)} {v_pm : (Nat → Int32)} {v_wh : (Nat → Int32)} {v_wm : (Nat → Int32)} {v_co : Nat} {v_bo : Nat} {v_no : Nat} {v_ch : Nat} {v_ro : (Nat → Nat)} {v_tr : (Nat → Nat)} {v_us : (Nat → Bool)} (g : Nat) : (hm A S jo (v_cd, v_xx, v_hr, v_mh, v_pd, v_fr, v_pj, v_pn, v_ph, v_pm, v_wh, v_wm, v_co, v_bo, v_no, v_ch, v_ro, v_tr, v_us) V).set 29 (.inr (5, [.int (nI (mo_cd (v_cd, v_xx, v_hr, v_mh, v_pd, v_fr, v_pj, v_pn, v_ph, v_pm, v_wh, v_wm, v_co, v_bo, v_no, v_ch, v_ro, v_tr, v_us))), .int (nI (sh_mc S)), .ref 31, .ref 32, .ref 33, .ref 34, .int (nI (sh_jb S)), .ref 35, .ref 36, .ref 37, .ref 38, .int (nI (sh_ss S)), .ref 39, .ref 40, .ref 41, .ref 42, .long (mo_xx (v_cd, v_xx, v_hr, v_mh, v_pd, v_fr, v_pj, v_pn, v_ph, v_pm, v_wh, v_wm, v_co, v_bo, v_no, v_ch, v_ro, v_tr, v_us)), .ref 43, .ref 44, .int (zI (mo_pd (v_cd, v_xx, v_hr, v_mh, v_pd, v_fr, v_pj, v_pn, v_ph, v_pm, v_wh, v_wm, v_co, v_bo, v_no, v_ch, v_ro, v_tr, v_us))), .int (zI (mo_fr (v_cd, v_xx, v_hr, v_mh, v_pd, v_fr, v_pj, v_pn, v_ph, v_pm, v_wh, v_wm, v_co, v_bo, v_no, v_ch, v_ro, v_tr, v_us))), .int (nI (mo_pj (v_cd, v_xx, v_hr, v_mh, v_pd, v_fr, v_pj, v_pn, v_ph, v_pm, v_wh, v_wm, v_co, v_bo, v_no, v_ch, v_ro, v_tr, v_us))), .ref 45, .ref 46, .ref 47, .ref 48, .ref 49, .long (lN (mo_co (v_cd, v_xx, v_hr, v_mh, v_pd, v_fr, v_pj, v_pn, v_ph, v_pm, v_wh, v_wm, v_co, v_bo, v_no, v_ch, v_ro, v_tr, v_us))), .long (lN (mo_bo (v_cd, v_xx, v_hr, v_mh, v_pd, v_fr, v_pj, v_pn, v_ph, v_pm, v_wh, v_wm, v_co, v_bo, v_no, v_ch, v_ro, v_tr, v_us))), .int (nI (mo_no (v_cd, v_xx, v_hr, v_mh, v_pd, v_fr, v_pj, v_pn, v_ph, v_pm, v_wh, v_wm, v_co, v_bo, v_no, v_ch, v_ro, v_tr, v_us))), .int (nI (mo_ch (v_cd, v_xx, v_hr, v_mh, v_pd, v_fr, v_pj, v_pn, v_ph, v_pm, v_wh, v_wm, v_co, v_bo, v_no, v_ch, v_ro, v_tr, v_us))), .ref 50, .ref 51, .ref 52].set 27 (.long (lN g)))) = hm A S jo (v_cd, v_xx, v_hr, v_mh, v_pd, v_fr, v_pj, v_pn, v_ph, v_pm, v_wh, v_wm, g, v_bo, v_no, v_ch, v_ro, v_tr, v_us) V := hm0_co A S jo (v_cd, v_xx, v_hr, v_mh, v_pd, v_fr, v_pj, v_pn, v_ph, v_pm, v_wh, v_wm, v_co, v_bo, v_no, v_ch, v_ro, v_tr, v_us) V g
theorem hm0_bo (A : ma_T) (S : sh_T) (jo : Nat → Nat) (M : mo_T) (V : am_H) (g : Nat) : (hm A S jo M V).set 29 (.inr (5, [.int (nI (mo_cd M)), .int (nI (sh_mc S)), .ref 31, .ref 32, .ref 33, .ref 34, .int (nI (sh_jb S)), .ref 35, .ref 36, .ref 37, .ref 38, .int (nI (sh_ss S)), .ref 39, .ref 40, .ref 41, .ref 42, .long (mo_xx M), .ref 43, .ref 44, .int (zI (mo_pd M)), .int (zI (mo_fr M)), .int (nI (mo_pj M)), .ref 45, .ref 46, .ref 47, .ref 48, .ref 49, .long (lN (mo_co M)), .long (lN (mo_bo M)), .int (nI (mo_no M)), .int (nI (mo_ch M)), .ref 50, .ref 51, .ref 52].set 28 (.long (lN g)))) = (hm A S jo (mo_cd M, mo_xx M, mo_hr M, mo_mh M, mo_pd M, mo_fr M, mo_pj M, mo_pn M, mo_ph M, mo_pm M, mo_wh M, mo_wm M, mo_co M, g, mo_no M, mo_ch M, mo_ro M, mo_tr M, mo_us M) V) := rfl
theorem hm_bo {A : ma_T} {S : sh_T} {jo : Nat → Nat} {V : am_H} {v_cd : Nat} {v_xx : Int64} {v_hr : (Nat → Int32)} {v_mh : (Nat → Int32)} {v_pd : Bool} {v_fr : Bool} {v_pj : Nat} {v_pn : (Nat → Nat)} {v_ph : (Nat → Int32)} {v_pm : (Nat → Int32)} {v_wh : (Nat → Int32)} {v_wm : (Nat → Int32)} {v_co : Nat} {v_bo : Nat} {v_no : Nat} {v_ch : Nat} {v_ro : (Nat → Nat)} {v_tr : (Nat → Nat)} {v_us : (Nat → Bool)} (g : Nat) : (hm A S jo (v_cd, v_xx, v_hr, v_mh, v_pd, v_fr, v_pj, v_pn, v_ph, v_pm, v_wh, v_wm, v_co, v_bo, v_no, v_ch, v_ro, v_tr, v_us) V).set 29 (.inr (5, [.int (nI (mo_cd (v_cd, v_xx, v_hr, v_mh, v_pd, v_fr, v_pj, v_pn, v_ph, v_pm, v_wh, v_wm, v_co, v_bo, v_no, v_ch, v_ro, v_tr, v_us))), .int (nI (sh_mc S)), .ref 31, .ref 32, .ref 33, .ref 34, .int (nI (sh_jb S)), .ref 35, .ref 36, .ref 37, .ref 38, .int (nI (sh_ss S)), .ref 39, .ref 40, .ref 41, .ref 42, .long (mo_xx (v_cd, v_xx, v_hr, v_mh, v_pd, v_fr, v_pj, v_pn, v_ph, v_pm, v_wh, v_wm, v_co, v_bo, v_no, v_ch, v_ro, v_tr, v_us)), .ref 43, .ref 44, .int (zI (mo_pd (v_cd, v_xx, v_hr, v_mh, v_pd, v_fr, v_pj, v_pn, v_ph, v_pm, v_wh, v_wm, v_co, v_bo, v_no, v_ch, v_ro, v_tr, v_us))), .int (zI (mo_fr (v_cd, v_xx, v_hr, v_mh, v_pd, v_fr, v_pj, v_pn, v_ph, v_pm, v_wh, v_wm, v_co, v_bo, v_no, v_ch, v_ro, v_tr, v_us))), .int (nI (mo_pj (v_cd, v_xx, v_hr, v_mh, v_pd, v_fr, v_pj, v_pn, v_ph, v_pm, v_wh, v_wm, v_co, v_bo, v_no, v_ch, v_ro, v_tr, v_us))), .ref 45, .ref 46, .ref 47, .ref 48, .ref 49, .long (lN (mo_co (v_cd, v_xx, v_hr, v_mh, v_pd, v_fr, v_pj, v_pn, v_ph, v_pm, v_wh, v_wm, v_co, v_bo, v_no, v_ch, v_ro, v_tr, v_us))), .long (lN (mo_bo (v_cd, v_xx, v_hr, v_mh, v_pd, v_fr, v_pj, v_pn, v_ph, v_pm, v_wh, v_wm, v_co, v_bo, v_no, v_ch, v_ro, v_tr, v_us))), .int (nI (mo_no (v_cd, v_xx, v_hr, v_mh, v_pd, v_fr, v_pj, v_pn, v_ph, v_pm, v_wh, v_wm, v_co, v_bo, v_no, v_ch, v_ro, v_tr, v_us))), .int (nI (mo_ch (v_cd, v_xx, v_hr, v_mh, v_pd, v_fr, v_pj, v_pn, v_ph, v_pm, v_wh, v_wm, v_co, v_bo, v_no, v_ch, v_ro, v_tr, v_us))), .ref 50, .ref 51, .ref 52].set 28 (.long (lN g)))) = hm A S jo (v_cd, v_xx, v_hr, v_mh, v_pd, v_fr, v_pj, v_pn, v_ph, v_pm, v_wh, v_wm, v_co, g, v_no, v_ch, v_ro, v_tr, v_us) V := hm0_bo A S jo (v_cd, v_xx, v_hr, v_mh, v_pd, v_fr, v_pj, v_pn, v_ph, v_pm, v_wh, v_wm, v_co, v_bo, v_no, v_ch, v_ro, v_tr, v_us) V g
theorem hm0_no (A : ma_T) (S : sh_T) (jo : Nat → Nat) (M : mo_T) (V : am_H) (g : Nat) : (hm A S jo M V).set 29 (.inr (5, [.int (nI (mo_cd M)), .int (nI (sh_mc S)), .ref 31, .ref 32, .ref 33, .ref 34, .int (nI (sh_jb S)), .ref 35, .ref 36, .ref 37, .ref 38, .int (nI (sh_ss S)), .ref 39, .ref 40, .ref 41, .ref 42, .long (mo_xx M), .ref 43, .ref 44, .int (zI (mo_pd M)), .int (zI (mo_fr M)), .int (nI (mo_pj M)), .ref 45, .ref 46, .ref 47, .ref 48, .ref 49, .long (lN (mo_co M)), .long (lN (mo_bo M)), .int (nI (mo_no M)), .int (nI (mo_ch M)), .ref 50, .ref 51, .ref 52].set 29 (.int (nI g)))) = (hm A S jo (mo_cd M, mo_xx M, mo_hr M, mo_mh M, mo_pd M, mo_fr M, mo_pj M, mo_pn M, mo_ph M, mo_pm M, mo_wh M, mo_wm M, mo_co M, mo_bo M, g, mo_ch M, mo_ro M, mo_tr M, mo_us M) V) := rfl
theorem hm_no {A : ma_T} {S : sh_T} {jo : Nat → Nat} {V : am_H} {v_cd : Nat} {v_xx : Int64} {v_hr : (Nat → Int32)} {v_mh : (Nat → Int32)} {v_pd : Bool} {v_fr : Bool} {v_pj : Nat} {v_pn : (Nat → Nat)} {v_ph : (Nat → Int32)} {v_pm : (Nat → Int32)} {v_wh : (Nat → Int32)} {v_wm : (Nat → Int32)} {v_co : Nat} {v_bo : Nat} {v_no : Nat} {v_ch : Nat} {v_ro : (Nat → Nat)} {v_tr : (Nat → Nat)} {v_us : (Nat → Bool)} (g : Nat) : (hm A S jo (v_cd, v_xx, v_hr, v_mh, v_pd, v_fr, v_pj, v_pn, v_ph, v_pm, v_wh, v_wm, v_co, v_bo, v_no, v_ch, v_ro, v_tr, v_us) V).set 29 (.inr (5, [.int (nI (mo_cd (v_cd, v_xx, v_hr, v_mh, v_pd, v_fr, v_pj, v_pn, v_ph, v_pm, v_wh, v_wm, v_co, v_bo, v_no, v_ch, v_ro, v_tr, v_us))), .int (nI (sh_mc S)), .ref 31, .ref 32, .ref 33, .ref 34, .int (nI (sh_jb S)), .ref 35, .ref 36, .ref 37, .ref 38, .int (nI (sh_ss S)), .ref 39, .ref 40, .ref 41, .ref 42, .long (mo_xx (v_cd, v_xx, v_hr, v_mh, v_pd, v_fr, v_pj, v_pn, v_ph, v_pm, v_wh, v_wm, v_co, v_bo, v_no, v_ch, v_ro, v_tr, v_us)), .ref 43, .ref 44, .int (zI (mo_pd (v_cd, v_xx, v_hr, v_mh, v_pd, v_fr, v_pj, v_pn, v_ph, v_pm, v_wh, v_wm, v_co, v_bo, v_no, v_ch, v_ro, v_tr, v_us))), .int (zI (mo_fr (v_cd, v_xx, v_hr, v_mh, v_pd, v_fr, v_pj, v_pn, v_ph, v_pm, v_wh, v_wm, v_co, v_bo, v_no, v_ch, v_ro, v_tr, v_us))), .int (nI (mo_pj (v_cd, v_xx, v_hr, v_mh, v_pd, v_fr, v_pj, v_pn, v_ph, v_pm, v_wh, v_wm, v_co, v_bo, v_no, v_ch, v_ro, v_tr, v_us))), .ref 45, .ref 46, .ref 47, .ref 48, .ref 49, .long (lN (mo_co (v_cd, v_xx, v_hr, v_mh, v_pd, v_fr, v_pj, v_pn, v_ph, v_pm, v_wh, v_wm, v_co, v_bo, v_no, v_ch, v_ro, v_tr, v_us))), .long (lN (mo_bo (v_cd, v_xx, v_hr, v_mh, v_pd, v_fr, v_pj, v_pn, v_ph, v_pm, v_wh, v_wm, v_co, v_bo, v_no, v_ch, v_ro, v_tr, v_us))), .int (nI (mo_no (v_cd, v_xx, v_hr, v_mh, v_pd, v_fr, v_pj, v_pn, v_ph, v_pm, v_wh, v_wm, v_co, v_bo, v_no, v_ch, v_ro, v_tr, v_us))), .int (nI (mo_ch (v_cd, v_xx, v_hr, v_mh, v_pd, v_fr, v_pj, v_pn, v_ph, v_pm, v_wh, v_wm, v_co, v_bo, v_no, v_ch, v_ro, v_tr, v_us))), .ref 50, .ref 51, .ref 52].set 29 (.int (nI g)))) = hm A S jo (v_cd, v_xx, v_hr, v_mh, v_pd, v_fr, v_pj, v_pn, v_ph, v_pm, v_wh, v_wm, v_co, v_bo, g, v_ch, v_ro, v_tr, v_us) V := hm0_no A S jo (v_cd, v_xx, v_hr, v_mh, v_pd, v_fr, v_pj, v_pn, v_ph, v_pm, v_wh, v_wm, v_co, v_bo, v_no, v_ch, v_ro, v_tr, v_us) V g
theorem hm0_ch (A : ma_T) (S : sh_T) (jo : Nat → Nat) (M : mo_T) (V : am_H) (g : Nat) : (hm A S jo M V).set 29 (.inr (5, [.int (nI (mo_cd M)), .int (nI (sh_mc S)), .ref 31, .ref 32, .ref 33, .ref 34, .int (nI (sh_jb S)), .ref 35, .ref 36, .ref 37, .ref 38, .int (nI (sh_ss S)), .ref 39, .ref 40, .ref 41, .ref 42, .long (mo_xx M), .ref 43, .ref 44, .int (zI (mo_pd M)), .int (zI (mo_fr M)), .int (nI (mo_pj M)), .ref 45, .ref 46, .ref 47, .ref 48, .ref 49, .long (lN (mo_co M)), .long (lN (mo_bo M)), .int (nI (mo_no M)), .int (nI (mo_ch M)), .ref 50, .ref 51, .ref 52].set 30 (.int (nI g)))) = (hm A S jo (mo_cd M, mo_xx M, mo_hr M, mo_mh M, mo_pd M, mo_fr M, mo_pj M, mo_pn M, mo_ph M, mo_pm M, mo_wh M, mo_wm M, mo_co M, mo_bo M, mo_no M, g, mo_ro M, mo_tr M, mo_us M) V) := rfl
theorem hm_ch {A : ma_T} {S : sh_T} {jo : Nat → Nat} {V : am_H} {v_cd : Nat} {v_xx : Int64} {v_hr : (Nat → Int32)} {v_mh : (Nat → Int32)} {v_pd : Bool} {v_fr : Bool} {v_pj : Nat} {v_pn : (Nat → Nat)} {v_ph : (Nat → Int32)} {v_pm : (Nat → Int32)} {v_wh : (Nat → Int32)} {v_wm : (Nat → Int32)} {v_co : Nat} {v_bo : Nat} {v_no : Nat} {v_ch : Nat} {v_ro : (Nat → Nat)} {v_tr : (Nat → Nat)} {v_us : (Nat → Bool)} (g : Nat) : (hm A S jo (v_cd, v_xx, v_hr, v_mh, v_pd, v_fr, v_pj, v_pn, v_ph, v_pm, v_wh, v_wm, v_co, v_bo, v_no, v_ch, v_ro, v_tr, v_us) V).set 29 (.inr (5, [.int (nI (mo_cd (v_cd, v_xx, v_hr, v_mh, v_pd, v_fr, v_pj, v_pn, v_ph, v_pm, v_wh, v_wm, v_co, v_bo, v_no, v_ch, v_ro, v_tr, v_us))), .int (nI (sh_mc S)), .ref 31, .ref 32, .ref 33, .ref 34, .int (nI (sh_jb S)), .ref 35, .ref 36, .ref 37, .ref 38, .int (nI (sh_ss S)), .ref 39, .ref 40, .ref 41, .ref 42, .long (mo_xx (v_cd, v_xx, v_hr, v_mh, v_pd, v_fr, v_pj, v_pn, v_ph, v_pm, v_wh, v_wm, v_co, v_bo, v_no, v_ch, v_ro, v_tr, v_us)), .ref 43, .ref 44, .int (zI (mo_pd (v_cd, v_xx, v_hr, v_mh, v_pd, v_fr, v_pj, v_pn, v_ph, v_pm, v_wh, v_wm, v_co, v_bo, v_no, v_ch, v_ro, v_tr, v_us))), .int (zI (mo_fr (v_cd, v_xx, v_hr, v_mh, v_pd, v_fr, v_pj, v_pn, v_ph, v_pm, v_wh, v_wm, v_co, v_bo, v_no, v_ch, v_ro, v_tr, v_us))), .int (nI (mo_pj (v_cd, v_xx, v_hr, v_mh, v_pd, v_fr, v_pj, v_pn, v_ph, v_pm, v_wh, v_wm, v_co, v_bo, v_no, v_ch, v_ro, v_tr, v_us))), .ref 45, .ref 46, .ref 47, .ref 48, .ref 49, .long (lN (mo_co (v_cd, v_xx, v_hr, v_mh, v_pd, v_fr, v_pj, v_pn, v_ph, v_pm, v_wh, v_wm, v_co, v_bo, v_no, v_ch, v_ro, v_tr, v_us))), .long (lN (mo_bo (v_cd, v_xx, v_hr, v_mh, v_pd, v_fr, v_pj, v_pn, v_ph, v_pm, v_wh, v_wm, v_co, v_bo, v_no, v_ch, v_ro, v_tr, v_us))), .int (nI (mo_no (v_cd, v_xx, v_hr, v_mh, v_pd, v_fr, v_pj, v_pn, v_ph, v_pm, v_wh, v_wm, v_co, v_bo, v_no, v_ch, v_ro, v_tr, v_us))), .int (nI (mo_ch (v_cd, v_xx, v_hr, v_mh, v_pd, v_fr, v_pj, v_pn, v_ph, v_pm, v_wh, v_wm, v_co, v_bo, v_no, v_ch, v_ro, v_tr, v_us))), .ref 50, .ref 51, .ref 52].set 30 (.int (nI g)))) = hm A S jo (v_cd, v_xx, v_hr, v_mh, v_pd, v_fr, v_pj, v_pn, v_ph, v_pm, v_wh, v_wm, v_co, v_bo, v_no, g, v_ro, v_tr, v_us) V := hm0_ch A S jo (v_cd, v_xx, v_hr, v_mh, v_pd, v_fr, v_pj, v_pn, v_ph, v_pm, v_wh, v_wm, v_co, v_bo, v_no, v_ch, v_ro, v_tr, v_us) V g
/-- the model's search beside the object's, at place p -/
def sr_M (S : sh_T) (R : se_T) (p : Nat) (pn ro : Nat → Nat) (us : Nat → Bool) : Prop := (∀ k, k < sh_jb S → pn k = se_bs R k) ∧ (∀ k, k < p → ro k = se_be R k) ∧ (∀ j, j < sh_jb S → us j = se_ib R j)
theorem sr_no {R : se_T} {p j : Nat} {S : sh_T} {pn ro : Nat → Nat} {us : Nat → Bool} (h : sr_M S R p pn ro us) : ∀ k, k < p + 1 → nu ro p j k = nu (se_be R) p j k := by
  intro k hk
  by_cases e : k = p
  · subst e; rw [nu_eq, nu_eq]
  · rw [nu_ne _ _ e, nu_ne _ _ e]; exact h.2.1 k (by omega)
theorem sr_zu {n j : Nat} {b : Bool} {us ib : Nat → Bool} (h : ∀ i, i < n → us i = ib i) : ∀ i, i < n → zu us j b i = zu ib j b i := by
  intro i hi
  by_cases e : i = j
  · subst e; rw [zu_eq, zu_eq]
  · rw [zu_ne _ _ e, zu_ne _ _ e]; exact h i hi
theorem se_ij_cg {f g : Nat → Nat} {n : Nat} (e : ∀ k, k < n → f k = g k) (h : se_ij g n) : se_ij f n := by
  intro a b h1 h2
  rw [e a (by omega), e b h2]
  exact h a b h1 h2
set_option maxRecDepth 20000 in
set_option maxHeartbeats 1000000 in
theorem c_M_search_k {Q : am_O → am_H → Prop} (hS : sh_ok S) (hsk : sh_k S jo) (hall : ∀ j, j < sh_jb S → sp_fits S j = true) (f : se_T → Bool × se_T) (d bc bs n p : Nat) (t0 : Nat → Nat) (hp : p < sh_jb S)
    (hfp : p + 1 < sh_jb S → ∀ Q, se_ok S Q → se_px S Q (p + 1) → se_ok S (f Q).2 ∧ se_sm (p + 1) Q (f Q).2)
    (hde : p + 1 < sh_jb S → ∀ (t0 : Nat → Nat) (R : se_T) (H1 H2 : Nat → Int32) (pn ro tr : Nat → Nat) (us : Nat → Bool), se_ok S R → se_px S R (p + 1) → se_ij (se_be R) (p + 1) → se_li R = n → sr_M S R (p + 1) pn ro us → tr (p + 1) = 0 → (∀ q, q < (p + 1) → tr q = t0 q) → ((f R).1 = true → ∀ (H1 H2 : Nat → Int32) (pn ro tr : Nat → Nat) (us : Nat → Bool), sr_M S (f R).2 (p + 1) pn ro us → tr (p + 1) = sh_jb S → (∀ q, q < (p + 1) → tr q = t0 q) → am_W G m_M_search (d + 5) bc bs Q 58 [(0, .ref 30), (1, .int (nI n)), (2, .long (lN (se_co (f R).2))), (4, .int (nI (p + 1)))] [] (hm A S jo (mo_cd M, mo_xx M, H1, H2, mo_pd M, mo_fr M, mo_pj M, pn, mo_ph M, mo_pm M, mo_wh M, mo_wm M, mo_co M, mo_bo M, (se_no (f R).2), mo_ch M, ro, tr, us) V)) → ((f R).1 = false → ∀ (H1 H2 : Nat → Int32) (pn ro tr : Nat → Nat) (us : Nat → Bool), (∀ kk, kk < sh_jb S → pn kk = se_bs (f R).2 kk) → Q (.inl (some (.int (nI 1)))) (hm A S jo (mo_cd M, mo_xx M, H1, H2, mo_pd M, mo_fr M, mo_pj M, pn, mo_ph M, mo_pm M, mo_wh M, mo_wm M, mo_co M, mo_bo M, (se_no (f R).2), mo_ch M, ro, tr, us) V)) → am_W G m_M_search (d + 5) bc bs Q 58 [(0, .ref 30), (1, .int (nI n)), (2, .long (lN (se_co R))), (4, .int (nI (p + 1)))] [] (hm A S jo (mo_cd M, mo_xx M, H1, H2, mo_pd M, mo_fr M, mo_pj M, pn, mo_ph M, mo_pm M, mo_wh M, mo_wm M, mo_co M, mo_bo M, (se_no R), mo_ch M, ro, tr, us) V)) : ∀ k j, j + k = sh_jb S → ∀ (R : se_T) (H1 H2 : Nat → Int32) (pn ro tr : Nat → Nat) (us : Nat → Bool), se_ok S R → se_px S R p → se_ij (se_be R) p → se_li R = n → sr_M S R p pn ro us → tr p = j → (∀ q, q < p → tr q = t0 q) → ((se_lp S f p k j R).1 = true → ∀ (H1 H2 : Nat → Int32) (pn ro tr : Nat → Nat) (us : Nat → Bool), sr_M S (se_lp S f p k j R).2 p pn ro us → tr p = sh_jb S → (∀ q, q < p → tr q = t0 q) → am_W G m_M_search (d + 5) bc bs Q 58 [(0, .ref 30), (1, .int (nI n)), (2, .long (lN (se_co (se_lp S f p k j R).2))), (4, .int (nI p))] [] (hm A S jo (mo_cd M, mo_xx M, H1, H2, mo_pd M, mo_fr M, mo_pj M, pn, mo_ph M, mo_pm M, mo_wh M, mo_wm M, mo_co M, mo_bo M, (se_no (se_lp S f p k j R).2), mo_ch M, ro, tr, us) V)) → ((se_lp S f p k j R).1 = false → ∀ (H1 H2 : Nat → Int32) (pn ro tr : Nat → Nat) (us : Nat → Bool), (∀ kk, kk < sh_jb S → pn kk = se_bs (se_lp S f p k j R).2 kk) → Q (.inl (some (.int (nI 1)))) (hm A S jo (mo_cd M, mo_xx M, H1, H2, mo_pd M, mo_fr M, mo_pj M, pn, mo_ph M, mo_pm M, mo_wh M, mo_wm M, mo_co M, mo_bo M, (se_no (se_lp S f p k j R).2), mo_ch M, ro, tr, us) V)) → am_W G m_M_search (d + 5) bc bs Q 58 [(0, .ref 30), (1, .int (nI n)), (2, .long (lN (se_co R))), (4, .int (nI p))] [] (hm A S jo (mo_cd M, mo_xx M, H1, H2, mo_pd M, mo_fr M, mo_pj M, pn, mo_ph M, mo_pm M, mo_wh M, mo_wm M, mo_co M, mo_bo M, (se_no R), mo_ch M, ro, tr, us) V) := by
  intro k
  have s2 := hS.2.1
  induction k with
  | zero =>
    intro j hj R H1 H2 pn ro tr us hok hpx hij hli hsr htr ht0 K1 K2
    exact K1 rfl H1 H2 pn ro tr us hsr (by rw [htr]; omega) ht0
  | succ k ih =>
    intro j hj R H1 H2 pn ro tr us hok hpx hij hli hsr htr ht0 K1 K2
    obtain ⟨hs1, hs2, hs3⟩ := id hsr
    obtain ⟨r1, r2, r3, r4, r5, r6⟩ := id hok
    have hjb : j < sh_jb S := by omega
    have husj := hs3 j hjb
    refine am_iload d_M_search_58 rfl ?_
    refine am_if_lt (tgt := 258) d_M_search_60 (by decide) (fun c60 => ?_) (fun c60 => ?_)
    · exact absurd c60 (nI_pos (by omega))
    · refine am_aload_n d_M_search_63 rfl rfl ?_
      refine am_get F_M 32 (by decide) d_M_search_64 w_682 rfl rfl ?_
      refine am_iload d_M_search_67 rfl ?_
      refine am_ialdA d_M_search_69 rfl (by omega) (by decide) ?_
      refine am_sv (v2 := .int (nI j)) (congrArg (fun z => Value.int (nI z)) htr) ?_
      refine am_istore d_M_search_70 (by decide) ?_
      refine am_iload d_M_search_72 rfl ?_
      refine am_aload_n d_M_search_74 rfl rfl ?_
      refine am_get F_M 6 (by decide) d_M_search_75 w_656 rfl rfl ?_
      refine am_icmpN_ne (tgt := 116) d_M_search_78 (by decide) (by omega) (by omega) (fun c78 => ?_) (fun c78 => ?_)
      · refine am_aload_n d_M_search_116 rfl rfl ?_
        refine am_get F_M 33 (by decide) d_M_search_117 w_683 rfl rfl ?_
        refine am_iload d_M_search_120 rfl ?_
        refine am_zaldA d_M_search_122 rfl (by omega) (by decide) ?_
        refine am_sv (v2 := .int (zI (se_ib R j))) (congrArg (fun z => Value.int (zI z)) husj) ?_
        refine am_ifZ_eq (tgt := 140) d_M_search_123 (by decide) (fun c123 => ?_) (fun c123 => ?_)
        · refine am_aload_n d_M_search_140 rfl rfl ?_
          refine am_get F_M 29 (by decide) d_M_search_141 w_679 rfl rfl ?_
          refine am_sv (v2 := .int (nI (se_no R))) rfl ?_
          refine am_iload_n d_M_search_144 rfl rfl ?_
          refine am_icmpN_ne (tgt := 150) d_M_search_145 (by decide) (by omega) (by omega) (fun c145 => ?_) (fun c145 => ?_)
          · have hl : ¬ se_li R ≤ se_no R := by omega
            have e0 : se_be (se_nd R p j) p = j := nu_eq _ _ _
            have hf1 : se_co R ≤ (sp_co S (nu (se_be R) p j) (p + 1) + sp_rs S (zu (se_ib R) j true) (sh_jb S)) → (se_fo S f p (se_nd R p j)) = (true, (se_nd R p j)) := fun h => se_fo_1 (by rw [e0]; exact h)
            have hf2 : ¬ se_co R ≤ (sp_co S (nu (se_be R) p j) (p + 1) + sp_rs S (zu (se_ib R) j true) (sh_jb S)) → sh_jb S ≤ p + 1 → (se_fo S f p (se_nd R p j)) = (true, (sp_co S (nu (se_be R) p j) (p + 1), se_li R, se_bo R, se_no R + 1, se_al R, nu (se_be R) p j, se_ib R, va_cpy (nu (se_be R) p j) (se_bs R) 0 0 6)) := fun h h2 => se_fo_2 (by rw [e0]; exact h) h2
            have hf3 : ¬ se_co R ≤ (sp_co S (nu (se_be R) p j) (p + 1) + sp_rs S (zu (se_ib R) j true) (sh_jb S)) → ¬ sh_jb S ≤ p + 1 → (se_fo S f p (se_nd R p j)) = ((f (se_co R, se_li R, se_bo R, se_no R + 1, se_al R, nu (se_be R) p j, zu (se_ib R) j true, se_bs R)).1, (se_co (f (se_co R, se_li R, se_bo R, se_no R + 1, se_al R, nu (se_be R) p j, zu (se_ib R) j true, se_bs R)).2, se_li (f (se_co R, se_li R, se_bo R, se_no R + 1, se_al R, nu (se_be R) p j, zu (se_ib R) j true, se_bs R)).2, se_bo (f (se_co R, se_li R, se_bo R, se_no R + 1, se_al R, nu (se_be R) p j, zu (se_ib R) j true, se_bs R)).2, se_no (f (se_co R, se_li R, se_bo R, se_no R + 1, se_al R, nu (se_be R) p j, zu (se_ib R) j true, se_bs R)).2, se_al (f (se_co R, se_li R, se_bo R, se_no R + 1, se_al R, nu (se_be R) p j, zu (se_ib R) j true, se_bs R)).2, se_be (f (se_co R, se_li R, se_bo R, se_no R + 1, se_al R, nu (se_be R) p j, zu (se_ib R) j true, se_bs R)).2, zu (se_ib (f (se_co R, se_li R, se_bo R, se_no R + 1, se_al R, nu (se_be R) p j, zu (se_ib R) j true, se_bs R)).2) j false, se_bs (f (se_co R, se_li R, se_bo R, se_no R + 1, se_al R, nu (se_be R) p j, zu (se_ib R) j true, se_bs R)).2)) := fun h h2 => by
              have := se_fo_3 (f := f) (R := (se_nd R p j)) (p := p) (S := S) (by rw [e0]; exact h) h2
              rw [e0] at this
              exact this
            have hih : (se_fo S f p (se_nd R p j)).1 = true → ∀ (H1 H2 : Nat → Int32) (pn ro tr : Nat → Nat) (us : Nat → Bool), sr_M S (se_fo S f p (se_nd R p j)).2 p pn ro us → tr p = j + 1 → (∀ q, q < p → tr q = t0 q) → am_W G m_M_search (d + 5) bc bs Q 58 [(0, .ref 30), (1, .int (nI n)), (2, .long (lN (se_co (se_fo S f p (se_nd R p j)).2))), (4, .int (nI p))] [] (hm A S jo (mo_cd M, mo_xx M, H1, H2, mo_pd M, mo_fr M, mo_pj M, pn, mo_ph M, mo_pm M, mo_wh M, mo_wm M, mo_co M, mo_bo M, (se_no (se_fo S f p (se_nd R p j)).2), mo_ch M, ro, tr, us) V) := by
              intro h1 H1 H2 pn ro tr us z3 z4 z5
              have hlo := se_lp_ok (f := f) (p := p) hS hall (by omega) hfp 1 j R (by omega) hok hpx
              rw [se_lp_3 c123 hl h1] at hlo
              obtain ⟨z1, z2⟩ : se_ok S (se_fo S f p (se_nd R p j)).2 ∧ se_sm p R (se_fo S f p (se_nd R p j)).2 := hlo
              rw [se_lp_3 c123 hl h1] at K1 K2
              exact ih (j + 1) (by omega) _ H1 H2 pn ro tr us z1 (se_px_sm hpx z2) (se_ij_cg z2.2.2.2.2 hij) (z2.1.trans hli) z3 z4 z5 K1 K2
            have hok1 : se_ok S (se_co R, se_li R, se_bo R, se_no R + 1, se_al R, nu (se_be R) p j, zu (se_ib R) j true, se_bs R) := ⟨r1, by show se_no R + 1 ≤ se_li R; omega, r3, r4, fun i => by show nu _ _ _ i < 6; unfold nu; split; omega; exact r5 i, r6⟩
            have hpx1 : se_px S (se_co R, se_li R, se_bo R, se_no R + 1, se_al R, nu (se_be R) p j, zu (se_ib R) j true, se_bs R) (p + 1) := by
              have := se_px_up hpx hjb c123
              rw [e0] at this
              exact this
            have hij1 := se_ij_up hpx hij c123
            have hnn := sr_no (j := j) hsr
            have hijr : se_ij (nu ro p j) (p + 1) := se_ij_cg hnn hij1
            have hg0 : ∀ k, k < p + 1 → nu (se_be R) p j k < sh_jb S := fun k hk => (hpx1.1 k hk).1
            have hg : ∀ k, k < p + 1 → nu ro p j k < sh_jb S ∧ sp_fits S (nu ro p j k) = true := fun k hk => by rw [hnn k hk]; exact ⟨hg0 k hk, hall _ (hg0 k hk)⟩
            have hu : ∀ i, i < sh_jb S → (zu (se_ib R) j true i = true ↔ ∃ k, k < p + 1 ∧ nu ro p j k = i) := fun i hi => by
              constructor
              · intro h
                obtain ⟨k, h1, h2⟩ := hpx1.2.2 i hi h
                exact ⟨k, h1, (hnn k h1).trans h2⟩
              · rintro ⟨k, h1, h2⟩
                rw [← h2, hnn k h1]
                exact (hpx1.1 k h1).2
            have hcb : sp_co S (nu (se_be R) p j) (p + 1) ≤ 4080000 := sp_co_bd hS (by omega) (fun k hk => ⟨Nat.lt_of_lt_of_le (hg0 k hk) s2, hall _ (hg0 k hk)⟩)
            have hrb : sp_rs S (zu (se_ib R) j true) (sh_jb S) ≤ 280000 * sh_jb S := sp_rs_bd hS _ hall
            have hrs0 : sh_jb S = p + 1 → sp_rs S (zu (se_ib R) j true) (sh_jb S) = 0 := fun e => sp_rs_0 (zc_n_all (hpx1.2.1.trans e.symm))
            refine am_aload_n d_M_search_150 rfl rfl ?_
            refine am_dup d_M_search_151 rfl ?_
            refine am_get F_M 29 (by decide) d_M_search_152 w_679 rfl rfl ?_
            refine am_sv (v2 := .int (nI (se_no R))) rfl ?_
            refine am_iconst (v := nI 1) d_M_search_155 (by decide) ?_
            refine am_iaddN d_M_search_156 ?_
            refine am_put F_M 29 (by decide) d_M_search_157 w_679 rfl rfl (Nat.le_of_ble_eq_true rfl) rfl rfl ?_
            refine am_hq (hm_no _) ?_
            refine am_aload_n d_M_search_160 rfl rfl ?_
            refine am_get F_M 31 (by decide) d_M_search_161 w_681 rfl rfl ?_
            refine am_iload d_M_search_164 rfl ?_
            refine am_iload d_M_search_166 rfl ?_
            refine am_iastA d_M_search_168 rfl (by omega) (by decide) ?_
            refine am_hq (hm_ro _) ?_
            refine am_aload_n d_M_search_169 rfl rfl ?_
            refine am_iload d_M_search_170 rfl ?_
            refine am_iconst (v := nI 1) d_M_search_172 (by decide) ?_
            refine am_iaddN d_M_search_173 ?_
            refine am_callQ 2 (am_recvV (z := m_M_least) rfl d_M_search_174 w_831 w_833 ws_29 w_834 F_M.1 rfl (by decide) np_M_least) (by decide) (by decide) (Nat.le_of_ble_eq_true rfl) (Nat.le_of_ble_eq_true rfl) (Nat.zero_le _) (Nat.zero_le _) (c_M_least (M := (mo_cd M, mo_xx M, H1, H2, mo_pd M, mo_fr M, mo_pj M, pn, mo_ph M, mo_pm M, mo_wh M, mo_wm M, mo_co M, mo_bo M, (se_no R + 1), mo_ch M, (nu ro p j), tr, us)) hS hsk hall d _ _ (p + 1) (zu (se_ib R) j true) (by omega) hg hijr hu) (fun v174 h174 q174 => ?_) (fun x174 h174 q174 => ?_)
            · obtain ⟨H3, H4, q1, rfl⟩ := q174
              have q2 : _ = (Sum.inl (some (Value.long (lN (sp_co S (nu (se_be R) p j) (p + 1) + sp_rs S (zu (se_ib R) j true) (sh_jb S))))) : am_O) := q1.trans (congrArg (fun z => (Sum.inl (some (Value.long (lN (z + sp_rs S (zu (se_ib R) j true) (sh_jb S))))) : am_O)) (sp_co_congr hnn))
              cases q2
              refine am_lstore d_M_search_177 (by decide) ?_
              refine am_lload d_M_search_179 rfl ?_
              refine am_lload_n d_M_search_181 rfl rfl ?_
              refine am_lc_ge (tgt := 204) d_M_search_182 d_M_search_183 (by decide) (by omega) (by omega) (fun c183 => ?_) (fun c183 => ?_)
              · refine am_lload d_M_search_204 rfl ?_
                refine am_lload_n d_M_search_206 rfl rfl ?_
                refine am_lc_ge (tgt := 244) d_M_search_207 d_M_search_208 (by decide) (by omega) (by omega) (fun c208 => ?_) (fun c208 => ?_)
                · refine am_aload_n d_M_search_244 rfl rfl ?_
                  refine am_get F_M 32 (by decide) d_M_search_245 w_682 rfl rfl ?_
                  refine am_iload d_M_search_248 rfl ?_
                  refine am_dup2 d_M_search_250 rfl rfl ?_
                  refine am_ialdA d_M_search_251 rfl (by omega) (by decide) ?_
                  refine am_sv (v2 := .int (nI j)) (congrArg (fun z => Value.int (nI z)) htr) ?_
                  refine am_iconst (v := nI 1) d_M_search_252 (by decide) ?_
                  refine am_iaddN d_M_search_253 ?_
                  refine am_iastA d_M_search_254 rfl (by omega) (by decide) ?_
                  refine am_hq (hm_tr _) ?_
                  refine am_goto (tgt := 58) d_M_search_255 (by decide) ?_
                  have h := hih (by rw [hf1 c183])
                  rw [hf1 c183] at h
                  exact am_lo (L' := [(0, .ref 30), (1, .int (nI n)), (2, .long (lN (se_co R))), (4, .int (nI p))]) rfl (h H3 H4 pn (nu ro p j) (nu tr p (j + 1)) us ⟨hs1, fun k hk => hnn k (by omega), hs3⟩ (nu_eq _ _ _) (fun q hq => by rw [nu_ne _ _ (by omega)]; exact ht0 q hq))
                · exact absurd c183 (by omega)
              · refine am_iload d_M_search_186 rfl ?_
                refine am_iconst (v := nI 1) d_M_search_188 (by decide) ?_
                refine am_iaddN d_M_search_189 ?_
                refine am_aload_n d_M_search_190 rfl rfl ?_
                refine am_get F_M 6 (by decide) d_M_search_191 w_656 rfl rfl ?_
                refine am_icmpN_ne (tgt := 204) d_M_search_194 (by decide) (by omega) (by omega) (fun c194 => ?_) (fun c194 => ?_)
                · refine am_lload d_M_search_204 rfl ?_
                  refine am_lload_n d_M_search_206 rfl rfl ?_
                  refine am_lc_ge (tgt := 244) d_M_search_207 d_M_search_208 (by decide) (by omega) (by omega) (fun c208 => ?_) (fun c208 => ?_)
                  · exact absurd c183 (by omega)
                  · refine am_iload d_M_search_211 rfl ?_
                    refine am_iconst (v := nI 1) d_M_search_213 (by decide) ?_
                    refine am_iaddN d_M_search_214 ?_
                    refine am_aload_n d_M_search_215 rfl rfl ?_
                    refine am_get F_M 6 (by decide) d_M_search_216 w_656 rfl rfl ?_
                    refine am_icmpN_ge (tgt := 244) d_M_search_219 (by decide) (by omega) (by omega) (fun c219 => ?_) (fun c219 => ?_)
                    · exact absurd c219 (by omega)
                    · refine am_aload_n d_M_search_222 rfl rfl ?_
                      refine am_get F_M 33 (by decide) d_M_search_223 w_683 rfl rfl ?_
                      refine am_iload d_M_search_226 rfl ?_
                      refine am_iconst (v := zI true) d_M_search_228 (by decide) ?_
                      refine am_zastA d_M_search_229 rfl (by omega) (by decide) ?_
                      refine am_hq (hm_us _) ?_
                      refine am_iinc d_M_search_230 rfl (am_inc _) (by decide) ?_
                      refine am_aload_n d_M_search_233 rfl rfl ?_
                      refine am_get F_M 32 (by decide) d_M_search_234 w_682 rfl rfl ?_
                      refine am_iload d_M_search_237 rfl ?_
                      refine am_iconst (v := nI 0) d_M_search_239 (by decide) ?_
                      refine am_iastA d_M_search_240 rfl (by omega) (by decide) ?_
                      refine am_hq (hm_tr _) ?_
                      refine am_goto (tgt := 255) d_M_search_241 (by decide) ?_
                      refine am_goto (tgt := 58) d_M_search_255 (by decide) ?_
                      refine am_lo (L' := [(0, .ref 30), (1, .int (nI n)), (2, .long (lN (se_co (se_co R, se_li R, se_bo R, se_no R + 1, se_al R, nu (se_be R) p j, zu (se_ib R) j true, se_bs R)))), (4, .int (nI (p + 1)))]) rfl (hde (by omega) (nu tr (p + 1) 0) (se_co R, se_li R, se_bo R, se_no R + 1, se_al R, nu (se_be R) p j, zu (se_ib R) j true, se_bs R) H3 H4 pn (nu ro p j) (nu tr (p + 1) 0) (zu us j true) hok1 hpx1 hij1 hli ⟨hs1, hnn, sr_zu hs3⟩ (nu_eq _ _ _) (fun q _ => rfl) (fun g1 H5 H6 pn2 ro2 tr2 us2 g2 g3 g4 => ?_) (fun g1 H5 H6 pn2 ro2 tr2 us2 g2 => ?_))
                      · have hrp : ro2 p = j := (g2.2.1 p (by omega)).trans (((hfp (by omega) (se_co R, se_li R, se_bo R, se_no R + 1, se_al R, nu (se_be R) p j, zu (se_ib R) j true, se_bs R) hok1 hpx1).2.2.2.2.2 p (by omega)).trans (nu_eq _ _ _))
                        have htp : tr2 p = j := (g4 p (by omega)).trans ((nu_ne _ _ (by omega)).trans htr)
                        refine am_iload d_M_search_58 rfl ?_
                        refine am_if_lt (tgt := 258) d_M_search_60 (by decide) (fun c60 => ?_) (fun c60 => ?_)
                        · exact absurd c60 (nI_pos (by omega))
                        · refine am_aload_n d_M_search_63 rfl rfl ?_
                          refine am_get F_M 32 (by decide) d_M_search_64 w_682 rfl rfl ?_
                          refine am_iload d_M_search_67 rfl ?_
                          refine am_ialdA d_M_search_69 rfl (by omega) (by decide) ?_
                          refine am_sv (v2 := .int (nI (sh_jb S))) (congrArg (fun z => Value.int (nI z)) g3) ?_
                          refine am_istore d_M_search_70 (by decide) ?_
                          refine am_iload d_M_search_72 rfl ?_
                          refine am_aload_n d_M_search_74 rfl rfl ?_
                          refine am_get F_M 6 (by decide) d_M_search_75 w_656 rfl rfl ?_
                          refine am_icmpN_ne (tgt := 116) d_M_search_78 (by decide) (by omega) (by omega) (fun c78 => ?_) (fun c78 => ?_)
                          · exact absurd rfl c78
                          · refine am_iinc (v := nI p) d_M_search_81 rfl (am_dec (a := p + 1) (by omega)) (by decide) ?_
                            refine am_iload d_M_search_84 rfl ?_
                            refine am_if_lt (tgt := 255) d_M_search_86 (by decide) (fun c86 => ?_) (fun c86 => ?_)
                            · exact absurd c86 (nI_pos (by omega))
                            · refine am_aload_n d_M_search_89 rfl rfl ?_
                              refine am_get F_M 33 (by decide) d_M_search_90 w_683 rfl rfl ?_
                              refine am_aload_n d_M_search_93 rfl rfl ?_
                              refine am_get F_M 31 (by decide) d_M_search_94 w_681 rfl rfl ?_
                              refine am_iload d_M_search_97 rfl ?_
                              refine am_ialdA d_M_search_99 rfl (by omega) (by decide) ?_
                              refine am_sv (v2 := .int (nI j)) (congrArg (fun z => Value.int (nI z)) hrp) ?_
                              refine am_iconst (v := zI false) d_M_search_100 (by decide) ?_
                              refine am_zastA d_M_search_101 rfl (by omega) (by decide) ?_
                              refine am_hq (hm_us _) ?_
                              refine am_aload_n d_M_search_102 rfl rfl ?_
                              refine am_get F_M 32 (by decide) d_M_search_103 w_682 rfl rfl ?_
                              refine am_iload d_M_search_106 rfl ?_
                              refine am_dup2 d_M_search_108 rfl rfl ?_
                              refine am_ialdA d_M_search_109 rfl (by omega) (by decide) ?_
                              refine am_sv (v2 := .int (nI j)) (congrArg (fun z => Value.int (nI z)) htp) ?_
                              refine am_iconst (v := nI 1) d_M_search_110 (by decide) ?_
                              refine am_iaddN d_M_search_111 ?_
                              refine am_iastA d_M_search_112 rfl (by omega) (by decide) ?_
                              refine am_hq (hm_tr _) ?_
                              refine am_goto (tgt := 255) d_M_search_113 (by decide) ?_
                              refine am_goto (tgt := 58) d_M_search_255 (by decide) ?_
                              have h := hih (by rw [hf3 (by omega) (by omega)]; exact g1)
                              rw [hf3 (by omega) (by omega)] at h
                              exact am_lo (L' := [(0, .ref 30), (1, .int (nI n)), (2, .long (lN (se_co (f (se_co R, se_li R, se_bo R, se_no R + 1, se_al R, nu (se_be R) p j, zu (se_ib R) j true, se_bs R)).2))), (4, .int (nI p))]) rfl (h H5 H6 pn2 ro2 (nu tr2 p (j + 1)) (zu us2 j false) ⟨g2.1, fun k hk => g2.2.1 k (by omega), sr_zu g2.2.2⟩ (nu_eq _ _ _) (fun q hq => by rw [nu_ne _ _ (by omega), g4 q (by omega), nu_ne _ _ (by omega)]; exact ht0 q hq))
                      · rw [se_lp_4 c123 hl (by rw [hf3 (by omega) (by omega)]; exact g1), hf3 (by omega) (by omega)] at K2
                        exact K2 rfl H5 H6 pn2 ro2 tr2 us2 g2
                · refine am_lload d_M_search_197 rfl ?_
                  refine am_lstore_n d_M_search_199 rfl (by decide) ?_
                  refine am_aload_n d_M_search_200 rfl rfl ?_
                  refine am_callF 1 (am_recvV (z := m_M_toPlan) rfl d_M_search_201 w_827 w_829 ws_28 w_830 F_M.1 rfl (by decide) np_M_toPlan) (by decide) (by decide) (Nat.le_of_ble_eq_true rfl) (Nat.le_of_ble_eq_true rfl) (Nat.zero_le _) (Nat.zero_le _) (c_M_toPlan hS _ _ _) ?_
                  refine am_lload d_M_search_204 rfl ?_
                  refine am_lload_n d_M_search_206 rfl rfl ?_
                  refine am_lc_ge (tgt := 244) d_M_search_207 d_M_search_208 (by decide) (by omega) (by omega) (fun c208 => ?_) (fun c208 => ?_)
                  · refine am_aload_n d_M_search_244 rfl rfl ?_
                    refine am_get F_M 32 (by decide) d_M_search_245 w_682 rfl rfl ?_
                    refine am_iload d_M_search_248 rfl ?_
                    refine am_dup2 d_M_search_250 rfl rfl ?_
                    refine am_ialdA d_M_search_251 rfl (by omega) (by decide) ?_
                    refine am_sv (v2 := .int (nI j)) (congrArg (fun z => Value.int (nI z)) htr) ?_
                    refine am_iconst (v := nI 1) d_M_search_252 (by decide) ?_
                    refine am_iaddN d_M_search_253 ?_
                    refine am_iastA d_M_search_254 rfl (by omega) (by decide) ?_
                    refine am_hq (hm_tr _) ?_
                    refine am_goto (tgt := 58) d_M_search_255 (by decide) ?_
                    have h := hih (by rw [hf2 (by omega) (by omega)])
                    rw [hf2 (by omega) (by omega)] at h
                    exact am_lo (L' := [(0, .ref 30), (1, .int (nI n)), (2, .long (lN (sp_co S (nu (se_be R) p j) (p + 1) + sp_rs S (zu (se_ib R) j true) (sh_jb S)))), (4, .int (nI p))]) rfl (am_lq (L2 := [(0, .ref 30), (1, .int (nI n)), (2, .long (lN (sp_co S (nu (se_be R) p j) (p + 1)))), (4, .int (nI p))]) (by rw [hrs0 (by omega), Nat.add_zero]) (h H3 H4 (tk_u (nu ro p j) pn (sh_jb S)) (nu ro p j) (nu tr p (j + 1)) us ⟨fun k hk => by rw [tk_u_lt hk, hnn k (by omega)]; exact (va_cpy_lt (by omega)).symm, fun k hk => hnn k (by omega), hs3⟩ (nu_eq _ _ _) (fun q hq => by rw [nu_ne _ _ (by omega)]; exact ht0 q hq)))
                  · exact absurd c208 (by omega)
            · obtain ⟨H3, H4, q1, -⟩ := q174
              cases q1
          · refine am_iconst (v := nI 1) d_M_search_148 (by decide) ?_
            refine am_iret d_M_search_149 rfl ?_
            rw [se_lp_2 c123 (by omega)] at K2
            exact K2 rfl H1 H2 pn ro tr us hs1
        · refine am_aload_n d_M_search_126 rfl rfl ?_
          refine am_get F_M 32 (by decide) d_M_search_127 w_682 rfl rfl ?_
          refine am_iload d_M_search_130 rfl ?_
          refine am_dup2 d_M_search_132 rfl rfl ?_
          refine am_ialdA d_M_search_133 rfl (by omega) (by decide) ?_
          refine am_sv (v2 := .int (nI j)) (congrArg (fun z => Value.int (nI z)) htr) ?_
          refine am_iconst (v := nI 1) d_M_search_134 (by decide) ?_
          refine am_iaddN d_M_search_135 ?_
          refine am_iastA d_M_search_136 rfl (by omega) (by decide) ?_
          refine am_hq (hm_tr _) ?_
          refine am_goto (tgt := 255) d_M_search_137 (by decide) ?_
          refine am_goto (tgt := 58) d_M_search_255 (by decide) ?_
          rw [se_lp_1 c123] at K1 K2
          exact am_lo (L' := [(0, .ref 30), (1, .int (nI n)), (2, .long (lN (se_co R))), (4, .int (nI p))]) rfl (ih (j + 1) (by omega) R H1 H2 pn ro (nu tr p (j + 1)) us hok hpx hij hli hsr (nu_eq _ _ _) (fun q hq => by rw [nu_ne _ _ (by omega)]; exact ht0 q hq) K1 K2)
      · exact absurd c78 (by omega)
theorem c_M_search_d {Q : am_O → am_H → Prop} (hS : sh_ok S) (hsk : sh_k S jo) (hall : ∀ j, j < sh_jb S → sp_fits S j = true) (d bc bs n : Nat) : ∀ r p, p + r = sh_jb S → 1 ≤ r → ∀ (t0 : Nat → Nat) (R : se_T) (H1 H2 : Nat → Int32) (pn ro tr : Nat → Nat) (us : Nat → Bool), se_ok S R → se_px S R p → se_ij (se_be R) p → se_li R = n → sr_M S R p pn ro us → tr p = 0 → (∀ q, q < p → tr q = t0 q) → ((se_go S r p R).1 = true → ∀ (H1 H2 : Nat → Int32) (pn ro tr : Nat → Nat) (us : Nat → Bool), sr_M S (se_go S r p R).2 p pn ro us → tr p = sh_jb S → (∀ q, q < p → tr q = t0 q) → am_W G m_M_search (d + 5) bc bs Q 58 [(0, .ref 30), (1, .int (nI n)), (2, .long (lN (se_co (se_go S r p R).2))), (4, .int (nI p))] [] (hm A S jo (mo_cd M, mo_xx M, H1, H2, mo_pd M, mo_fr M, mo_pj M, pn, mo_ph M, mo_pm M, mo_wh M, mo_wm M, mo_co M, mo_bo M, (se_no (se_go S r p R).2), mo_ch M, ro, tr, us) V)) → ((se_go S r p R).1 = false → ∀ (H1 H2 : Nat → Int32) (pn ro tr : Nat → Nat) (us : Nat → Bool), (∀ kk, kk < sh_jb S → pn kk = se_bs (se_go S r p R).2 kk) → Q (.inl (some (.int (nI 1)))) (hm A S jo (mo_cd M, mo_xx M, H1, H2, mo_pd M, mo_fr M, mo_pj M, pn, mo_ph M, mo_pm M, mo_wh M, mo_wm M, mo_co M, mo_bo M, (se_no (se_go S r p R).2), mo_ch M, ro, tr, us) V)) → am_W G m_M_search (d + 5) bc bs Q 58 [(0, .ref 30), (1, .int (nI n)), (2, .long (lN (se_co R))), (4, .int (nI p))] [] (hm A S jo (mo_cd M, mo_xx M, H1, H2, mo_pd M, mo_fr M, mo_pj M, pn, mo_ph M, mo_pm M, mo_wh M, mo_wm M, mo_co M, mo_bo M, (se_no R), mo_ch M, ro, tr, us) V) := by
  intro r
  induction r with
  | zero => intro p _ h; omega
  | succ r ih =>
    intro p hp _ t0 R H1 H2 pn ro tr us
    exact c_M_search_k hS hsk hall (se_go S r (p + 1)) d bc bs n p t0 (by omega) (fun _ Q hQ hx => se_go_ok hS hall r (p + 1) Q (by omega) hQ hx) (fun h => ih (p + 1) (by omega) (by omega)) (sh_jb S) 0 (by omega) R H1 H2 pn ro tr us
set_option maxRecDepth 20000 in
theorem c_M_search_u {Q : am_O → am_H → Prop} (hS : sh_ok S) (d bc bs n c : Nat) (hk : ∀ U, (∀ j, j < sh_jb S → U j = false) → am_W G m_M_search d bc bs Q 48 [(0, .ref 30), (1, .int (nI n)), (2, .long (lN c)), (4, .int (nI (sh_jb S)))] [] (hm A S jo (mo_cd M, mo_xx M, mo_hr M, mo_mh M, mo_pd M, mo_fr M, mo_pj M, mo_pn M, mo_ph M, mo_pm M, mo_wh M, mo_wm M, mo_co M, mo_bo M, mo_no M, mo_ch M, mo_ro M, mo_tr M, U) V)) : ∀ (q i : Nat), i ≤ sh_jb S → sh_jb S - i < q → ∀ U, (∀ j, j < i → U j = false) →
    am_W G m_M_search d bc bs Q 25 [(0, .ref 30), (1, .int (nI n)), (2, .long (lN c)), (4, .int (nI i))] [] (hm A S jo (mo_cd M, mo_xx M, mo_hr M, mo_mh M, mo_pd M, mo_fr M, mo_pj M, mo_pn M, mo_ph M, mo_pm M, mo_wh M, mo_wm M, mo_co M, mo_bo M, mo_no M, mo_ch M, mo_ro M, mo_tr M, U) V) := by
  intro q
  have s2 := hS.2.1
  induction q with
  | zero => intro i _ h; omega
  | succ q ih =>
    intro i hi hq U hU
    refine am_iload d_M_search_25 rfl ?_
    refine am_aload_n d_M_search_27 rfl rfl ?_
    refine am_get F_M 6 (by decide) d_M_search_28 w_656 rfl rfl ?_
    refine am_icmpN_ge (tgt := 48) d_M_search_31 (by decide) (by omega) (by omega) (fun c31 => ?_) (fun c31 => ?_)
    · have e : i = sh_jb S := by omega
      subst e
      exact hk U hU
    · refine am_aload_n d_M_search_34 rfl rfl ?_
      refine am_get F_M 33 (by decide) d_M_search_35 w_683 rfl rfl ?_
      refine am_iload d_M_search_38 rfl ?_
      refine am_iconst (v := zI false) d_M_search_40 (by decide) ?_
      refine am_zastA d_M_search_41 rfl (by omega) (by decide) ?_
      refine am_hq (hm_us _) ?_
      refine am_iinc d_M_search_42 rfl (am_inc _) (by decide) ?_
      refine am_goto (tgt := 25) d_M_search_45 (by decide) ?_
      exact am_lo (L' := [(0, .ref 30), (1, .int (nI n)), (2, .long (lN c)), (4, .int (nI (i + 1)))]) rfl (ih (i + 1) (by omega) (by omega) (zu U i false) (zu_all hU))
set_option maxRecDepth 20000 in
set_option maxHeartbeats 1000000 in
theorem c_M_search (hS : sh_ok S) (hsk : sh_k S jo) (hall : ∀ j, j < sh_jb S → sp_fits S j = true) (h1 : 1 ≤ sh_jb S) (d bc bs n : Nat) (hn : n ≤ 2000) {R : se_T} (hr : se_r R) : am_W G m_M_search (d + 5) bc bs (fun o h' => ∃ (H1 H2 : Nat → Int32) (pn ro tr : Nat → Nat) (us : Nat → Bool), o = .inl (some (.int (nI (if (se_go S (sh_jb S) 0 (se_st S R n)).1 = true then 0 else 1)))) ∧ (∀ k, k < sh_jb S → pn k = se_bs (se_go S (sh_jb S) 0 (se_st S R n)).2 k) ∧ h' = (hm A S jo (mo_cd M, mo_xx M, H1, H2, mo_pd M, mo_fr M, mo_pj M, pn, mo_ph M, mo_pm M, mo_wh M, mo_wm M, mo_co M, mo_bo M, (se_no (se_go S (sh_jb S) 0 (se_st S R n)).2), mo_ch M, ro, tr, us) V)) 0 (lv_args 0 [.ref 30, .int (nI n)]) [] (hm A S jo M V) := by
  have s2 := hS.2.1
  have hb : ∀ i, se_bs R i < 6 := hr.2.1
  have hob := se_ord_bd (sh_du S) (se_bs R) hb (sh_jb S) s2
  have hol := se_ord_lt (sh_du S) (se_bs R) (sh_jb S)
  have hgo : ∀ k, k < sh_jb S → (se_ord (sh_du S) (se_bs R) (sh_jb S)) k < 6 ∧ sp_fits S ((se_ord (sh_du S) (se_bs R) (sh_jb S)) k) = true := fun k hk => ⟨hob k, hall _ (hol k hk)⟩
  have hok : se_ok S (se_st S R n) := ⟨fun j hj => se_als_at S _ _ j hj, Nat.zero_le _, hn, sp_co_bd hS s2 hgo, hr.1, hob⟩
  have hpx : se_px S (se_st S R n) 0 := ⟨fun k hk => absurd hk (Nat.not_lt_zero k), zc_n_0 _ (fun k _ => hr.2.2 k), fun j _ h => by have := hr.2.2 j; rw [show se_ib (se_st S R n) j = se_ib R j from rfl, this] at h; cases h⟩
  have hro : ∀ k, k < sh_jb S → (tk_u (se_ord (sh_du S) (se_bs R) (sh_jb S)) (mo_ro M) (sh_jb S)) k = (se_ord (sh_du S) (se_bs R) (sh_jb S)) k := fun k hk => tk_u_lt hk
  have hg : ∀ k, k < sh_jb S → (tk_u (se_ord (sh_du S) (se_bs R) (sh_jb S)) (mo_ro M) (sh_jb S)) k < sh_jb S ∧ sp_fits S ((tk_u (se_ord (sh_du S) (se_bs R) (sh_jb S)) (mo_ro M) (sh_jb S)) k) = true := fun k hk => by rw [hro k hk]; exact ⟨hol k hk, hall _ (hol k hk)⟩
  have hij : se_ij (tk_u (se_ord (sh_du S) (se_bs R) (sh_jb S)) (mo_ro M) (sh_jb S)) (sh_jb S) := se_ij_cg hro (fun a b h1 h2 e => by
    have := (se_ord_sd (sh_du S) (se_bs R) (sh_jb S)).2.2 a b h1 h2
    rw [e] at this
    omega)
  refine am_aload_n d_M_search_0 rfl rfl ?_
  refine am_callQ 1 (am_recvV (z := m_M_layByDue) rfl d_M_search_1 w_800 w_802 ws_22 w_803 F_M.1 rfl (by decide) np_M_layByDue) (by decide) (by decide) (Nat.le_of_ble_eq_true rfl) (Nat.le_of_ble_eq_true rfl) (Nat.zero_le _) (Nat.zero_le _) (c_M_layByDue (b := (se_ord (sh_du S) (se_bs R) (sh_jb S))) hS (se_ord_sd _ _ _) _ _ _) (fun v1 h1 q1 => ?_) (fun x1 h1 q1 => ?_)
  · obtain ⟨U0, q2, rfl⟩ := q1
    cases q2
    refine am_aload_n d_M_search_4 rfl rfl ?_
    refine am_aload_n d_M_search_5 rfl rfl ?_
    refine am_get F_M 6 (by decide) d_M_search_6 w_656 rfl rfl ?_
    refine am_callF 2 (am_recvV (z := m_M_costOfRow) rfl d_M_search_9 w_804 w_806 ws_23 w_807 F_M.1 rfl (by decide) np_M_costOfRow) (by decide) (by decide) (Nat.le_of_ble_eq_true rfl) (Nat.le_of_ble_eq_true rfl) (Nat.zero_le _) (Nat.zero_le _) (am_rm (d := 3) (by omega) (c_M_costOfRow (M := (mo_cd M, mo_xx M, mo_hr M, mo_mh M, mo_pd M, mo_fr M, mo_pj M, mo_pn M, mo_ph M, mo_pm M, mo_wh M, mo_wm M, mo_co M, mo_bo M, mo_no M, mo_ch M, (tk_u (se_ord (sh_du S) (se_bs R) (sh_jb S)) (mo_ro M) (sh_jb S)), mo_tr M, U0)) hS hsk 0 _ _ (sh_jb S) (Nat.le_refl _) hg hij)) ?_
    refine am_lstore_n d_M_search_12 rfl (by decide) ?_
    refine am_aload_n d_M_search_13 rfl rfl ?_
    refine am_callF 1 (am_recvV (z := m_M_toPlan) rfl d_M_search_14 w_827 w_829 ws_28 w_830 F_M.1 rfl (by decide) np_M_toPlan) (by decide) (by decide) (Nat.le_of_ble_eq_true rfl) (Nat.le_of_ble_eq_true rfl) (Nat.zero_le _) (Nat.zero_le _) (c_M_toPlan hS _ _ _) ?_
    refine am_hq (h2 := (hm A S jo (mo_cd M, mo_xx M, (bd_h (fl_co S (tk_u (se_ord (sh_du S) (se_bs R) (sh_jb S)) (mo_ro M) (sh_jb S)) (fl_clear S fl_0) (sh_jb S)).1 (bd_C S (tk_u (se_ord (sh_du S) (se_bs R) (sh_jb S)) (mo_ro M) (sh_jb S)) (sh_jb S))), (bd_m (fl_co S (tk_u (se_ord (sh_du S) (se_bs R) (sh_jb S)) (mo_ro M) (sh_jb S)) (fl_clear S fl_0) (sh_jb S)).1 (bd_C S (tk_u (se_ord (sh_du S) (se_bs R) (sh_jb S)) (mo_ro M) (sh_jb S)) (sh_jb S))), mo_pd M, mo_fr M, mo_pj M, (tk_u (tk_u (se_ord (sh_du S) (se_bs R) (sh_jb S)) (mo_ro M) (sh_jb S)) (mo_pn M) (sh_jb S)), mo_ph M, mo_pm M, mo_wh M, mo_wm M, mo_co M, mo_bo M, mo_no M, mo_ch M, (tk_u (se_ord (sh_du S) (se_bs R) (sh_jb S)) (mo_ro M) (sh_jb S)), mo_tr M, U0) V)) rfl ?_
    refine am_aload_n d_M_search_17 rfl rfl ?_
    refine am_iconst (v := nI 0) d_M_search_18 (by decide) ?_
    refine am_put F_M 29 (by decide) d_M_search_19 w_679 rfl rfl (Nat.le_of_ble_eq_true rfl) rfl rfl ?_
    refine am_hq (hm_no _) ?_
    refine am_iconst (v := nI 0) d_M_search_22 (by decide) ?_
    refine am_istore d_M_search_23 (by decide) ?_
    refine am_lo (L' := [(0, .ref 30), (1, .int (nI n)), (2, .long (lN (sp_co S (tk_u (se_ord (sh_du S) (se_bs R) (sh_jb S)) (mo_ro M) (sh_jb S)) (sh_jb S)))), (4, .int (nI 0))]) rfl (c_M_search_u (M := (mo_cd M, mo_xx M, (bd_h (fl_co S (tk_u (se_ord (sh_du S) (se_bs R) (sh_jb S)) (mo_ro M) (sh_jb S)) (fl_clear S fl_0) (sh_jb S)).1 (bd_C S (tk_u (se_ord (sh_du S) (se_bs R) (sh_jb S)) (mo_ro M) (sh_jb S)) (sh_jb S))), (bd_m (fl_co S (tk_u (se_ord (sh_du S) (se_bs R) (sh_jb S)) (mo_ro M) (sh_jb S)) (fl_clear S fl_0) (sh_jb S)).1 (bd_C S (tk_u (se_ord (sh_du S) (se_bs R) (sh_jb S)) (mo_ro M) (sh_jb S)) (sh_jb S))), mo_pd M, mo_fr M, mo_pj M, (tk_u (tk_u (se_ord (sh_du S) (se_bs R) (sh_jb S)) (mo_ro M) (sh_jb S)) (mo_pn M) (sh_jb S)), mo_ph M, mo_pm M, mo_wh M, mo_wm M, mo_co M, mo_bo M, 0, mo_ch M, (tk_u (se_ord (sh_du S) (se_bs R) (sh_jb S)) (mo_ro M) (sh_jb S)), mo_tr M, U0)) hS (d + 5) bc bs n _ (fun U hU => ?_) (sh_jb S + 1) 0 (Nat.zero_le _) (by omega) _ (fun j hj => absurd hj (Nat.not_lt_zero j)))
    refine am_iconst (v := nI 0) d_M_search_48 (by decide) ?_
    refine am_istore d_M_search_49 (by decide) ?_
    refine am_aload_n d_M_search_51 rfl rfl ?_
    refine am_get F_M 32 (by decide) d_M_search_52 w_682 rfl rfl ?_
    refine am_iconst (v := nI 0) d_M_search_55 (by decide) ?_
    refine am_iconst (v := nI 0) d_M_search_56 (by decide) ?_
    refine am_iastA d_M_search_57 rfl (by omega) (by decide) ?_
    refine am_hq (hm_tr _) ?_
    refine am_lo (L' := [(0, .ref 30), (1, .int (nI n)), (2, .long (lN (sp_co S (tk_u (se_ord (sh_du S) (se_bs R) (sh_jb S)) (mo_ro M) (sh_jb S)) (sh_jb S)))), (4, .int (nI 0))]) rfl (am_lq (L2 := [(0, .ref 30), (1, .int (nI n)), (2, .long (lN (sp_co S (se_ord (sh_du S) (se_bs R) (sh_jb S)) (sh_jb S)))), (4, .int (nI 0))]) (by rw [sp_co_congr hro]) ?_)
    refine c_M_search_d (M := M) hS hsk hall d bc bs n (sh_jb S) 0 (by omega) h1 (mo_tr M) (se_st S R n) _ _ (tk_u (tk_u (se_ord (sh_du S) (se_bs R) (sh_jb S)) (mo_ro M) (sh_jb S)) (mo_pn M) (sh_jb S)) (tk_u (se_ord (sh_du S) (se_bs R) (sh_jb S)) (mo_ro M) (sh_jb S)) (nu (mo_tr M) 0 0) U hok hpx (fun a b _ h => absurd h (Nat.not_lt_zero b)) rfl ⟨fun k hk => (tk_u_lt hk).trans (hro k hk), fun k hk => absurd hk (Nat.not_lt_zero k), fun j hj => (hU j hj).trans (hr.2.2 j).symm⟩ (nu_eq _ _ _) (fun q hq => absurd hq (Nat.not_lt_zero q)) (fun g1 H5 H6 pn2 ro2 tr2 us2 g2 g3 g4 => ?_) (fun g1 H5 H6 pn2 ro2 tr2 us2 g2 => ?_)
    · refine am_iload d_M_search_58 rfl ?_
      refine am_if_lt (tgt := 258) d_M_search_60 (by decide) (fun c60 => ?_) (fun c60 => ?_)
      · exact absurd c60 (nI_pos (by omega))
      · refine am_aload_n d_M_search_63 rfl rfl ?_
        refine am_get F_M 32 (by decide) d_M_search_64 w_682 rfl rfl ?_
        refine am_iload d_M_search_67 rfl ?_
        refine am_ialdA d_M_search_69 rfl (by omega) (by decide) ?_
        refine am_sv (v2 := .int (nI (sh_jb S))) (congrArg (fun z => Value.int (nI z)) g3) ?_
        refine am_istore d_M_search_70 (by decide) ?_
        refine am_iload d_M_search_72 rfl ?_
        refine am_aload_n d_M_search_74 rfl rfl ?_
        refine am_get F_M 6 (by decide) d_M_search_75 w_656 rfl rfl ?_
        refine am_icmpN_ne (tgt := 116) d_M_search_78 (by decide) (by omega) (by omega) (fun c78 => ?_) (fun c78 => ?_)
        · exact absurd rfl c78
        · refine am_iinc (v := -1) d_M_search_81 rfl (by decide) (by decide) ?_
          refine am_iload d_M_search_84 rfl ?_
          refine am_if_lt (tgt := 255) d_M_search_86 (by decide) (fun c86 => ?_) (fun c86 => ?_)
          · refine am_goto (tgt := 58) d_M_search_255 (by decide) ?_
            refine am_iload d_M_search_58 rfl ?_
            refine am_if_lt (tgt := 258) d_M_search_60 (by decide) (fun c60 => ?_) (fun c60 => ?_)
            · refine am_iconst (v := nI 0) d_M_search_258 (by decide) ?_
              refine am_iret d_M_search_259 rfl ?_
              exact ⟨H5, H6, pn2, ro2, tr2, us2, by rw [if_pos g1], g2.1, rfl⟩
            · exact absurd (by decide) c60
          · exact absurd (by decide) c86
    · exact ⟨H5, H6, pn2, ro2, tr2, us2, by rw [if_neg (by rw [g1]; decide)], g2, rfl⟩
  · obtain ⟨U0, q2, -⟩ := q1
    cases q2
end CM6
