/-! truth values, longs; the state of the class -/
def zI (b : Bool) : Int32 := if b then 1 else 0
theorem zI_t : zI true = nI 1 := by decide
theorem zI_f : zI false = nI 0 := by decide
theorem zI_n (b : Bool) : narrow .boolean (.int (zI b)) = .int (zI b) := by cases b <;> rfl
theorem l_late {a b : Nat} (ha : a < 2 ^ 31) (hb : b < 2 ^ 31) : lN a - lN b ≤ 0 ↔ a ≤ b := by
  rw [Int64.le_iff_toInt_le, Int64.toInt_sub, lN_toInt ha, lN_toInt hb]
  have h0 : (0 : Int64).toInt = 0 := by decide
  rw [h0, Int.bmod_eq_of_le (by omega) (by omega)]
  omega
def am_l (n : Nat) (g : Nat → Nat) : am_E := .inl (1, n, .inr (.inl (fun j => lN (g j))))
def zu (g : Nat → Bool) (k : Nat) (v : Bool) : Nat → Bool := fun j => if j = k then v else g j
def am_zc (n : Nat) (g : Nat → Bool) : am_E := .inl (2, n, .inl (fun j => zI (g j)))
theorem upd_zu (g : Nat → Bool) (k : Nat) (v : Bool) : upd (fun j => zI (g j)) k (zI v) = fun j => zI (zu g k v j) := by
  funext j
  by_cases h : j = k <;> simp [upd, zu, h]
theorem upd_lu (g : Nat → Nat) (k v : Nat) : vp_updL (fun j => lN (g j)) k (lN v) = fun j => lN (nu g k v j) := by
  funext j
  by_cases h : j = k <;> simp [vp_updL, nu, h]
section AMZ
variable {G : am_G} {y : am_M} {d bc bs : Nat} {Q : am_O → am_H → Prop} {pc : Nat} {L : List (Nat × Value)} {st : List Value} {h : am_H}
theorem am_ifZ_ne {b : Bool} {off : Int} {tgt : Nat} (hd : decode y.2.1 pc = .ok (.ifCond .ne off, 3)) (ht : (pc : Int) + off = (tgt : Int)) (k1 : b = true → am_W G y d bc bs Q tgt L (st) h) (k2 : b = false → am_W G y d bc bs Q (pc + 3) L (st) h) : am_W G y d bc bs Q pc L (.int (zI b) :: st) h :=
  am_if_ne hd ht (fun q => k1 (by cases b <;> first | rfl | exact absurd rfl q)) (fun q => k2 (by cases b <;> first | rfl | exact absurd q (by decide)))
theorem am_ifZ_eq {b : Bool} {off : Int} {tgt : Nat} (hd : decode y.2.1 pc = .ok (.ifCond .eq off, 3)) (ht : (pc : Int) + off = (tgt : Int)) (k1 : b = false → am_W G y d bc bs Q tgt L (st) h) (k2 : b = true → am_W G y d bc bs Q (pc + 3) L (st) h) : am_W G y d bc bs Q pc L (.int (zI b) :: st) h :=
  am_if_eq hd ht (fun q => k1 (by cases b <;> first | rfl | exact absurd q (by decide))) (fun q => k2 (by cases b <;> first | rfl | exact absurd rfl q))
theorem am_ifN_le {a : Nat} {off : Int} {tgt : Nat} (hd : decode y.2.1 pc = .ok (.ifCond .le off, 3)) (ht : (pc : Int) + off = (tgt : Int)) (ha : a < 2 ^ 31) (k1 : a = 0 → am_W G y d bc bs Q tgt L (st) h) (k2 : 0 < a → am_W G y d bc bs Q (pc + 3) L (st) h) : am_W G y d bc bs Q pc L (.int (nI a) :: st) h :=
  am_if_le hd ht (fun q => k1 (by rcases Nat.eq_zero_or_pos a with e | e; exact e; exact absurd q (nI_nle e ha))) (fun q => k2 (by rcases Nat.eq_zero_or_pos a with e | e; exact absurd (by rw [e]; decide) q; exact e))
theorem am_ifN_ne {a : Nat} {off : Int} {tgt : Nat} (hd : decode y.2.1 pc = .ok (.ifCond .ne off, 3)) (ht : (pc : Int) + off = (tgt : Int)) (ha : a < 2 ^ 31) (k1 : 0 < a → am_W G y d bc bs Q tgt L (st) h) (k2 : a = 0 → am_W G y d bc bs Q (pc + 3) L (st) h) : am_W G y d bc bs Q pc L (.int (nI a) :: st) h :=
  am_if_ne hd ht (fun q => k1 (by rcases Nat.eq_zero_or_pos a with e | e; exact absurd (by rw [e]; decide) q; exact e)) (fun q => k2 (by rcases Nat.eq_zero_or_pos a with e | e; exact e; exact absurd q (nI_ne0 e ha)))
theorem am_ifN_eq {a : Nat} {off : Int} {tgt : Nat} (hd : decode y.2.1 pc = .ok (.ifCond .eq off, 3)) (ht : (pc : Int) + off = (tgt : Int)) (ha : a < 2 ^ 31) (k1 : a = 0 → am_W G y d bc bs Q tgt L (st) h) (k2 : 0 < a → am_W G y d bc bs Q (pc + 3) L (st) h) : am_W G y d bc bs Q pc L (.int (nI a) :: st) h :=
  am_if_eq hd ht (fun q => k1 (by rcases Nat.eq_zero_or_pos a with e | e; exact e; exact absurd q (nI_ne0 e ha))) (fun q => k2 (by rcases Nat.eq_zero_or_pos a with e | e; exact absurd (by rw [e]; decide) q; exact e))
theorem am_laldA {a n j : Nat} {g : Nat → Nat} (hd : decode y.2.1 pc = .ok (.laload, 1)) (ha : h[a]? = some (am_l n g)) (hlt : j < n) (hn : n < 2 ^ 31) (k : am_W G y d bc bs Q (pc + 1) L (.long (lN (g j)) :: st) h) : am_W G y d bc bs Q pc L (.int (nI j) :: .ref (a + 1) :: st) h :=
  am_laldN j hd ha rfl hlt hn k
theorem am_lastA {a n j v : Nat} {g : Nat → Nat} (hd : decode y.2.1 pc = .ok (.lastore, 1)) (ha : h[a]? = some (am_l n g)) (hlt : j < n) (hn : n < 2 ^ 31) (k : am_W G y d bc bs Q (pc + 1) L (st) (h.set a (am_l n (nu g j v)))) : am_W G y d bc bs Q pc L (.long (lN v) :: .int (nI j) :: .ref (a + 1) :: st) h :=
  am_lastN j hd ha rfl hlt hn (by rw [upd_lu]; exact k)
theorem am_zaldA {a n j : Nat} {g : Nat → Bool} (hd : decode y.2.1 pc = .ok (.baload, 1)) (ha : h[a]? = some (am_zc n g)) (hlt : j < n) (hn : n < 2 ^ 31) (k : am_W G y d bc bs Q (pc + 1) L (.int (zI (g j)) :: st) h) : am_W G y d bc bs Q pc L (.int (nI j) :: .ref (a + 1) :: st) h :=
  am_zaldN j hd ha rfl hlt hn k
theorem am_zastA {a n j : Nat} {v : Bool} {g : Nat → Bool} (hd : decode y.2.1 pc = .ok (.bastore, 1)) (ha : h[a]? = some (am_zc n g)) (hlt : j < n) (hn : n < 2 ^ 31) (k : am_W G y d bc bs Q (pc + 1) L (st) (h.set a (am_zc n (zu g j v)))) : am_W G y d bc bs Q pc L (.int (zI v) :: .int (nI j) :: .ref (a + 1) :: st) h :=
  am_zastN j hd ha rfl hlt hn (by cases v <;> rfl) (by rw [upd_zu]; exact k)
theorem am_i2lN {a : Nat} (hd : decode y.2.1 pc = .ok (.i2l, 1)) (ha : a < 2 ^ 31) (k : am_W G y d bc bs Q (pc + 1) L (.long (lN a) :: st) h) : am_W G y d bc bs Q pc L (.int (nI a) :: st) h := am_i2l hd (by rw [nI_l ha]; exact k)
theorem am_laddN {a b : Nat} (hd : decode y.2.1 pc = .ok (.ladd, 1)) (k : am_W G y d bc bs Q (pc + 1) L (.long (lN (a + b)) :: st) h) : am_W G y d bc bs Q pc L (.long (lN b) :: .long (lN a) :: st) h := am_ladd hd (by rw [lN_add]; exact k)
theorem am_lmulN {a b : Nat} (hd : decode y.2.1 pc = .ok (.lmul, 1)) (k : am_W G y d bc bs Q (pc + 1) L (.long (lN (a * b)) :: st) h) : am_W G y d bc bs Q pc L (.long (lN b) :: .long (lN a) :: st) h := am_lmul hd (by rw [lN_mul]; exact k)
theorem am_lsubN {a b : Nat} (hd : decode y.2.1 pc = .ok (.lsub, 1)) (hab : b ≤ a) (k : am_W G y d bc bs Q (pc + 1) L (.long (lN (a - b)) :: st) h) : am_W G y d bc bs Q pc L (.long (lN b) :: .long (lN a) :: st) h := am_lsub hd (by rw [lN_sub hab]; exact k)
/-- the same locals in another order, or fewer -/
theorem am_lo {L' : List (Nat × Value)} (hs : L'.map (fun q => L.lookup q.1) = L'.map (fun q => some q.2)) (k : am_W G y d bc bs Q pc L' (st) h) : am_W G y d bc bs Q pc L (st) h :=
  am_loc (Or.inr trivial) (fun q hq => List.map_inj_left.mp hs q hq) k
end AMZ
/-! the shop: machines, kinds, spans .. as the document tells them -/
abbrev sh_T : Type := Nat × (Nat → Nat) × (Nat → Nat) × (Nat → Nat) × (Nat → Nat) × Nat × (Nat → Nat) × (Nat → Nat) × (Nat → Nat) × (Nat → Nat) × Nat × (Nat → Nat) × (Nat → Nat) × (Nat → Nat) × (Nat → Int32)
abbrev sh_mc (s : sh_T) : Nat := s.1
abbrev sh_kd (s : sh_T) : (Nat → Nat) := s.2.1
abbrev sh_sp (s : sh_T) : (Nat → Nat) := s.2.2.1
abbrev sh_sf (s : sh_T) : (Nat → Nat) := s.2.2.2.1
abbrev sh_st (s : sh_T) : (Nat → Nat) := s.2.2.2.2.1
abbrev sh_jb (s : sh_T) : Nat := s.2.2.2.2.2.1
abbrev sh_du (s : sh_T) : (Nat → Nat) := s.2.2.2.2.2.2.1
abbrev sh_we (s : sh_T) : (Nat → Nat) := s.2.2.2.2.2.2.2.1
abbrev sh_so (s : sh_T) : (Nat → Nat) := s.2.2.2.2.2.2.2.2.1
abbrev sh_sa (s : sh_T) : (Nat → Nat) := s.2.2.2.2.2.2.2.2.2.1
abbrev sh_ss (s : sh_T) : Nat := s.2.2.2.2.2.2.2.2.2.2.1
abbrev sh_sk (s : sh_T) : (Nat → Nat) := s.2.2.2.2.2.2.2.2.2.2.2.1
abbrev sh_sh (s : sh_T) : (Nat → Nat) := s.2.2.2.2.2.2.2.2.2.2.2.2.1
abbrev sh_sw (s : sh_T) : (Nat → Nat) := s.2.2.2.2.2.2.2.2.2.2.2.2.2.1
abbrev sh_sb (s : sh_T) : (Nat → Int32) := s.2.2.2.2.2.2.2.2.2.2.2.2.2.2
def sh_c (s : sh_T) : am_H := [.inr (1, [.int (nI (sh_mc s)), .ref 3, .ref 4, .ref 5, .ref 6, .int (nI (sh_jb s)), .ref 7, .ref 8, .ref 9, .ref 10, .int (nI (sh_ss s)), .ref 11, .ref 12, .ref 13, .ref 14]),
  am_a 6 (sh_kd s), am_a 6 (sh_sp s), am_a 48 (sh_sf s), am_a 48 (sh_st s), am_a 6 (sh_du s), am_a 6 (sh_we s), am_a 6 (sh_so s), am_a 24 (sh_sa s), am_a 24 (sh_sk s), am_a 24 (sh_sh s), am_a 24 (sh_sw s), .inl (0, 24, .inl (sh_sb s))]
/-! the floor: begin, machine of a step; busy rows -/
abbrev fl_T : Type := (Nat → Nat) × (Nat → Nat) × (Nat → Nat) × (Nat → Nat) × (Nat → Nat)
abbrev fl_bg (s : fl_T) : (Nat → Nat) := s.1
abbrev fl_ma (s : fl_T) : (Nat → Nat) := s.2.1
abbrev fl_bc (s : fl_T) : (Nat → Nat) := s.2.2.1
abbrev fl_bf (s : fl_T) : (Nat → Nat) := s.2.2.2.1
abbrev fl_bt (s : fl_T) : (Nat → Nat) := s.2.2.2.2
def fl_c (s : fl_T) : am_H := [.inr (2, [.ref 2, .ref 16, .ref 17, .ref 18, .ref 19, .ref 20]), am_a 24 (fl_bg s), am_a 24 (fl_ma s), am_a 6 (fl_bc s), am_a 192 (fl_bf s), am_a 192 (fl_bt s)]
/-! the search -/
abbrev se_T : Type := Nat × Nat × Nat × Nat × (Nat → Nat) × (Nat → Nat) × (Nat → Bool) × (Nat → Nat)
abbrev se_co (s : se_T) : Nat := s.1
abbrev se_li (s : se_T) : Nat := s.2.1
abbrev se_bo (s : se_T) : Nat := s.2.2.1
abbrev se_no (s : se_T) : Nat := s.2.2.2.1
abbrev se_al (s : se_T) : (Nat → Nat) := s.2.2.2.2.1
abbrev se_be (s : se_T) : (Nat → Nat) := s.2.2.2.2.2.1
abbrev se_ib (s : se_T) : (Nat → Bool) := s.2.2.2.2.2.2.1
abbrev se_bs (s : se_T) : (Nat → Nat) := s.2.2.2.2.2.2.2
def se_c (s : se_T) : am_H := [.inr (3, [.ref 2, .ref 15, .ref 22, .ref 23, .ref 24, .ref 25, .long (lN (se_co s)), .int (nI (se_li s)), .long (lN (se_bo s)), .int (nI (se_no s))]), am_l 6 (se_al s), am_a 6 (se_be s), am_zc 6 (se_ib s), am_a 6 (se_bs s)]
/-! the plan -/
abbrev pl_T : Type := Nat × Nat × Nat × Nat × Nat × Nat × (Nat → Nat) × (Nat → Nat) × (Nat → Nat)
abbrev pl_jb (s : pl_T) : Nat := s.1
abbrev pl_ss (s : pl_T) : Nat := s.2.1
abbrev pl_co (s : pl_T) : Nat := s.2.2.1
abbrev pl_bo (s : pl_T) : Nat := s.2.2.2.1
abbrev pl_no (s : pl_T) : Nat := s.2.2.2.2.1
abbrev pl_mv (s : pl_T) : Nat := s.2.2.2.2.2.1
abbrev pl_ja (s : pl_T) : (Nat → Nat) := s.2.2.2.2.2.2.1
abbrev pl_bg (s : pl_T) : (Nat → Nat) := s.2.2.2.2.2.2.2.1
abbrev pl_ma (s : pl_T) : (Nat → Nat) := s.2.2.2.2.2.2.2.2
def pl_c (s : pl_T) : am_H := [.inr (4, [.ref 2, .ref 27, .ref 28, .ref 29, .int (nI (pl_jb s)), .int (nI (pl_ss s)), .long (lN (pl_co s)), .long (lN (pl_bo s)), .int (nI (pl_no s)), .int (nI (pl_mv s))]), am_a 6 (pl_ja s), am_a 24 (pl_bg s), am_a 24 (pl_ma s)]
def x_c (x : Int64) (t : Bool) : am_E := .inr (0, [.ref 2, .ref 15, .ref 21, .ref 26, .long x, .int (zI t)])
/-- all cells: the object, the shop, the floor, the search, the plan, what lies behind -/
def hx (x : Int64) (t : Bool) (S : sh_T) (F : fl_T) (R : se_T) (P : pl_T) (W : am_H) : am_H := x_c x t :: (sh_c S ++ (fl_c F ++ (se_c R ++ (pl_c P ++ W))))
/-- what was told is as the document lets it be -/
def sh_ok (S : sh_T) : Prop := sh_mc S ≤ 6 ∧ sh_jb S ≤ 6 ∧ sh_ss S ≤ 24 ∧ (∀ m, sh_kd S m < 4) ∧ (∀ m, sh_sp S m ≤ 8) ∧ (∀ i, sh_sf S i ≤ 1000) ∧ (∀ i, sh_st S i ≤ 2000) ∧ (∀ j, sh_du S j ≤ 10000) ∧ (∀ j, sh_we S j ≤ 100) ∧ (∀ j, sh_so S j ≤ 4) ∧ (∀ i, sh_sa S i < 24) ∧
  (∀ s, sh_sk S s < 4) ∧ (∀ s, sh_sh S s ≤ 100) ∧ (∀ s, sh_sw S s ≤ 100)
