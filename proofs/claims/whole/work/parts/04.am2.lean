theorem am_wsat {G : am_G} {h : am_H} {a : Nat} {e : am_E} (ha : h[a]? = some e) : (am_ws G (am_gz G) h)[a]? = some (am_gz G + a, am_e G e) := by rw [am_ws_get, ha]; rfl
theorem am_R.set {G : am_G} {h : am_H} {H H1 : Heap} {a : Nat} {e0 e : am_E} (hh : am_R G h H) (ha : h[a]? = some e0) (he : va_at (am_gD G) am_cl (am_gz G + a, am_e G e) H1) (z : H1.size = H.size) (oq : ∀ q : Nat, q ≠ am_gz G + a → H1[q]? = H[q]?) : am_R G (h.set a e) H1 :=
  ⟨by rw [z, hh.1, List.length_set], by rw [am_ws_set]; exact hh.2.set (am_D G h) (am_wsat ha) he oq⟩
theorem am_R.push {G : am_G} {h : am_H} {H H1 : Heap} {e : am_E} (hh : am_R G h H) (he : va_at (am_gD G) am_cl (am_gz G + h.length, am_e G e) H1) (z : H1.size = H.size + 1) (oq : ∀ q : Nat, q < H.size → H1[q]? = H[q]?) : am_R G (h ++ [e]) H1 := by
  refine ⟨by rw [z, hh.1, List.length_append]; simp; omega, ?_⟩
  rw [am_ws_app]
  refine (hh.2.kept (fun k q hk => oq q.1 ((hh.2 k q hk).lt))).app (fun k x hx => ?_)
  have hz : k < 1 := (List.getElem?_eq_some_iff.mp hx).1
  rw [show k = 0 by omega] at hx
  cases hx
  exact he
theorem am_S.put {G : am_G} {H0 H H1 : Heap} {locs : List Loc} {a i : Nat} (hS : va_S (am_A G) H0 H locs) (z : H1.size = H.size) (oq : ∀ q : Nat, q ≠ am_gz G + a → H1[q]? = H[q]?) : va_S (am_A G) H0 H1 (locs ++ [⟨am_gz G + a, i⟩]) :=
  hS.put z oq (show am_gz G ≤ am_gz G + a by omega)
theorem am_S.push {G : am_G} {H0 H H1 : Heap} {locs : List Loc} (hS : va_S (am_A G) H0 H locs) (z : H1.size = H.size + 1) (oq : ∀ q : Nat, q < H.size → H1[q]? = H[q]?) : va_S (am_A G) H0 H1 locs :=
  ⟨Nat.le_trans hS.1 (by omega), fun x h1 h2 => (oq x (Nat.lt_of_lt_of_le h1 hS.1)).trans (hS.2.1 x h1 h2), hS.2.2⟩
/-- what is known of the class number ci -/
def am_F (ci : Nat) (Cn : String) (T : u_T) (N : Nat) (ty : Nat → FieldType) : Prop :=
  am_cl[ci]? = some (Cn, T, N) ∧ (∀ w ∈ u_ws Cn T N, w ∈ am_T) ∧ (∀ k, k < N → parseFieldDescriptor (T k).2.2.1 = some (ty k)) ∧ ∀ a, a < N → ∀ b, b < N → a ≠ b → (T a).2.1 ≠ (T b).2.1
section AMH
variable {G : am_G} {y : am_M} {d bc bs : Nat} {Q : am_O → am_H → Prop} {pc : Nat} {L : List (Nat × Value)} {st : List Value} {h : am_H}
variable {ci N : Nat} {Cn : String} {T : u_T} {ty : Nat → FieldType}
theorem am_get (F : am_F ci Cn T N ty) (k : Nat) (hk : k < N) {a index : Nat} {fs : List Value} {v : Value} (hd : decode y.2.1 pc = .ok (.getfield index, 3)) (hw : Cond.fieldLink y.1.cls index (T k).1 (T k).2.1 (T k).2.2.1 ∈ am_T) (ha : h[a]? = some (.inr (ci, fs))) (hv : fs[k]? = some v) (kk : am_W G y d bc bs Q (pc + 3) L (v :: st) h) : am_W G y d bc bs Q pc L (.ref (a + 1) :: st) h := by
  intro p e R s m args below meth c H locs cells slots ls C hR hh hS hl
  exact va_get C.1.1 C.1.2.1 C.1.2.2.2.2 F.2.1 C.1.2.2.2.1 C.2.1 hh.2 a (am_wsat ha) F.1 k hk (C.1.2.2.2.2 _ hw) (fun _ q => q) (by rw [List.getElem?_map, hv]; rfl) hd (kk p e R s m args below meth c H locs cells slots ls C hR hh hS hl)
theorem am_put (F : am_F ci Cn T N ty) (k : Nat) (hk : k < N) {a index : Nat} {fs : List Value} {v : Value} (hd : decode y.2.1 pc = .ok (.putfield index, 3)) (hw : Cond.fieldLink y.1.cls index (T k).1 (T k).2.1 (T k).2.2.1 ∈ am_T) (hfin : (T k).2.2.2 = false) (ha : h[a]? = some (.inr (ci, fs))) (hl' : k < fs.length) (hn : narrow (ty k) (am_v G v) = am_v G v) (hf : fits (ty k) (am_v G v) = true) (kk : am_W G y d bc bs Q (pc + 3) L (st) (h.set a (.inr (ci, fs.set k v)))) : am_W G y d bc bs Q pc L (v :: .ref (a + 1) :: st) h := by
  intro p e R s m args below meth c H locs cells slots ls C hR hh hS hl
  have hc := F.1
  have hap := va_apart (own := y.1.cls) C.1.2.2.2.2 F.2.1 ty F.2.2.1 F.2.2.2 C.2.1 hc
  obtain ⟨r, h1, cell, q1, q2, q3, q4⟩ := hh.2 a _ (am_wsat ha)
  have hr : r = (Cn, T, N) := Option.some.inj (h1.symm.trans hc)
  subst hr
  obtain ⟨hSl, hfc, kC, hkC, hkind⟩ := C.2.1.1 ci _ hc
  obtain ⟨cf, kf, fi, f, hi, hsl⟩ := hSl k hk
  have hlay := C.1.2.2.2.2 _ (F.2.1 _ (u_in_lay hk))
  unfold u_lay at hlay
  rw [if_neg (by rw [hfin]; decide)] at hlay
  have hst := (u_facts hfc hkC (u_lays C.1.2.2.2.2 F.2.1 hk) hi).1
  have h6 := u_store hfc hkC hkind hlay hi (F.2.2.1 k hk) hn hf
  refine W.putK C.1.1 C.1.2.1 (f := f) ⟨C.1.2.2.2.1, C.1.2.2.2.2 _ hw, ⟨_, _, _, hi⟩, hst⟩ (by rw [q2]; exact h6) q1 q3 (by rw [hsl]; exact k2_hasslot (q4 k hk)) rfl rfl hd fun H' e1 e2 e3 => ?_
  rw [hsl] at e1 ⊢
  refine kk p e R s m args below meth c H' _ cells slots ls C hR (hh.set ha ?_ e2 e3) (am_S.put hS e2 e3) hl
  refine ⟨_, hc, t_OB.to (V := updV (vp_V (fs.map (am_v G))) k (am_v G v)) ⟨_, e1, q2, q3, t_set q4 hap hk _⟩ (fun j _ => ?_)⟩
  show _ = vp_V ((fs.set k v).map (am_v G)) j
  rw [List.map_set]
  exact vp_updV_set (by rw [List.length_map]; exact hl') _ j
theorem am_putF (F : am_F ci Cn T N ty) (k : Nat) (hk : k < N) {a index : Nat} {fs : List Value} {v : Value} (hd : decode y.2.1 pc = .ok (.putfield index, 3)) (hw : Cond.fieldLink y.1.cls index (T k).1 (T k).2.1 (T k).2.2.1 ∈ am_T) (hfin : (T k).2.2.2 = true) (hin : y.1.name = "<init>") (hdecl : (T k).1 = y.1.cls) (ha : h[a]? = some (.inr (ci, fs))) (hl' : k < fs.length) (hn : narrow (ty k) (am_v G v) = am_v G v) (hf : fits (ty k) (am_v G v) = true) (kk : am_W G y d bc bs Q (pc + 3) L (st) (h.set a (.inr (ci, fs.set k v)))) : am_W G y d bc bs Q pc L (v :: .ref (a + 1) :: st) h := by
  intro p e R s m args below meth c H locs cells slots ls C hR hh hS hl
  have hc := F.1
  have hap := va_apart (own := y.1.cls) C.1.2.2.2.2 F.2.1 ty F.2.2.1 F.2.2.2 C.2.1 hc
  obtain ⟨r, h1, cell, q1, q2, q3, q4⟩ := hh.2 a _ (am_wsat ha)
  have hr : r = (Cn, T, N) := Option.some.inj (h1.symm.trans hc)
  subst hr
  obtain ⟨hSl, hfc, kC, hkC, hkind⟩ := C.2.1.1 ci _ hc
  obtain ⟨cf, kf, fi, f, hi, hsl⟩ := hSl k hk
  have hlay := C.1.2.2.2.2 _ (F.2.1 _ (u_in_lay hk))
  unfold u_lay at hlay
  rw [if_pos hfin] at hlay
  have hst := (u_facts hfc hkC (u_lays C.1.2.2.2.2 F.2.1 hk) hi).1
  have hcf : m.cls = cf := by
    obtain ⟨_, _, c', _, _, _, -, -, hf', -, -, -, hown2, -⟩ := Cond.laysFinal_spec hlay
    have e1 : c' = cf := by have := hi.symm.trans hf'; simp at this; exact this.1.symm
    rw [hdecl] at hown2
    rw [← e1]; exact Option.some.inj (C.1.2.2.2.1.symm.trans hown2)
  have h6 := u_fits hfc hkC hkind (Or.inr hlay) hi (F.2.2.1 k hk) hn hf
  refine W.putFinK C.1.1 C.1.2.1 C.1.2.2.2.1 (C.1.2.2.2.2 _ hw) hi hst hcf (C.2.2.2.2.2.1.trans hin) (by rw [q2]; exact h6) q1 q3 (by rw [hsl]; exact k2_hasslot (q4 k hk)) rfl rfl hd fun H' e1 e2 e3 => ?_
  rw [hsl] at e1 ⊢
  refine kk p e R s m args below meth c H' _ cells slots ls C hR (hh.set ha ?_ e2 e3) (am_S.put hS e2 e3) hl
  refine ⟨_, hc, t_OB.to (V := updV (vp_V (fs.map (am_v G))) k (am_v G v)) ⟨_, e1, q2, q3, t_set q4 hap hk _⟩ (fun j _ => ?_)⟩
  show _ = vp_V ((fs.set k v).map (am_v G)) j
  rw [List.map_set]
  exact vp_updV_set (by rw [List.length_map]; exact hl') _ j
theorem am_iald {a n : Nat} {f : Nat → Int32} {i : Int32} (hd : decode y.2.1 pc = .ok (.iaload, 1)) (ha : h[a]? = some (.inl (0, n, .inl f))) (hi : vp_in i n) (k : am_W G y d bc bs Q (pc + 1) L (.int (f i.toNatClampNeg) :: st) h) : am_W G y d bc bs Q pc L (.int i :: .ref (a + 1) :: st) h := by
  intro p e R s m args below meth c H locs cells slots ls C hR hh hS hl
  exact va_iald C.1.1 C.1.2.1 C.2.1 hh.2 a 0 (am_wsat ha) rfl hi hd (k p e R s m args below meth c H locs cells slots ls C hR hh hS hl)
theorem am_ialdN (j : Nat) {a n : Nat} {f : Nat → Int32} {i : Int32} (hd : decode y.2.1 pc = .ok (.iaload, 1)) (ha : h[a]? = some (.inl (0, n, .inl f))) (hj : i = nI j) (hlt : j < n) (hn : n < 2 ^ 31) (k : am_W G y d bc bs Q (pc + 1) L (.int (f j) :: st) h) : am_W G y d bc bs Q pc L (.int i :: .ref (a + 1) :: st) h := by
  subst hj
  refine am_iald hd ha (vp_in_nI hlt hn) ?_
  rw [nI_clamp (by omega)]
  exact k
theorem am_lald {a n : Nat} {f : Nat → Int64} {i : Int32} (hd : decode y.2.1 pc = .ok (.laload, 1)) (ha : h[a]? = some (.inl (1, n, .inr (.inl f)))) (hi : vp_in i n) (k : am_W G y d bc bs Q (pc + 1) L (.long (f i.toNatClampNeg) :: st) h) : am_W G y d bc bs Q pc L (.int i :: .ref (a + 1) :: st) h := by
  intro p e R s m args below meth c H locs cells slots ls C hR hh hS hl
  exact va_lald C.1.1 C.1.2.1 C.2.1 hh.2 a 1 (am_wsat ha) rfl hi hd (k p e R s m args below meth c H locs cells slots ls C hR hh hS hl)
theorem am_laldN (j : Nat) {a n : Nat} {f : Nat → Int64} {i : Int32} (hd : decode y.2.1 pc = .ok (.laload, 1)) (ha : h[a]? = some (.inl (1, n, .inr (.inl f)))) (hj : i = nI j) (hlt : j < n) (hn : n < 2 ^ 31) (k : am_W G y d bc bs Q (pc + 1) L (.long (f j) :: st) h) : am_W G y d bc bs Q pc L (.int i :: .ref (a + 1) :: st) h := by
  subst hj
  refine am_lald hd ha (vp_in_nI hlt hn) ?_
  rw [nI_clamp (by omega)]
  exact k
theorem am_zald {a n : Nat} {f : Nat → Int32} {i : Int32} (hd : decode y.2.1 pc = .ok (.baload, 1)) (ha : h[a]? = some (.inl (2, n, .inl f))) (hi : vp_in i n) (k : am_W G y d bc bs Q (pc + 1) L (.int (f i.toNatClampNeg) :: st) h) : am_W G y d bc bs Q pc L (.int i :: .ref (a + 1) :: st) h := by
  intro p e R s m args below meth c H locs cells slots ls C hR hh hS hl
  exact va_zald C.1.1 C.1.2.1 C.2.1 hh.2 a 2 (am_wsat ha) rfl hi hd (k p e R s m args below meth c H locs cells slots ls C hR hh hS hl)
theorem am_zaldN (j : Nat) {a n : Nat} {f : Nat → Int32} {i : Int32} (hd : decode y.2.1 pc = .ok (.baload, 1)) (ha : h[a]? = some (.inl (2, n, .inl f))) (hj : i = nI j) (hlt : j < n) (hn : n < 2 ^ 31) (k : am_W G y d bc bs Q (pc + 1) L (.int (f j) :: st) h) : am_W G y d bc bs Q pc L (.int i :: .ref (a + 1) :: st) h := by
  subst hj
  refine am_zald hd ha (vp_in_nI hlt hn) ?_
  rw [nI_clamp (by omega)]
  exact k
theorem am_iast {a n : Nat} {f : Nat → Int32} {i : Int32} {x : Int32} (hd : decode y.2.1 pc = .ok (.iastore, 1)) (ha : h[a]? = some (.inl (0, n, .inl f))) (hi : vp_in i n) (k : am_W G y d bc bs Q (pc + 1) L (st) (h.set a (.inl (0, n, .inl (upd f i.toNatClampNeg x))))) : am_W G y d bc bs Q pc L (.int x :: .int i :: .ref (a + 1) :: st) h := by
  intro p e R s m args below meth c H locs cells slots ls C hR hh hS hl
  refine W.iast C.1.1 C.1.2.1 (hh.2 a _ (am_wsat ha)) ((C.2.1.2 0 _ rfl).1 n (fun j => .int (f j))) (fun q => by cases q) (by show ¬ (i < 0 ∨ (arrV _ _ _).slots.size ≤ _); rw [arrV_size]; exact hi) rfl rfl hd fun H1 e1 z oq => ?_
  refine k p e R s m args below meth c H1 _ cells slots ls C hR (hh.set ha ?_ z oq) (am_S.put hS z oq) hl
  show H1[_]? = some (vp_cell _ _)
  rw [e1]
  rw [vp_cell_i, vp_cell_i, arrV_store]
  congr 2
  funext q
  by_cases hq : q = i.toNatClampNeg
  · subst hq
    simp [updV, upd]
    
  · simp [updV, upd, hq]
theorem am_last {a n : Nat} {f : Nat → Int64} {i : Int32} {x : Int64} (hd : decode y.2.1 pc = .ok (.lastore, 1)) (ha : h[a]? = some (.inl (1, n, .inr (.inl f)))) (hi : vp_in i n) (k : am_W G y d bc bs Q (pc + 1) L (st) (h.set a (.inl (1, n, .inr (.inl (vp_updL f i.toNatClampNeg x)))))) : am_W G y d bc bs Q pc L (.long x :: .int i :: .ref (a + 1) :: st) h := by
  intro p e R s m args below meth c H locs cells slots ls C hR hh hS hl
  refine W.last C.1.1 C.1.2.1 (hh.2 a _ (am_wsat ha)) ((C.2.1.2 1 _ rfl).1 n (fun j => .long (f j))) (fun q => by cases q) (by show ¬ (i < 0 ∨ (arrV _ _ _).slots.size ≤ _); rw [arrV_size]; exact hi) rfl rfl hd fun H1 e1 z oq => ?_
  refine k p e R s m args below meth c H1 _ cells slots ls C hR (hh.set ha ?_ z oq) (am_S.put hS z oq) hl
  show H1[_]? = some (vp_cell _ _)
  rw [e1]
  rw [vp_cell_l, vp_cell_l, arrV_store]
  congr 2
  funext q
  by_cases hq : q = i.toNatClampNeg
  · subst hq
    simp [updV, vp_updL]
    
  · simp [updV, vp_updL, hq]
theorem am_zast {a n : Nat} {f : Nat → Int32} {i : Int32} {x : Int32} (hd : decode y.2.1 pc = .ok (.bastore, 1)) (ha : h[a]? = some (.inl (2, n, .inl f))) (hi : vp_in i n) (k : am_W G y d bc bs Q (pc + 1) L (st) (h.set a (.inl (2, n, .inl (upd f i.toNatClampNeg (vp_nar .boolean x)))))) : am_W G y d bc bs Q pc L (.int x :: .int i :: .ref (a + 1) :: st) h := by
  intro p e R s m args below meth c H locs cells slots ls C hR hh hS hl
  refine W.zast C.1.1 C.1.2.1 (hh.2 a _ (am_wsat ha)) ((C.2.1.2 2 _ rfl).1 n (fun j => .int (f j))) (fun q => by cases q) (by show ¬ (i < 0 ∨ (arrV _ _ _).slots.size ≤ _); rw [arrV_size]; exact hi) rfl rfl hd fun H1 e1 z oq => ?_
  refine k p e R s m args below meth c H1 _ cells slots ls C hR (hh.set ha ?_ z oq) (am_S.put hS z oq) hl
  show H1[_]? = some (vp_cell _ _)
  rw [e1]
  rw [vp_cell_i, vp_cell_i, arrV_store]
  congr 2
  funext q
  by_cases hq : q = i.toNatClampNeg
  · subst hq
    simp [updV, upd, vp_nar]
    try rfl
  · simp [updV, upd, hq]
theorem am_iastN (j : Nat) {a n : Nat} {f : Nat → Int32} {i : Int32} {x : Int32} (hd : decode y.2.1 pc = .ok (.iastore, 1)) (ha : h[a]? = some (.inl (0, n, .inl f))) (hj : i = nI j) (hlt : j < n) (hn : n < 2 ^ 31) (k : am_W G y d bc bs Q (pc + 1) L (st) (h.set a (.inl (0, n, .inl (upd f j x))))) : am_W G y d bc bs Q pc L (.int x :: .int i :: .ref (a + 1) :: st) h := by
  subst hj
  refine am_iast hd ha (vp_in_nI hlt hn) ?_
  rw [nI_clamp (by omega)]
  exact k
theorem am_lastN (j : Nat) {a n : Nat} {f : Nat → Int64} {i : Int32} {x : Int64} (hd : decode y.2.1 pc = .ok (.lastore, 1)) (ha : h[a]? = some (.inl (1, n, .inr (.inl f)))) (hj : i = nI j) (hlt : j < n) (hn : n < 2 ^ 31) (k : am_W G y d bc bs Q (pc + 1) L (st) (h.set a (.inl (1, n, .inr (.inl (vp_updL f j x)))))) : am_W G y d bc bs Q pc L (.long x :: .int i :: .ref (a + 1) :: st) h := by
  subst hj
  refine am_last hd ha (vp_in_nI hlt hn) ?_
  rw [nI_clamp (by omega)]
  exact k
theorem am_zastN (j : Nat) {a n : Nat} {f : Nat → Int32} {i : Int32} {x : Int32} (hd : decode y.2.1 pc = .ok (.bastore, 1)) (ha : h[a]? = some (.inl (2, n, .inl f))) (hj : i = nI j) (hlt : j < n) (hn : n < 2 ^ 31) (hx : vp_nar .boolean x = x) (k : am_W G y d bc bs Q (pc + 1) L (st) (h.set a (.inl (2, n, .inl (upd f j x))))) : am_W G y d bc bs Q pc L (.int x :: .int i :: .ref (a + 1) :: st) h := by
  subst hj
  refine am_zast hd ha (vp_in_nI hlt hn) ?_
  rw [nI_clamp (by omega), hx]
  exact k
theorem am_alen {a t : Nat} {x : vp_A} {v : Int32} (hd : decode y.2.1 pc = .ok (.arraylength, 1)) (ha : h[a]? = some (.inl (t, x))) (ht : t < 3) (hv : Int32.ofNat x.1 = v) (k : am_W G y d bc bs Q (pc + 1) L (.int v :: st) h) : am_W G y d bc bs Q pc L (.ref (a + 1) :: st) h := by
  intro p e R s m args below meth c H locs cells slots ls C hR hh hS hl
  rcases (show t = 0 ∨ t = 1 ∨ t = 2 by omega) with rfl | rfl | rfl
  · exact va_alen C.1.1 C.1.2.1 C.2.1 hh.2 a 0 (am_wsat ha) rfl hv hd (k p e R s m args below meth c H locs cells slots ls C hR hh hS hl)
  · exact va_alen C.1.1 C.1.2.1 C.2.1 hh.2 a 1 (am_wsat ha) rfl hv hd (k p e R s m args below meth c H locs cells slots ls C hR hh hS hl)
  · exact va_alen C.1.1 C.1.2.1 C.2.1 hh.2 a 2 (am_wsat ha) rfl hv hd (k p e R s m args below meth c H locs cells slots ls C hR hh hS hl)
/-- the script -/
theorem am_sld {i : Int32} (hd : decode y.2.1 pc = .ok (.iaload, 1)) (hi : vp_in i (am_gn G)) (k : am_W G y d bc bs Q (pc + 1) L (.int (am_gx G i.toNatClampNeg) :: st) h) : am_W G y d bc bs Q pc L (.int i :: .ref 0 :: st) h := by
  intro p e R s m args below meth c H locs cells slots ls C hR hh hS hl
  have C' := C
  obtain ⟨-, -, -, -, -, -, hz, hX, hb, -⟩ := C'
  exact va_sld C.1.1 C.1.2.1 hX (Nat.lt_of_lt_of_le hb hz) (Nat.not_le.mpr hb) hS hi hd (k p e R s m args below meth c H locs cells slots ls C hR hh hS hl)
theorem am_slen (hd : decode y.2.1 pc = .ok (.arraylength, 1)) (k : am_W G y d bc bs Q (pc + 1) L (.int (nI (am_gn G)) :: st) h) : am_W G y d bc bs Q pc L (.ref 0 :: st) h := by
  intro p e R s m args below meth c H locs cells slots ls C hR hh hS hl
  have C' := C
  obtain ⟨-, -, -, -, -, -, hz, hX, hb, -⟩ := C'
  exact va_slen C.1.1 C.1.2.1 hX (Nat.lt_of_lt_of_le hb hz) (Nat.not_le.mpr hb) hS hd (k p e R s m args below meth c H locs cells slots ls C hR hh hS hl)
theorem am_new (F : am_F ci Cn T N ty) {index : Nat} {fs : List Value} (hd : decode y.2.1 pc = .ok (.new index, 3)) (hw : Cond.classLink y.1.cls index Cn ∈ am_T) (hw2 : Cond.instantiable Cn N ∈ am_T) (hw3 : Cond.initialized Cn ∈ am_T) (hfs : ∀ j, j < N → defaultValue (ty j) = vp_V (fs.map (am_v G)) j) (hb1 : 1 ≤ bc) (hb2 : N ≤ bs) (k : am_W G y d (bc - 1) (bs - N) Q (pc + 3) L (.ref (h.length + 1) :: st) (h ++ [.inr (ci, fs)])) : am_W G y d bc bs Q pc L (st) h := by
  intro p e R s m args below meth c H locs cells slots ls C hR hh hS hl
  have hc := F.1
  have hKn := C.2.1.1 ci _ hc
  obtain ⟨r1, r2, r3, r4⟩ := hR
  refine W.newcK C.1.1 C.1.2.1 C.1.2.2.2.1 (C.1.2.2.2.2 _ hw) (C.1.2.2.2.2 _ hw2) (C.1.2.2.2.2 _ hw3) rfl hd (by omega) (by omega) hKn.2.1 hh.1 fun H1 kC hkC e1 z1 o1 => ?_
  exact k p e R s m args below meth c H1 locs (cells + 1) (slots + N) ls C ⟨r1, r2, by omega, by omega⟩ (hh.push ⟨_, hc, (u_born ty C.1.2.2.2.2 F.2.1 hKn hkC e1 F.2.2.1).to hfs⟩ (by rw [z1, hh.1]) (fun q hq => o1 q (by rw [← hh.1]; exact hq))) (am_S.push hS (by rw [z1, hh.1]) (fun q hq => o1 q (by rw [← hh.1]; exact hq))) hl
theorem am_newa {atype : ArrayType} {t NN : Nat} {n : Int32} {a0 : vp_A} (hd : decode y.2.1 pc = .ok (.newarray atype, 2)) (hw : Cond.arrayClass (newarray.typeOf atype) ∈ am_T) (ht : (am_tys G)[t]? = some (am_gA G t, newarray.typeOf atype)) (ha0 : ∀ cA : ClassId, vp_cell cA a0 = arrV cA NN (fun _ => defaultValue (newarray.typeOf atype))) (hn : n = nI NN) (hN : NN ≤ 1000000) (hbytes : NN * componentBytes (newarray.typeOf atype) ≤ 536870912) (hb1 : 1 ≤ bc) (hb2 : NN ≤ bs) (k : am_W G y d (bc - 1) (bs - NN) Q (pc + 2) L (.ref (h.length + 1) :: st) (h ++ [.inl (t, a0)])) : am_W G y d bc bs Q pc L (.int n :: st) h := by
  intro p e R s m args below meth c H locs cells slots ls C hR hh hS hl
  obtain ⟨r1, r2, r3, r4⟩ := hR
  subst hn
  refine va_newaK C.1.1 C.1.2.1 (C.1.2.2.2.2 _ hw) rfl hd rfl (nI_pos (by omega)) (nI_clamp (by omega)) hbytes (by omega) (by omega) hh.1 fun H1 cA e1 z1 o1 hAr hNm => ?_
  have hcA : cA = am_gA G t := by
    have h2 := (C.2.1.2 t _ ht).2
    have h3 : s.vm.findClass ("[" ++ (newarray.typeOf atype).toString) = some (am_gA G t) := by cases atype <;> exact h2
    exact Option.some.inj (hNm.symm.trans h3)
  subst hcA
  refine k p e R s m args below meth c H1 locs (cells + 1) (slots + NN) ls C ⟨r1, r2, by omega, by omega⟩ (hh.push ?_ (by rw [z1, hh.1]) (fun q hq => o1 q (by rw [← hh.1]; exact hq))) (am_S.push hS (by rw [z1, hh.1]) (fun q hq => o1 q (by rw [← hh.1]; exact hq))) hl
  show H1[am_gz G + h.length]? = some (vp_cell _ _)
  rw [ha0]
  exact e1
theorem am_objInit {index a : Nat} (hd : decode y.2.1 pc = .ok (.invokespecial index, 3)) (hw1 : Cond.methodLink y.1.cls index Lib.objectInit ∈ am_T) (hw2 : Cond.instanceMethod Lib.objectInit ∈ am_T) (hw3 : Cond.code Lib.objectInit ⟨#[0xb1]⟩ 1 none ∈ am_T) (hd1 : 1 ≤ d) (hst : (st.map fun v => v.category).sum ≤ 20) (k : am_W G y d bc bs Q (pc + 3) L (st) h) : am_W G y d bc bs Q pc L (.ref (a + 1) :: st) h := by
  intro p e R s m args below meth c H locs cells slots ls C hR hh hS hl
  obtain ⟨r1, r2, r3, r4⟩ := id hR
  refine W.objInit C.1.1 C.1.2.1 C.1.2.2.2.1 (C.1.2.2.2.2 _ hw1) (C.1.2.2.2.2 _ hw2) (C.1.2.2.2.2 _ hw3) rfl (by rw [C.1.2.2.1]; exact hl.1) (a := am_gz G + a) (rest := st.map (am_v G)) rfl hd (by omega) ?_ (k p e R s m args below meth c H locs cells slots ls C hR hh hS hl)
  have e1 : ((st.map (am_v G)).map fun v => v.category) = st.map fun v => v.category := by
    rw [List.map_map]; exact List.map_congr_left (fun v _ => am_v_cat G v)
  show 2 * 0 + _ + 12 ≤ _
  rw [e1]
  omega
theorem am_end {p : Program} {e : Env} {R : Room} {s : State} {m : MethodId} {args : Array Value} {below : List Frame} {meth : Method} {c : Code} {H : Heap} {locs : List Loc} {cells slots : Nat} {g : JFrame} {v : Option Value} {b1 b2 : Nat}
    (C : am_C G y p s m args meth c) (hR : am_Rm d b1 b2 R cells slots) (hh : am_R G h H) (hS : va_S (am_A G) s.heap H locs) (hq : Q (.inl v) h)
    (w : W p G.1 e R s m args below meth c H locs cells slots (MQ below (fun _ _ o t => o = .returned (v.map (am_v G)) ∧ t.heap = H) args s cells slots (am_A G)) g) : W p G.1 e R s m args below meth c H locs cells slots (am_Z G Q R s below) g := by
  intro T hT X
  obtain ⟨t, a, o, q1, q2, ⟨q3, q4⟩, Lc, ⟨-, q5, q6⟩, q7⟩ := w T hT X
  obtain ⟨r1, r2, r3, r4⟩ := hR
  refine ⟨t, a, o, Lc, cells, slots, .inl v, h, q1, q2, q5, q6, by omega, by omega, q7, fun q hq => ?_, by rw [q4]; exact hh, q3, hq⟩
  rw [q4]
  exact hS.2.1 q (Nat.lt_of_lt_of_le hq C.2.2.2.2.2.2.1) (Nat.not_le.mpr hq)
theorem am_iret {v : Int32} (hd : decode y.2.1 pc = .ok (.ireturn, 1)) (hr : y.2.2.2.1 = some .int) (hq : Q (.inl (some (.int v))) h) : am_W G y d bc bs Q pc L ([.int v]) h := by
  intro p e R s m args below meth c H locs cells slots ls C hR hh hS hl
  exact am_end C hR hh hS hq (W.iret C.1.1 C.1.2.1 (C.2.2.1.trans hr) (fun t ht _ => ⟨rfl, ht⟩) hS.2.2 hd C.2.2.2.1)
theorem am_zret {v : Int32} (hd : decode y.2.1 pc = .ok (.ireturn, 1)) (hr : y.2.2.2.1 = some .boolean) (hv : narrow .boolean (.int v) = .int v) (hq : Q (.inl (some (.int v))) h) : am_W G y d bc bs Q pc L ([.int v]) h := by
  intro p e R s m args below meth c H locs cells slots ls C hR hh hS hl
  exact am_end C hR hh hS hq (W.zret C.1.1 C.1.2.1 (C.2.2.1.trans hr) hv (fun t ht _ => ⟨rfl, ht⟩) hS.2.2 hd C.2.2.2.1)
theorem am_lret {v : Int64} (hd : decode y.2.1 pc = .ok (.lreturn, 1)) (hr : y.2.2.2.1 = some .long) (hq : Q (.inl (some (.long v))) h) : am_W G y d bc bs Q pc L ([.long v]) h := by
  intro p e R s m args below meth c H locs cells slots ls C hR hh hS hl
  exact am_end C hR hh hS hq (W.lret C.1.1 C.1.2.1 (C.2.2.1.trans hr) (fun t ht _ => ⟨rfl, ht⟩) hS.2.2 hd C.2.2.2.1)
theorem am_vret (hd : decode y.2.1 pc = .ok (.return_, 1)) (hr : y.2.2.2.1 = none) (hq : Q (.inl none) h) : am_W G y d bc bs Q pc L ([]) h := by
  intro p e R s m args below meth c H locs cells slots ls C hR hh hS hl
  exact am_end C hR hh hS hq (W.vret C.1.1 C.1.2.1 (C.2.2.1.trans hr) (fun t ht _ => ⟨rfl, ht⟩) hS.2.2 hd C.2.2.2.1)
end AMH
