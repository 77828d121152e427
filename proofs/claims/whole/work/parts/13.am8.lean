/-! numbers and arrays of natural numbers -/
theorem am_inc (a : Nat) : nI a + Int32.ofInt 1 = nI (a + 1) := by rw [lit1]; exact nI_1 a
def nu (g : Nat → Nat) (k v : Nat) : Nat → Nat := fun j => if j = k then v else g j
theorem nu_eq (g : Nat → Nat) (k v : Nat) : nu g k v k = v := by simp [nu]
theorem nu_ne (g : Nat → Nat) {k j : Nat} (v : Nat) (h : j ≠ k) : nu g k v j = g j := by simp [nu, h]
def am_a (n : Nat) (g : Nat → Nat) : am_E := .inl (0, n, .inl (fun j => nI (g j)))
theorem upd_nu (g : Nat → Nat) (k v : Nat) : upd (fun j => nI (g j)) k (nI v) = fun j => nI (nu g k v j) := by
  funext j
  by_cases h : j = k <;> simp [upd, nu, h]
/-- the method returns v, the cells are then h2 -/
abbrev am_Fn (G : am_G) (z : am_M) (d bc bs : Nat) (As : List Value) (h : am_H) (v : Option Value) (h2 : am_H) : Prop := am_W G z d bc bs (fun o h' => o = .inl v ∧ h' = h2) 0 (lv_args 0 As) [] h
/-- the method throws an object of the class ci, which is the only new cell -/
abbrev am_Tn (G : am_G) (z : am_M) (d bc bs : Nat) (As : List Value) (h : am_H) (ci : Nat) : Prop := am_W G z d bc bs (fun o h' => o = .inr (ci, h.length + 1) ∧ h' = h ++ [.inr (ci, [])]) 0 (lv_args 0 As) [] h
section AMN
variable {G : am_G} {y z : am_M} {d bc bs bc' bs' : Nat} {Q : am_O → am_H → Prop} {pc : Nat} {L : List (Nat × Value)} {st : List Value} {h h2 : am_H} {v : Option Value}
theorem am_iaddN {a b : Nat} (hd : decode y.2.1 pc = .ok (.iadd, 1)) (k : am_W G y d bc bs Q (pc + 1) L (.int (nI (a + b)) :: st) h) : am_W G y d bc bs Q pc L (.int (nI b) :: .int (nI a) :: st) h :=
  am_iadd hd (by rw [nI_add]; exact k)
theorem am_imulN {a b : Nat} (hd : decode y.2.1 pc = .ok (.imul, 1)) (k : am_W G y d bc bs Q (pc + 1) L (.int (nI (a * b)) :: st) h) : am_W G y d bc bs Q pc L (.int (nI b) :: .int (nI a) :: st) h :=
  am_imul hd (by rw [pk_mul]; exact k)
theorem am_isubN {a b : Nat} (hd : decode y.2.1 pc = .ok (.isub, 1)) (hab : b ≤ a) (k : am_W G y d bc bs Q (pc + 1) L (.int (nI (a - b)) :: st) h) : am_W G y d bc bs Q pc L (.int (nI b) :: .int (nI a) :: st) h :=
  am_isub hd (by rw [pk_sub hab]; exact k)
theorem am_icmpN_eq {a b : Nat} {off : Int} {tgt : Nat} (hd : decode y.2.1 pc = .ok (.if_icmp .eq off, 3)) (ht : (pc : Int) + off = (tgt : Int)) (ha : a < 2 ^ 31) (hb : b < 2 ^ 31) (k1 : a = b → am_W G y d bc bs Q tgt L (st) h) (k2 : a ≠ b → am_W G y d bc bs Q (pc + 3) L (st) h) : am_W G y d bc bs Q pc L (.int (nI b) :: .int (nI a) :: st) h :=
  am_icmp_eq hd ht (fun q => k1 ((nI_eq ha hb).mp q)) (fun q => k2 (fun e => q ((nI_eq ha hb).mpr e)))
theorem am_icmpN_ne {a b : Nat} {off : Int} {tgt : Nat} (hd : decode y.2.1 pc = .ok (.if_icmp .ne off, 3)) (ht : (pc : Int) + off = (tgt : Int)) (ha : a < 2 ^ 31) (hb : b < 2 ^ 31) (k1 : a ≠ b → am_W G y d bc bs Q tgt L (st) h) (k2 : a = b → am_W G y d bc bs Q (pc + 3) L (st) h) : am_W G y d bc bs Q pc L (.int (nI b) :: .int (nI a) :: st) h :=
  am_icmp_ne hd ht (fun q => k1 (fun e => q ((nI_eq ha hb).mpr e))) (fun q => k2 ((nI_eq ha hb).mp q))
theorem am_icmpN_lt {a b : Nat} {off : Int} {tgt : Nat} (hd : decode y.2.1 pc = .ok (.if_icmp .lt off, 3)) (ht : (pc : Int) + off = (tgt : Int)) (ha : a < 2 ^ 31) (hb : b < 2 ^ 31) (k1 : a < b → am_W G y d bc bs Q tgt L (st) h) (k2 : b ≤ a → am_W G y d bc bs Q (pc + 3) L (st) h) : am_W G y d bc bs Q pc L (.int (nI b) :: .int (nI a) :: st) h :=
  am_icmp_lt hd ht (fun q => k1 ((nI_ltI ha hb).mp q)) (fun q => k2 (Nat.not_lt.mp fun e => q ((nI_ltI ha hb).mpr e)))
theorem am_icmpN_ge {a b : Nat} {off : Int} {tgt : Nat} (hd : decode y.2.1 pc = .ok (.if_icmp .ge off, 3)) (ht : (pc : Int) + off = (tgt : Int)) (ha : a < 2 ^ 31) (hb : b < 2 ^ 31) (k1 : b ≤ a → am_W G y d bc bs Q tgt L (st) h) (k2 : a < b → am_W G y d bc bs Q (pc + 3) L (st) h) : am_W G y d bc bs Q pc L (.int (nI b) :: .int (nI a) :: st) h :=
  am_icmp_ge hd ht (fun q => k1 ((nI_leI hb ha).mp q)) (fun q => k2 (Nat.not_le.mp fun e => q ((nI_leI hb ha).mpr e)))
theorem am_icmpN_gt {a b : Nat} {off : Int} {tgt : Nat} (hd : decode y.2.1 pc = .ok (.if_icmp .gt off, 3)) (ht : (pc : Int) + off = (tgt : Int)) (ha : a < 2 ^ 31) (hb : b < 2 ^ 31) (k1 : b < a → am_W G y d bc bs Q tgt L (st) h) (k2 : a ≤ b → am_W G y d bc bs Q (pc + 3) L (st) h) : am_W G y d bc bs Q pc L (.int (nI b) :: .int (nI a) :: st) h :=
  am_icmp_gt hd ht (fun q => k1 ((nI_ltI hb ha).mp q)) (fun q => k2 (Nat.not_lt.mp fun e => q ((nI_ltI hb ha).mpr e)))
theorem am_icmpN_le {a b : Nat} {off : Int} {tgt : Nat} (hd : decode y.2.1 pc = .ok (.if_icmp .le off, 3)) (ht : (pc : Int) + off = (tgt : Int)) (ha : a < 2 ^ 31) (hb : b < 2 ^ 31) (k1 : a ≤ b → am_W G y d bc bs Q tgt L (st) h) (k2 : b < a → am_W G y d bc bs Q (pc + 3) L (st) h) : am_W G y d bc bs Q pc L (.int (nI b) :: .int (nI a) :: st) h :=
  am_icmp_le hd ht (fun q => k1 ((nI_leI ha hb).mp q)) (fun q => k2 (Nat.not_le.mp fun e => q ((nI_leI ha hb).mpr e)))
theorem am_ialdA {a n j : Nat} {g : Nat → Nat} (hd : decode y.2.1 pc = .ok (.iaload, 1)) (ha : h[a]? = some (am_a n g)) (hlt : j < n) (hn : n < 2 ^ 31) (k : am_W G y d bc bs Q (pc + 1) L (.int (nI (g j)) :: st) h) : am_W G y d bc bs Q pc L (.int (nI j) :: .ref (a + 1) :: st) h :=
  am_ialdN j hd ha rfl hlt hn k
theorem am_iastA {a n j v : Nat} {g : Nat → Nat} (hd : decode y.2.1 pc = .ok (.iastore, 1)) (ha : h[a]? = some (am_a n g)) (hlt : j < n) (hn : n < 2 ^ 31) (k : am_W G y d bc bs Q (pc + 1) L (st) (h.set a (am_a n (nu g j v)))) : am_W G y d bc bs Q pc L (.int (nI v) :: .int (nI j) :: .ref (a + 1) :: st) h :=
  am_iastN j hd ha rfl hlt hn (by rw [upd_nu]; exact k)
/-- a call by its contract: n values are taken off the stack -/
theorem am_callF (n : Nat) (lk : am_Lk G y z pc L (st.take n).reverse (st.drop n) h) (hpl : plainName z.1.cls = true) (hm : z.2.2.1 ≤ 44) (hfit : (lg_sl (st.take n).reverse).length ≤ z.2.2.1) (hrest : ((st.drop n).map fun v => v.category).sum ≤ 8) (hb1 : bc' ≤ bc) (hb2 : bs' ≤ bs)
    (hk : am_Fn G z d bc' bs' (st.take n).reverse h v h2) (k : am_W G y (d + 1) (bc - bc') (bs - bs') Q (pc + 3) L (v.toList ++ st.drop n) h2) : am_W G y (d + 1) bc bs Q pc L st h := by
  have e : st = (st.take n).reverse.reverse ++ st.drop n := by rw [List.reverse_reverse, List.take_append_drop]
  rw [e]
  refine am_call (As := (st.take n).reverse) (rest := st.drop n) lk hpl hm hfit hrest hb1 hb2 hk (fun w h' q => ?_) (fun q h' hq => by cases hq.1)
  obtain ⟨q1, rfl⟩ := q
  cases q1
  exact k
/-- a call that may end in many ways -/
theorem am_callQ {Q' : am_O → am_H → Prop} (n : Nat) (lk : am_Lk G y z pc L (st.take n).reverse (st.drop n) h) (hpl : plainName z.1.cls = true) (hm : z.2.2.1 ≤ 44) (hfit : (lg_sl (st.take n).reverse).length ≤ z.2.2.1) (hrest : ((st.drop n).map fun v => v.category).sum ≤ 8) (hb1 : bc' ≤ bc) (hb2 : bs' ≤ bs)
    (hk : am_W G z d bc' bs' Q' 0 (lv_args 0 (st.take n).reverse) [] h) (k : ∀ v h', Q' (.inl v) h' → am_W G y (d + 1) (bc - bc') (bs - bs') Q (pc + 3) L (v.toList ++ st.drop n) h') (kt : ∀ q h', Q' (.inr q) h' → am_TW G y (d + 1) (bc - bc') (bs - bs') Q pc L q h') : am_W G y (d + 1) bc bs Q pc L st h := by
  have e : st = (st.take n).reverse.reverse ++ st.drop n := by rw [List.reverse_reverse, List.take_append_drop]
  rw [e]
  exact am_call (As := (st.take n).reverse) (rest := st.drop n) lk hpl hm hfit hrest hb1 hb2 hk k kt
/-- a call that throws -/
theorem am_callT {ci : Nat} (n : Nat) (lk : am_Lk G y z pc L (st.take n).reverse (st.drop n) h) (hpl : plainName z.1.cls = true) (hm : z.2.2.1 ≤ 44) (hfit : (lg_sl (st.take n).reverse).length ≤ z.2.2.1) (hrest : ((st.drop n).map fun v => v.category).sum ≤ 8) (hb1 : bc' ≤ bc) (hb2 : bs' ≤ bs)
    (hk : am_Tn G z d bc' bs' (st.take n).reverse h ci) (k : am_TW G y (d + 1) (bc - bc') (bs - bs') Q pc L (ci, h.length + 1) (h ++ [.inr (ci, [])])) : am_W G y (d + 1) bc bs Q pc L st h := by
  refine am_callQ n lk hpl hm hfit hrest hb1 hb2 hk (fun w h' q => by cases q.1) (fun q h' hq => ?_)
  obtain ⟨q1, rfl⟩ := hq
  cases q1
  exact k
theorem am_recvV {As rest : List Value} {index a ci N : Nat} {T0 : u_T} {fs As' : List Value} (hA : As = .ref (a + 1) :: As') (hd : decode y.2.1 pc = .ok (.invokevirtual index, 3)) (w1 : Cond.methodLink y.1.cls index z.1 ∈ am_T) (w2 : Cond.instanceMethod z.1 ∈ am_T) (w3 : Cond.selects z.1.cls z.1 z.1 ∈ am_T) (w4 : am_cw z ∈ am_T)
    (hcl : am_cl[ci]? = some (z.1.cls, T0, N)) (ha : h[a]? = some (.inr (ci, fs))) (hy : z.1.cls ≠ "java/lang/invoke/MethodHandle" ∧ z.1.cls ≠ "java/lang/invoke/VarHandle") (hn : (parseMethodDescriptor z.1.desc).map (fun d => d.parameters.length) = some As'.length) : am_Lk G y z pc L As rest h := by
  subst hA
  exact am_lkV hd w1 w2 w3 w4 hcl ha hy hn
theorem am_recvI {As rest : List Value} {index a : Nat} {As' : List Value} (hA : As = .ref (a + 1) :: As') (hd : decode y.2.1 pc = .ok (.invokespecial index, 3)) (w1 : Cond.methodLink y.1.cls index z.1 ∈ am_T) (w2 : Cond.instanceMethod z.1 ∈ am_T) (w4 : am_cw z ∈ am_T) (hz1 : z.1.name = "<init>") (hz2 : z.2.2.2 = (none, []))
    (hy : z.1.cls ≠ "java/lang/invoke/MethodHandle" ∧ z.1.cls ≠ "java/lang/invoke/VarHandle") (hn : (parseMethodDescriptor z.1.desc).map (fun d => d.parameters.length) = some As'.length) : am_Lk G y z pc L As rest h := by
  subst hA
  exact am_lkI hd w1 w2 w4 hz1 hz2 hy hn
theorem am_recvIN {As rest : List Value} {index a : Nat} {host : String} {As' : List Value} (hA : As = .ref (a + 1) :: As') (hd : decode y.2.1 pc = .ok (.invokespecial index, 3)) (w1 : Cond.methodLinkNest y.1.cls index z.1 host ∈ am_T2) (w2 : Cond.instanceMethod z.1 ∈ am_T) (w4 : am_cw z ∈ am_T) (hz1 : z.1.name = "<init>") (hz2 : z.2.2.2 = (none, []))
    (hy : z.1.cls ≠ "java/lang/invoke/MethodHandle" ∧ z.1.cls ≠ "java/lang/invoke/VarHandle") (hn : (parseMethodDescriptor z.1.desc).map (fun d => d.parameters.length) = some As'.length) : am_Lk G y z pc L As rest h := by
  subst hA
  exact am_lkIN hd w1 w2 w4 hz1 hz2 hy hn
end AMN
theorem F_X : am_F 0 R_X T_X 6 ty_X := ⟨rfl, in_X, tk_X, nm_X⟩
theorem F_S : am_F 1 R_S T_S 15 ty_S := ⟨rfl, in_S, tk_S, nm_S⟩
theorem F_F : am_F 2 R_F T_F 6 ty_F := ⟨rfl, in_F, tk_F, nm_F⟩
theorem F_R : am_F 3 R_R T_R 10 ty_R := ⟨rfl, in_R, tk_R, nm_R⟩
theorem F_P : am_F 4 R_P T_P 10 ty_P := ⟨rfl, in_P, tk_P, nm_P⟩
theorem F_M : am_F 5 R_M T_M 34 ty_M := ⟨rfl, in_M, tk_M, nm_M⟩
