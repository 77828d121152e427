/-! the constructors of the class -/
def sh_0 : sh_T := (0, fun _ => 0, fun _ => 0, fun _ => 0, fun _ => 0, 0, fun _ => 0, fun _ => 0, fun _ => 0, fun _ => 0, 0, fun _ => 0, fun _ => 0, fun _ => 0, fun _ => nI 0)
def se_0 : se_T := (0, 0, 0, 0, fun _ => 0, fun _ => 0, fun _ => false, fun _ => 0)
def pl_0 : pl_T := (0, 0, 0, 0, 0, 0, fun _ => 0, fun _ => 0, fun _ => 0)
section CI0
variable {G : am_G}
theorem am_newX {y : am_M} {d bc bs : Nat} {Q : am_O → am_H → Prop} {pc : Nat} {L : List (Nat × Value)} {st : List Value} {h : am_H} {atype : ArrayType} {t NN : Nat} {n : Int32} {a0 : vp_A} (r : Nat) (h2 : am_H) (bc2 bs2 : Nat) (hr : h.length + 1 = r) (hh : h ++ [.inl (t, a0)] = h2) (e1 : bc = bc2 + 1) (e2 : bs = bs2 + NN) (hd : decode y.2.1 pc = .ok (.newarray atype, 2)) (hw : Cond.arrayClass (newarray.typeOf atype) ∈ am_T) (ht : (am_tys G)[t]? = some (am_gA G t, newarray.typeOf atype)) (ha0 : ∀ cA : ClassId, vp_cell cA a0 = arrV cA NN (fun _ => defaultValue (newarray.typeOf atype))) (hn : n = nI NN) (hN : NN ≤ 1000000) (hbytes : NN * componentBytes (newarray.typeOf atype) ≤ 536870912) (k : am_W G y d bc2 bs2 Q (pc + 2) L (.ref r :: st) h2) : am_W G y d bc bs Q pc L (.int n :: st) h := by
  subst hr hh e1 e2
  exact am_newa (t := t) (a0 := a0) hd hw ht ha0 hn hN hbytes (by omega) (by omega) (by rw [Nat.add_sub_cancel, Nat.add_sub_cancel]; exact k)
set_option maxRecDepth 20000 in
theorem c_S_init (d : Nat) (e0 : am_E) : am_Fn G m_S_init (d + 1) 12 246 [.ref 2] (e0 :: [.inr (1, [.int (nI 0), .null, .null, .null, .null, .int (nI 0), .null, .null, .null, .null, .int (nI 0), .null, .null, .null, .null])]) none (e0 :: sh_c sh_0) := by
  refine am_aload_n d_S_init_0 rfl rfl ?_
  refine am_objInit d_S_init_1 w_27 w_20 w_21 (by omega) (by decide) ?_
  refine am_aload_n d_S_init_4 rfl rfl ?_
  refine am_iconst (v := nI 0) d_S_init_5 (by decide) ?_
  refine am_put F_S 0 (by decide) d_S_init_6 w_28 rfl rfl (Nat.le_of_ble_eq_true rfl) rfl rfl ?_
  refine am_hq (h2 := (e0 :: [.inr (1, [.int (nI 0), .null, .null, .null, .null, .int (nI 0), .null, .null, .null, .null, .int (nI 0), .null, .null, .null, .null])])) rfl ?_
  refine am_aload_n d_S_init_9 rfl rfl ?_
  refine am_bipush (v := nI 6) d_S_init_10 (by decide) ?_
  refine am_newX (t := 0) (NN := 6) (a0 := (6, .inl (fun _ => nI 0))) 3 (e0 :: [.inr (1, [.int (nI 0), .null, .null, .null, .null, .int (nI 0), .null, .null, .null, .null, .int (nI 0), .null, .null, .null, .null]), .inl (0, (6, .inl (fun _ => nI 0)))]) 11 240 rfl rfl rfl rfl d_S_init_12 w_102 rfl (fun cA => rfl) rfl (by decide) (by decide) ?_
  refine am_putF F_S 1 (by decide) d_S_init_14 w_31 rfl rfl rfl rfl (Nat.le_of_ble_eq_true rfl) rfl rfl ?_
  refine am_hq (h2 := (e0 :: [.inr (1, [.int (nI 0), .ref 3, .null, .null, .null, .int (nI 0), .null, .null, .null, .null, .int (nI 0), .null, .null, .null, .null]), .inl (0, (6, .inl (fun _ => nI 0)))])) rfl ?_
  refine am_aload_n d_S_init_17 rfl rfl ?_
  refine am_bipush (v := nI 6) d_S_init_18 (by decide) ?_
  refine am_newX (t := 0) (NN := 6) (a0 := (6, .inl (fun _ => nI 0))) 4 (e0 :: [.inr (1, [.int (nI 0), .ref 3, .null, .null, .null, .int (nI 0), .null, .null, .null, .null, .int (nI 0), .null, .null, .null, .null]), .inl (0, (6, .inl (fun _ => nI 0))), .inl (0, (6, .inl (fun _ => nI 0)))]) 10 234 rfl rfl rfl rfl d_S_init_20 w_102 rfl (fun cA => rfl) rfl (by decide) (by decide) ?_
  refine am_putF F_S 2 (by decide) d_S_init_22 w_33 rfl rfl rfl rfl (Nat.le_of_ble_eq_true rfl) rfl rfl ?_
  refine am_hq (h2 := (e0 :: [.inr (1, [.int (nI 0), .ref 3, .ref 4, .null, .null, .int (nI 0), .null, .null, .null, .null, .int (nI 0), .null, .null, .null, .null]), .inl (0, (6, .inl (fun _ => nI 0))), .inl (0, (6, .inl (fun _ => nI 0)))])) rfl ?_
  refine am_aload_n d_S_init_25 rfl rfl ?_
  refine am_bipush (v := nI 48) d_S_init_26 (by decide) ?_
  refine am_newX (t := 0) (NN := 48) (a0 := (48, .inl (fun _ => nI 0))) 5 (e0 :: [.inr (1, [.int (nI 0), .ref 3, .ref 4, .null, .null, .int (nI 0), .null, .null, .null, .null, .int (nI 0), .null, .null, .null, .null]), .inl (0, (6, .inl (fun _ => nI 0))), .inl (0, (6, .inl (fun _ => nI 0))), .inl (0, (48, .inl (fun _ => nI 0)))]) 9 186 rfl rfl rfl rfl d_S_init_28 w_102 rfl (fun cA => rfl) rfl (by decide) (by decide) ?_
  refine am_putF F_S 3 (by decide) d_S_init_30 w_37 rfl rfl rfl rfl (Nat.le_of_ble_eq_true rfl) rfl rfl ?_
  refine am_hq (h2 := (e0 :: [.inr (1, [.int (nI 0), .ref 3, .ref 4, .ref 5, .null, .int (nI 0), .null, .null, .null, .null, .int (nI 0), .null, .null, .null, .null]), .inl (0, (6, .inl (fun _ => nI 0))), .inl (0, (6, .inl (fun _ => nI 0))), .inl (0, (48, .inl (fun _ => nI 0)))])) rfl ?_
  refine am_aload_n d_S_init_33 rfl rfl ?_
  refine am_bipush (v := nI 48) d_S_init_34 (by decide) ?_
  refine am_newX (t := 0) (NN := 48) (a0 := (48, .inl (fun _ => nI 0))) 6 (e0 :: [.inr (1, [.int (nI 0), .ref 3, .ref 4, .ref 5, .null, .int (nI 0), .null, .null, .null, .null, .int (nI 0), .null, .null, .null, .null]), .inl (0, (6, .inl (fun _ => nI 0))), .inl (0, (6, .inl (fun _ => nI 0))), .inl (0, (48, .inl (fun _ => nI 0))), .inl (0, (48, .inl (fun _ => nI 0)))]) 8 138 rfl rfl rfl rfl d_S_init_36 w_102 rfl (fun cA => rfl) rfl (by decide) (by decide) ?_
  refine am_putF F_S 4 (by decide) d_S_init_38 w_40 rfl rfl rfl rfl (Nat.le_of_ble_eq_true rfl) rfl rfl ?_
  refine am_hq (h2 := (e0 :: [.inr (1, [.int (nI 0), .ref 3, .ref 4, .ref 5, .ref 6, .int (nI 0), .null, .null, .null, .null, .int (nI 0), .null, .null, .null, .null]), .inl (0, (6, .inl (fun _ => nI 0))), .inl (0, (6, .inl (fun _ => nI 0))), .inl (0, (48, .inl (fun _ => nI 0))), .inl (0, (48, .inl (fun _ => nI 0)))])) rfl ?_
  refine am_aload_n d_S_init_41 rfl rfl ?_
  refine am_iconst (v := nI 0) d_S_init_42 (by decide) ?_
  refine am_put F_S 5 (by decide) d_S_init_43 w_43 rfl rfl (Nat.le_of_ble_eq_true rfl) rfl rfl ?_
  refine am_hq (h2 := (e0 :: [.inr (1, [.int (nI 0), .ref 3, .ref 4, .ref 5, .ref 6, .int (nI 0), .null, .null, .null, .null, .int (nI 0), .null, .null, .null, .null]), .inl (0, (6, .inl (fun _ => nI 0))), .inl (0, (6, .inl (fun _ => nI 0))), .inl (0, (48, .inl (fun _ => nI 0))), .inl (0, (48, .inl (fun _ => nI 0)))])) rfl ?_
  refine am_aload_n d_S_init_46 rfl rfl ?_
  refine am_bipush (v := nI 6) d_S_init_47 (by decide) ?_
  refine am_newX (t := 0) (NN := 6) (a0 := (6, .inl (fun _ => nI 0))) 7 (e0 :: [.inr (1, [.int (nI 0), .ref 3, .ref 4, .ref 5, .ref 6, .int (nI 0), .null, .null, .null, .null, .int (nI 0), .null, .null, .null, .null]), .inl (0, (6, .inl (fun _ => nI 0))), .inl (0, (6, .inl (fun _ => nI 0))), .inl (0, (48, .inl (fun _ => nI 0))), .inl (0, (48, .inl (fun _ => nI 0))), .inl (0, (6, .inl (fun _ => nI 0)))]) 7 132 rfl rfl rfl rfl d_S_init_49 w_102 rfl (fun cA => rfl) rfl (by decide) (by decide) ?_
  refine am_putF F_S 6 (by decide) d_S_init_51 w_47 rfl rfl rfl rfl (Nat.le_of_ble_eq_true rfl) rfl rfl ?_
  refine am_hq (h2 := (e0 :: [.inr (1, [.int (nI 0), .ref 3, .ref 4, .ref 5, .ref 6, .int (nI 0), .ref 7, .null, .null, .null, .int (nI 0), .null, .null, .null, .null]), .inl (0, (6, .inl (fun _ => nI 0))), .inl (0, (6, .inl (fun _ => nI 0))), .inl (0, (48, .inl (fun _ => nI 0))), .inl (0, (48, .inl (fun _ => nI 0))), .inl (0, (6, .inl (fun _ => nI 0)))])) rfl ?_
  refine am_aload_n d_S_init_54 rfl rfl ?_
  refine am_bipush (v := nI 6) d_S_init_55 (by decide) ?_
  refine am_newX (t := 0) (NN := 6) (a0 := (6, .inl (fun _ => nI 0))) 8 (e0 :: [.inr (1, [.int (nI 0), .ref 3, .ref 4, .ref 5, .ref 6, .int (nI 0), .ref 7, .null, .null, .null, .int (nI 0), .null, .null, .null, .null]), .inl (0, (6, .inl (fun _ => nI 0))), .inl (0, (6, .inl (fun _ => nI 0))), .inl (0, (48, .inl (fun _ => nI 0))), .inl (0, (48, .inl (fun _ => nI 0))), .inl (0, (6, .inl (fun _ => nI 0))), .inl (0, (6, .inl (fun _ => nI 0)))]) 6 126 rfl rfl rfl rfl d_S_init_57 w_102 rfl (fun cA => rfl) rfl (by decide) (by decide) ?_
  refine am_putF F_S 7 (by decide) d_S_init_59 w_50 rfl rfl rfl rfl (Nat.le_of_ble_eq_true rfl) rfl rfl ?_
  refine am_hq (h2 := (e0 :: [.inr (1, [.int (nI 0), .ref 3, .ref 4, .ref 5, .ref 6, .int (nI 0), .ref 7, .ref 8, .null, .null, .int (nI 0), .null, .null, .null, .null]), .inl (0, (6, .inl (fun _ => nI 0))), .inl (0, (6, .inl (fun _ => nI 0))), .inl (0, (48, .inl (fun _ => nI 0))), .inl (0, (48, .inl (fun _ => nI 0))), .inl (0, (6, .inl (fun _ => nI 0))), .inl (0, (6, .inl (fun _ => nI 0)))])) rfl ?_
  refine am_aload_n d_S_init_62 rfl rfl ?_
  refine am_bipush (v := nI 6) d_S_init_63 (by decide) ?_
  refine am_newX (t := 0) (NN := 6) (a0 := (6, .inl (fun _ => nI 0))) 9 (e0 :: [.inr (1, [.int (nI 0), .ref 3, .ref 4, .ref 5, .ref 6, .int (nI 0), .ref 7, .ref 8, .null, .null, .int (nI 0), .null, .null, .null, .null]), .inl (0, (6, .inl (fun _ => nI 0))), .inl (0, (6, .inl (fun _ => nI 0))), .inl (0, (48, .inl (fun _ => nI 0))), .inl (0, (48, .inl (fun _ => nI 0))), .inl (0, (6, .inl (fun _ => nI 0))), .inl (0, (6, .inl (fun _ => nI 0))), .inl (0, (6, .inl (fun _ => nI 0)))]) 5 120 rfl rfl rfl rfl d_S_init_65 w_102 rfl (fun cA => rfl) rfl (by decide) (by decide) ?_
  refine am_putF F_S 8 (by decide) d_S_init_67 w_51 rfl rfl rfl rfl (Nat.le_of_ble_eq_true rfl) rfl rfl ?_
  refine am_hq (h2 := (e0 :: [.inr (1, [.int (nI 0), .ref 3, .ref 4, .ref 5, .ref 6, .int (nI 0), .ref 7, .ref 8, .ref 9, .null, .int (nI 0), .null, .null, .null, .null]), .inl (0, (6, .inl (fun _ => nI 0))), .inl (0, (6, .inl (fun _ => nI 0))), .inl (0, (48, .inl (fun _ => nI 0))), .inl (0, (48, .inl (fun _ => nI 0))), .inl (0, (6, .inl (fun _ => nI 0))), .inl (0, (6, .inl (fun _ => nI 0))), .inl (0, (6, .inl (fun _ => nI 0)))])) rfl ?_
  refine am_aload_n d_S_init_70 rfl rfl ?_
  refine am_bipush (v := nI 24) d_S_init_71 (by decide) ?_
  refine am_newX (t := 0) (NN := 24) (a0 := (24, .inl (fun _ => nI 0))) 10 (e0 :: [.inr (1, [.int (nI 0), .ref 3, .ref 4, .ref 5, .ref 6, .int (nI 0), .ref 7, .ref 8, .ref 9, .null, .int (nI 0), .null, .null, .null, .null]), .inl (0, (6, .inl (fun _ => nI 0))), .inl (0, (6, .inl (fun _ => nI 0))), .inl (0, (48, .inl (fun _ => nI 0))), .inl (0, (48, .inl (fun _ => nI 0))), .inl (0, (6, .inl (fun _ => nI 0))), .inl (0, (6, .inl (fun _ => nI 0))), .inl (0, (6, .inl (fun _ => nI 0))), .inl (0, (24, .inl (fun _ => nI 0)))]) 4 96 rfl rfl rfl rfl d_S_init_73 w_102 rfl (fun cA => rfl) rfl (by decide) (by decide) ?_
  refine am_putF F_S 9 (by decide) d_S_init_75 w_55 rfl rfl rfl rfl (Nat.le_of_ble_eq_true rfl) rfl rfl ?_
  refine am_hq (h2 := (e0 :: [.inr (1, [.int (nI 0), .ref 3, .ref 4, .ref 5, .ref 6, .int (nI 0), .ref 7, .ref 8, .ref 9, .ref 10, .int (nI 0), .null, .null, .null, .null]), .inl (0, (6, .inl (fun _ => nI 0))), .inl (0, (6, .inl (fun _ => nI 0))), .inl (0, (48, .inl (fun _ => nI 0))), .inl (0, (48, .inl (fun _ => nI 0))), .inl (0, (6, .inl (fun _ => nI 0))), .inl (0, (6, .inl (fun _ => nI 0))), .inl (0, (6, .inl (fun _ => nI 0))), .inl (0, (24, .inl (fun _ => nI 0)))])) rfl ?_
  refine am_aload_n d_S_init_78 rfl rfl ?_
  refine am_iconst (v := nI 0) d_S_init_79 (by decide) ?_
  refine am_put F_S 10 (by decide) d_S_init_80 w_58 rfl rfl (Nat.le_of_ble_eq_true rfl) rfl rfl ?_
  refine am_hq (h2 := (e0 :: [.inr (1, [.int (nI 0), .ref 3, .ref 4, .ref 5, .ref 6, .int (nI 0), .ref 7, .ref 8, .ref 9, .ref 10, .int (nI 0), .null, .null, .null, .null]), .inl (0, (6, .inl (fun _ => nI 0))), .inl (0, (6, .inl (fun _ => nI 0))), .inl (0, (48, .inl (fun _ => nI 0))), .inl (0, (48, .inl (fun _ => nI 0))), .inl (0, (6, .inl (fun _ => nI 0))), .inl (0, (6, .inl (fun _ => nI 0))), .inl (0, (6, .inl (fun _ => nI 0))), .inl (0, (24, .inl (fun _ => nI 0)))])) rfl ?_
  refine am_aload_n d_S_init_83 rfl rfl ?_
  refine am_bipush (v := nI 24) d_S_init_84 (by decide) ?_
  refine am_newX (t := 0) (NN := 24) (a0 := (24, .inl (fun _ => nI 0))) 11 (e0 :: [.inr (1, [.int (nI 0), .ref 3, .ref 4, .ref 5, .ref 6, .int (nI 0), .ref 7, .ref 8, .ref 9, .ref 10, .int (nI 0), .null, .null, .null, .null]), .inl (0, (6, .inl (fun _ => nI 0))), .inl (0, (6, .inl (fun _ => nI 0))), .inl (0, (48, .inl (fun _ => nI 0))), .inl (0, (48, .inl (fun _ => nI 0))), .inl (0, (6, .inl (fun _ => nI 0))), .inl (0, (6, .inl (fun _ => nI 0))), .inl (0, (6, .inl (fun _ => nI 0))), .inl (0, (24, .inl (fun _ => nI 0))), .inl (0, (24, .inl (fun _ => nI 0)))]) 3 72 rfl rfl rfl rfl d_S_init_86 w_102 rfl (fun cA => rfl) rfl (by decide) (by decide) ?_
  refine am_putF F_S 11 (by decide) d_S_init_88 w_61 rfl rfl rfl rfl (Nat.le_of_ble_eq_true rfl) rfl rfl ?_
  refine am_hq (h2 := (e0 :: [.inr (1, [.int (nI 0), .ref 3, .ref 4, .ref 5, .ref 6, .int (nI 0), .ref 7, .ref 8, .ref 9, .ref 10, .int (nI 0), .ref 11, .null, .null, .null]), .inl (0, (6, .inl (fun _ => nI 0))), .inl (0, (6, .inl (fun _ => nI 0))), .inl (0, (48, .inl (fun _ => nI 0))), .inl (0, (48, .inl (fun _ => nI 0))), .inl (0, (6, .inl (fun _ => nI 0))), .inl (0, (6, .inl (fun _ => nI 0))), .inl (0, (6, .inl (fun _ => nI 0))), .inl (0, (24, .inl (fun _ => nI 0))), .inl (0, (24, .inl (fun _ => nI 0)))])) rfl ?_
  refine am_aload_n d_S_init_91 rfl rfl ?_
  refine am_bipush (v := nI 24) d_S_init_92 (by decide) ?_
  refine am_newX (t := 0) (NN := 24) (a0 := (24, .inl (fun _ => nI 0))) 12 (e0 :: [.inr (1, [.int (nI 0), .ref 3, .ref 4, .ref 5, .ref 6, .int (nI 0), .ref 7, .ref 8, .ref 9, .ref 10, .int (nI 0), .ref 11, .null, .null, .null]), .inl (0, (6, .inl (fun _ => nI 0))), .inl (0, (6, .inl (fun _ => nI 0))), .inl (0, (48, .inl (fun _ => nI 0))), .inl (0, (48, .inl (fun _ => nI 0))), .inl (0, (6, .inl (fun _ => nI 0))), .inl (0, (6, .inl (fun _ => nI 0))), .inl (0, (6, .inl (fun _ => nI 0))), .inl (0, (24, .inl (fun _ => nI 0))), .inl (0, (24, .inl (fun _ => nI 0))), .inl (0, (24, .inl (fun _ => nI 0)))]) 2 48 rfl rfl rfl rfl d_S_init_94 w_102 rfl (fun cA => rfl) rfl (by decide) (by decide) ?_
  refine am_putF F_S 12 (by decide) d_S_init_96 w_63 rfl rfl rfl rfl (Nat.le_of_ble_eq_true rfl) rfl rfl ?_
  refine am_hq (h2 := (e0 :: [.inr (1, [.int (nI 0), .ref 3, .ref 4, .ref 5, .ref 6, .int (nI 0), .ref 7, .ref 8, .ref 9, .ref 10, .int (nI 0), .ref 11, .ref 12, .null, .null]), .inl (0, (6, .inl (fun _ => nI 0))), .inl (0, (6, .inl (fun _ => nI 0))), .inl (0, (48, .inl (fun _ => nI 0))), .inl (0, (48, .inl (fun _ => nI 0))), .inl (0, (6, .inl (fun _ => nI 0))), .inl (0, (6, .inl (fun _ => nI 0))), .inl (0, (6, .inl (fun _ => nI 0))), .inl (0, (24, .inl (fun _ => nI 0))), .inl (0, (24, .inl (fun _ => nI 0))), .inl (0, (24, .inl (fun _ => nI 0)))])) rfl ?_
  refine am_aload_n d_S_init_99 rfl rfl ?_
  refine am_bipush (v := nI 24) d_S_init_100 (by decide) ?_
  refine am_newX (t := 0) (NN := 24) (a0 := (24, .inl (fun _ => nI 0))) 13 (e0 :: [.inr (1, [.int (nI 0), .ref 3, .ref 4, .ref 5, .ref 6, .int (nI 0), .ref 7, .ref 8, .ref 9, .ref 10, .int (nI 0), .ref 11, .ref 12, .null, .null]), .inl (0, (6, .inl (fun _ => nI 0))), .inl (0, (6, .inl (fun _ => nI 0))), .inl (0, (48, .inl (fun _ => nI 0))), .inl (0, (48, .inl (fun _ => nI 0))), .inl (0, (6, .inl (fun _ => nI 0))), .inl (0, (6, .inl (fun _ => nI 0))), .inl (0, (6, .inl (fun _ => nI 0))), .inl (0, (24, .inl (fun _ => nI 0))), .inl (0, (24, .inl (fun _ => nI 0))), .inl (0, (24, .inl (fun _ => nI 0))), .inl (0, (24, .inl (fun _ => nI 0)))]) 1 24 rfl rfl rfl rfl d_S_init_102 w_102 rfl (fun cA => rfl) rfl (by decide) (by decide) ?_
  refine am_putF F_S 13 (by decide) d_S_init_104 w_66 rfl rfl rfl rfl (Nat.le_of_ble_eq_true rfl) rfl rfl ?_
  refine am_hq (h2 := (e0 :: [.inr (1, [.int (nI 0), .ref 3, .ref 4, .ref 5, .ref 6, .int (nI 0), .ref 7, .ref 8, .ref 9, .ref 10, .int (nI 0), .ref 11, .ref 12, .ref 13, .null]), .inl (0, (6, .inl (fun _ => nI 0))), .inl (0, (6, .inl (fun _ => nI 0))), .inl (0, (48, .inl (fun _ => nI 0))), .inl (0, (48, .inl (fun _ => nI 0))), .inl (0, (6, .inl (fun _ => nI 0))), .inl (0, (6, .inl (fun _ => nI 0))), .inl (0, (6, .inl (fun _ => nI 0))), .inl (0, (24, .inl (fun _ => nI 0))), .inl (0, (24, .inl (fun _ => nI 0))), .inl (0, (24, .inl (fun _ => nI 0))), .inl (0, (24, .inl (fun _ => nI 0)))])) rfl ?_
  refine am_aload_n d_S_init_107 rfl rfl ?_
  refine am_bipush (v := nI 24) d_S_init_108 (by decide) ?_
  refine am_newX (t := 0) (NN := 24) (a0 := (24, .inl (fun _ => nI 0))) 14 (e0 :: [.inr (1, [.int (nI 0), .ref 3, .ref 4, .ref 5, .ref 6, .int (nI 0), .ref 7, .ref 8, .ref 9, .ref 10, .int (nI 0), .ref 11, .ref 12, .ref 13, .null]), .inl (0, (6, .inl (fun _ => nI 0))), .inl (0, (6, .inl (fun _ => nI 0))), .inl (0, (48, .inl (fun _ => nI 0))), .inl (0, (48, .inl (fun _ => nI 0))), .inl (0, (6, .inl (fun _ => nI 0))), .inl (0, (6, .inl (fun _ => nI 0))), .inl (0, (6, .inl (fun _ => nI 0))), .inl (0, (24, .inl (fun _ => nI 0))), .inl (0, (24, .inl (fun _ => nI 0))), .inl (0, (24, .inl (fun _ => nI 0))), .inl (0, (24, .inl (fun _ => nI 0))), .inl (0, (24, .inl (fun _ => nI 0)))]) 0 0 rfl rfl rfl rfl d_S_init_110 w_102 rfl (fun cA => rfl) rfl (by decide) (by decide) ?_
  refine am_putF F_S 14 (by decide) d_S_init_112 w_69 rfl rfl rfl rfl (Nat.le_of_ble_eq_true rfl) rfl rfl ?_
  refine am_hq (h2 := (e0 :: [.inr (1, [.int (nI 0), .ref 3, .ref 4, .ref 5, .ref 6, .int (nI 0), .ref 7, .ref 8, .ref 9, .ref 10, .int (nI 0), .ref 11, .ref 12, .ref 13, .ref 14]), .inl (0, (6, .inl (fun _ => nI 0))), .inl (0, (6, .inl (fun _ => nI 0))), .inl (0, (48, .inl (fun _ => nI 0))), .inl (0, (48, .inl (fun _ => nI 0))), .inl (0, (6, .inl (fun _ => nI 0))), .inl (0, (6, .inl (fun _ => nI 0))), .inl (0, (6, .inl (fun _ => nI 0))), .inl (0, (24, .inl (fun _ => nI 0))), .inl (0, (24, .inl (fun _ => nI 0))), .inl (0, (24, .inl (fun _ => nI 0))), .inl (0, (24, .inl (fun _ => nI 0))), .inl (0, (24, .inl (fun _ => nI 0)))])) rfl ?_
  refine am_vret d_S_init_115 rfl ?_
  exact ⟨rfl, rfl⟩
set_option maxRecDepth 20000 in
theorem c_F_init (d : Nat) (e0 : am_E) : am_Fn G m_F_init (d + 1) 5 438 [.ref 15, .ref 2] (e0 :: (sh_c sh_0 ++ [.inr (2, [.null, .null, .null, .null, .null, .null])])) none (e0 :: (sh_c sh_0 ++ fl_c fl_0)) := by
  refine am_aload_n d_F_init_0 rfl rfl ?_
  refine am_objInit d_F_init_1 w_108 w_20 w_21 (by omega) (by decide) ?_
  refine am_aload_n d_F_init_4 rfl rfl ?_
  refine am_bipush (v := nI 24) d_F_init_5 (by decide) ?_
  refine am_newX (t := 0) (NN := 24) (a0 := (24, .inl (fun _ => nI 0))) 16 (e0 :: (sh_c sh_0 ++ [.inr (2, [.null, .null, .null, .null, .null, .null]), .inl (0, (24, .inl (fun _ => nI 0)))])) 4 414 rfl rfl rfl rfl d_F_init_7 w_102 rfl (fun cA => rfl) rfl (by decide) (by decide) ?_
  refine am_putF F_F 1 (by decide) d_F_init_9 w_110 rfl rfl rfl rfl (Nat.le_of_ble_eq_true rfl) rfl rfl ?_
  refine am_hq (h2 := (e0 :: (sh_c sh_0 ++ [.inr (2, [.null, .ref 16, .null, .null, .null, .null]), .inl (0, (24, .inl (fun _ => nI 0)))]))) rfl ?_
  refine am_aload_n d_F_init_12 rfl rfl ?_
  refine am_bipush (v := nI 24) d_F_init_13 (by decide) ?_
  refine am_newX (t := 0) (NN := 24) (a0 := (24, .inl (fun _ => nI 0))) 17 (e0 :: (sh_c sh_0 ++ [.inr (2, [.null, .ref 16, .null, .null, .null, .null]), .inl (0, (24, .inl (fun _ => nI 0))), .inl (0, (24, .inl (fun _ => nI 0)))])) 3 390 rfl rfl rfl rfl d_F_init_15 w_102 rfl (fun cA => rfl) rfl (by decide) (by decide) ?_
  refine am_putF F_F 2 (by decide) d_F_init_17 w_112 rfl rfl rfl rfl (Nat.le_of_ble_eq_true rfl) rfl rfl ?_
  refine am_hq (h2 := (e0 :: (sh_c sh_0 ++ [.inr (2, [.null, .ref 16, .ref 17, .null, .null, .null]), .inl (0, (24, .inl (fun _ => nI 0))), .inl (0, (24, .inl (fun _ => nI 0)))]))) rfl ?_
  refine am_aload_n d_F_init_20 rfl rfl ?_
  refine am_bipush (v := nI 6) d_F_init_21 (by decide) ?_
  refine am_newX (t := 0) (NN := 6) (a0 := (6, .inl (fun _ => nI 0))) 18 (e0 :: (sh_c sh_0 ++ [.inr (2, [.null, .ref 16, .ref 17, .null, .null, .null]), .inl (0, (24, .inl (fun _ => nI 0))), .inl (0, (24, .inl (fun _ => nI 0))), .inl (0, (6, .inl (fun _ => nI 0)))])) 2 384 rfl rfl rfl rfl d_F_init_23 w_102 rfl (fun cA => rfl) rfl (by decide) (by decide) ?_
  refine am_putF F_F 3 (by decide) d_F_init_25 w_114 rfl rfl rfl rfl (Nat.le_of_ble_eq_true rfl) rfl rfl ?_
  refine am_hq (h2 := (e0 :: (sh_c sh_0 ++ [.inr (2, [.null, .ref 16, .ref 17, .ref 18, .null, .null]), .inl (0, (24, .inl (fun _ => nI 0))), .inl (0, (24, .inl (fun _ => nI 0))), .inl (0, (6, .inl (fun _ => nI 0)))]))) rfl ?_
  refine am_aload_n d_F_init_28 rfl rfl ?_
  refine am_sipush (v := nI 192) d_F_init_29 (by decide) ?_
  refine am_newX (t := 0) (NN := 192) (a0 := (192, .inl (fun _ => nI 0))) 19 (e0 :: (sh_c sh_0 ++ [.inr (2, [.null, .ref 16, .ref 17, .ref 18, .null, .null]), .inl (0, (24, .inl (fun _ => nI 0))), .inl (0, (24, .inl (fun _ => nI 0))), .inl (0, (6, .inl (fun _ => nI 0))), .inl (0, (192, .inl (fun _ => nI 0)))])) 1 192 rfl rfl rfl rfl d_F_init_32 w_102 rfl (fun cA => rfl) rfl (by decide) (by decide) ?_
  refine am_putF F_F 4 (by decide) d_F_init_34 w_115 rfl rfl rfl rfl (Nat.le_of_ble_eq_true rfl) rfl rfl ?_
  refine am_hq (h2 := (e0 :: (sh_c sh_0 ++ [.inr (2, [.null, .ref 16, .ref 17, .ref 18, .ref 19, .null]), .inl (0, (24, .inl (fun _ => nI 0))), .inl (0, (24, .inl (fun _ => nI 0))), .inl (0, (6, .inl (fun _ => nI 0))), .inl (0, (192, .inl (fun _ => nI 0)))]))) rfl ?_
  refine am_aload_n d_F_init_37 rfl rfl ?_
  refine am_sipush (v := nI 192) d_F_init_38 (by decide) ?_
  refine am_newX (t := 0) (NN := 192) (a0 := (192, .inl (fun _ => nI 0))) 20 (e0 :: (sh_c sh_0 ++ [.inr (2, [.null, .ref 16, .ref 17, .ref 18, .ref 19, .null]), .inl (0, (24, .inl (fun _ => nI 0))), .inl (0, (24, .inl (fun _ => nI 0))), .inl (0, (6, .inl (fun _ => nI 0))), .inl (0, (192, .inl (fun _ => nI 0))), .inl (0, (192, .inl (fun _ => nI 0)))])) 0 0 rfl rfl rfl rfl d_F_init_41 w_102 rfl (fun cA => rfl) rfl (by decide) (by decide) ?_
  refine am_putF F_F 5 (by decide) d_F_init_43 w_116 rfl rfl rfl rfl (Nat.le_of_ble_eq_true rfl) rfl rfl ?_
  refine am_hq (h2 := (e0 :: (sh_c sh_0 ++ [.inr (2, [.null, .ref 16, .ref 17, .ref 18, .ref 19, .ref 20]), .inl (0, (24, .inl (fun _ => nI 0))), .inl (0, (24, .inl (fun _ => nI 0))), .inl (0, (6, .inl (fun _ => nI 0))), .inl (0, (192, .inl (fun _ => nI 0))), .inl (0, (192, .inl (fun _ => nI 0)))]))) rfl ?_
  refine am_aload_n d_F_init_46 rfl rfl ?_
  refine am_aload_n d_F_init_47 rfl rfl ?_
  refine am_putF F_F 0 (by decide) d_F_init_48 w_109 rfl rfl rfl rfl (Nat.le_of_ble_eq_true rfl) rfl rfl ?_
  refine am_hq (h2 := (e0 :: (sh_c sh_0 ++ [.inr (2, [.ref 2, .ref 16, .ref 17, .ref 18, .ref 19, .ref 20]), .inl (0, (24, .inl (fun _ => nI 0))), .inl (0, (24, .inl (fun _ => nI 0))), .inl (0, (6, .inl (fun _ => nI 0))), .inl (0, (192, .inl (fun _ => nI 0))), .inl (0, (192, .inl (fun _ => nI 0)))]))) rfl ?_
  refine am_vret d_F_init_51 rfl ?_
  exact ⟨rfl, rfl⟩
set_option maxRecDepth 20000 in
theorem c_R_init (d : Nat) (e0 : am_E) : am_Fn G m_R_init (d + 1) 4 24 [.ref 21, .ref 2, .ref 15] (e0 :: (sh_c sh_0 ++ (fl_c fl_0 ++ [.inr (3, [.null, .null, .null, .null, .null, .null, .long (lN 0), .int (nI 0), .long (lN 0), .int (nI 0)])]))) none (e0 :: (sh_c sh_0 ++ (fl_c fl_0 ++ se_c se_0))) := by
  refine am_aload_n d_R_init_0 rfl rfl ?_
  refine am_objInit d_R_init_1 w_135 w_20 w_21 (by omega) (by decide) ?_
  refine am_aload_n d_R_init_4 rfl rfl ?_
  refine am_bipush (v := nI 6) d_R_init_5 (by decide) ?_
  refine am_newX (t := 1) (NN := 6) (a0 := (6, .inr (.inl (fun _ => lN 0)))) 22 (e0 :: (sh_c sh_0 ++ (fl_c fl_0 ++ [.inr (3, [.null, .null, .null, .null, .null, .null, .long (lN 0), .int (nI 0), .long (lN 0), .int (nI 0)]), .inl (1, (6, .inr (.inl (fun _ => lN 0))))]))) 3 18 rfl rfl rfl rfl d_R_init_7 w_170 rfl (fun cA => rfl) rfl (by decide) (by decide) ?_
  refine am_putF F_R 2 (by decide) d_R_init_9 w_138 rfl rfl rfl rfl (Nat.le_of_ble_eq_true rfl) rfl rfl ?_
  refine am_hq (h2 := (e0 :: (sh_c sh_0 ++ (fl_c fl_0 ++ [.inr (3, [.null, .null, .ref 22, .null, .null, .null, .long (lN 0), .int (nI 0), .long (lN 0), .int (nI 0)]), .inl (1, (6, .inr (.inl (fun _ => lN 0))))])))) rfl ?_
  refine am_aload_n d_R_init_12 rfl rfl ?_
  refine am_bipush (v := nI 6) d_R_init_13 (by decide) ?_
  refine am_newX (t := 0) (NN := 6) (a0 := (6, .inl (fun _ => nI 0))) 23 (e0 :: (sh_c sh_0 ++ (fl_c fl_0 ++ [.inr (3, [.null, .null, .ref 22, .null, .null, .null, .long (lN 0), .int (nI 0), .long (lN 0), .int (nI 0)]), .inl (1, (6, .inr (.inl (fun _ => lN 0)))), .inl (0, (6, .inl (fun _ => nI 0)))]))) 2 12 rfl rfl rfl rfl d_R_init_15 w_102 rfl (fun cA => rfl) rfl (by decide) (by decide) ?_
  refine am_putF F_R 3 (by decide) d_R_init_17 w_139 rfl rfl rfl rfl (Nat.le_of_ble_eq_true rfl) rfl rfl ?_
  refine am_hq (h2 := (e0 :: (sh_c sh_0 ++ (fl_c fl_0 ++ [.inr (3, [.null, .null, .ref 22, .ref 23, .null, .null, .long (lN 0), .int (nI 0), .long (lN 0), .int (nI 0)]), .inl (1, (6, .inr (.inl (fun _ => lN 0)))), .inl (0, (6, .inl (fun _ => nI 0)))])))) rfl ?_
  refine am_aload_n d_R_init_20 rfl rfl ?_
  refine am_bipush (v := nI 6) d_R_init_21 (by decide) ?_
  refine am_newX (t := 2) (NN := 6) (a0 := (6, .inl (fun _ => zI false))) 24 (e0 :: (sh_c sh_0 ++ (fl_c fl_0 ++ [.inr (3, [.null, .null, .ref 22, .ref 23, .null, .null, .long (lN 0), .int (nI 0), .long (lN 0), .int (nI 0)]), .inl (1, (6, .inr (.inl (fun _ => lN 0)))), .inl (0, (6, .inl (fun _ => nI 0))), .inl (2, (6, .inl (fun _ => zI false)))]))) 1 6 rfl rfl rfl rfl d_R_init_23 w_171 rfl (fun cA => rfl) rfl (by decide) (by decide) ?_
  refine am_putF F_R 4 (by decide) d_R_init_25 w_140 rfl rfl rfl rfl (Nat.le_of_ble_eq_true rfl) rfl rfl ?_
  refine am_hq (h2 := (e0 :: (sh_c sh_0 ++ (fl_c fl_0 ++ [.inr (3, [.null, .null, .ref 22, .ref 23, .ref 24, .null, .long (lN 0), .int (nI 0), .long (lN 0), .int (nI 0)]), .inl (1, (6, .inr (.inl (fun _ => lN 0)))), .inl (0, (6, .inl (fun _ => nI 0))), .inl (2, (6, .inl (fun _ => zI false)))])))) rfl ?_
  refine am_aload_n d_R_init_28 rfl rfl ?_
  refine am_bipush (v := nI 6) d_R_init_29 (by decide) ?_
  refine am_newX (t := 0) (NN := 6) (a0 := (6, .inl (fun _ => nI 0))) 25 (e0 :: (sh_c sh_0 ++ (fl_c fl_0 ++ [.inr (3, [.null, .null, .ref 22, .ref 23, .ref 24, .null, .long (lN 0), .int (nI 0), .long (lN 0), .int (nI 0)]), .inl (1, (6, .inr (.inl (fun _ => lN 0)))), .inl (0, (6, .inl (fun _ => nI 0))), .inl (2, (6, .inl (fun _ => zI false))), .inl (0, (6, .inl (fun _ => nI 0)))]))) 0 0 rfl rfl rfl rfl d_R_init_31 w_102 rfl (fun cA => rfl) rfl (by decide) (by decide) ?_
  refine am_putF F_R 5 (by decide) d_R_init_33 w_141 rfl rfl rfl rfl (Nat.le_of_ble_eq_true rfl) rfl rfl ?_
  refine am_hq (h2 := (e0 :: (sh_c sh_0 ++ (fl_c fl_0 ++ [.inr (3, [.null, .null, .ref 22, .ref 23, .ref 24, .ref 25, .long (lN 0), .int (nI 0), .long (lN 0), .int (nI 0)]), .inl (1, (6, .inr (.inl (fun _ => lN 0)))), .inl (0, (6, .inl (fun _ => nI 0))), .inl (2, (6, .inl (fun _ => zI false))), .inl (0, (6, .inl (fun _ => nI 0)))])))) rfl ?_
  refine am_aload_n d_R_init_36 rfl rfl ?_
  refine am_lconst (v := lN 0) d_R_init_37 rfl ?_
  refine am_put F_R 6 (by decide) d_R_init_38 w_143 rfl rfl (Nat.le_of_ble_eq_true rfl) rfl rfl ?_
  refine am_hq (h2 := (e0 :: (sh_c sh_0 ++ (fl_c fl_0 ++ [.inr (3, [.null, .null, .ref 22, .ref 23, .ref 24, .ref 25, .long (lN 0), .int (nI 0), .long (lN 0), .int (nI 0)]), .inl (1, (6, .inr (.inl (fun _ => lN 0)))), .inl (0, (6, .inl (fun _ => nI 0))), .inl (2, (6, .inl (fun _ => zI false))), .inl (0, (6, .inl (fun _ => nI 0)))])))) rfl ?_
  refine am_aload_n d_R_init_41 rfl rfl ?_
  refine am_iconst (v := nI 0) d_R_init_42 (by decide) ?_
  refine am_put F_R 7 (by decide) d_R_init_43 w_144 rfl rfl (Nat.le_of_ble_eq_true rfl) rfl rfl ?_
  refine am_hq (h2 := (e0 :: (sh_c sh_0 ++ (fl_c fl_0 ++ [.inr (3, [.null, .null, .ref 22, .ref 23, .ref 24, .ref 25, .long (lN 0), .int (nI 0), .long (lN 0), .int (nI 0)]), .inl (1, (6, .inr (.inl (fun _ => lN 0)))), .inl (0, (6, .inl (fun _ => nI 0))), .inl (2, (6, .inl (fun _ => zI false))), .inl (0, (6, .inl (fun _ => nI 0)))])))) rfl ?_
  refine am_aload_n d_R_init_46 rfl rfl ?_
  refine am_lconst (v := lN 0) d_R_init_47 rfl ?_
  refine am_put F_R 8 (by decide) d_R_init_48 w_145 rfl rfl (Nat.le_of_ble_eq_true rfl) rfl rfl ?_
  refine am_hq (h2 := (e0 :: (sh_c sh_0 ++ (fl_c fl_0 ++ [.inr (3, [.null, .null, .ref 22, .ref 23, .ref 24, .ref 25, .long (lN 0), .int (nI 0), .long (lN 0), .int (nI 0)]), .inl (1, (6, .inr (.inl (fun _ => lN 0)))), .inl (0, (6, .inl (fun _ => nI 0))), .inl (2, (6, .inl (fun _ => zI false))), .inl (0, (6, .inl (fun _ => nI 0)))])))) rfl ?_
  refine am_aload_n d_R_init_51 rfl rfl ?_
  refine am_iconst (v := nI 0) d_R_init_52 (by decide) ?_
  refine am_put F_R 9 (by decide) d_R_init_53 w_147 rfl rfl (Nat.le_of_ble_eq_true rfl) rfl rfl ?_
  refine am_hq (h2 := (e0 :: (sh_c sh_0 ++ (fl_c fl_0 ++ [.inr (3, [.null, .null, .ref 22, .ref 23, .ref 24, .ref 25, .long (lN 0), .int (nI 0), .long (lN 0), .int (nI 0)]), .inl (1, (6, .inr (.inl (fun _ => lN 0)))), .inl (0, (6, .inl (fun _ => nI 0))), .inl (2, (6, .inl (fun _ => zI false))), .inl (0, (6, .inl (fun _ => nI 0)))])))) rfl ?_
  refine am_aload_n d_R_init_56 rfl rfl ?_
  refine am_aload_n d_R_init_57 rfl rfl ?_
  refine am_putF F_R 0 (by decide) d_R_init_58 w_136 rfl rfl rfl rfl (Nat.le_of_ble_eq_true rfl) rfl rfl ?_
  refine am_hq (h2 := (e0 :: (sh_c sh_0 ++ (fl_c fl_0 ++ [.inr (3, [.ref 2, .null, .ref 22, .ref 23, .ref 24, .ref 25, .long (lN 0), .int (nI 0), .long (lN 0), .int (nI 0)]), .inl (1, (6, .inr (.inl (fun _ => lN 0)))), .inl (0, (6, .inl (fun _ => nI 0))), .inl (2, (6, .inl (fun _ => zI false))), .inl (0, (6, .inl (fun _ => nI 0)))])))) rfl ?_
  refine am_aload_n d_R_init_61 rfl rfl ?_
  refine am_aload_n d_R_init_62 rfl rfl ?_
  refine am_putF F_R 1 (by decide) d_R_init_63 w_137 rfl rfl rfl rfl (Nat.le_of_ble_eq_true rfl) rfl rfl ?_
  refine am_hq (h2 := (e0 :: (sh_c sh_0 ++ (fl_c fl_0 ++ [.inr (3, [.ref 2, .ref 15, .ref 22, .ref 23, .ref 24, .ref 25, .long (lN 0), .int (nI 0), .long (lN 0), .int (nI 0)]), .inl (1, (6, .inr (.inl (fun _ => lN 0)))), .inl (0, (6, .inl (fun _ => nI 0))), .inl (2, (6, .inl (fun _ => zI false))), .inl (0, (6, .inl (fun _ => nI 0)))])))) rfl ?_
  refine am_vret d_R_init_66 rfl ?_
  exact ⟨rfl, rfl⟩
set_option maxRecDepth 20000 in
theorem c_P_init (d : Nat) (e0 : am_E) : am_Fn G m_P_init (d + 1) 3 54 [.ref 26, .ref 2] (e0 :: (sh_c sh_0 ++ (fl_c fl_0 ++ (se_c se_0 ++ [.inr (4, [.null, .null, .null, .null, .int (nI 0), .int (nI 0), .long (lN 0), .long (lN 0), .int (nI 0), .int (nI 0)])])))) none (e0 :: (sh_c sh_0 ++ (fl_c fl_0 ++ (se_c se_0 ++ pl_c pl_0)))) := by
  refine am_aload_n d_P_init_0 rfl rfl ?_
  refine am_objInit d_P_init_1 w_177 w_20 w_21 (by omega) (by decide) ?_
  refine am_aload_n d_P_init_4 rfl rfl ?_
  refine am_bipush (v := nI 6) d_P_init_5 (by decide) ?_
  refine am_newX (t := 0) (NN := 6) (a0 := (6, .inl (fun _ => nI 0))) 27 (e0 :: (sh_c sh_0 ++ (fl_c fl_0 ++ (se_c se_0 ++ [.inr (4, [.null, .null, .null, .null, .int (nI 0), .int (nI 0), .long (lN 0), .long (lN 0), .int (nI 0), .int (nI 0)]), .inl (0, (6, .inl (fun _ => nI 0)))])))) 2 48 rfl rfl rfl rfl d_P_init_7 w_102 rfl (fun cA => rfl) rfl (by decide) (by decide) ?_
  refine am_putF F_P 1 (by decide) d_P_init_9 w_179 rfl rfl rfl rfl (Nat.le_of_ble_eq_true rfl) rfl rfl ?_
  refine am_hq (h2 := (e0 :: (sh_c sh_0 ++ (fl_c fl_0 ++ (se_c se_0 ++ [.inr (4, [.null, .ref 27, .null, .null, .int (nI 0), .int (nI 0), .long (lN 0), .long (lN 0), .int (nI 0), .int (nI 0)]), .inl (0, (6, .inl (fun _ => nI 0)))]))))) rfl ?_
  refine am_aload_n d_P_init_12 rfl rfl ?_
  refine am_bipush (v := nI 24) d_P_init_13 (by decide) ?_
  refine am_newX (t := 0) (NN := 24) (a0 := (24, .inl (fun _ => nI 0))) 28 (e0 :: (sh_c sh_0 ++ (fl_c fl_0 ++ (se_c se_0 ++ [.inr (4, [.null, .ref 27, .null, .null, .int (nI 0), .int (nI 0), .long (lN 0), .long (lN 0), .int (nI 0), .int (nI 0)]), .inl (0, (6, .inl (fun _ => nI 0))), .inl (0, (24, .inl (fun _ => nI 0)))])))) 1 24 rfl rfl rfl rfl d_P_init_15 w_102 rfl (fun cA => rfl) rfl (by decide) (by decide) ?_
  refine am_putF F_P 2 (by decide) d_P_init_17 w_181 rfl rfl rfl rfl (Nat.le_of_ble_eq_true rfl) rfl rfl ?_
  refine am_hq (h2 := (e0 :: (sh_c sh_0 ++ (fl_c fl_0 ++ (se_c se_0 ++ [.inr (4, [.null, .ref 27, .ref 28, .null, .int (nI 0), .int (nI 0), .long (lN 0), .long (lN 0), .int (nI 0), .int (nI 0)]), .inl (0, (6, .inl (fun _ => nI 0))), .inl (0, (24, .inl (fun _ => nI 0)))]))))) rfl ?_
  refine am_aload_n d_P_init_20 rfl rfl ?_
  refine am_bipush (v := nI 24) d_P_init_21 (by decide) ?_
  refine am_newX (t := 0) (NN := 24) (a0 := (24, .inl (fun _ => nI 0))) 29 (e0 :: (sh_c sh_0 ++ (fl_c fl_0 ++ (se_c se_0 ++ [.inr (4, [.null, .ref 27, .ref 28, .null, .int (nI 0), .int (nI 0), .long (lN 0), .long (lN 0), .int (nI 0), .int (nI 0)]), .inl (0, (6, .inl (fun _ => nI 0))), .inl (0, (24, .inl (fun _ => nI 0))), .inl (0, (24, .inl (fun _ => nI 0)))])))) 0 0 rfl rfl rfl rfl d_P_init_23 w_102 rfl (fun cA => rfl) rfl (by decide) (by decide) ?_
  refine am_putF F_P 3 (by decide) d_P_init_25 w_183 rfl rfl rfl rfl (Nat.le_of_ble_eq_true rfl) rfl rfl ?_
  refine am_hq (h2 := (e0 :: (sh_c sh_0 ++ (fl_c fl_0 ++ (se_c se_0 ++ [.inr (4, [.null, .ref 27, .ref 28, .ref 29, .int (nI 0), .int (nI 0), .long (lN 0), .long (lN 0), .int (nI 0), .int (nI 0)]), .inl (0, (6, .inl (fun _ => nI 0))), .inl (0, (24, .inl (fun _ => nI 0))), .inl (0, (24, .inl (fun _ => nI 0)))]))))) rfl ?_
  refine am_aload_n d_P_init_28 rfl rfl ?_
  refine am_iconst (v := nI 0) d_P_init_29 (by decide) ?_
  refine am_put F_P 4 (by decide) d_P_init_30 w_185 rfl rfl (Nat.le_of_ble_eq_true rfl) rfl rfl ?_
  refine am_hq (h2 := (e0 :: (sh_c sh_0 ++ (fl_c fl_0 ++ (se_c se_0 ++ [.inr (4, [.null, .ref 27, .ref 28, .ref 29, .int (nI 0), .int (nI 0), .long (lN 0), .long (lN 0), .int (nI 0), .int (nI 0)]), .inl (0, (6, .inl (fun _ => nI 0))), .inl (0, (24, .inl (fun _ => nI 0))), .inl (0, (24, .inl (fun _ => nI 0)))]))))) rfl ?_
  refine am_aload_n d_P_init_33 rfl rfl ?_
  refine am_iconst (v := nI 0) d_P_init_34 (by decide) ?_
  refine am_put F_P 5 (by decide) d_P_init_35 w_187 rfl rfl (Nat.le_of_ble_eq_true rfl) rfl rfl ?_
  refine am_hq (h2 := (e0 :: (sh_c sh_0 ++ (fl_c fl_0 ++ (se_c se_0 ++ [.inr (4, [.null, .ref 27, .ref 28, .ref 29, .int (nI 0), .int (nI 0), .long (lN 0), .long (lN 0), .int (nI 0), .int (nI 0)]), .inl (0, (6, .inl (fun _ => nI 0))), .inl (0, (24, .inl (fun _ => nI 0))), .inl (0, (24, .inl (fun _ => nI 0)))]))))) rfl ?_
  refine am_aload_n d_P_init_38 rfl rfl ?_
  refine am_lconst (v := lN 0) d_P_init_39 rfl ?_
  refine am_put F_P 6 (by decide) d_P_init_40 w_188 rfl rfl (Nat.le_of_ble_eq_true rfl) rfl rfl ?_
  refine am_hq (h2 := (e0 :: (sh_c sh_0 ++ (fl_c fl_0 ++ (se_c se_0 ++ [.inr (4, [.null, .ref 27, .ref 28, .ref 29, .int (nI 0), .int (nI 0), .long (lN 0), .long (lN 0), .int (nI 0), .int (nI 0)]), .inl (0, (6, .inl (fun _ => nI 0))), .inl (0, (24, .inl (fun _ => nI 0))), .inl (0, (24, .inl (fun _ => nI 0)))]))))) rfl ?_
  refine am_aload_n d_P_init_43 rfl rfl ?_
  refine am_lconst (v := lN 0) d_P_init_44 rfl ?_
  refine am_put F_P 7 (by decide) d_P_init_45 w_190 rfl rfl (Nat.le_of_ble_eq_true rfl) rfl rfl ?_
  refine am_hq (h2 := (e0 :: (sh_c sh_0 ++ (fl_c fl_0 ++ (se_c se_0 ++ [.inr (4, [.null, .ref 27, .ref 28, .ref 29, .int (nI 0), .int (nI 0), .long (lN 0), .long (lN 0), .int (nI 0), .int (nI 0)]), .inl (0, (6, .inl (fun _ => nI 0))), .inl (0, (24, .inl (fun _ => nI 0))), .inl (0, (24, .inl (fun _ => nI 0)))]))))) rfl ?_
  refine am_aload_n d_P_init_48 rfl rfl ?_
  refine am_iconst (v := nI 0) d_P_init_49 (by decide) ?_
  refine am_put F_P 8 (by decide) d_P_init_50 w_192 rfl rfl (Nat.le_of_ble_eq_true rfl) rfl rfl ?_
  refine am_hq (h2 := (e0 :: (sh_c sh_0 ++ (fl_c fl_0 ++ (se_c se_0 ++ [.inr (4, [.null, .ref 27, .ref 28, .ref 29, .int (nI 0), .int (nI 0), .long (lN 0), .long (lN 0), .int (nI 0), .int (nI 0)]), .inl (0, (6, .inl (fun _ => nI 0))), .inl (0, (24, .inl (fun _ => nI 0))), .inl (0, (24, .inl (fun _ => nI 0)))]))))) rfl ?_
  refine am_aload_n d_P_init_53 rfl rfl ?_
  refine am_iconst (v := nI 0) d_P_init_54 (by decide) ?_
  refine am_put F_P 9 (by decide) d_P_init_55 w_194 rfl rfl (Nat.le_of_ble_eq_true rfl) rfl rfl ?_
  refine am_hq (h2 := (e0 :: (sh_c sh_0 ++ (fl_c fl_0 ++ (se_c se_0 ++ [.inr (4, [.null, .ref 27, .ref 28, .ref 29, .int (nI 0), .int (nI 0), .long (lN 0), .long (lN 0), .int (nI 0), .int (nI 0)]), .inl (0, (6, .inl (fun _ => nI 0))), .inl (0, (24, .inl (fun _ => nI 0))), .inl (0, (24, .inl (fun _ => nI 0)))]))))) rfl ?_
  refine am_aload_n d_P_init_58 rfl rfl ?_
  refine am_aload_n d_P_init_59 rfl rfl ?_
  refine am_putF F_P 0 (by decide) d_P_init_60 w_178 rfl rfl rfl rfl (Nat.le_of_ble_eq_true rfl) rfl rfl ?_
  refine am_hq (h2 := (e0 :: (sh_c sh_0 ++ (fl_c fl_0 ++ (se_c se_0 ++ [.inr (4, [.ref 2, .ref 27, .ref 28, .ref 29, .int (nI 0), .int (nI 0), .long (lN 0), .long (lN 0), .int (nI 0), .int (nI 0)]), .inl (0, (6, .inl (fun _ => nI 0))), .inl (0, (24, .inl (fun _ => nI 0))), .inl (0, (24, .inl (fun _ => nI 0)))]))))) rfl ?_
  refine am_vret d_P_init_63 rfl ?_
  exact ⟨rfl, rfl⟩
theorem am_newO {y : am_M} {d bc bs : Nat} {Q : am_O → am_H → Prop} {pc : Nat} {L : List (Nat × Value)} {st : List Value} {h : am_H} {ci N : Nat} {Cn : String} {T : u_T} {ty : Nat → FieldType} (F : am_F ci Cn T N ty) (r : Nat) (h2 : am_H) (bc2 bs2 : Nat) {index : Nat} {fs : List Value} (hr : h.length + 1 = r) (hh : h ++ [.inr (ci, fs)] = h2) (e1 : bc = bc2 + 1) (e2 : bs = bs2 + N) (hd : decode y.2.1 pc = .ok (.new index, 3)) (hw : Cond.classLink y.1.cls index Cn ∈ am_T) (hw2 : Cond.instantiable Cn N ∈ am_T) (hw3 : Cond.initialized Cn ∈ am_T) (hfs : ∀ j, j < N → defaultValue (ty j) = vp_V (fs.map (am_v G)) j) (k : am_W G y d bc2 bs2 Q (pc + 3) L (.ref r :: st) h2) : am_W G y d bc bs Q pc L (st) h := by
  subst hr hh e1 e2
  exact am_new F hd hw hw2 hw3 hfs (by omega) (by omega) (by rw [Nat.add_sub_cancel, Nat.add_sub_cancel]; exact k)
set_option maxRecDepth 20000 in
theorem c_X_init (d : Nat) (sd : Int32) : am_Fn G m_X_init (d + 2) 28 803 [.ref 1, .int sd] [.inr (0, [.null, .null, .null, .null, .long (lN 0), .int (zI false)])] none (hx sd.toInt64 false sh_0 fl_0 se_0 pl_0 []) := by
  refine am_aload_n d_X_init_0 rfl rfl ?_
  refine am_objInit d_X_init_1 w_19 w_20 w_21 (by omega) (by decide) ?_
  refine am_aload_n d_X_init_4 rfl rfl ?_
  refine am_newO F_S (fs := [.int (nI 0), .null, .null, .null, .null, .int (nI 0), .null, .null, .null, .null, .int (nI 0), .null, .null, .null, .null]) 2 (.inr (0, [.null, .null, .null, .null, .long (lN 0), .int (zI false)]) :: [.inr (1, [.int (nI 0), .null, .null, .null, .null, .int (nI 0), .null, .null, .null, .null, .int (nI 0), .null, .null, .null, .null])]) 27 788 rfl rfl rfl rfl d_X_init_5 w_22 w_23 w_2 (fun j hj => match j, hj with | 0, _ => rfl | 1, _ => rfl | 2, _ => rfl | 3, _ => rfl | 4, _ => rfl | 5, _ => rfl | 6, _ => rfl | 7, _ => rfl | 8, _ => rfl | 9, _ => rfl | 10, _ => rfl | 11, _ => rfl | 12, _ => rfl | 13, _ => rfl | 14, _ => rfl | k + 15, hk => absurd hk (Nat.not_lt.mpr (Nat.le_add_left _ _))) ?_
  refine am_dup d_X_init_8 rfl ?_
  refine am_callF 1 (am_recvIN (host := "WorkPlans") (z := m_S_init) rfl d_X_init_9 (by decide +kernel) w_25 w_26 rfl rfl (by decide) np_S_init) (by decide) (by decide) (Nat.le_of_ble_eq_true rfl) (Nat.le_of_ble_eq_true rfl) (by decide) (by decide) (c_S_init d _) ?_
  refine am_putF F_X 0 (by decide) d_X_init_12 w_217 rfl rfl rfl rfl (Nat.le_of_ble_eq_true rfl) rfl rfl ?_
  refine am_hq (h2 := (.inr (0, [.ref 2, .null, .null, .null, .long (lN 0), .int (zI false)]) :: sh_c sh_0)) rfl ?_
  refine am_aload_n d_X_init_15 rfl rfl ?_
  refine am_newO F_F (fs := [.null, .null, .null, .null, .null, .null]) 15 (.inr (0, [.ref 2, .null, .null, .null, .long (lN 0), .int (zI false)]) :: (sh_c sh_0 ++ [.inr (2, [.null, .null, .null, .null, .null, .null])])) 14 536 rfl rfl rfl rfl d_X_init_16 w_103 w_104 w_3 (fun j hj => match j, hj with | 0, _ => rfl | 1, _ => rfl | 2, _ => rfl | 3, _ => rfl | 4, _ => rfl | 5, _ => rfl | k + 6, hk => absurd hk (Nat.not_lt.mpr (Nat.le_add_left _ _))) ?_
  refine am_dup d_X_init_19 rfl ?_
  refine am_aload_n d_X_init_20 rfl rfl ?_
  refine am_get F_X 0 (by decide) d_X_init_21 w_217 rfl rfl ?_
  refine am_callF 2 (am_recvI (z := m_F_init) rfl d_X_init_24 w_105 w_106 w_107 rfl rfl (by decide) np_F_init) (by decide) (by decide) (Nat.le_of_ble_eq_true rfl) (Nat.le_of_ble_eq_true rfl) (by decide) (by decide) (c_F_init d _) ?_
  refine am_putF F_X 1 (by decide) d_X_init_27 w_218 rfl rfl rfl rfl (Nat.le_of_ble_eq_true rfl) rfl rfl ?_
  refine am_hq (h2 := (.inr (0, [.ref 2, .ref 15, .null, .null, .long (lN 0), .int (zI false)]) :: (sh_c sh_0 ++ fl_c fl_0))) rfl ?_
  refine am_aload_n d_X_init_30 rfl rfl ?_
  refine am_newO F_R (fs := [.null, .null, .null, .null, .null, .null, .long (lN 0), .int (nI 0), .long (lN 0), .int (nI 0)]) 21 (.inr (0, [.ref 2, .ref 15, .null, .null, .long (lN 0), .int (zI false)]) :: (sh_c sh_0 ++ (fl_c fl_0 ++ [.inr (3, [.null, .null, .null, .null, .null, .null, .long (lN 0), .int (nI 0), .long (lN 0), .int (nI 0)])]))) 8 88 rfl rfl rfl rfl d_X_init_31 w_130 w_131 w_4 (fun j hj => match j, hj with | 0, _ => rfl | 1, _ => rfl | 2, _ => rfl | 3, _ => rfl | 4, _ => rfl | 5, _ => rfl | 6, _ => rfl | 7, _ => rfl | 8, _ => rfl | 9, _ => rfl | k + 10, hk => absurd hk (Nat.not_lt.mpr (Nat.le_add_left _ _))) ?_
  refine am_dup d_X_init_34 rfl ?_
  refine am_aload_n d_X_init_35 rfl rfl ?_
  refine am_get F_X 0 (by decide) d_X_init_36 w_217 rfl rfl ?_
  refine am_aload_n d_X_init_39 rfl rfl ?_
  refine am_get F_X 1 (by decide) d_X_init_40 w_218 rfl rfl ?_
  refine am_callF 3 (am_recvI (z := m_R_init) rfl d_X_init_43 w_132 w_133 w_134 rfl rfl (by decide) np_R_init) (by decide) (by decide) (Nat.le_of_ble_eq_true rfl) (Nat.le_of_ble_eq_true rfl) (by decide) (by decide) (c_R_init d _) ?_
  refine am_putF F_X 2 (by decide) d_X_init_46 w_219 rfl rfl rfl rfl (Nat.le_of_ble_eq_true rfl) rfl rfl ?_
  refine am_hq (h2 := (.inr (0, [.ref 2, .ref 15, .ref 21, .null, .long (lN 0), .int (zI false)]) :: (sh_c sh_0 ++ (fl_c fl_0 ++ se_c se_0)))) rfl ?_
  refine am_aload_n d_X_init_49 rfl rfl ?_
  refine am_newO F_P (fs := [.null, .null, .null, .null, .int (nI 0), .int (nI 0), .long (lN 0), .long (lN 0), .int (nI 0), .int (nI 0)]) 26 (.inr (0, [.ref 2, .ref 15, .ref 21, .null, .long (lN 0), .int (zI false)]) :: (sh_c sh_0 ++ (fl_c fl_0 ++ (se_c se_0 ++ [.inr (4, [.null, .null, .null, .null, .int (nI 0), .int (nI 0), .long (lN 0), .long (lN 0), .int (nI 0), .int (nI 0)])])))) 3 54 rfl rfl rfl rfl d_X_init_50 w_172 w_173 w_5 (fun j hj => match j, hj with | 0, _ => rfl | 1, _ => rfl | 2, _ => rfl | 3, _ => rfl | 4, _ => rfl | 5, _ => rfl | 6, _ => rfl | 7, _ => rfl | 8, _ => rfl | 9, _ => rfl | k + 10, hk => absurd hk (Nat.not_lt.mpr (Nat.le_add_left _ _))) ?_
  refine am_dup d_X_init_53 rfl ?_
  refine am_aload_n d_X_init_54 rfl rfl ?_
  refine am_get F_X 0 (by decide) d_X_init_55 w_217 rfl rfl ?_
  refine am_callF 2 (am_recvI (z := m_P_init) rfl d_X_init_58 w_174 w_175 w_176 rfl rfl (by decide) np_P_init) (by decide) (by decide) (Nat.le_of_ble_eq_true rfl) (Nat.le_of_ble_eq_true rfl) (by decide) (by decide) (c_P_init d _) ?_
  refine am_putF F_X 3 (by decide) d_X_init_61 w_220 rfl rfl rfl rfl (Nat.le_of_ble_eq_true rfl) rfl rfl ?_
  refine am_hq (h2 := (.inr (0, [.ref 2, .ref 15, .ref 21, .ref 26, .long (lN 0), .int (zI false)]) :: (sh_c sh_0 ++ (fl_c fl_0 ++ (se_c se_0 ++ pl_c pl_0))))) rfl ?_
  refine am_aload_n d_X_init_64 rfl rfl ?_
  refine am_iload_n d_X_init_65 rfl rfl ?_
  refine am_i2l d_X_init_66 ?_
  refine am_put F_X 4 (by decide) d_X_init_67 w_221 rfl rfl (Nat.le_of_ble_eq_true rfl) rfl rfl ?_
  refine am_aload_n d_X_init_70 rfl rfl ?_
  refine am_iconst (v := zI false) d_X_init_71 (by decide) ?_
  refine am_put F_X 5 (by decide) d_X_init_72 w_222 rfl rfl (Nat.le_of_ble_eq_true rfl) rfl rfl ?_
  refine am_vret d_X_init_75 rfl ?_
  exact ⟨rfl, rfl⟩
end CI0
/-! the model: its cells -/
abbrev mo_T : Type := Nat × Int64 × (Nat → Int32) × (Nat → Int32) × Bool × Bool × Nat × (Nat → Nat) × (Nat → Int32) × (Nat → Int32) × (Nat → Int32) × (Nat → Int32) × Nat × Nat × Nat × Nat × (Nat → Nat) × (Nat → Nat) × (Nat → Bool)
abbrev mo_cd (s : mo_T) : Nat := s.1
abbrev mo_xx (s : mo_T) : Int64 := s.2.1
abbrev mo_hr (s : mo_T) : (Nat → Int32) := s.2.2.1
abbrev mo_mh (s : mo_T) : (Nat → Int32) := s.2.2.2.1
abbrev mo_pd (s : mo_T) : Bool := s.2.2.2.2.1
abbrev mo_fr (s : mo_T) : Bool := s.2.2.2.2.2.1
abbrev mo_pj (s : mo_T) : Nat := s.2.2.2.2.2.2.1
abbrev mo_pn (s : mo_T) : (Nat → Nat) := s.2.2.2.2.2.2.2.1
abbrev mo_ph (s : mo_T) : (Nat → Int32) := s.2.2.2.2.2.2.2.2.1
abbrev mo_pm (s : mo_T) : (Nat → Int32) := s.2.2.2.2.2.2.2.2.2.1
abbrev mo_wh (s : mo_T) : (Nat → Int32) := s.2.2.2.2.2.2.2.2.2.2.1
abbrev mo_wm (s : mo_T) : (Nat → Int32) := s.2.2.2.2.2.2.2.2.2.2.2.1
abbrev mo_co (s : mo_T) : Nat := s.2.2.2.2.2.2.2.2.2.2.2.2.1
abbrev mo_bo (s : mo_T) : Nat := s.2.2.2.2.2.2.2.2.2.2.2.2.2.1
abbrev mo_no (s : mo_T) : Nat := s.2.2.2.2.2.2.2.2.2.2.2.2.2.2.1
abbrev mo_ch (s : mo_T) : Nat := s.2.2.2.2.2.2.2.2.2.2.2.2.2.2.2.1
abbrev mo_ro (s : mo_T) : (Nat → Nat) := s.2.2.2.2.2.2.2.2.2.2.2.2.2.2.2.2.1
abbrev mo_tr (s : mo_T) : (Nat → Nat) := s.2.2.2.2.2.2.2.2.2.2.2.2.2.2.2.2.2.1
abbrev mo_us (s : mo_T) : (Nat → Bool) := s.2.2.2.2.2.2.2.2.2.2.2.2.2.2.2.2.2.2
abbrev ma_T : Type := Int64 × Bool × sh_T × fl_T × se_T × pl_T
def am_r (n : Nat) (f : Nat → Int32) : am_E := .inl (0, n, .inl f)
def mo_c (S : sh_T) (jo : Nat → Nat) (M : mo_T) : am_H := [.inr (5, [.int (nI (mo_cd M)), .int (nI (sh_mc S)), .ref 31, .ref 32, .ref 33, .ref 34, .int (nI (sh_jb S)), .ref 35, .ref 36, .ref 37, .ref 38, .int (nI (sh_ss S)), .ref 39, .ref 40, .ref 41, .ref 42, .long (mo_xx M), .ref 43, .ref 44, .int (zI (mo_pd M)), .int (zI (mo_fr M)), .int (nI (mo_pj M)), .ref 45, .ref 46, .ref 47, .ref 48, .ref 49, .long (lN (mo_co M)), .long (lN (mo_bo M)), .int (nI (mo_no M)), .int (nI (mo_ch M)), .ref 50, .ref 51, .ref 52]),
  am_a 6 (sh_kd S), am_a 6 (sh_sp S), am_a 48 (sh_sf S), am_a 48 (sh_st S), am_a 6 (sh_du S), am_a 6 (sh_we S), am_a 6 (sh_so S), am_a 24 (sh_sa S), am_a 24 jo, am_a 24 (sh_sk S), am_a 24 (sh_sh S), am_a 24 (sh_sw S), am_r 24 (mo_hr M), am_r 24 (mo_mh M), am_a 6 (mo_pn M), am_r 24 (mo_ph M), am_r 24 (mo_pm M), am_r 24 (mo_wh M), am_r 24 (mo_wm M), am_a 6 (mo_ro M), am_a 6 (mo_tr M), am_zc 6 (mo_us M)]
/-- all cells, the model's behind the object's -/
def hm (A : ma_T) (S : sh_T) (jo : Nat → Nat) (M : mo_T) (V : am_H) : am_H := hx A.1 A.2.1 A.2.2.1 A.2.2.2.1 A.2.2.2.2.1 A.2.2.2.2.2 (mo_c S jo M ++ V)
/-- how a call of the model ends: cd is the case -/
def mQ (cd : Nat) (z : Option Value) (h1 : am_H) (K : Option Value → am_H → Prop) : am_O → am_H → Prop := fun o h' =>
  match cd with
  | 0 => ∃ v, o = .inl v ∧ K v h'
  | _ + 1 => o = .inl z ∧ h' = h1
theorem am_imulC {G : am_G} {y : am_M} {d bc bs : Nat} {Q : am_O → am_H → Prop} {pc : Nat} {L : List (Nat × Value)} {st : List Value} {h : am_H} {a b : Nat} (hd : decode y.2.1 pc = .ok (.imul, 1)) (k : am_W G y d bc bs Q (pc + 1) L (.int (nI (b * a)) :: st) h) : am_W G y d bc bs Q pc L (.int (nI b) :: .int (nI a) :: st) h :=
  am_imul hd (by rw [pk_mul, Nat.mul_comm]; exact k)
section CM1
variable {G : am_G} {A : ma_T} {S : sh_T} {jo : Nat → Nat} {M : mo_T} {V : am_H}
theorem c_M_thrown (d bc bs : Nat) : am_Fn G m_M_thrown d bc bs [.ref 30] (hm A S jo M V) (some (.int (nI (mo_cd M)))) (hm A S jo M V) := by
  refine am_aload_n d_M_thrown_0 rfl rfl ?_
  refine am_get F_M 0 (by decide) d_M_thrown_1 w_650 rfl rfl ?_
  refine am_iret d_M_thrown_4 rfl ?_
  exact ⟨rfl, rfl⟩
theorem c_M_in {h : am_H} (d bc bs : Nat) (n l m : Int32) : am_Fn G m_M_in d bc bs [.int n, .int l, .int m] h (some (.int (zI (sp_in n l m)))) h := by
  refine am_iload_n d_M_in_0 rfl rfl ?_
  refine am_iload_n d_M_in_1 rfl rfl ?_
  refine am_icmp_lt (tgt := 14) d_M_in_2 (by decide) (fun c2 => ?_) (fun c2 => ?_)
  · refine am_iconst (v := nI 0) d_M_in_14 (by decide) ?_
    refine am_zret d_M_in_15 rfl (by decide) ?_
    refine ⟨?_, rfl⟩
    first | (rw [sp_in, decide_eq_false (by simpa using c2)]; rfl) | (rw [sp_in, decide_eq_true c2, decide_eq_false (by simpa using c7)]; rfl) | (rw [sp_in, decide_eq_true c2, decide_eq_true c7]; rfl)
  · refine am_iload_n d_M_in_5 rfl rfl ?_
    refine am_iload_n d_M_in_6 rfl rfl ?_
    refine am_icmp_gt (tgt := 14) d_M_in_7 (by decide) (fun c7 => ?_) (fun c7 => ?_)
    · refine am_iconst (v := nI 0) d_M_in_14 (by decide) ?_
      refine am_zret d_M_in_15 rfl (by decide) ?_
      refine ⟨?_, rfl⟩
      first | (rw [sp_in, decide_eq_false (by simpa using c2)]; rfl) | (rw [sp_in, decide_eq_true c2, decide_eq_false (by simpa using c7)]; rfl) | (rw [sp_in, decide_eq_true c2, decide_eq_true c7]; rfl)
    · refine am_iconst (v := nI 1) d_M_in_10 (by decide) ?_
      refine am_goto (tgt := 15) d_M_in_11 (by decide) ?_
      refine am_zret d_M_in_15 rfl (by decide) ?_
      refine ⟨?_, rfl⟩
      first | (rw [sp_in, decide_eq_false (by simpa using c2)]; rfl) | (rw [sp_in, decide_eq_true c2, decide_eq_false (by simpa using c7)]; rfl) | (rw [sp_in, decide_eq_true c2, decide_eq_true c7]; rfl)
theorem c_M_meets {h : am_H} (d bc bs a b c e : Nat) (ha : a < 2 ^ 31) (hb : b < 2 ^ 31) (hc : c < 2 ^ 31) (he : e < 2 ^ 31) : am_Fn G m_M_meets d bc bs [.int (nI a), .int (nI b), .int (nI c), .int (nI e)] h (some (.int (zI (sp_meets a b c e)))) h := by
  refine am_iload_n d_M_meets_0 rfl rfl ?_
  refine am_iload_n d_M_meets_1 rfl rfl ?_
  refine am_icmpN_ge (tgt := 14) d_M_meets_2 (by decide) (by omega) (by omega) (fun c2 => ?_) (fun c2 => ?_)
  · refine am_iconst (v := nI 0) d_M_meets_14 (by decide) ?_
    refine am_zret d_M_meets_15 rfl (by decide) ?_
    refine ⟨?_, rfl⟩
    first | (rw [sp_meets, decide_eq_false (by omega)]; rfl) | (rw [sp_meets, decide_eq_true c2, decide_eq_false (by omega)]; rfl) | (rw [sp_meets, decide_eq_true (by omega), decide_eq_true (by omega)]; rfl)
  · refine am_iload_n d_M_meets_5 rfl rfl ?_
    refine am_iload_n d_M_meets_6 rfl rfl ?_
    refine am_icmpN_ge (tgt := 14) d_M_meets_7 (by decide) (by omega) (by omega) (fun c7 => ?_) (fun c7 => ?_)
    · refine am_iconst (v := nI 0) d_M_meets_14 (by decide) ?_
      refine am_zret d_M_meets_15 rfl (by decide) ?_
      refine ⟨?_, rfl⟩
      first | (rw [sp_meets, decide_eq_false (by omega)]; rfl) | (rw [sp_meets, decide_eq_true c2, decide_eq_false (by omega)]; rfl) | (rw [sp_meets, decide_eq_true (by omega), decide_eq_true (by omega)]; rfl)
    · refine am_iconst (v := nI 1) d_M_meets_10 (by decide) ?_
      refine am_goto (tgt := 15) d_M_meets_11 (by decide) ?_
      refine am_zret d_M_meets_15 rfl (by decide) ?_
      refine ⟨?_, rfl⟩
      first | (rw [sp_meets, decide_eq_false (by omega)]; rfl) | (rw [sp_meets, decide_eq_true c2, decide_eq_false (by omega)]; rfl) | (rw [sp_meets, decide_eq_true (by omega), decide_eq_true (by omega)]; rfl)
set_option maxRecDepth 20000 in
theorem c_M_machine (hS : sh_ok S) (d bc bs : Nat) (k : Int32) : am_W G m_M_machine (d + 1) bc bs (mQ (cd_machine S k) (some (.int (nI 0))) (hm A S jo ((cd_machine S k), mo_xx M, mo_hr M, mo_mh M, mo_pd M, mo_fr M, mo_pj M, mo_pn M, mo_ph M, mo_pm M, mo_wh M, mo_wm M, mo_co M, mo_bo M, mo_no M, mo_ch M, mo_ro M, mo_tr M, mo_us M) V) (fun v h' => ∀ i, i ≤ 3 → k = nI i → v = some (.int (nI (sh_mc S))) ∧ h' = (hm A (sh_mc S + 1, nu (sh_kd S) (sh_mc S) i, S.2.2) jo (0, mo_xx M, mo_hr M, mo_mh M, mo_pd M, false, mo_pj M, mo_pn M, mo_ph M, mo_pm M, mo_wh M, mo_wm M, mo_co M, mo_bo M, mo_no M, mo_ch M, mo_ro M, mo_tr M, mo_us M) V))) 0 (lv_args 0 [.ref 30, .int k]) [] (hm A S jo M V) := by
  obtain ⟨s1, s2, s3, s4, s5, s6, s7, s8, s9, s10, s11, s12, s13, s14⟩ := id hS
  refine am_aload_n d_M_machine_0 rfl rfl ?_
  refine am_iload_n d_M_machine_1 rfl rfl ?_
  refine am_iconst (v := nI 0) d_M_machine_2 (by decide) ?_
  refine am_iconst (v := nI 3) d_M_machine_3 (by decide) ?_
  refine am_callF 3 (am_lkS (z := m_M_in) d_M_machine_4 w_761 w_762 w_6 w_763 (by decide) np_M_in) (by decide) (by decide) (Nat.le_of_ble_eq_true rfl) (Nat.le_of_ble_eq_true rfl) (Nat.zero_le _) (Nat.zero_le _) (c_M_in _ _ _ _ _ _) ?_
  refine am_ifZ_ne (tgt := 14) d_M_machine_7 (by decide) (fun c7 => ?_) (fun c7 => ?_)
  · obtain ⟨n, rfl, -, h3⟩ := sp_in_t c7 (by decide) (by decide)
    refine am_aload_n d_M_machine_14 rfl rfl ?_
    refine am_get F_M 1 (by decide) d_M_machine_15 w_651 rfl rfl ?_
    refine am_bipush (v := nI 6) d_M_machine_18 (by decide) ?_
    refine am_icmpN_ne (tgt := 27) d_M_machine_20 (by decide) (by omega) (by omega) (fun c20 => ?_) (fun c20 => ?_)
    · refine am_iconst (v := nI 0) d_M_machine_27 (by decide) ?_
      refine am_put F_M 0 (by decide) d_M_machine_28 w_650 rfl rfl (Nat.le_of_ble_eq_true rfl) rfl rfl ?_
      refine am_aload_n d_M_machine_31 rfl rfl ?_
      refine am_get F_M 0 (by decide) d_M_machine_32 w_650 rfl rfl ?_
      refine am_ifN_le (tgt := 40) d_M_machine_35 (by decide) (by decide) (fun _ => ?_) (fun z => absurd z (by decide))
      refine am_aload_n d_M_machine_40 rfl rfl ?_
      refine am_get F_M 2 (by decide) d_M_machine_41 w_652 rfl rfl ?_
      refine am_aload_n d_M_machine_44 rfl rfl ?_
      refine am_get F_M 1 (by decide) d_M_machine_45 w_651 rfl rfl ?_
      refine am_iload_n d_M_machine_48 rfl rfl ?_
      refine am_iastA d_M_machine_49 rfl (by omega) (by decide) ?_
      refine am_aload_n d_M_machine_50 rfl rfl ?_
      refine am_dup d_M_machine_51 rfl ?_
      refine am_get F_M 1 (by decide) d_M_machine_52 w_651 rfl rfl ?_
      refine am_iconst (v := nI 1) d_M_machine_55 (by decide) ?_
      refine am_iaddN d_M_machine_56 ?_
      refine am_put F_M 1 (by decide) d_M_machine_57 w_651 rfl rfl (Nat.le_of_ble_eq_true rfl) rfl rfl ?_
      refine am_aload_n d_M_machine_60 rfl rfl ?_
      refine am_iconst (v := zI false) d_M_machine_61 (by decide) ?_
      refine am_put F_M 20 (by decide) d_M_machine_62 w_670 rfl rfl (Nat.le_of_ble_eq_true rfl) rfl rfl ?_
      refine am_aload_n d_M_machine_65 rfl rfl ?_
      refine am_get F_M 1 (by decide) d_M_machine_66 w_651 rfl rfl ?_
      refine am_iconst (v := nI 1) d_M_machine_69 (by decide) ?_
      refine am_isubS (c := sh_mc S) d_M_machine_70 (by omega) ?_
      refine am_iret d_M_machine_71 rfl ?_
      have ec : cd_machine S (nI n) = 0 := by unfold cd_machine; (try simp only [ek]); (repeat' split) <;> first | rfl | omega | simp_all
      rw [ec]
      exact ⟨_, rfl, fun i hi3 e => by have e3 := (nI_eq (by omega) (by omega)).mp e; subst e3; exact ⟨rfl, rfl⟩⟩
    · refine am_iconst (v := nI 2) d_M_machine_23 (by decide) ?_
      refine am_goto (tgt := 28) d_M_machine_24 (by decide) ?_
      refine am_put F_M 0 (by decide) d_M_machine_28 w_650 rfl rfl (Nat.le_of_ble_eq_true rfl) rfl rfl ?_
      refine am_aload_n d_M_machine_31 rfl rfl ?_
      refine am_get F_M 0 (by decide) d_M_machine_32 w_650 rfl rfl ?_
      refine am_ifN_le (tgt := 40) d_M_machine_35 (by decide) (by decide) (fun z => absurd z (by decide)) (fun _ => ?_)
      refine am_iconst (v := nI 0) d_M_machine_38 (by decide) ?_
      refine am_iret d_M_machine_39 rfl ?_
      have ec : cd_machine S (nI n) = 2 := by unfold cd_machine; (try simp only [ek]); (repeat' split) <;> first | rfl | omega | simp_all
      rw [ec]
      exact ⟨rfl, rfl⟩
  · refine am_iconst (v := nI 1) d_M_machine_10 (by decide) ?_
    refine am_goto (tgt := 28) d_M_machine_11 (by decide) ?_
    refine am_put F_M 0 (by decide) d_M_machine_28 w_650 rfl rfl (Nat.le_of_ble_eq_true rfl) rfl rfl ?_
    refine am_aload_n d_M_machine_31 rfl rfl ?_
    refine am_get F_M 0 (by decide) d_M_machine_32 w_650 rfl rfl ?_
    refine am_ifN_le (tgt := 40) d_M_machine_35 (by decide) (by decide) (fun z => absurd z (by decide)) (fun _ => ?_)
    refine am_iconst (v := nI 0) d_M_machine_38 (by decide) ?_
    refine am_iret d_M_machine_39 rfl ?_
    have ec : cd_machine S k = 1 := by unfold cd_machine; (try simp only [ek]); (repeat' split) <;> first | rfl | omega | simp_all
    rw [ec]
    exact ⟨rfl, rfl⟩
end CM1
