
/-! THE ABSTRACT LAYER: a method's state is its pc, its known locals, its stack and the list of all cells that were made since the law's entry; reference 0 is the script, reference i + 1 the i-th such cell. -/
abbrev am_E : Type := (Nat × vp_A) ⊕ (Nat × List Value)
abbrev am_H : Type := List am_E
/-- how a method ends: it returned (a value or none), or threw (the number of the class among the classes, the cell) -/
abbrev am_O : Type := Option Value ⊕ (Nat × Nat)
/-- a method: name, bytes, locals, result, handlers -/
abbrev am_M : Type := MethodName × ByteArray × Nat × Option FieldType × List (Nat × Nat × Nat × Nat)
/-- the launch; the classes' numbers, their slots; the array classes; the script's address, the first new address, the script's length, its ints -/
abbrev am_G : Type := Launch × (Nat → ClassId) × (Nat → Nat → Nat) × (Nat → ClassId) × Nat × Nat × Nat × (Nat → Int32)
abbrev am_gD (G : am_G) : va_G := (G.2.1, G.2.2.1)
abbrev am_gA (G : am_G) : Nat → ClassId := G.2.2.2.1
abbrev am_gb (G : am_G) : Nat := G.2.2.2.2.1
abbrev am_gz (G : am_G) : Nat := G.2.2.2.2.2.1
abbrev am_gn (G : am_G) : Nat := G.2.2.2.2.2.2.1
abbrev am_gx (G : am_G) : Nat → Int32 := G.2.2.2.2.2.2.2
def am_tys (G : am_G) : List (ClassId × FieldType) := [(am_gA G 0, .int), (am_gA G 1, .long), (am_gA G 2, .boolean)]
def am_ad (G : am_G) : Nat → Nat
  | 0 => am_gb G
  | i + 1 => am_gz G + i
def am_v (G : am_G) : Value → Value
  | .ref a => .ref (am_ad G a)
  | v => v
def am_e (G : am_G) : am_E → va_E
  | .inl q => .inl (am_gA G q.1, q.2)
  | .inr q => .inr (q.1, q.2.map (am_v G))
def am_ws (G : am_G) : Nat → am_H → va_W
  | _, [] => []
  | n, e :: h => (n, am_e G e) :: am_ws G (n + 1) h
theorem am_ws_get (G : am_G) : ∀ (h : am_H) (n k : Nat), (am_ws G n h)[k]? = (h[k]?).map (fun e => (n + k, am_e G e))
  | [], n, k => by simp [am_ws]
  | e :: h, n, 0 => by simp [am_ws]
  | e :: h, n, k + 1 => by
    have := am_ws_get G h (n + 1) k
    simp only [am_ws, List.getElem?_cons_succ, this]
    rw [show n + 1 + k = n + (k + 1) by omega]
theorem am_ws_set (G : am_G) : ∀ (h : am_H) (n k : Nat) (e : am_E), am_ws G n (h.set k e) = (am_ws G n h).set k (n + k, am_e G e)
  | [], n, k, e => by simp [am_ws]
  | a :: h, n, 0, e => by simp [am_ws]
  | a :: h, n, k + 1, e => by
    have := am_ws_set G h (n + 1) k e
    simp only [am_ws, List.set_cons_succ, this]
    rw [show n + 1 + k = n + (k + 1) by omega]
theorem am_ws_app (G : am_G) : ∀ (h : am_H) (n : Nat) (e : am_E), am_ws G n (h ++ [e]) = am_ws G n h ++ [(n + h.length, am_e G e)]
  | [], n, e => by simp [am_ws]
  | a :: h, n, e => by
    have := am_ws_app G h (n + 1) e
    simp only [am_ws, List.cons_append, this, List.length_cons]
    rw [show n + 1 + h.length = n + (h.length + 1) by omega]
def am_A (G : am_G) : Nat → Prop := fun q => am_gz G ≤ q
theorem am_D (G : am_G) (h : am_H) : va_D (am_A G) (am_ws G (am_gz G) h) := by
  have key : ∀ (k : Nat) (q : Nat × va_E), (am_ws G (am_gz G) h)[k]? = some q → q.1 = am_gz G + k := by
    intro k q hk
    rw [am_ws_get] at hk
    cases he : h[k]? with
    | none => rw [he] at hk; cases hk
    | some e => rw [he] at hk; cases hk; rfl
  refine ⟨fun i j x y hi hj hxy => ?_, fun k q hk => ?_⟩
  · have := key i x hi
    have := key j y hj
    omega
  · show am_gz G ≤ q.1
    rw [key k q hk]
    exact Nat.le_add_right _ _
/-- the heap holds the cells -/
def am_R (G : am_G) (h : am_H) (H : Heap) : Prop := H.size = am_gz G + h.length ∧ va_P (am_gD G) am_cl (am_ws G (am_gz G) h) H
def am_out (G : am_G) : am_O → Outcome → Prop
  | .inl v, o => o = .returned (v.map (am_v G))
  | .inr q, o => o = .threw (am_ad G q.2)
def am_L (G : am_G) (L : List (Nat × Value)) : List (Nat × Value) := L.map (fun q => (q.1, am_v G q.2))
/-- a static field that is laid, its cell an old one -/
def am_ls (G : am_G) (C n d : String) (s : State) : Prop := ∃ c k i f a cell, s.vm.findClass C = some c ∧ s.fieldFound? C n d = some (c, k, i, f) ∧ f.isStatic = true ∧ k.statics = some a ∧ s.heap[a]? = some cell ∧ cell.vm.isStatics = true ∧ cell.cls = c ∧ f.slot < cell.slots.size ∧ k.staticTypes[f.slot]? = some f.type ∧ a < am_gz G
theorem am_ls.moved {G : am_G} {C n d : String} {s U : State} (h : am_ls G C n d s) (hal : s.vm.Alike U.vm) (hq : ∀ q : Nat, q < am_gz G → U.heap[q]? = s.heap[q]?) : am_ls G C n d U := by
  obtain ⟨c, k, i, f, a, cell, hc, hi, hst, ha, hcell, hs, hcls, hlt, hty, hz⟩ := h
  obtain ⟨k', hi', hek⟩ := State.fieldFound?_setVm hal hi
  exact ⟨c, k', i, f, a, cell, by rw [hal.findClass]; exact hc, hi', hst, by rw [hek]; exact ha, by rw [hq a hz]; exact hcell, hs, hcls, hlt, by rw [hek]; exact hty, hz⟩
theorem am_ls.use {G : am_G} {C n d : String} {s : State} {args : Array Value} (h : am_ls G C n d s) : (Cond.laysStatic C n d).before args s = true := by
  obtain ⟨c, k, i, f, a, cell, hc, hi, hst, ha, hcell, hs, hcls, hlt, hty, hz⟩ := h
  exact Cond.laysStatic_of hc hi hst ha hcell hs hcls hlt hty
/-- what else is known of a state: no stack traces, the texts, Throwable's two statics, what can't be cast, the cells made so far -/
def am_K2 (G : am_G) (s : State) : Prop :=
  G.1.stackTraces = false ∧ (∀ q ∈ am_strs, ∃ a, vk_R R_X q.1 q.2 a s) ∧ va_Zq "java/lang/Throwable" "UNASSIGNED_STACK" "[Ljava/lang/StackTraceElement;" (am_A G) s s.heap ∧ va_Zq "java/lang/Throwable" "SUPPRESSED_SENTINEL" "Ljava/util/List;" (am_A G) s s.heap ∧
  (∀ q ∈ am_ncs, ∃ a b, s.vm.findClass q.1 = some a ∧ s.vm.findClass q.2 = some b ∧ s.vm.assignable a b = false) ∧ (∀ w ∈ am_T2, va_Nw w s) ∧ am_ls G "java/lang/Throwable" "UNASSIGNED_STACK" "[Ljava/lang/StackTraceElement;" s ∧ am_ls G "java/lang/Throwable" "SUPPRESSED_SENTINEL" "Ljava/util/List;" s ∧ ∃ h0, am_R G h0 s.heap
theorem am_K2.moved {G : am_G} {s U : State} (h : am_K2 G s) (hW : s.WarmedH U.vm) (hz : am_gz G ≤ s.heap.size) (hq : ∀ q : Nat, q < am_gz G → U.heap[q]? = s.heap[q]?) (hR : ∃ h0, am_R G h0 U.heap) : am_K2 G U := by
  obtain ⟨h1, h2, h3, h4, h5, h6, h7, h8, -⟩ := h
  have hal := hW.alike
  have hk : ∀ a : Nat, a < s.heap.size → ¬ am_A G a → U.heap[a]? = s.heap[a]? := fun a _ ha => hq a (Nat.not_le.mp ha)
  refine ⟨h1, fun q hqm => ?_, (h3.moved hal).kept hk, (h4.moved hal).kept hk, fun q hqm => ?_, am_T2_warm hW h6, h7.moved hal hq, h8.moved hal hq, hR⟩
  · obtain ⟨a, ha⟩ := h2 q hqm
    exact ⟨a, ha.warm hW⟩
  · obtain ⟨a, b, ha, hb, hc⟩ := h5 q hqm
    exact ⟨a, b, by rw [hal.findClass]; exact ha, by rw [hal.findClass]; exact hb, by rw [hal.assignable]; exact hc⟩
/-- what is known of an activation of the method y -/
def am_C (G : am_G) (y : am_M) (p : Program) (s : State) (m : MethodId) (args : Array Value) (meth : Method) (c : Code) : Prop :=
  (p.tables.exec = Jvm.exec ∧ c.code = y.2.1 ∧ c.maxLocals = y.2.2.1 ∧ s.vm.findClass y.1.cls = some m.cls ∧ (∀ w ∈ am_T, w.before args s = true)) ∧
  va_K (am_gD G) am_cl (am_tys G) s ∧ meth.sig.returnType = y.2.2.2.1 ∧ meth.locks = false ∧ c.exceptionTable.toList.map (fun h => (h.startPc, h.endPc, h.handlerPc, h.catchType)) = y.2.2.2.2 ∧ meth.name = y.1.name ∧
  am_gz G ≤ s.heap.size ∧ va_X (am_gb G) (am_gn G) (am_gx G) s s.heap ∧ am_gb G < am_gz G ∧ am_K2 G s
/-- the end of an activation -/
def am_Z (G : am_G) (Q : am_O → am_H → Prop) (R : Room) (s : State) (below : List Frame) : State → Prop := fun t =>
  ∃ (o : Outcome) (Lc : List Loc) (k n : Nat) (ao : am_O) (h' : am_H), t.status = .running ∧ Ended t below o ∧ s.WarmedH t.vm ∧ s.sameButNew ({ t with vm := s.vm } : State) Lc k n ∧ k ≤ R.cells ∧ n ≤ R.slots ∧
    (∀ q ∈ Lc, am_gz G ≤ q.base) ∧ (∀ q : Nat, q < am_gz G → t.heap[q]? = s.heap[q]?) ∧ am_R G h' t.heap ∧ am_out G ao o ∧ Q ao h'
/-- room for d frames more, bc cells and bs slots -/
def am_Rm (d bc bs : Nat) (R : Room) (cells slots : Nat) : Prop := d ≤ R.frames ∧ 64 * d ≤ R.locals ∧ cells + bc ≤ R.cells ∧ slots + bs ≤ R.slots
/-- THE JUDGEMENT: from pc with these locals, this stack and these cells the method y comes to an end with Q -/
def am_W (G : am_G) (y : am_M) (d bc bs : Nat) (Q : am_O → am_H → Prop) (pc : Nat) (L : List (Nat × Value)) (st : List Value) (h : am_H) : Prop :=
  ∀ (p : Program) (e : Env) (R : Room) (s : State) (m : MethodId) (args : Array Value) (below : List Frame) (meth : Method) (c : Code) (H : Heap) (locs : List Loc) (cells slots : Nat) (ls : Array Slot),
    am_C G y p s m args meth c → am_Rm d bc bs R cells slots → am_R G h H → va_S (am_A G) s.heap H locs → lv_has ls y.2.2.1 (am_L G L) →
    W p G.1 e R s m args below meth c H locs cells slots (am_Z G Q R s below) (F0 m pc ls (st.map (am_v G)))
def am_st1 (L : List (Nat × Value)) (i : Nat) (v : Value) : List (Nat × Value) := (i, v) :: L.filter (fun q => !(q.1 == i) && !(q.1 + 1 == i && q.2.category == 2))
def am_st2 (L : List (Nat × Value)) (i : Nat) (v : Value) : List (Nat × Value) := (i, v) :: L.filter (fun q => !(q.1 == i) && (!(q.1 == i + 1) && !(q.1 + 1 == i && q.2.category == 2)))
theorem am_v_cat (G : am_G) (v : Value) : (am_v G v).category = v.category := by cases v <;> rfl
theorem am_L_st1 (G : am_G) (L : List (Nat × Value)) (i : Nat) (v : Value) : (i, am_v G v) :: (am_L G L).filter (fun q => !(q.1 == i) && !(q.1 + 1 == i && q.2.category == 2)) = am_L G (am_st1 L i v) := by
  unfold am_L am_st1
  rw [List.map_cons, List.filter_map]
  congr 2
  refine List.filter_congr (fun q _ => ?_)
  simp only [Function.comp, am_v_cat]
theorem am_L_st2 (G : am_G) (L : List (Nat × Value)) (i : Nat) (v : Value) : (i, am_v G v) :: (am_L G L).filter (fun q => !(q.1 == i) && (!(q.1 == i + 1) && !(q.1 + 1 == i && q.2.category == 2))) = am_L G (am_st2 L i v) := by
  unfold am_L am_st2
  rw [List.map_cons, List.filter_map]
  congr 2
  refine List.filter_congr (fun q _ => ?_)
  simp only [Function.comp, am_v_cat]
theorem am_lk : ∀ {L : List (Nat × Value)} {i : Nat} {v : Value}, L.lookup i = some v → (i, v) ∈ L
  | [], i, v, h => by simp at h
  | (a, w) :: L, i, v, h => by
    rw [List.lookup_cons] at h
    split at h
    · rename_i hb
      have : i = a := by simpa using hb
      subst this
      cases h
      exact List.mem_cons_self
    · exact List.mem_cons_of_mem _ (am_lk h)
theorem am_at {G : am_G} {L : List (Nat × Value)} {ls : Array Slot} {n i : Nat} {v : Value} (h : lv_has ls n (am_L G L)) (hl : L.lookup i = some v) : ls[i]? = some (.val (am_v G v)) :=
  h.2.2 (i, am_v G v) (List.mem_map.mpr ⟨(i, v), am_lk hl, rfl⟩)

section AMR
variable {G : am_G} {y : am_M} {d bc bs : Nat} {Q : am_O → am_H → Prop} {pc : Nat} {L : List (Nat × Value)} {st : List Value} {h : am_H}
theorem am_iconst {n : Int} {v : Int32} (hd : decode y.2.1 pc = .ok (.iconst n, 1)) (hv : Int32.ofInt n = v) (k : am_W G y d bc bs Q (pc + 1) L (.int v :: st) h) : am_W G y d bc bs Q pc L (st) h := by
  intro p e R s m args below meth c H locs cells slots ls C hR hh hS hl
  exact lv_iconst C.1.1 C.1.2.1 hd hv (k p e R s m args below meth c H locs cells slots ls C hR hh hS hl)
theorem am_bipush {n : Int} {v : Int32} (hd : decode y.2.1 pc = .ok (.bipush n, 2)) (hv : (Int8.ofInt n).toInt32 = v) (k : am_W G y d bc bs Q (pc + 2) L (.int v :: st) h) : am_W G y d bc bs Q pc L (st) h := by
  intro p e R s m args below meth c H locs cells slots ls C hR hh hS hl
  exact lv_bipush C.1.1 C.1.2.1 hd hv (k p e R s m args below meth c H locs cells slots ls C hR hh hS hl)
theorem am_sipush {n : Int} {v : Int32} (hd : decode y.2.1 pc = .ok (.sipush n, 3)) (hv : (Int16.ofInt n).toInt32 = v) (k : am_W G y d bc bs Q (pc + 3) L (.int v :: st) h) : am_W G y d bc bs Q pc L (st) h := by
  intro p e R s m args below meth c H locs cells slots ls C hR hh hS hl
  exact lv_sipush C.1.1 C.1.2.1 hd hv (k p e R s m args below meth c H locs cells slots ls C hR hh hS hl)
theorem am_lconst {n : Fin 2} {v : Int64} (hd : decode y.2.1 pc = .ok (.lconst n, 1)) (hv : Int64.ofNat (n : Nat) = v) (k : am_W G y d bc bs Q (pc + 1) L (.long v :: st) h) : am_W G y d bc bs Q pc L (st) h := by
  intro p e R s m args below meth c H locs cells slots ls C hR hh hS hl
  exact lv_lconst C.1.1 C.1.2.1 hd hv (k p e R s m args below meth c H locs cells slots ls C hR hh hS hl)
theorem am_ldc {index : Nat} {v : Int32} (hd : decode y.2.1 pc = .ok (.ldc index, 2)) (hw : Cond.constant y.1.cls index v ∈ am_T) (k : am_W G y d bc bs Q (pc + 2) L (.int v :: st) h) : am_W G y d bc bs Q pc L (st) h := by
  intro p e R s m args below meth c H locs cells slots ls C hR hh hS hl
  exact lv_ldc C.1.1 C.1.2.1 C.1.2.2.2.1 (C.1.2.2.2.2 _ hw) hd (k p e R s m args below meth c H locs cells slots ls C hR hh hS hl)
theorem am_ldc2 {index : Nat} {v : Int64} (hd : decode y.2.1 pc = .ok (.ldc2_w index, 3)) (hw : Cond.constantLong y.1.cls index v ∈ am_T) (k : am_W G y d bc bs Q (pc + 3) L (.long v :: st) h) : am_W G y d bc bs Q pc L (st) h := by
  intro p e R s m args below meth c H locs cells slots ls C hR hh hS hl
  exact lv_ldc2 C.1.1 C.1.2.1 C.1.2.2.2.1 (C.1.2.2.2.2 _ hw) hd (k p e R s m args below meth c H locs cells slots ls C hR hh hS hl)
theorem am_iload_n {j : Fin 4} {i : Nat} {x : Int32} (hd : decode y.2.1 pc = .ok (.iload_n j, 1)) (hi : (j : Nat) = i) (hx : L.lookup i = some (.int x)) (k : am_W G y d bc bs Q (pc + 1) L (.int x :: st) h) : am_W G y d bc bs Q pc L (st) h := by
  intro p e R s m args below meth c H locs cells slots ls C hR hh hS hl
  exact lv_iload_n C.1.1 C.1.2.1 hd hi (am_at hl hx) (k p e R s m args below meth c H locs cells slots ls C hR hh hS hl)
theorem am_iload {i : Nat} {x : Int32} (hd : decode y.2.1 pc = .ok (.iload i, 2)) (hx : L.lookup i = some (.int x)) (k : am_W G y d bc bs Q (pc + 2) L (.int x :: st) h) : am_W G y d bc bs Q pc L (st) h := by
  intro p e R s m args below meth c H locs cells slots ls C hR hh hS hl
  exact lv_iload C.1.1 C.1.2.1 hd (am_at hl hx) (k p e R s m args below meth c H locs cells slots ls C hR hh hS hl)
theorem am_lload_n {j : Fin 4} {i : Nat} {x : Int64} (hd : decode y.2.1 pc = .ok (.lload_n j, 1)) (hi : (j : Nat) = i) (hx : L.lookup i = some (.long x)) (k : am_W G y d bc bs Q (pc + 1) L (.long x :: st) h) : am_W G y d bc bs Q pc L (st) h := by
  intro p e R s m args below meth c H locs cells slots ls C hR hh hS hl
  exact lv_lload_n C.1.1 C.1.2.1 hd hi (am_at hl hx) (k p e R s m args below meth c H locs cells slots ls C hR hh hS hl)
theorem am_lload {i : Nat} {x : Int64} (hd : decode y.2.1 pc = .ok (.lload i, 2)) (hx : L.lookup i = some (.long x)) (k : am_W G y d bc bs Q (pc + 2) L (.long x :: st) h) : am_W G y d bc bs Q pc L (st) h := by
  intro p e R s m args below meth c H locs cells slots ls C hR hh hS hl
  exact lv_lload C.1.1 C.1.2.1 hd (am_at hl hx) (k p e R s m args below meth c H locs cells slots ls C hR hh hS hl)
theorem am_aload_n {j : Fin 4} {i : Nat} {x : Nat} (hd : decode y.2.1 pc = .ok (.aload_n j, 1)) (hi : (j : Nat) = i) (hx : L.lookup i = some (.ref x)) (k : am_W G y d bc bs Q (pc + 1) L (.ref x :: st) h) : am_W G y d bc bs Q pc L (st) h := by
  intro p e R s m args below meth c H locs cells slots ls C hR hh hS hl
  exact lv_aload_n C.1.1 C.1.2.1 hd hi (am_at hl hx) (k p e R s m args below meth c H locs cells slots ls C hR hh hS hl)
theorem am_aload {i : Nat} {x : Nat} (hd : decode y.2.1 pc = .ok (.aload i, 2)) (hx : L.lookup i = some (.ref x)) (k : am_W G y d bc bs Q (pc + 2) L (.ref x :: st) h) : am_W G y d bc bs Q pc L (st) h := by
  intro p e R s m args below meth c H locs cells slots ls C hR hh hS hl
  exact lv_aload C.1.1 C.1.2.1 hd (am_at hl hx) (k p e R s m args below meth c H locs cells slots ls C hR hh hS hl)
theorem am_istore_n {j : Fin 4} {i : Nat} {x : Int32} (hd : decode y.2.1 pc = .ok (.istore_n j, 1)) (hi : (j : Nat) = i) (hn : i < y.2.2.1) (k : am_W G y d bc bs Q (pc + 1) (am_st1 L i (.int x)) (st) h) : am_W G y d bc bs Q pc L (.int x :: st) h := by
  intro p e R s m args below meth c H locs cells slots ls C hR hh hS hl
  exact lv_istore_n C.1.1 C.1.2.1 hd hi hl hn (am_L_st1 G L i (.int x)) (fun ls hl => (k p e R s m args below meth c H locs cells slots ls C hR hh hS hl))
theorem am_istore {i : Nat} {x : Int32} (hd : decode y.2.1 pc = .ok (.istore i, 2)) (hn : i < y.2.2.1) (k : am_W G y d bc bs Q (pc + 2) (am_st1 L i (.int x)) (st) h) : am_W G y d bc bs Q pc L (.int x :: st) h := by
  intro p e R s m args below meth c H locs cells slots ls C hR hh hS hl
  exact lv_istore C.1.1 C.1.2.1 hd hl hn (am_L_st1 G L i (.int x)) (fun ls hl => (k p e R s m args below meth c H locs cells slots ls C hR hh hS hl))
theorem am_astore_n {j : Fin 4} {i : Nat} {x : Nat} (hd : decode y.2.1 pc = .ok (.astore_n j, 1)) (hi : (j : Nat) = i) (hn : i < y.2.2.1) (k : am_W G y d bc bs Q (pc + 1) (am_st1 L i (.ref x)) (st) h) : am_W G y d bc bs Q pc L (.ref x :: st) h := by
  intro p e R s m args below meth c H locs cells slots ls C hR hh hS hl
  exact lv_astore_n C.1.1 C.1.2.1 hd hi hl hn (am_L_st1 G L i (.ref x)) (fun ls hl => (k p e R s m args below meth c H locs cells slots ls C hR hh hS hl))
theorem am_astore {i : Nat} {x : Nat} (hd : decode y.2.1 pc = .ok (.astore i, 2)) (hn : i < y.2.2.1) (k : am_W G y d bc bs Q (pc + 2) (am_st1 L i (.ref x)) (st) h) : am_W G y d bc bs Q pc L (.ref x :: st) h := by
  intro p e R s m args below meth c H locs cells slots ls C hR hh hS hl
  exact lv_astore C.1.1 C.1.2.1 hd hl hn (am_L_st1 G L i (.ref x)) (fun ls hl => (k p e R s m args below meth c H locs cells slots ls C hR hh hS hl))
theorem am_lstore_n {j : Fin 4} {i : Nat} {x : Int64} (hd : decode y.2.1 pc = .ok (.lstore_n j, 1)) (hi : (j : Nat) = i) (hn : i + 1 < y.2.2.1) (k : am_W G y d bc bs Q (pc + 1) (am_st2 L i (.long x)) (st) h) : am_W G y d bc bs Q pc L (.long x :: st) h := by
  intro p e R s m args below meth c H locs cells slots ls C hR hh hS hl
  exact lv_lstore_n C.1.1 C.1.2.1 hd hi hl hn (am_L_st2 G L i (.long x)) (fun ls hl => (k p e R s m args below meth c H locs cells slots ls C hR hh hS hl))
theorem am_lstore {i : Nat} {x : Int64} (hd : decode y.2.1 pc = .ok (.lstore i, 2)) (hn : i + 1 < y.2.2.1) (k : am_W G y d bc bs Q (pc + 2) (am_st2 L i (.long x)) (st) h) : am_W G y d bc bs Q pc L (.long x :: st) h := by
  intro p e R s m args below meth c H locs cells slots ls C hR hh hS hl
  exact lv_lstore C.1.1 C.1.2.1 hd hl hn (am_L_st2 G L i (.long x)) (fun ls hl => (k p e R s m args below meth c H locs cells slots ls C hR hh hS hl))
theorem am_iinc {i : Nat} {n : Int} {x v : Int32} (hd : decode y.2.1 pc = .ok (.iinc i n, 3)) (hx : L.lookup i = some (.int x)) (hv : x + Int32.ofInt n = v) (hn : i < y.2.2.1) (k : am_W G y d bc bs Q (pc + 3) (am_st1 L i (.int v)) (st) h) : am_W G y d bc bs Q pc L (st) h := by
  intro p e R s m args below meth c H locs cells slots ls C hR hh hS hl
  obtain ⟨j, hj⟩ := List.getElem?_of_mem (List.mem_map.mpr ⟨(i, Value.int x), am_lk hx, rfl⟩ : (i, Value.int x) ∈ am_L G L)
  exact lv_iinc C.1.1 C.1.2.1 hd hl (k := j) hj hv hn (am_L_st1 G L i (.int v)) (fun ls hl => (k p e R s m args below meth c H locs cells slots ls C hR hh hS hl))
theorem am_iadd {x z : Int32} (hd : decode y.2.1 pc = .ok (.iadd, 1)) (k : am_W G y d bc bs Q (pc + 1) L (.int (x + z) :: st) h) : am_W G y d bc bs Q pc L (.int z :: .int x :: st) h := by
  intro p e R s m args below meth c H locs cells slots ls C hR hh hS hl
  exact lv_iadd C.1.1 C.1.2.1 hd (k p e R s m args below meth c H locs cells slots ls C hR hh hS hl)
theorem am_isub {x z : Int32} (hd : decode y.2.1 pc = .ok (.isub, 1)) (k : am_W G y d bc bs Q (pc + 1) L (.int (x - z) :: st) h) : am_W G y d bc bs Q pc L (.int z :: .int x :: st) h := by
  intro p e R s m args below meth c H locs cells slots ls C hR hh hS hl
  exact lv_isub C.1.1 C.1.2.1 hd (k p e R s m args below meth c H locs cells slots ls C hR hh hS hl)
theorem am_imul {x z : Int32} (hd : decode y.2.1 pc = .ok (.imul, 1)) (k : am_W G y d bc bs Q (pc + 1) L (.int (x * z) :: st) h) : am_W G y d bc bs Q pc L (.int z :: .int x :: st) h := by
  intro p e R s m args below meth c H locs cells slots ls C hR hh hS hl
  exact lv_imul C.1.1 C.1.2.1 hd (k p e R s m args below meth c H locs cells slots ls C hR hh hS hl)
theorem am_iand {x z : Int32} (hd : decode y.2.1 pc = .ok (.iand, 1)) (k : am_W G y d bc bs Q (pc + 1) L (.int (x &&& z) :: st) h) : am_W G y d bc bs Q pc L (.int z :: .int x :: st) h := by
  intro p e R s m args below meth c H locs cells slots ls C hR hh hS hl
  exact lv_iand C.1.1 C.1.2.1 hd (k p e R s m args below meth c H locs cells slots ls C hR hh hS hl)
theorem am_ladd {x z : Int64} (hd : decode y.2.1 pc = .ok (.ladd, 1)) (k : am_W G y d bc bs Q (pc + 1) L (.long (x + z) :: st) h) : am_W G y d bc bs Q pc L (.long z :: .long x :: st) h := by
  intro p e R s m args below meth c H locs cells slots ls C hR hh hS hl
  exact lv_ladd C.1.1 C.1.2.1 hd (k p e R s m args below meth c H locs cells slots ls C hR hh hS hl)
theorem am_lsub {x z : Int64} (hd : decode y.2.1 pc = .ok (.lsub, 1)) (k : am_W G y d bc bs Q (pc + 1) L (.long (x - z) :: st) h) : am_W G y d bc bs Q pc L (.long z :: .long x :: st) h := by
  intro p e R s m args below meth c H locs cells slots ls C hR hh hS hl
  exact lv_lsub C.1.1 C.1.2.1 hd (k p e R s m args below meth c H locs cells slots ls C hR hh hS hl)
theorem am_lmul {x z : Int64} (hd : decode y.2.1 pc = .ok (.lmul, 1)) (k : am_W G y d bc bs Q (pc + 1) L (.long (x * z) :: st) h) : am_W G y d bc bs Q pc L (.long z :: .long x :: st) h := by
  intro p e R s m args below meth c H locs cells slots ls C hR hh hS hl
  exact lv_lmul C.1.1 C.1.2.1 hd (k p e R s m args below meth c H locs cells slots ls C hR hh hS hl)
theorem am_lrem {x z : Int64} (hd : decode y.2.1 pc = .ok (.lrem, 1)) (hz : ¬ z = 0) (k : am_W G y d bc bs Q (pc + 1) L (.long (x - x / z * z) :: st) h) : am_W G y d bc bs Q pc L (.long z :: .long x :: st) h := by
  intro p e R s m args below meth c H locs cells slots ls C hR hh hS hl
  exact lv_lrem C.1.1 C.1.2.1 hd hz (k p e R s m args below meth c H locs cells slots ls C hR hh hS hl)
theorem am_i2l {x : Int32} (hd : decode y.2.1 pc = .ok (.i2l, 1)) (k : am_W G y d bc bs Q (pc + 1) L (.long x.toInt64 :: st) h) : am_W G y d bc bs Q pc L (.int x :: st) h := by
  intro p e R s m args below meth c H locs cells slots ls C hR hh hS hl
  exact lv_i2l C.1.1 C.1.2.1 hd rfl (k p e R s m args below meth c H locs cells slots ls C hR hh hS hl)
theorem am_l2i {x : Int64} (hd : decode y.2.1 pc = .ok (.l2i, 1)) (k : am_W G y d bc bs Q (pc + 1) L (.int x.toInt32 :: st) h) : am_W G y d bc bs Q pc L (.long x :: st) h := by
  intro p e R s m args below meth c H locs cells slots ls C hR hh hS hl
  exact lv_l2i C.1.1 C.1.2.1 hd rfl (k p e R s m args below meth c H locs cells slots ls C hR hh hS hl)
theorem am_lushr {x : Int64} {z : Int32} (hd : decode y.2.1 pc = .ok (.lushr, 1)) (k : am_W G y d bc bs Q (pc + 1) L (.long (x.toUInt64 >>> (z.toInt64.toUInt64 &&& Int64.toUInt64 63)).toInt64 :: st) h) : am_W G y d bc bs Q pc L (.int z :: .long x :: st) h := by
  intro p e R s m args below meth c H locs cells slots ls C hR hh hS hl
  exact lv_lushr C.1.1 C.1.2.1 hd rfl (k p e R s m args below meth c H locs cells slots ls C hR hh hS hl)
theorem am_lcmp {x z : Int64} (hd : decode y.2.1 pc = .ok (.lcmp, 1)) (k : am_W G y d bc bs Q (pc + 1) L (.int (lg_cmp x z) :: st) h) : am_W G y d bc bs Q pc L (.long z :: .long x :: st) h := by
  intro p e R s m args below meth c H locs cells slots ls C hR hh hS hl
  exact W.lcmp C.1.1 C.1.2.1 hd (k p e R s m args below meth c H locs cells slots ls C hR hh hS hl)
theorem am_dup {va : Value} (hd : decode y.2.1 pc = .ok (.dup, 1)) (ha : va.category = 1) (k : am_W G y d bc bs Q (pc + 1) L (va :: va :: st) h) : am_W G y d bc bs Q pc L (va :: st) h := by
  intro p e R s m args below meth c H locs cells slots ls C hR hh hS hl
  exact lv_dup C.1.1 C.1.2.1 hd (by rw [am_v_cat]; exact ha) (k p e R s m args below meth c H locs cells slots ls C hR hh hS hl)
theorem am_pop {va : Value} (hd : decode y.2.1 pc = .ok (.pop, 1)) (ha : va.category = 1) (k : am_W G y d bc bs Q (pc + 1) L (st) h) : am_W G y d bc bs Q pc L (va :: st) h := by
  intro p e R s m args below meth c H locs cells slots ls C hR hh hS hl
  exact lv_pop C.1.1 C.1.2.1 hd (by rw [am_v_cat]; exact ha) (k p e R s m args below meth c H locs cells slots ls C hR hh hS hl)
theorem am_dup_x1 {va vb : Value} (hd : decode y.2.1 pc = .ok (.dup_x1, 1)) (ha : va.category = 1) (hb : vb.category = 1) (k : am_W G y d bc bs Q (pc + 1) L (va :: vb :: va :: st) h) : am_W G y d bc bs Q pc L (va :: vb :: st) h := by
  intro p e R s m args below meth c H locs cells slots ls C hR hh hS hl
  exact lv_dup_x1 C.1.1 C.1.2.1 hd (by rw [am_v_cat]; exact ha) (by rw [am_v_cat]; exact hb) (k p e R s m args below meth c H locs cells slots ls C hR hh hS hl)
theorem am_dup_x2 {va vb vd : Value} (hd : decode y.2.1 pc = .ok (.dup_x2, 1)) (ha : va.category = 1) (hb : vb.category = 1) (hc : vd.category = 1) (k : am_W G y d bc bs Q (pc + 1) L (va :: vb :: vd :: va :: st) h) : am_W G y d bc bs Q pc L (va :: vb :: vd :: st) h := by
  intro p e R s m args below meth c H locs cells slots ls C hR hh hS hl
  exact lv_dup_x2 C.1.1 C.1.2.1 hd (by rw [am_v_cat]; exact ha) (by rw [am_v_cat]; exact hb) (by rw [am_v_cat]; exact hc) (k p e R s m args below meth c H locs cells slots ls C hR hh hS hl)
theorem am_dup2 {va vb : Value} (hd : decode y.2.1 pc = .ok (.dup2, 1)) (ha : va.category = 1) (hb : vb.category = 1) (k : am_W G y d bc bs Q (pc + 1) L (va :: vb :: va :: vb :: st) h) : am_W G y d bc bs Q pc L (va :: vb :: st) h := by
  intro p e R s m args below meth c H locs cells slots ls C hR hh hS hl
  exact lv_dup2_11 C.1.1 C.1.2.1 hd (by rw [am_v_cat]; exact ha) (by rw [am_v_cat]; exact hb) (k p e R s m args below meth c H locs cells slots ls C hR hh hS hl)
theorem am_dup2L {va : Value} (hd : decode y.2.1 pc = .ok (.dup2, 1)) (ha : va.category = 2) (k : am_W G y d bc bs Q (pc + 1) L (va :: va :: st) h) : am_W G y d bc bs Q pc L (va :: st) h := by
  intro p e R s m args below meth c H locs cells slots ls C hR hh hS hl
  exact lv_dup2_2 C.1.1 C.1.2.1 hd (by rw [am_v_cat]; exact ha) (k p e R s m args below meth c H locs cells slots ls C hR hh hS hl)
theorem am_dup2_x1L {va vb : Value} (hd : decode y.2.1 pc = .ok (.dup2_x1, 1)) (ha : va.category = 2) (hb : vb.category = 1) (k : am_W G y d bc bs Q (pc + 1) L (va :: vb :: va :: st) h) : am_W G y d bc bs Q pc L (va :: vb :: st) h := by
  intro p e R s m args below meth c H locs cells slots ls C hR hh hS hl
  exact lv_dup2_x1_2 C.1.1 C.1.2.1 hd (by rw [am_v_cat]; exact ha) (by rw [am_v_cat]; exact hb) (k p e R s m args below meth c H locs cells slots ls C hR hh hS hl)
theorem am_if_eq {x : Int32} {off : Int} {tgt : Nat} (hd : decode y.2.1 pc = .ok (.ifCond .eq off, 3)) (ht : (pc : Int) + off = (tgt : Int)) (k1 : x = 0 → am_W G y d bc bs Q tgt L (st) h) (k2 : ¬ x = 0 → am_W G y d bc bs Q (pc + 3) L (st) h) : am_W G y d bc bs Q pc L (.int x :: st) h := by
  intro p e R s m args below meth c H locs cells slots ls C hR hh hS hl
  exact lv_if_eq C.1.1 C.1.2.1 hd ht (fun q => k1 q p e R s m args below meth c H locs cells slots ls C hR hh hS hl) (fun q => k2 q p e R s m args below meth c H locs cells slots ls C hR hh hS hl)
theorem am_icmp_eq {x z : Int32} {off : Int} {tgt : Nat} (hd : decode y.2.1 pc = .ok (.if_icmp .eq off, 3)) (ht : (pc : Int) + off = (tgt : Int)) (k1 : x = z → am_W G y d bc bs Q tgt L (st) h) (k2 : ¬ x = z → am_W G y d bc bs Q (pc + 3) L (st) h) : am_W G y d bc bs Q pc L (.int z :: .int x :: st) h := by
  intro p e R s m args below meth c H locs cells slots ls C hR hh hS hl
  exact lv_icmp_eq C.1.1 C.1.2.1 hd ht (fun q => k1 q p e R s m args below meth c H locs cells slots ls C hR hh hS hl) (fun q => k2 q p e R s m args below meth c H locs cells slots ls C hR hh hS hl)
theorem am_if_ne {x : Int32} {off : Int} {tgt : Nat} (hd : decode y.2.1 pc = .ok (.ifCond .ne off, 3)) (ht : (pc : Int) + off = (tgt : Int)) (k1 : ¬ x = 0 → am_W G y d bc bs Q tgt L (st) h) (k2 : x = 0 → am_W G y d bc bs Q (pc + 3) L (st) h) : am_W G y d bc bs Q pc L (.int x :: st) h := by
  intro p e R s m args below meth c H locs cells slots ls C hR hh hS hl
  exact lv_if_ne C.1.1 C.1.2.1 hd ht (fun q => k1 q p e R s m args below meth c H locs cells slots ls C hR hh hS hl) (fun q => k2 q p e R s m args below meth c H locs cells slots ls C hR hh hS hl)
theorem am_icmp_ne {x z : Int32} {off : Int} {tgt : Nat} (hd : decode y.2.1 pc = .ok (.if_icmp .ne off, 3)) (ht : (pc : Int) + off = (tgt : Int)) (k1 : ¬ x = z → am_W G y d bc bs Q tgt L (st) h) (k2 : x = z → am_W G y d bc bs Q (pc + 3) L (st) h) : am_W G y d bc bs Q pc L (.int z :: .int x :: st) h := by
  intro p e R s m args below meth c H locs cells slots ls C hR hh hS hl
  exact lv_icmp_ne C.1.1 C.1.2.1 hd ht (fun q => k1 q p e R s m args below meth c H locs cells slots ls C hR hh hS hl) (fun q => k2 q p e R s m args below meth c H locs cells slots ls C hR hh hS hl)
theorem am_if_lt {x : Int32} {off : Int} {tgt : Nat} (hd : decode y.2.1 pc = .ok (.ifCond .lt off, 3)) (ht : (pc : Int) + off = (tgt : Int)) (k1 : x < 0 → am_W G y d bc bs Q tgt L (st) h) (k2 : ¬ x < 0 → am_W G y d bc bs Q (pc + 3) L (st) h) : am_W G y d bc bs Q pc L (.int x :: st) h := by
  intro p e R s m args below meth c H locs cells slots ls C hR hh hS hl
  exact lv_if_lt C.1.1 C.1.2.1 hd ht (fun q => k1 q p e R s m args below meth c H locs cells slots ls C hR hh hS hl) (fun q => k2 q p e R s m args below meth c H locs cells slots ls C hR hh hS hl)
theorem am_icmp_lt {x z : Int32} {off : Int} {tgt : Nat} (hd : decode y.2.1 pc = .ok (.if_icmp .lt off, 3)) (ht : (pc : Int) + off = (tgt : Int)) (k1 : x < z → am_W G y d bc bs Q tgt L (st) h) (k2 : ¬ x < z → am_W G y d bc bs Q (pc + 3) L (st) h) : am_W G y d bc bs Q pc L (.int z :: .int x :: st) h := by
  intro p e R s m args below meth c H locs cells slots ls C hR hh hS hl
  exact lv_icmp_lt C.1.1 C.1.2.1 hd ht (fun q => k1 q p e R s m args below meth c H locs cells slots ls C hR hh hS hl) (fun q => k2 q p e R s m args below meth c H locs cells slots ls C hR hh hS hl)
theorem am_if_ge {x : Int32} {off : Int} {tgt : Nat} (hd : decode y.2.1 pc = .ok (.ifCond .ge off, 3)) (ht : (pc : Int) + off = (tgt : Int)) (k1 : 0 ≤ x → am_W G y d bc bs Q tgt L (st) h) (k2 : ¬ 0 ≤ x → am_W G y d bc bs Q (pc + 3) L (st) h) : am_W G y d bc bs Q pc L (.int x :: st) h := by
  intro p e R s m args below meth c H locs cells slots ls C hR hh hS hl
  exact lv_if_ge C.1.1 C.1.2.1 hd ht (fun q => k1 q p e R s m args below meth c H locs cells slots ls C hR hh hS hl) (fun q => k2 q p e R s m args below meth c H locs cells slots ls C hR hh hS hl)
theorem am_icmp_ge {x z : Int32} {off : Int} {tgt : Nat} (hd : decode y.2.1 pc = .ok (.if_icmp .ge off, 3)) (ht : (pc : Int) + off = (tgt : Int)) (k1 : z ≤ x → am_W G y d bc bs Q tgt L (st) h) (k2 : ¬ z ≤ x → am_W G y d bc bs Q (pc + 3) L (st) h) : am_W G y d bc bs Q pc L (.int z :: .int x :: st) h := by
  intro p e R s m args below meth c H locs cells slots ls C hR hh hS hl
  exact lv_icmp_ge C.1.1 C.1.2.1 hd ht (fun q => k1 q p e R s m args below meth c H locs cells slots ls C hR hh hS hl) (fun q => k2 q p e R s m args below meth c H locs cells slots ls C hR hh hS hl)
theorem am_if_gt {x : Int32} {off : Int} {tgt : Nat} (hd : decode y.2.1 pc = .ok (.ifCond .gt off, 3)) (ht : (pc : Int) + off = (tgt : Int)) (k1 : 0 < x → am_W G y d bc bs Q tgt L (st) h) (k2 : ¬ 0 < x → am_W G y d bc bs Q (pc + 3) L (st) h) : am_W G y d bc bs Q pc L (.int x :: st) h := by
  intro p e R s m args below meth c H locs cells slots ls C hR hh hS hl
  exact lv_if_gt C.1.1 C.1.2.1 hd ht (fun q => k1 q p e R s m args below meth c H locs cells slots ls C hR hh hS hl) (fun q => k2 q p e R s m args below meth c H locs cells slots ls C hR hh hS hl)
theorem am_icmp_gt {x z : Int32} {off : Int} {tgt : Nat} (hd : decode y.2.1 pc = .ok (.if_icmp .gt off, 3)) (ht : (pc : Int) + off = (tgt : Int)) (k1 : z < x → am_W G y d bc bs Q tgt L (st) h) (k2 : ¬ z < x → am_W G y d bc bs Q (pc + 3) L (st) h) : am_W G y d bc bs Q pc L (.int z :: .int x :: st) h := by
  intro p e R s m args below meth c H locs cells slots ls C hR hh hS hl
  exact lv_icmp_gt C.1.1 C.1.2.1 hd ht (fun q => k1 q p e R s m args below meth c H locs cells slots ls C hR hh hS hl) (fun q => k2 q p e R s m args below meth c H locs cells slots ls C hR hh hS hl)
theorem am_if_le {x : Int32} {off : Int} {tgt : Nat} (hd : decode y.2.1 pc = .ok (.ifCond .le off, 3)) (ht : (pc : Int) + off = (tgt : Int)) (k1 : x ≤ 0 → am_W G y d bc bs Q tgt L (st) h) (k2 : ¬ x ≤ 0 → am_W G y d bc bs Q (pc + 3) L (st) h) : am_W G y d bc bs Q pc L (.int x :: st) h := by
  intro p e R s m args below meth c H locs cells slots ls C hR hh hS hl
  exact lv_if_le C.1.1 C.1.2.1 hd ht (fun q => k1 q p e R s m args below meth c H locs cells slots ls C hR hh hS hl) (fun q => k2 q p e R s m args below meth c H locs cells slots ls C hR hh hS hl)
theorem am_icmp_le {x z : Int32} {off : Int} {tgt : Nat} (hd : decode y.2.1 pc = .ok (.if_icmp .le off, 3)) (ht : (pc : Int) + off = (tgt : Int)) (k1 : x ≤ z → am_W G y d bc bs Q tgt L (st) h) (k2 : ¬ x ≤ z → am_W G y d bc bs Q (pc + 3) L (st) h) : am_W G y d bc bs Q pc L (.int z :: .int x :: st) h := by
  intro p e R s m args below meth c H locs cells slots ls C hR hh hS hl
  exact lv_icmp_le C.1.1 C.1.2.1 hd ht (fun q => k1 q p e R s m args below meth c H locs cells slots ls C hR hh hS hl) (fun q => k2 q p e R s m args below meth c H locs cells slots ls C hR hh hS hl)
theorem am_goto {off : Int} {tgt : Nat} (hd : decode y.2.1 pc = .ok (.goto off, 3)) (ht : (pc : Int) + off = (tgt : Int)) (k : am_W G y d bc bs Q tgt L (st) h) : am_W G y d bc bs Q pc L (st) h := by
  intro p e R s m args below meth c H locs cells slots ls C hR hh hS hl
  exact lv_goto C.1.1 C.1.2.1 hd ht (k p e R s m args below meth c H locs cells slots ls C hR hh hS hl)
theorem am_tableOut {dflt lo hi : Int} {offs : Array Int} {len : Nat} {x : Int32} {tgt : Nat} (hd : decode y.2.1 pc = .ok (.tableswitch dflt lo hi offs, len)) (hx : x.toInt < lo ∨ hi < x.toInt) (ht : (pc : Int) + dflt = (tgt : Int)) (k : am_W G y d bc bs Q tgt L (st) h) : am_W G y d bc bs Q pc L (.int x :: st) h := by
  intro p e R s m args below meth c H locs cells slots ls C hR hh hS hl
  exact lv_tableOut C.1.1 C.1.2.1 hd hx ht (k p e R s m args below meth c H locs cells slots ls C hR hh hS hl)
theorem am_tableIn {dflt lo hi : Int} {offs : Array Int} {len : Nat} {x : Int32} {off : Int} {tgt : Nat} (hd : decode y.2.1 pc = .ok (.tableswitch dflt lo hi offs, len)) (h1 : ¬ x.toInt < lo) (h2 : ¬ hi < x.toInt) (ho : offs[(x.toInt - lo).toNat]? = some off) (ht : (pc : Int) + off = (tgt : Int)) (k : am_W G y d bc bs Q tgt L (st) h) : am_W G y d bc bs Q pc L (.int x :: st) h := by
  intro p e R s m args below meth c H locs cells slots ls C hR hh hS hl
  exact lv_tableIn C.1.1 C.1.2.1 hd h1 h2 ho ht (k p e R s m args below meth c H locs cells slots ls C hR hh hS hl)
theorem am_loc {L' : List (Nat × Value)} (hq : L'.all (fun q => decide (q.1 ∈ L.map Prod.fst)) = true ∨ True) (hs : ∀ q ∈ L', L.lookup q.1 = some q.2) (k : am_W G y d bc bs Q pc L' (st) h) : am_W G y d bc bs Q pc L (st) h := by
  intro p e R s m args below meth c H locs cells slots ls C hR hh hS hl
  refine k p e R s m args below meth c H locs cells slots ls C hR hh hS ⟨hl.1, hl.2.1, fun q hq => ?_⟩
  obtain ⟨q', hq', rfl⟩ := List.mem_map.mp hq
  exact am_at hl (hs q' hq')
theorem am_sub {bc' bs' : Nat} (h1 : bc' ≤ bc) (h2 : bs' ≤ bs) (k : am_W G y d bc' bs' Q pc L st h) : am_W G y d bc bs Q pc L (st) h := by
  intro p e R s m args below meth c H locs cells slots ls C hR hh hS hl
  exact k p e R s m args below meth c H locs cells slots ls C ⟨hR.1, hR.2.1, by have := hR.2.2.1; omega, by have := hR.2.2.2; omega⟩ hh hS hl
theorem am_mono {Q' : am_O → am_H → Prop} (hq : ∀ o h, Q' o h → Q o h) (k : am_W G y d bc bs Q' pc L st h) : am_W G y d bc bs Q pc L (st) h := by
  intro p e R s m args below meth c H locs cells slots ls C hR hh hS hl T hT X
  obtain ⟨t, a, o, Lc, kk, n, ao, h', b1, b2, b3, b4, b5, b6, b7, b8, b9, b10, b11⟩ := k p e R s m args below meth c H locs cells slots ls C hR hh hS hl T hT X
  exact ⟨t, a, o, Lc, kk, n, ao, h', b1, b2, b3, b4, b5, b6, b7, b8, b9, b10, hq _ _ b11⟩
end AMR
