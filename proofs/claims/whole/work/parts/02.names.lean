/-! names: the classes, their fields, their methods -/
def R_X : String := "WorkPlans"
def T_X : u_T := fun k => match k with
  | 0 => ("WorkPlans", "shop", "LWorkPlans$Shop;", true)
  | 1 => ("WorkPlans", "floor", "LWorkPlans$Floor;", true)
  | 2 => ("WorkPlans", "search", "LWorkPlans$Search;", true)
  | 3 => ("WorkPlans", "plan", "LWorkPlans$Plan;", true)
  | 4 => ("WorkPlans", "chance", "J", false)
  | _ => ("WorkPlans", "toldSincePlan", "Z", false)
def ty_X : Nat → FieldType := fun k => match k with
  | 0 => .object "WorkPlans$Shop"
  | 1 => .object "WorkPlans$Floor"
  | 2 => .object "WorkPlans$Search"
  | 3 => .object "WorkPlans$Plan"
  | 4 => .long
  | _ => .boolean
def R_S : String := "WorkPlans$Shop"
def T_S : u_T := fun k => match k with
  | 0 => ("WorkPlans$Shop", "machines", "I", false)
  | 1 => ("WorkPlans$Shop", "kindOf", "[I", true)
  | 2 => ("WorkPlans$Shop", "spansOf", "[I", true)
  | 3 => ("WorkPlans$Shop", "spanFrom", "[I", true)
  | 4 => ("WorkPlans$Shop", "spanTo", "[I", true)
  | 5 => ("WorkPlans$Shop", "jobs", "I", false)
  | 6 => ("WorkPlans$Shop", "dueOf", "[I", true)
  | 7 => ("WorkPlans$Shop", "weightOf", "[I", true)
  | 8 => ("WorkPlans$Shop", "stepsOf", "[I", true)
  | 9 => ("WorkPlans$Shop", "stepAt", "[I", true)
  | 10 => ("WorkPlans$Shop", "steps", "I", false)
  | 11 => ("WorkPlans$Shop", "stepKind", "[I", true)
  | 12 => ("WorkPlans$Shop", "stepHours", "[I", true)
  | 13 => ("WorkPlans$Shop", "stepWait", "[I", true)
  | _ => ("WorkPlans$Shop", "stepBefore", "[I", true)
def ty_S : Nat → FieldType := fun k => match k with
  | 0 => .int
  | 1 => .array .int
  | 2 => .array .int
  | 3 => .array .int
  | 4 => .array .int
  | 5 => .int
  | 6 => .array .int
  | 7 => .array .int
  | 8 => .array .int
  | 9 => .array .int
  | 10 => .int
  | 11 => .array .int
  | 12 => .array .int
  | 13 => .array .int
  | _ => .array .int
def R_F : String := "WorkPlans$Floor"
def T_F : u_T := fun k => match k with
  | 0 => ("WorkPlans$Floor", "shop", "LWorkPlans$Shop;", true)
  | 1 => ("WorkPlans$Floor", "beginOf", "[I", true)
  | 2 => ("WorkPlans$Floor", "machineOf", "[I", true)
  | 3 => ("WorkPlans$Floor", "busyCount", "[I", true)
  | 4 => ("WorkPlans$Floor", "busyFrom", "[I", true)
  | _ => ("WorkPlans$Floor", "busyTo", "[I", true)
def ty_F : Nat → FieldType := fun k => match k with
  | 0 => .object "WorkPlans$Shop"
  | 1 => .array .int
  | 2 => .array .int
  | 3 => .array .int
  | 4 => .array .int
  | _ => .array .int
def R_R : String := "WorkPlans$Search"
def T_R : u_T := fun k => match k with
  | 0 => ("WorkPlans$Search", "shop", "LWorkPlans$Shop;", true)
  | 1 => ("WorkPlans$Search", "floor", "LWorkPlans$Floor;", true)
  | 2 => ("WorkPlans$Search", "aloneOf", "[J", true)
  | 3 => ("WorkPlans$Search", "begun", "[I", true)
  | 4 => ("WorkPlans$Search", "isBegun", "[Z", true)
  | 5 => ("WorkPlans$Search", "best", "[I", true)
  | 6 => ("WorkPlans$Search", "bestCost", "J", false)
  | 7 => ("WorkPlans$Search", "limit", "I", false)
  | 8 => ("WorkPlans$Search", "bound", "J", false)
  | _ => ("WorkPlans$Search", "nodes", "I", false)
def ty_R : Nat → FieldType := fun k => match k with
  | 0 => .object "WorkPlans$Shop"
  | 1 => .object "WorkPlans$Floor"
  | 2 => .array .long
  | 3 => .array .int
  | 4 => .array .boolean
  | 5 => .array .int
  | 6 => .long
  | 7 => .int
  | 8 => .long
  | _ => .int
def R_P : String := "WorkPlans$Plan"
def T_P : u_T := fun k => match k with
  | 0 => ("WorkPlans$Plan", "shop", "LWorkPlans$Shop;", true)
  | 1 => ("WorkPlans$Plan", "jobAt", "[I", true)
  | 2 => ("WorkPlans$Plan", "beginOf", "[I", true)
  | 3 => ("WorkPlans$Plan", "machineOf", "[I", true)
  | 4 => ("WorkPlans$Plan", "jobs", "I", false)
  | 5 => ("WorkPlans$Plan", "steps", "I", false)
  | 6 => ("WorkPlans$Plan", "cost", "J", false)
  | 7 => ("WorkPlans$Plan", "bound", "J", false)
  | 8 => ("WorkPlans$Plan", "nodes", "I", false)
  | _ => ("WorkPlans$Plan", "moved", "I", false)
def ty_P : Nat → FieldType := fun k => match k with
  | 0 => .object "WorkPlans$Shop"
  | 1 => .array .int
  | 2 => .array .int
  | 3 => .array .int
  | 4 => .int
  | 5 => .int
  | 6 => .long
  | 7 => .long
  | 8 => .int
  | _ => .int
def R_M : String := "WorkPlansModel"
def T_M : u_T := fun k => match k with
  | 0 => ("WorkPlansModel", "code", "I", false)
  | 1 => ("WorkPlansModel", "machines", "I", false)
  | 2 => ("WorkPlansModel", "kindOf", "[I", true)
  | 3 => ("WorkPlansModel", "spans", "[I", true)
  | 4 => ("WorkPlansModel", "outFrom", "[I", true)
  | 5 => ("WorkPlansModel", "outTo", "[I", true)
  | 6 => ("WorkPlansModel", "jobs", "I", false)
  | 7 => ("WorkPlansModel", "dues", "[I", true)
  | 8 => ("WorkPlansModel", "weights", "[I", true)
  | 9 => ("WorkPlansModel", "stepsOf", "[I", true)
  | 10 => ("WorkPlansModel", "stepAt", "[I", true)
  | 11 => ("WorkPlansModel", "steps", "I", false)
  | 12 => ("WorkPlansModel", "jobOf", "[I", true)
  | 13 => ("WorkPlansModel", "kinds", "[I", true)
  | 14 => ("WorkPlansModel", "hours", "[I", true)
  | 15 => ("WorkPlansModel", "waits", "[I", true)
  | 16 => ("WorkPlansModel", "x", "J", false)
  | 17 => ("WorkPlansModel", "hour", "[I", true)
  | 18 => ("WorkPlansModel", "machine", "[I", true)
  | 19 => ("WorkPlansModel", "planned", "Z", false)
  | 20 => ("WorkPlansModel", "fresh", "Z", false)
  | 21 => ("WorkPlansModel", "planJobs", "I", false)
  | 22 => ("WorkPlansModel", "plan", "[I", true)
  | 23 => ("WorkPlansModel", "planHour", "[I", true)
  | 24 => ("WorkPlansModel", "planMachine", "[I", true)
  | 25 => ("WorkPlansModel", "wasHour", "[I", true)
  | 26 => ("WorkPlansModel", "wasMachine", "[I", true)
  | 27 => ("WorkPlansModel", "cost", "J", false)
  | 28 => ("WorkPlansModel", "bound", "J", false)
  | 29 => ("WorkPlansModel", "nodes", "I", false)
  | 30 => ("WorkPlansModel", "changed", "I", false)
  | 31 => ("WorkPlansModel", "row", "[I", true)
  | 32 => ("WorkPlansModel", "tried", "[I", true)
  | _ => ("WorkPlansModel", "used", "[Z", true)
def ty_M : Nat → FieldType := fun k => match k with
  | 0 => .int
  | 1 => .int
  | 2 => .array .int
  | 3 => .array .int
  | 4 => .array .int
  | 5 => .array .int
  | 6 => .int
  | 7 => .array .int
  | 8 => .array .int
  | 9 => .array .int
  | 10 => .array .int
  | 11 => .int
  | 12 => .array .int
  | 13 => .array .int
  | 14 => .array .int
  | 15 => .array .int
  | 16 => .long
  | 17 => .array .int
  | 18 => .array .int
  | 19 => .boolean
  | 20 => .boolean
  | 21 => .int
  | 22 => .array .int
  | 23 => .array .int
  | 24 => .array .int
  | 25 => .array .int
  | 26 => .array .int
  | 27 => .long
  | 28 => .long
  | 29 => .int
  | 30 => .int
  | 31 => .array .int
  | 32 => .array .int
  | _ => .array .boolean
def R_E0 : String := "java/lang/IllegalArgumentException"
def T_E0 : u_T := fun k => match k with
  | _ => ("", "", "", false)
def ty_E0 : Nat → FieldType := fun k => match k with
  | _ => .int
def R_E1 : String := "java/lang/IllegalStateException"
def T_E1 : u_T := fun k => match k with
  | _ => ("", "", "", false)
def ty_E1 : Nat → FieldType := fun k => match k with
  | _ => .int
def R_E2 : String := "java/lang/IndexOutOfBoundsException"
def T_E2 : u_T := fun k => match k with
  | _ => ("", "", "", false)
def ty_E2 : Nat → FieldType := fun k => match k with
  | _ => .int
/-- the classes whose objects the worlds hold -/
def am_cl : List vw_C := [(R_X, T_X, 6), (R_S, T_S, 15), (R_F, T_F, 6), (R_R, T_R, 10), (R_P, T_P, 10), (R_M, T_M, 34), (R_E0, T_E0, 0), (R_E1, T_E1, 0), (R_E2, T_E2, 0)]
/-- the texts of the exceptions -/
def am_strs : List (Nat × String) := [(55, "no such kind"), (66, "no room for a machine"), (75, "no such machine"), (78, "no such span"), (84, "no room for a span"), (90, "no such due hour or weight"), (95, "no room for a job"), (221, "no such job"), (105, "no such due hour"), (110, "no such kind, hours or wait"), (118, "no room for a step"), (124, "no such number of nodes"), (130, "no jobs, or one does not fit"), (151, "no such number of changes"), (228, "no plan, or something was told since"), (167, "no such step or what"), (226, "no plan"), (181, "no such place"), (183, "no such what"), (194, "the job does not fit"), (207, "no such clash"), (209, "a job does not fit")]
/-- what can not be cast -/
def am_ncs : List (String × String) := [("java/lang/IllegalArgumentException", "java/lang/IllegalStateException"), ("java/lang/IllegalArgumentException", "java/lang/IndexOutOfBoundsException"), ("java/lang/IllegalStateException", "java/lang/IllegalArgumentException"), ("java/lang/IllegalStateException", "java/lang/IndexOutOfBoundsException"), ("java/lang/IndexOutOfBoundsException", "java/lang/IllegalArgumentException"), ("java/lang/IndexOutOfBoundsException", "java/lang/IllegalStateException")]
/-- words of two other kinds that stay true too -/
def am_T2 : List Cond := [Cond.methodLinkNest "WorkPlans" 11 ⟨"WorkPlans$Shop", "<init>", "()V"⟩ "WorkPlans", Cond.castable "java/lang/IllegalArgumentException" "java/lang/IllegalArgumentException", Cond.declares ⟨"java/lang/RuntimeException", "<init>", "()V"⟩, Cond.declares ⟨"java/lang/RuntimeException", "<init>", "(Ljava/lang/String;)V"⟩, Cond.declares ⟨"java/lang/Exception", "<init>", "()V"⟩, Cond.declares ⟨"java/lang/Exception", "<init>", "(Ljava/lang/String;)V"⟩, Cond.declares ⟨"java/lang/Throwable", "<init>", "()V"⟩, Cond.declares ⟨"java/lang/Throwable", "<init>", "(Ljava/lang/String;)V"⟩, Cond.castable "java/lang/IllegalStateException" "java/lang/IllegalStateException", Cond.castable "java/lang/IndexOutOfBoundsException" "java/lang/IndexOutOfBoundsException", Cond.methodLinkNest "WorkPlans$Floor" 97 ⟨"WorkPlans", "shareAnHour", "(IIII)Z"⟩ "WorkPlans", Cond.methodLinkNest "WorkPlans$Plan" 109 ⟨"WorkPlans", "shareAnHour", "(IIII)Z"⟩ "WorkPlans"]
theorem am_T2_warm {s U : State} (hW : s.WarmedH U.vm) (h : ∀ w ∈ am_T2, va_Nw w s) : ∀ w ∈ am_T2, va_Nw w U := by
  have key : ∀ (l : List Cond), l.all (fun w => match w with | .methodLinkNest .. => true | .castable .. => true | .declares _ => true | _ => false) = true → (∀ w ∈ l, va_Nw w s) → ∀ w ∈ l, va_Nw w U := by
    intro l hl hh w hw
    have h1 := List.all_eq_true.mp hl w hw
    have h2 := hh w hw
    cases w with
    | methodLinkNest a i x b => exact va_Nw.warmM hW h2
    | castable a b => exact va_Nw.warmC hW h2
    | declares a => exact va_Nw.warmD hW h2
    | _ => simp at h1
  exact key am_T2 (by decide +kernel) h
/-- the words that stay true while the tables warm -/
def am_T : List Cond := lw_tbl.filter goodWord
theorem am_T_good : ∀ w ∈ am_T, (w.onTables && w.keeps) = true ∨ ∃ ty, w = .arrayClass ty := fun w hw => good_of_word (List.mem_filter.mp hw).2
theorem am_T_tbl : ∀ w ∈ am_T, w ∈ lw_tbl := fun w hw => (List.mem_filter.mp hw).1
/-- a word by its place in the tables -/
theorem am_in {w : Cond} (i : Nat) (h : tables_1[i]? = some w) (g : goodWord w = true) : w ∈ am_T := List.mem_filter.mpr ⟨List.mem_append_right _ (List.mem_of_getElem? h), g⟩
theorem am_inS {w : Cond} (i : Nat) (h : (k2_sels lw_privs)[i]? = some w) (g : goodWord w = true) : w ∈ am_T := List.mem_filter.mpr ⟨List.mem_append_left _ (List.mem_of_getElem? h), g⟩
theorem am_ins {ws : List Cond} (is : List Nat) (h : is.map (fun i => tables_1[i]?) = ws.map some) (g : ws.all goodWord = true) : ∀ w ∈ ws, w ∈ am_T := by
  intro w hw
  have h1 : some w ∈ is.map (fun i => tables_1[i]?) := by rw [h]; exact List.mem_map.mpr ⟨w, hw, rfl⟩
  obtain ⟨i, -, hi⟩ := List.mem_map.mp h1
  exact am_in i hi (List.all_eq_true.mp g w hw)
set_option maxRecDepth 20000 in
theorem in_X : ∀ w ∈ u_ws R_X T_X 6, w ∈ am_T := am_ins [223, 225, 227, 229, 231, 233] (by decide +kernel) (by decide +kernel)
theorem nm_X : ∀ a, a < 6 → ∀ b, b < 6 → a ≠ b → (T_X a).2.1 ≠ (T_X b).2.1 := by decide +kernel
theorem tk_X : ∀ k, k < 6 → parseFieldDescriptor (T_X k).2.2.1 = some (ty_X k) := by decide +kernel
set_option maxRecDepth 20000 in
theorem in_S : ∀ w ∈ u_ws R_S T_S 15, w ∈ am_T := am_ins [71, 73, 75, 77, 79, 81, 83, 85, 87, 89, 91, 93, 95, 97, 99] (by decide +kernel) (by decide +kernel)
theorem nm_S : ∀ a, a < 15 → ∀ b, b < 15 → a ≠ b → (T_S a).2.1 ≠ (T_S b).2.1 := by decide +kernel
theorem tk_S : ∀ k, k < 15 → parseFieldDescriptor (T_S k).2.2.1 = some (ty_S k) := by decide +kernel
set_option maxRecDepth 20000 in
theorem in_F : ∀ w ∈ u_ws R_F T_F 6, w ∈ am_T := am_ins [117, 119, 121, 123, 125, 127] (by decide +kernel) (by decide +kernel)
theorem nm_F : ∀ a, a < 6 → ∀ b, b < 6 → a ≠ b → (T_F a).2.1 ≠ (T_F b).2.1 := by decide +kernel
theorem tk_F : ∀ k, k < 6 → parseFieldDescriptor (T_F k).2.2.1 = some (ty_F k) := by decide +kernel
set_option maxRecDepth 20000 in
theorem in_R : ∀ w ∈ u_ws R_R T_R 10, w ∈ am_T := am_ins [149, 151, 153, 155, 157, 159, 161, 163, 165, 167] (by decide +kernel) (by decide +kernel)
theorem nm_R : ∀ a, a < 10 → ∀ b, b < 10 → a ≠ b → (T_R a).2.1 ≠ (T_R b).2.1 := by decide +kernel
theorem tk_R : ∀ k, k < 10 → parseFieldDescriptor (T_R k).2.2.1 = some (ty_R k) := by decide +kernel
set_option maxRecDepth 20000 in
theorem in_P : ∀ w ∈ u_ws R_P T_P 10, w ∈ am_T := am_ins [196, 198, 200, 202, 204, 206, 208, 210, 212, 214] (by decide +kernel) (by decide +kernel)
theorem nm_P : ∀ a, a < 10 → ∀ b, b < 10 → a ≠ b → (T_P a).2.1 ≠ (T_P b).2.1 := by decide +kernel
theorem tk_P : ∀ k, k < 10 → parseFieldDescriptor (T_P k).2.2.1 = some (ty_P k) := by decide +kernel
set_option maxRecDepth 20000 in
theorem in_M : ∀ w ∈ u_ws R_M T_M 34, w ∈ am_T := am_ins [684, 686, 688, 690, 692, 694, 696, 698, 700, 702, 704, 706, 708, 710, 712, 714, 716, 718, 720, 722, 724, 726, 728, 730, 732, 734, 736, 738, 740, 742, 744, 746, 748, 750] (by decide +kernel) (by decide +kernel)
theorem nm_M : ∀ a, a < 34 → ∀ b, b < 34 → a ≠ b → (T_M a).2.1 ≠ (T_M b).2.1 := by decide +kernel
theorem tk_M : ∀ k, k < 34 → parseFieldDescriptor (T_M k).2.2.1 = some (ty_M k) := by decide +kernel
