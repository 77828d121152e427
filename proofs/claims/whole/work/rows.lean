section
-- ===== PART A: goes FIRST, ahead of the names: the tables' words, and 'selects' of the private methods out of them =====
/-- a private method of a class that the tables say can be made, by its rows of tables_1 -/
def lw_okq (q : MethodName × Nat) : Prop := (q.1.cls ≠ "java/lang/invoke/MethodHandle" ∧ q.1.cls ≠ "java/lang/invoke/VarHandle") ∧ Cond.instantiable q.1.cls q.2 ∈ tables_1 ∧ Cond.privateMethod q.1 ∈ tables_1 ∧ Cond.instanceMethod q.1 ∈ tables_1
theorem lw_p0 : lw_okq (⟨"java/lang/Throwable", "fillInStackTrace", "(I)Ljava/lang/Throwable;"⟩, 6) := ⟨⟨by decide +kernel, by decide +kernel⟩, List.mem_of_getElem? (i := 290) (by decide +kernel), List.mem_of_getElem? (i := 288) (by decide +kernel), List.mem_of_getElem? (i := 289) (by decide +kernel)⟩
theorem lw_p1 : lw_okq (⟨"WorkPlans", "demandJob", "(I)V"⟩, 6) := ⟨⟨by decide +kernel, by decide +kernel⟩, List.mem_of_getElem? (i := 15) (by decide +kernel), List.mem_of_getElem? (i := 390) (by decide +kernel), List.mem_of_getElem? (i := 391) (by decide +kernel)⟩
theorem lw_p2 : lw_okq (⟨"WorkPlans$Shop", "hasMachine", "(I)Z"⟩, 15) := ⟨⟨by decide +kernel, by decide +kernel⟩, List.mem_of_getElem? (i := 23) (by decide +kernel), List.mem_of_getElem? (i := 429) (by decide +kernel), List.mem_of_getElem? (i := 430) (by decide +kernel)⟩
theorem lw_p3 : lw_okq (⟨"WorkPlans$Floor", "addBusy", "(III)V"⟩, 6) := ⟨⟨by decide +kernel, by decide +kernel⟩, List.mem_of_getElem? (i := 104) (by decide +kernel), List.mem_of_getElem? (i := 446) (by decide +kernel), List.mem_of_getElem? (i := 447) (by decide +kernel)⟩
theorem lw_p4 : lw_okq (⟨"WorkPlans$Floor", "placeStep", "(II)I"⟩, 6) := ⟨⟨by decide +kernel, by decide +kernel⟩, List.mem_of_getElem? (i := 104) (by decide +kernel), List.mem_of_getElem? (i := 454) (by decide +kernel), List.mem_of_getElem? (i := 455) (by decide +kernel)⟩
theorem lw_p5 : lw_okq (⟨"WorkPlans$Floor", "firstBegin", "(III)I"⟩, 6) := ⟨⟨by decide +kernel, by decide +kernel⟩, List.mem_of_getElem? (i := 104) (by decide +kernel), List.mem_of_getElem? (i := 458) (by decide +kernel), List.mem_of_getElem? (i := 459) (by decide +kernel)⟩
theorem lw_p6 : lw_okq (⟨"WorkPlans$Search", "orderByDue", "()V"⟩, 10) := ⟨⟨by decide +kernel, by decide +kernel⟩, List.mem_of_getElem? (i := 131) (by decide +kernel), List.mem_of_getElem? (i := 473) (by decide +kernel), List.mem_of_getElem? (i := 474) (by decide +kernel)⟩
theorem lw_p7 : lw_okq (⟨"WorkPlans$Search", "goOn", "(IJJ)Z"⟩, 10) := ⟨⟨by decide +kernel, by decide +kernel⟩, List.mem_of_getElem? (i := 131) (by decide +kernel), List.mem_of_getElem? (i := 482) (by decide +kernel), List.mem_of_getElem? (i := 483) (by decide +kernel)⟩
theorem lw_p8 : lw_okq (⟨"WorkPlans$Search", "follow", "(IJJ)Z"⟩, 10) := ⟨⟨by decide +kernel, by decide +kernel⟩, List.mem_of_getElem? (i := 131) (by decide +kernel), List.mem_of_getElem? (i := 488) (by decide +kernel), List.mem_of_getElem? (i := 489) (by decide +kernel)⟩
theorem lw_p9 : lw_okq (⟨"WorkPlans", "demandFreshPlan", "()V"⟩, 6) := ⟨⟨by decide +kernel, by decide +kernel⟩, List.mem_of_getElem? (i := 15) (by decide +kernel), List.mem_of_getElem? (i := 517) (by decide +kernel), List.mem_of_getElem? (i := 518) (by decide +kernel)⟩
theorem lw_p10 : lw_okq (⟨"WorkPlans", "nextPlace", "(I)I"⟩, 6) := ⟨⟨by decide +kernel, by decide +kernel⟩, List.mem_of_getElem? (i := 15) (by decide +kernel), List.mem_of_getElem? (i := 526) (by decide +kernel), List.mem_of_getElem? (i := 527) (by decide +kernel)⟩
theorem lw_p11 : lw_okq (⟨"WorkPlans$Plan", "swap", "(II)V"⟩, 10) := ⟨⟨by decide +kernel, by decide +kernel⟩, List.mem_of_getElem? (i := 173) (by decide +kernel), List.mem_of_getElem? (i := 536) (by decide +kernel), List.mem_of_getElem? (i := 537) (by decide +kernel)⟩
theorem lw_p12 : lw_okq (⟨"WorkPlans", "demandPlan", "()V"⟩, 6) := ⟨⟨by decide +kernel, by decide +kernel⟩, List.mem_of_getElem? (i := 15) (by decide +kernel), List.mem_of_getElem? (i := 548) (by decide +kernel), List.mem_of_getElem? (i := 549) (by decide +kernel)⟩
theorem lw_p13 : lw_okq (⟨"WorkPlans$Floor", "costOfTwo", "(II)J"⟩, 6) := ⟨⟨by decide +kernel, by decide +kernel⟩, List.mem_of_getElem? (i := 104) (by decide +kernel), List.mem_of_getElem? (i := 608) (by decide +kernel), List.mem_of_getElem? (i := 609) (by decide +kernel)⟩
theorem lw_p14 : lw_okq (⟨"WorkPlans$Plan", "beginsTooEarly", "(I)Z"⟩, 10) := ⟨⟨by decide +kernel, by decide +kernel⟩, List.mem_of_getElem? (i := 173) (by decide +kernel), List.mem_of_getElem? (i := 623) (by decide +kernel), List.mem_of_getElem? (i := 624) (by decide +kernel)⟩
theorem lw_p15 : lw_okq (⟨"WorkPlans$Plan", "stepEnd", "(I)I"⟩, 10) := ⟨⟨by decide +kernel, by decide +kernel⟩, List.mem_of_getElem? (i := 173) (by decide +kernel), List.mem_of_getElem? (i := 627) (by decide +kernel), List.mem_of_getElem? (i := 628) (by decide +kernel)⟩
def lw_privs_1 : List (MethodName × Nat) := [(⟨"java/lang/Throwable", "fillInStackTrace", "(I)Ljava/lang/Throwable;"⟩, 6), (⟨"WorkPlans", "demandJob", "(I)V"⟩, 6), (⟨"WorkPlans$Shop", "hasMachine", "(I)Z"⟩, 15), (⟨"WorkPlans$Floor", "addBusy", "(III)V"⟩, 6), (⟨"WorkPlans$Floor", "placeStep", "(II)I"⟩, 6), (⟨"WorkPlans$Floor", "firstBegin", "(III)I"⟩, 6), (⟨"WorkPlans$Search", "orderByDue", "()V"⟩, 10), (⟨"WorkPlans$Search", "goOn", "(IJJ)Z"⟩, 10), (⟨"WorkPlans$Search", "follow", "(IJJ)Z"⟩, 10), (⟨"WorkPlans", "demandFreshPlan", "()V"⟩, 6), (⟨"WorkPlans", "nextPlace", "(I)I"⟩, 6), (⟨"WorkPlans$Plan", "swap", "(II)V"⟩, 10), (⟨"WorkPlans", "demandPlan", "()V"⟩, 6), (⟨"WorkPlans$Floor", "costOfTwo", "(II)J"⟩, 6), (⟨"WorkPlans$Plan", "beginsTooEarly", "(I)Z"⟩, 10), (⟨"WorkPlans$Plan", "stepEnd", "(I)I"⟩, 10)]
theorem lw_r1 : ∀ q ∈ lw_privs_1, lw_okq q := List.forall_mem_cons.mpr ⟨lw_p0, List.forall_mem_cons.mpr ⟨lw_p1, List.forall_mem_cons.mpr ⟨lw_p2, List.forall_mem_cons.mpr ⟨lw_p3, List.forall_mem_cons.mpr ⟨lw_p4, List.forall_mem_cons.mpr ⟨lw_p5, List.forall_mem_cons.mpr ⟨lw_p6, List.forall_mem_cons.mpr ⟨lw_p7, List.forall_mem_cons.mpr ⟨lw_p8, List.forall_mem_cons.mpr ⟨lw_p9, List.forall_mem_cons.mpr ⟨lw_p10, List.forall_mem_cons.mpr ⟨lw_p11, List.forall_mem_cons.mpr ⟨lw_p12, List.forall_mem_cons.mpr ⟨lw_p13, List.forall_mem_cons.mpr ⟨lw_p14, List.forall_mem_cons.mpr ⟨lw_p15, fun _ h => absurd h List.not_mem_nil⟩⟩⟩⟩⟩⟩⟩⟩⟩⟩⟩⟩⟩⟩⟩⟩
theorem lw_p16 : lw_okq (⟨"WorkPlans$Plan", "sharesWithStep", "(I)Z"⟩, 10) := ⟨⟨by decide +kernel, by decide +kernel⟩, List.mem_of_getElem? (i := 173) (by decide +kernel), List.mem_of_getElem? (i := 631) (by decide +kernel), List.mem_of_getElem? (i := 632) (by decide +kernel)⟩
theorem lw_p17 : lw_okq (⟨"WorkPlans$Plan", "sharesWithSpan", "(I)Z"⟩, 10) := ⟨⟨by decide +kernel, by decide +kernel⟩, List.mem_of_getElem? (i := 173) (by decide +kernel), List.mem_of_getElem? (i := 636) (by decide +kernel), List.mem_of_getElem? (i := 637) (by decide +kernel)⟩
theorem lw_p18 : lw_okq (⟨"WorkPlansModel", "allFit", "()Z"⟩, 34) := ⟨⟨by decide +kernel, by decide +kernel⟩, List.mem_of_getElem? (i := 645) (by decide +kernel), List.mem_of_getElem? (i := 785) (by decide +kernel), List.mem_of_getElem? (i := 786) (by decide +kernel)⟩
theorem lw_p19 : lw_okq (⟨"WorkPlansModel", "fits", "(I)Z"⟩, 34) := ⟨⟨by decide +kernel, by decide +kernel⟩, List.mem_of_getElem? (i := 645) (by decide +kernel), List.mem_of_getElem? (i := 789) (by decide +kernel), List.mem_of_getElem? (i := 790) (by decide +kernel)⟩
theorem lw_p20 : lw_okq (⟨"WorkPlansModel", "keepWas", "()V"⟩, 34) := ⟨⟨by decide +kernel, by decide +kernel⟩, List.mem_of_getElem? (i := 645) (by decide +kernel), List.mem_of_getElem? (i := 793) (by decide +kernel), List.mem_of_getElem? (i := 794) (by decide +kernel)⟩
theorem lw_p21 : lw_okq (⟨"WorkPlansModel", "search", "(I)I"⟩, 34) := ⟨⟨by decide +kernel, by decide +kernel⟩, List.mem_of_getElem? (i := 645) (by decide +kernel), List.mem_of_getElem? (i := 797) (by decide +kernel), List.mem_of_getElem? (i := 798) (by decide +kernel)⟩
theorem lw_p22 : lw_okq (⟨"WorkPlansModel", "layByDue", "()V"⟩, 34) := ⟨⟨by decide +kernel, by decide +kernel⟩, List.mem_of_getElem? (i := 645) (by decide +kernel), List.mem_of_getElem? (i := 801) (by decide +kernel), List.mem_of_getElem? (i := 802) (by decide +kernel)⟩
theorem lw_p23 : lw_okq (⟨"WorkPlansModel", "costOfRow", "(I)J"⟩, 34) := ⟨⟨by decide +kernel, by decide +kernel⟩, List.mem_of_getElem? (i := 645) (by decide +kernel), List.mem_of_getElem? (i := 805) (by decide +kernel), List.mem_of_getElem? (i := 806) (by decide +kernel)⟩
theorem lw_p24 : lw_okq (⟨"WorkPlansModel", "clearBoard", "()V"⟩, 34) := ⟨⟨by decide +kernel, by decide +kernel⟩, List.mem_of_getElem? (i := 645) (by decide +kernel), List.mem_of_getElem? (i := 809) (by decide +kernel), List.mem_of_getElem? (i := 810) (by decide +kernel)⟩
theorem lw_p25 : lw_okq (⟨"WorkPlansModel", "place", "(I)I"⟩, 34) := ⟨⟨by decide +kernel, by decide +kernel⟩, List.mem_of_getElem? (i := 645) (by decide +kernel), List.mem_of_getElem? (i := 813) (by decide +kernel), List.mem_of_getElem? (i := 814) (by decide +kernel)⟩
theorem lw_p26 : lw_okq (⟨"WorkPlansModel", "freeFrom", "(III)I"⟩, 34) := ⟨⟨by decide +kernel, by decide +kernel⟩, List.mem_of_getElem? (i := 645) (by decide +kernel), List.mem_of_getElem? (i := 817) (by decide +kernel), List.mem_of_getElem? (i := 818) (by decide +kernel)⟩
theorem lw_p27 : lw_okq (⟨"WorkPlansModel", "costOf", "(II)J"⟩, 34) := ⟨⟨by decide +kernel, by decide +kernel⟩, List.mem_of_getElem? (i := 645) (by decide +kernel), List.mem_of_getElem? (i := 824) (by decide +kernel), List.mem_of_getElem? (i := 825) (by decide +kernel)⟩
theorem lw_p28 : lw_okq (⟨"WorkPlansModel", "toPlan", "()V"⟩, 34) := ⟨⟨by decide +kernel, by decide +kernel⟩, List.mem_of_getElem? (i := 645) (by decide +kernel), List.mem_of_getElem? (i := 828) (by decide +kernel), List.mem_of_getElem? (i := 829) (by decide +kernel)⟩
theorem lw_p29 : lw_okq (⟨"WorkPlansModel", "least", "(I)J"⟩, 34) := ⟨⟨by decide +kernel, by decide +kernel⟩, List.mem_of_getElem? (i := 645) (by decide +kernel), List.mem_of_getElem? (i := 832) (by decide +kernel), List.mem_of_getElem? (i := 833) (by decide +kernel)⟩
theorem lw_p30 : lw_okq (⟨"WorkPlansModel", "aloneOf", "(I)J"⟩, 34) := ⟨⟨by decide +kernel, by decide +kernel⟩, List.mem_of_getElem? (i := 645) (by decide +kernel), List.mem_of_getElem? (i := 836) (by decide +kernel), List.mem_of_getElem? (i := 837) (by decide +kernel)⟩
theorem lw_p31 : lw_okq (⟨"WorkPlansModel", "become", "()V"⟩, 34) := ⟨⟨by decide +kernel, by decide +kernel⟩, List.mem_of_getElem? (i := 645) (by decide +kernel), List.mem_of_getElem? (i := 840) (by decide +kernel), List.mem_of_getElem? (i := 841) (by decide +kernel)⟩
def lw_privs_2 : List (MethodName × Nat) := [(⟨"WorkPlans$Plan", "sharesWithStep", "(I)Z"⟩, 10), (⟨"WorkPlans$Plan", "sharesWithSpan", "(I)Z"⟩, 10), (⟨"WorkPlansModel", "allFit", "()Z"⟩, 34), (⟨"WorkPlansModel", "fits", "(I)Z"⟩, 34), (⟨"WorkPlansModel", "keepWas", "()V"⟩, 34), (⟨"WorkPlansModel", "search", "(I)I"⟩, 34), (⟨"WorkPlansModel", "layByDue", "()V"⟩, 34), (⟨"WorkPlansModel", "costOfRow", "(I)J"⟩, 34), (⟨"WorkPlansModel", "clearBoard", "()V"⟩, 34), (⟨"WorkPlansModel", "place", "(I)I"⟩, 34), (⟨"WorkPlansModel", "freeFrom", "(III)I"⟩, 34), (⟨"WorkPlansModel", "costOf", "(II)J"⟩, 34), (⟨"WorkPlansModel", "toPlan", "()V"⟩, 34), (⟨"WorkPlansModel", "least", "(I)J"⟩, 34), (⟨"WorkPlansModel", "aloneOf", "(I)J"⟩, 34), (⟨"WorkPlansModel", "become", "()V"⟩, 34)]
theorem lw_r2 : ∀ q ∈ lw_privs_2, lw_okq q := List.forall_mem_cons.mpr ⟨lw_p16, List.forall_mem_cons.mpr ⟨lw_p17, List.forall_mem_cons.mpr ⟨lw_p18, List.forall_mem_cons.mpr ⟨lw_p19, List.forall_mem_cons.mpr ⟨lw_p20, List.forall_mem_cons.mpr ⟨lw_p21, List.forall_mem_cons.mpr ⟨lw_p22, List.forall_mem_cons.mpr ⟨lw_p23, List.forall_mem_cons.mpr ⟨lw_p24, List.forall_mem_cons.mpr ⟨lw_p25, List.forall_mem_cons.mpr ⟨lw_p26, List.forall_mem_cons.mpr ⟨lw_p27, List.forall_mem_cons.mpr ⟨lw_p28, List.forall_mem_cons.mpr ⟨lw_p29, List.forall_mem_cons.mpr ⟨lw_p30, List.forall_mem_cons.mpr ⟨lw_p31, fun _ h => absurd h List.not_mem_nil⟩⟩⟩⟩⟩⟩⟩⟩⟩⟩⟩⟩⟩⟩⟩⟩
theorem lw_p32 : lw_okq (⟨"WorkPlansModel", "draw", "()I"⟩, 34) := ⟨⟨by decide +kernel, by decide +kernel⟩, List.mem_of_getElem? (i := 645) (by decide +kernel), List.mem_of_getElem? (i := 848) (by decide +kernel), List.mem_of_getElem? (i := 849) (by decide +kernel)⟩
theorem lw_p33 : lw_okq (⟨"WorkPlansModel", "swap", "(II)V"⟩, 34) := ⟨⟨by decide +kernel, by decide +kernel⟩, List.mem_of_getElem? (i := 645) (by decide +kernel), List.mem_of_getElem? (i := 854) (by decide +kernel), List.mem_of_getElem? (i := 855) (by decide +kernel)⟩
theorem lw_p34 : lw_okq (⟨"WorkPlansModel", "canBoth", "(II)Z"⟩, 34) := ⟨⟨by decide +kernel, by decide +kernel⟩, List.mem_of_getElem? (i := 645) (by decide +kernel), List.mem_of_getElem? (i := 882) (by decide +kernel), List.mem_of_getElem? (i := 883) (by decide +kernel)⟩
theorem lw_p35 : lw_okq (⟨"WorkPlansModel", "breaks", "(II)Z"⟩, 34) := ⟨⟨by decide +kernel, by decide +kernel⟩, List.mem_of_getElem? (i := 645) (by decide +kernel), List.mem_of_getElem? (i := 890) (by decide +kernel), List.mem_of_getElem? (i := 891) (by decide +kernel)⟩
theorem lw_p36 : lw_okq (⟨"WorkPlansModel", "before", "(I)I"⟩, 34) := ⟨⟨by decide +kernel, by decide +kernel⟩, List.mem_of_getElem? (i := 645) (by decide +kernel), List.mem_of_getElem? (i := 894) (by decide +kernel), List.mem_of_getElem? (i := 895) (by decide +kernel)⟩
theorem lw_p37 : lw_okq (⟨"WorkPlansModel", "isLate", "(I)Z"⟩, 34) := ⟨⟨by decide +kernel, by decide +kernel⟩, List.mem_of_getElem? (i := 645) (by decide +kernel), List.mem_of_getElem? (i := 898) (by decide +kernel), List.mem_of_getElem? (i := 899) (by decide +kernel)⟩
def lw_privs_3 : List (MethodName × Nat) := [(⟨"WorkPlansModel", "draw", "()I"⟩, 34), (⟨"WorkPlansModel", "swap", "(II)V"⟩, 34), (⟨"WorkPlansModel", "canBoth", "(II)Z"⟩, 34), (⟨"WorkPlansModel", "breaks", "(II)Z"⟩, 34), (⟨"WorkPlansModel", "before", "(I)I"⟩, 34), (⟨"WorkPlansModel", "isLate", "(I)Z"⟩, 34)]
theorem lw_r3 : ∀ q ∈ lw_privs_3, lw_okq q := List.forall_mem_cons.mpr ⟨lw_p32, List.forall_mem_cons.mpr ⟨lw_p33, List.forall_mem_cons.mpr ⟨lw_p34, List.forall_mem_cons.mpr ⟨lw_p35, List.forall_mem_cons.mpr ⟨lw_p36, List.forall_mem_cons.mpr ⟨lw_p37, fun _ h => absurd h List.not_mem_nil⟩⟩⟩⟩⟩⟩
def lw_privs : List (MethodName × Nat) := lw_privs_1 ++ (lw_privs_2 ++ (lw_privs_3))
def lw_tbl : List Cond := k2_sels lw_privs ++ tables_1
theorem lw_privs_ok : ∀ q ∈ lw_privs, lw_okq q := by
  show ∀ q ∈ lw_privs_1 ++ (lw_privs_2 ++ (lw_privs_3)), lw_okq q
  exact List.forall_mem_append.mpr ⟨lw_r1, List.forall_mem_append.mpr ⟨lw_r2, lw_r3⟩⟩
end
section
/-! names: the classes, their fields, their methods -/
def R_X : String := "WorkPlans"
def T_X : u_T := fun k => match k with
  | 0 => ("WorkPlans", "shop", "LWorkPlans$Shop;", true)
  | 1 => ("WorkPlans", "floor", "LWorkPlans$Floor;", true)
  | 2 => ("WorkPlans", "search", "LWorkPlans$Search;", true)
  | 3 => ("WorkPlans", "plan", "LWorkPlans$Plan;", true)
  | 4 => ("WorkPlans", "chance", "J", false)
  | _ => ("WorkPlans", "toldSincePlan", "Z", false)
def ty_X : Nat → FieldType := fun k => match k with
  | 0 => .object "WorkPlans$Shop"
  | 1 => .object "WorkPlans$Floor"
  | 2 => .object "WorkPlans$Search"
  | 3 => .object "WorkPlans$Plan"
  | 4 => .long
  | _ => .boolean
def R_S : String := "WorkPlans$Shop"
def T_S : u_T := fun k => match k with
  | 0 => ("WorkPlans$Shop", "machines", "I", false)
  | 1 => ("WorkPlans$Shop", "kindOf", "[I", true)
  | 2 => ("WorkPlans$Shop", "spansOf", "[I", true)
  | 3 => ("WorkPlans$Shop", "spanFrom", "[I", true)
  | 4 => ("WorkPlans$Shop", "spanTo", "[I", true)
  | 5 => ("WorkPlans$Shop", "jobs", "I", false)
  | 6 => ("WorkPlans$Shop", "dueOf", "[I", true)
  | 7 => ("WorkPlans$Shop", "weightOf", "[I", true)
  | 8 => ("WorkPlans$Shop", "stepsOf", "[I", true)
  | 9 => ("WorkPlans$Shop", "stepAt", "[I", true)
  | 10 => ("WorkPlans$Shop", "steps", "I", false)
  | 11 => ("WorkPlans$Shop", "stepKind", "[I", true)
  | 12 => ("WorkPlans$Shop", "stepHours", "[I", true)
  | 13 => ("WorkPlans$Shop", "stepWait", "[I", true)
  | _ => ("WorkPlans$Shop", "stepBefore", "[I", true)
def ty_S : Nat → FieldType := fun k => match k with
  | 0 => .int
  | 1 => .array .int
  | 2 => .array .int
  | 3 => .array .int
  | 4 => .array .int
  | 5 => .int
  | 6 => .array .int
  | 7 => .array .int
  | 8 => .array .int
  | 9 => .array .int
  | 10 => .int
  | 11 => .array .int
  | 12 => .array .int
  | 13 => .array .int
  | _ => .array .int
def R_F : String := "WorkPlans$Floor"
def T_F : u_T := fun k => match k with
  | 0 => ("WorkPlans$Floor", "shop", "LWorkPlans$Shop;", true)
  | 1 => ("WorkPlans$Floor", "beginOf", "[I", true)
  | 2 => ("WorkPlans$Floor", "machineOf", "[I", true)
  | 3 => ("WorkPlans$Floor", "busyCount", "[I", true)
  | 4 => ("WorkPlans$Floor", "busyFrom", "[I", true)
  | _ => ("WorkPlans$Floor", "busyTo", "[I", true)
def ty_F : Nat → FieldType := fun k => match k with
  | 0 => .object "WorkPlans$Shop"
  | 1 => .array .int
  | 2 => .array .int
  | 3 => .array .int
  | 4 => .array .int
  | _ => .array .int
def R_R : String := "WorkPlans$Search"
def T_R : u_T := fun k => match k with
  | 0 => ("WorkPlans$Search", "shop", "LWorkPlans$Shop;", true)
  | 1 => ("WorkPlans$Search", "floor", "LWorkPlans$Floor;", true)
  | 2 => ("WorkPlans$Search", "aloneOf", "[J", true)
  | 3 => ("WorkPlans$Search", "begun", "[I", true)
  | 4 => ("WorkPlans$Search", "isBegun", "[Z", true)
  | 5 => ("WorkPlans$Search", "best", "[I", true)
  | 6 => ("WorkPlans$Search", "bestCost", "J", false)
  | 7 => ("WorkPlans$Search", "limit", "I", false)
  | 8 => ("WorkPlans$Search", "bound", "J", false)
  | _ => ("WorkPlans$Search", "nodes", "I", false)
def ty_R : Nat → FieldType := fun k => match k with
  | 0 => .object "WorkPlans$Shop"
  | 1 => .object "WorkPlans$Floor"
  | 2 => .array .long
  | 3 => .array .int
  | 4 => .array .boolean
  | 5 => .array .int
  | 6 => .long
  | 7 => .int
  | 8 => .long
  | _ => .int
def R_P : String := "WorkPlans$Plan"
def T_P : u_T := fun k => match k with
  | 0 => ("WorkPlans$Plan", "shop", "LWorkPlans$Shop;", true)
  | 1 => ("WorkPlans$Plan", "jobAt", "[I", true)
  | 2 => ("WorkPlans$Plan", "beginOf", "[I", true)
  | 3 => ("WorkPlans$Plan", "machineOf", "[I", true)
  | 4 => ("WorkPlans$Plan", "jobs", "I", false)
  | 5 => ("WorkPlans$Plan", "steps", "I", false)
  | 6 => ("WorkPlans$Plan", "cost", "J", false)
  | 7 => ("WorkPlans$Plan", "bound", "J", false)
  | 8 => ("WorkPlans$Plan", "nodes", "I", false)
  | _ => ("WorkPlans$Plan", "moved", "I", false)
def ty_P : Nat → FieldType := fun k => match k with
  | 0 => .object "WorkPlans$Shop"
  | 1 => .array .int
  | 2 => .array .int
  | 3 => .array .int
  | 4 => .int
  | 5 => .int
  | 6 => .long
  | 7 => .long
  | 8 => .int
  | _ => .int
def R_M : String := "WorkPlansModel"
def T_M : u_T := fun k => match k with
  | 0 => ("WorkPlansModel", "code", "I", false)
  | 1 => ("WorkPlansModel", "machines", "I", false)
  | 2 => ("WorkPlansModel", "kindOf", "[I", true)
  | 3 => ("WorkPlansModel", "spans", "[I", true)
  | 4 => ("WorkPlansModel", "outFrom", "[I", true)
  | 5 => ("WorkPlansModel", "outTo", "[I", true)
  | 6 => ("WorkPlansModel", "jobs", "I", false)
  | 7 => ("WorkPlansModel", "dues", "[I", true)
  | 8 => ("WorkPlansModel", "weights", "[I", true)
  | 9 => ("WorkPlansModel", "stepsOf", "[I", true)
  | 10 => ("WorkPlansModel", "stepAt", "[I", true)
  | 11 => ("WorkPlansModel", "steps", "I", false)
  | 12 => ("WorkPlansModel", "jobOf", "[I", true)
  | 13 => ("WorkPlansModel", "kinds", "[I", true)
  | 14 => ("WorkPlansModel", "hours", "[I", true)
  | 15 => ("WorkPlansModel", "waits", "[I", true)
  | 16 => ("WorkPlansModel", "x", "J", false)
  | 17 => ("WorkPlansModel", "hour", "[I", true)
  | 18 => ("WorkPlansModel", "machine", "[I", true)
  | 19 => ("WorkPlansModel", "planned", "Z", false)
  | 20 => ("WorkPlansModel", "fresh", "Z", false)
  | 21 => ("WorkPlansModel", "planJobs", "I", false)
  | 22 => ("WorkPlansModel", "plan", "[I", true)
  | 23 => ("WorkPlansModel", "planHour", "[I", true)
  | 24 => ("WorkPlansModel", "planMachine", "[I", true)
  | 25 => ("WorkPlansModel", "wasHour", "[I", true)
  | 26 => ("WorkPlansModel", "wasMachine", "[I", true)
  | 27 => ("WorkPlansModel", "cost", "J", false)
  | 28 => ("WorkPlansModel", "bound", "J", false)
  | 29 => ("WorkPlansModel", "nodes", "I", false)
  | 30 => ("WorkPlansModel", "changed", "I", false)
  | 31 => ("WorkPlansModel", "row", "[I", true)
  | 32 => ("WorkPlansModel", "tried", "[I", true)
  | _ => ("WorkPlansModel", "used", "[Z", true)
def ty_M : Nat → FieldType := fun k => match k with
  | 0 => .int
  | 1 => .int
  | 2 => .array .int
  | 3 => .array .int
  | 4 => .array .int
  | 5 => .array .int
  | 6 => .int
  | 7 => .array .int
  | 8 => .array .int
  | 9 => .array .int
  | 10 => .array .int
  | 11 => .int
  | 12 => .array .int
  | 13 => .array .int
  | 14 => .array .int
  | 15 => .array .int
  | 16 => .long
  | 17 => .array .int
  | 18 => .array .int
  | 19 => .boolean
  | 20 => .boolean
  | 21 => .int
  | 22 => .array .int
  | 23 => .array .int
  | 24 => .array .int
  | 25 => .array .int
  | 26 => .array .int
  | 27 => .long
  | 28 => .long
  | 29 => .int
  | 30 => .int
  | 31 => .array .int
  | 32 => .array .int
  | _ => .array .boolean
def R_E0 : String := "java/lang/IllegalArgumentException"
def T_E0 : u_T := fun k => match k with
  | _ => ("", "", "", false)
def ty_E0 : Nat → FieldType := fun k => match k with
  | _ => .int
def R_E1 : String := "java/lang/IllegalStateException"
def T_E1 : u_T := fun k => match k with
  | _ => ("", "", "", false)
def ty_E1 : Nat → FieldType := fun k => match k with
  | _ => .int
def R_E2 : String := "java/lang/IndexOutOfBoundsException"
def T_E2 : u_T := fun k => match k with
  | _ => ("", "", "", false)
def ty_E2 : Nat → FieldType := fun k => match k with
  | _ => .int
/-- the classes whose objects the worlds hold -/
def am_cl : List vw_C := [(R_X, T_X, 6), (R_S, T_S, 15), (R_F, T_F, 6), (R_R, T_R, 10), (R_P, T_P, 10), (R_M, T_M, 34), (R_E0, T_E0, 0), (R_E1, T_E1, 0), (R_E2, T_E2, 0)]
/-- the texts of the exceptions -/
def am_strs : List (Nat × String) := [(55, "no such kind"), (66, "no room for a machine"), (75, "no such machine"), (78, "no such span"), (84, "no room for a span"), (90, "no such due hour or weight"), (95, "no room for a job"), (221, "no such job"), (105, "no such due hour"), (110, "no such kind, hours or wait"), (118, "no room for a step"), (124, "no such number of nodes"), (130, "no jobs, or one does not fit"), (151, "no such number of changes"), (228, "no plan, or something was told since"), (167, "no such step or what"), (226, "no plan"), (181, "no such place"), (183, "no such what"), (194, "the job does not fit"), (207, "no such clash"), (209, "a job does not fit")]
/-- what can not be cast -/
def am_ncs : List (String × String) := [("java/lang/IllegalArgumentException", "java/lang/IllegalStateException"), ("java/lang/IllegalArgumentException", "java/lang/IndexOutOfBoundsException"), ("java/lang/IllegalStateException", "java/lang/IllegalArgumentException"), ("java/lang/IllegalStateException", "java/lang/IndexOutOfBoundsException"), ("java/lang/IndexOutOfBoundsException", "java/lang/IllegalArgumentException"), ("java/lang/IndexOutOfBoundsException", "java/lang/IllegalStateException")]
/-- words of two other kinds that stay true too -/
def am_T2 : List Cond := [Cond.methodLinkNest "WorkPlans" 11 ⟨"WorkPlans$Shop", "<init>", "()V"⟩ "WorkPlans", Cond.castable "java/lang/IllegalArgumentException" "java/lang/IllegalArgumentException", Cond.castable "java/lang/IllegalStateException" "java/lang/IllegalStateException", Cond.castable "java/lang/IndexOutOfBoundsException" "java/lang/IndexOutOfBoundsException", Cond.methodLinkNest "WorkPlans$Floor" 97 ⟨"WorkPlans", "shareAnHour", "(IIII)Z"⟩ "WorkPlans", Cond.methodLinkNest "WorkPlans$Plan" 109 ⟨"WorkPlans", "shareAnHour", "(IIII)Z"⟩ "WorkPlans"]
theorem am_T2_warm {s U : State} (hW : s.WarmedH U.vm) (h : ∀ w ∈ am_T2, va_Nw w s) : ∀ w ∈ am_T2, va_Nw w U := by
  have key : ∀ (l : List Cond), l.all (fun w => match w with | .methodLinkNest .. => true | .castable .. => true | _ => false) = true → (∀ w ∈ l, va_Nw w s) → ∀ w ∈ l, va_Nw w U := by
    intro l hl hh w hw
    have h1 := List.all_eq_true.mp hl w hw
    have h2 := hh w hw
    cases w with
    | methodLinkNest a i x b => exact va_Nw.warmM hW h2
    | castable a b => exact va_Nw.warmC hW h2
    | _ => simp at h1
  exact key am_T2 (by decide +kernel) h
/-- the words that stay true while the tables warm -/
def am_T : List Cond := lw_tbl.filter goodWord
theorem am_T_good : ∀ w ∈ am_T, (w.onTables && w.keeps) = true ∨ ∃ ty, w = .arrayClass ty := fun w hw => good_of_word (List.mem_filter.mp hw).2
theorem am_T_tbl : ∀ w ∈ am_T, w ∈ lw_tbl := fun w hw => (List.mem_filter.mp hw).1
/-- a word by its place in the tables -/
theorem am_in {w : Cond} (i : Nat) (h : tables_1[i]? = some w) (g : goodWord w = true) : w ∈ am_T := List.mem_filter.mpr ⟨List.mem_append_right _ (List.mem_of_getElem? h), g⟩
theorem am_inS {w : Cond} (i : Nat) (h : (k2_sels lw_privs)[i]? = some w) (g : goodWord w = true) : w ∈ am_T := List.mem_filter.mpr ⟨List.mem_append_left _ (List.mem_of_getElem? h), g⟩
theorem am_ins {ws : List Cond} (is : List Nat) (h : is.map (fun i => tables_1[i]?) = ws.map some) (g : ws.all goodWord = true) : ∀ w ∈ ws, w ∈ am_T := by
  intro w hw
  have h1 : some w ∈ is.map (fun i => tables_1[i]?) := by rw [h]; exact List.mem_map.mpr ⟨w, hw, rfl⟩
  obtain ⟨i, -, hi⟩ := List.mem_map.mp h1
  exact am_in i hi (List.all_eq_true.mp g w hw)
set_option maxRecDepth 20000 in
theorem in_X : ∀ w ∈ u_ws R_X T_X 6, w ∈ am_T := am_ins [223, 225, 227, 229, 231, 233] (by decide +kernel) (by decide +kernel)
theorem nm_X : ∀ a, a < 6 → ∀ b, b < 6 → a ≠ b → (T_X a).2.1 ≠ (T_X b).2.1 := by decide +kernel
theorem tk_X : ∀ k, k < 6 → parseFieldDescriptor (T_X k).2.2.1 = some (ty_X k) := by decide +kernel
set_option maxRecDepth 20000 in
theorem in_S : ∀ w ∈ u_ws R_S T_S 15, w ∈ am_T := am_ins [71, 73, 75, 77, 79, 81, 83, 85, 87, 89, 91, 93, 95, 97, 99] (by decide +kernel) (by decide +kernel)
theorem nm_S : ∀ a, a < 15 → ∀ b, b < 15 → a ≠ b → (T_S a).2.1 ≠ (T_S b).2.1 := by decide +kernel
theorem tk_S : ∀ k, k < 15 → parseFieldDescriptor (T_S k).2.2.1 = some (ty_S k) := by decide +kernel
set_option maxRecDepth 20000 in
theorem in_F : ∀ w ∈ u_ws R_F T_F 6, w ∈ am_T := am_ins [117, 119, 121, 123, 125, 127] (by decide +kernel) (by decide +kernel)
theorem nm_F : ∀ a, a < 6 → ∀ b, b < 6 → a ≠ b → (T_F a).2.1 ≠ (T_F b).2.1 := by decide +kernel
theorem tk_F : ∀ k, k < 6 → parseFieldDescriptor (T_F k).2.2.1 = some (ty_F k) := by decide +kernel
set_option maxRecDepth 20000 in
theorem in_R : ∀ w ∈ u_ws R_R T_R 10, w ∈ am_T := am_ins [149, 151, 153, 155, 157, 159, 161, 163, 165, 167] (by decide +kernel) (by decide +kernel)
theorem nm_R : ∀ a, a < 10 → ∀ b, b < 10 → a ≠ b → (T_R a).2.1 ≠ (T_R b).2.1 := by decide +kernel
theorem tk_R : ∀ k, k < 10 → parseFieldDescriptor (T_R k).2.2.1 = some (ty_R k) := by decide +kernel
set_option maxRecDepth 20000 in
theorem in_P : ∀ w ∈ u_ws R_P T_P 10, w ∈ am_T := am_ins [196, 198, 200, 202, 204, 206, 208, 210, 212, 214] (by decide +kernel) (by decide +kernel)
theorem nm_P : ∀ a, a < 10 → ∀ b, b < 10 → a ≠ b → (T_P a).2.1 ≠ (T_P b).2.1 := by decide +kernel
theorem tk_P : ∀ k, k < 10 → parseFieldDescriptor (T_P k).2.2.1 = some (ty_P k) := by decide +kernel
set_option maxRecDepth 20000 in
theorem in_M : ∀ w ∈ u_ws R_M T_M 34, w ∈ am_T := am_ins [684, 686, 688, 690, 692, 694, 696, 698, 700, 702, 704, 706, 708, 710, 712, 714, 716, 718, 720, 722, 724, 726, 728, 730, 732, 734, 736, 738, 740, 742, 744, 746, 748, 750] (by decide +kernel) (by decide +kernel)
theorem nm_M : ∀ a, a < 34 → ∀ b, b < 34 → a ≠ b → (T_M a).2.1 ≠ (T_M b).2.1 := by decide +kernel
theorem tk_M : ∀ k, k < 34 → parseFieldDescriptor (T_M k).2.2.1 = some (ty_M k) := by decide +kernel
end
section

/-! THE ABSTRACT LAYER: a method's state is its pc, its known locals, its stack and the list of all cells that were made since the law's entry; reference 0 is the script, reference i + 1 the i-th such cell. -/
abbrev am_E : Type := (Nat × vp_A) ⊕ (Nat × List Value)
abbrev am_H : Type := List am_E
/-- how a method ends: it returned (a value or none), or threw (the number of the class among the classes, the cell) -/
abbrev am_O : Type := Option Value ⊕ (Nat × Nat)
/-- a method: name, bytes, locals, result, handlers -/
abbrev am_M : Type := MethodName × ByteArray × Nat × Option FieldType × List (Nat × Nat × Nat × Nat)
/-- the launch; the classes' numbers, their slots; the array classes; the script's address, the first new address, the script's length, its ints -/
abbrev am_G : Type := Launch × (Nat → ClassId) × (Nat → Nat → Nat) × (Nat → ClassId) × Nat × Nat × Nat × (Nat → Int32)
abbrev am_gD (G : am_G) : va_G := (G.2.1, G.2.2.1)
abbrev am_gA (G : am_G) : Nat → ClassId := G.2.2.2.1
abbrev am_gb (G : am_G) : Nat := G.2.2.2.2.1
abbrev am_gz (G : am_G) : Nat := G.2.2.2.2.2.1
abbrev am_gn (G : am_G) : Nat := G.2.2.2.2.2.2.1
abbrev am_gx (G : am_G) : Nat → Int32 := G.2.2.2.2.2.2.2
def am_tys (G : am_G) : List (ClassId × FieldType) := [(am_gA G 0, .int), (am_gA G 1, .long), (am_gA G 2, .boolean)]
def am_ad (G : am_G) : Nat → Nat
  | 0 => am_gb G
  | i + 1 => am_gz G + i
def am_v (G : am_G) : Value → Value
  | .ref a => .ref (am_ad G a)
  | v => v
def am_e (G : am_G) : am_E → va_E
  | .inl q => .inl (am_gA G q.1, q.2)
  | .inr q => .inr (q.1, q.2.map (am_v G))
def am_ws (G : am_G) : Nat → am_H → va_W
  | _, [] => []
  | n, e :: h => (n, am_e G e) :: am_ws G (n + 1) h
theorem am_ws_get (G : am_G) : ∀ (h : am_H) (n k : Nat), (am_ws G n h)[k]? = (h[k]?).map (fun e => (n + k, am_e G e))
  | [], n, k => by simp [am_ws]
  | e :: h, n, 0 => by simp [am_ws]
  | e :: h, n, k + 1 => by
    have := am_ws_get G h (n + 1) k
    simp only [am_ws, List.getElem?_cons_succ, this]
    rw [show n + 1 + k = n + (k + 1) by omega]
theorem am_ws_set (G : am_G) : ∀ (h : am_H) (n k : Nat) (e : am_E), am_ws G n (h.set k e) = (am_ws G n h).set k (n + k, am_e G e)
  | [], n, k, e => by simp [am_ws]
  | a :: h, n, 0, e => by simp [am_ws]
  | a :: h, n, k + 1, e => by
    have := am_ws_set G h (n + 1) k e
    simp only [am_ws, List.set_cons_succ, this]
    rw [show n + 1 + k = n + (k + 1) by omega]
theorem am_ws_app (G : am_G) : ∀ (h : am_H) (n : Nat) (e : am_E), am_ws G n (h ++ [e]) = am_ws G n h ++ [(n + h.length, am_e G e)]
  | [], n, e => by simp [am_ws]
  | a :: h, n, e => by
    have := am_ws_app G h (n + 1) e
    simp only [am_ws, List.cons_append, this, List.length_cons]
    rw [show n + 1 + h.length = n + (h.length + 1) by omega]
def am_A (G : am_G) : Nat → Prop := fun q => am_gz G ≤ q
theorem am_D (G : am_G) (h : am_H) : va_D (am_A G) (am_ws G (am_gz G) h) := by
  have key : ∀ (k : Nat) (q : Nat × va_E), (am_ws G (am_gz G) h)[k]? = some q → q.1 = am_gz G + k := by
    intro k q hk
    rw [am_ws_get] at hk
    cases he : h[k]? with
    | none => rw [he] at hk; cases hk
    | some e => rw [he] at hk; cases hk; rfl
  refine ⟨fun i j x y hi hj hxy => ?_, fun k q hk => ?_⟩
  · have := key i x hi
    have := key j y hj
    omega
  · show am_gz G ≤ q.1
    rw [key k q hk]
    exact Nat.le_add_right _ _
/-- the heap holds the cells -/
def am_R (G : am_G) (h : am_H) (H : Heap) : Prop := H.size = am_gz G + h.length ∧ va_P (am_gD G) am_cl (am_ws G (am_gz G) h) H
def am_out (G : am_G) : am_O → Outcome → Prop
  | .inl v, o => o = .returned (v.map (am_v G))
  | .inr q, o => o = .threw (am_ad G q.2)
def am_L (G : am_G) (L : List (Nat × Value)) : List (Nat × Value) := L.map (fun q => (q.1, am_v G q.2))
/-- a static field that is laid, its cell an old one -/
def am_ls (G : am_G) (C n d : String) (s : State) : Prop := ∃ c k i f a cell, s.vm.findClass C = some c ∧ s.fieldFound? C n d = some (c, k, i, f) ∧ f.isStatic = true ∧ k.statics = some a ∧ s.heap[a]? = some cell ∧ cell.vm.isStatics = true ∧ cell.cls = c ∧ f.slot < cell.slots.size ∧ k.staticTypes[f.slot]? = some f.type ∧ a < am_gz G
theorem am_ls.moved {G : am_G} {C n d : String} {s U : State} (h : am_ls G C n d s) (hal : s.vm.Alike U.vm) (hq : ∀ q : Nat, q < am_gz G → U.heap[q]? = s.heap[q]?) : am_ls G C n d U := by
  obtain ⟨c, k, i, f, a, cell, hc, hi, hst, ha, hcell, hs, hcls, hlt, hty, hz⟩ := h
  obtain ⟨k', hi', hek⟩ := State.fieldFound?_setVm hal hi
  exact ⟨c, k', i, f, a, cell, by rw [hal.findClass]; exact hc, hi', hst, by rw [hek]; exact ha, by rw [hq a hz]; exact hcell, hs, hcls, hlt, by rw [hek]; exact hty, hz⟩
theorem am_ls.use {G : am_G} {C n d : String} {s : State} {args : Array Value} (h : am_ls G C n d s) : (Cond.laysStatic C n d).before args s = true := by
  obtain ⟨c, k, i, f, a, cell, hc, hi, hst, ha, hcell, hs, hcls, hlt, hty, hz⟩ := h
  exact Cond.laysStatic_of hc hi hst ha hcell hs hcls hlt hty
/-- what else is known of a state: no stack traces, the texts, Throwable's two statics, what can't be cast, the cells made so far -/
def am_K2 (G : am_G) (s : State) : Prop :=
  G.1.stackTraces = false ∧ (∀ q ∈ am_strs, ∃ a, vk_R R_X q.1 q.2 a s) ∧ va_Zq "java/lang/Throwable" "UNASSIGNED_STACK" "[Ljava/lang/StackTraceElement;" (am_A G) s s.heap ∧ va_Zq "java/lang/Throwable" "SUPPRESSED_SENTINEL" "Ljava/util/List;" (am_A G) s s.heap ∧
  (∀ q ∈ am_ncs, ∃ a b, s.vm.findClass q.1 = some a ∧ s.vm.findClass q.2 = some b ∧ s.vm.assignable a b = false) ∧ (∀ w ∈ am_T2, va_Nw w s) ∧ am_ls G "java/lang/Throwable" "UNASSIGNED_STACK" "[Ljava/lang/StackTraceElement;" s ∧ am_ls G "java/lang/Throwable" "SUPPRESSED_SENTINEL" "Ljava/util/List;" s ∧ ∃ h0, am_R G h0 s.heap
theorem am_K2.moved {G : am_G} {s U : State} (h : am_K2 G s) (hW : s.WarmedH U.vm) (hz : am_gz G ≤ s.heap.size) (hq : ∀ q : Nat, q < am_gz G → U.heap[q]? = s.heap[q]?) (hR : ∃ h0, am_R G h0 U.heap) : am_K2 G U := by
  obtain ⟨h1, h2, h3, h4, h5, h6, h7, h8, -⟩ := h
  have hal := hW.alike
  have hk : ∀ a : Nat, a < s.heap.size → ¬ am_A G a → U.heap[a]? = s.heap[a]? := fun a _ ha => hq a (Nat.not_le.mp ha)
  refine ⟨h1, fun q hqm => ?_, (h3.moved hal).kept hk, (h4.moved hal).kept hk, fun q hqm => ?_, am_T2_warm hW h6, h7.moved hal hq, h8.moved hal hq, hR⟩
  · obtain ⟨a, ha⟩ := h2 q hqm
    exact ⟨a, ha.warm hW⟩
  · obtain ⟨a, b, ha, hb, hc⟩ := h5 q hqm
    exact ⟨a, b, by rw [hal.findClass]; exact ha, by rw [hal.findClass]; exact hb, by rw [hal.assignable]; exact hc⟩
/-- what is known of an activation of the method y -/
def am_C (G : am_G) (y : am_M) (p : Program) (s : State) (m : MethodId) (args : Array Value) (meth : Method) (c : Code) : Prop :=
  (p.tables.exec = Jvm.exec ∧ c.code = y.2.1 ∧ c.maxLocals = y.2.2.1 ∧ s.vm.findClass y.1.cls = some m.cls ∧ (∀ w ∈ am_T, w.before args s = true)) ∧
  va_K (am_gD G) am_cl (am_tys G) s ∧ meth.sig.returnType = y.2.2.2.1 ∧ meth.locks = false ∧ c.exceptionTable.toList.map (fun h => (h.startPc, h.endPc, h.handlerPc, h.catchType)) = y.2.2.2.2 ∧ meth.name = y.1.name ∧
  am_gz G ≤ s.heap.size ∧ va_X (am_gb G) (am_gn G) (am_gx G) s s.heap ∧ am_gb G < am_gz G ∧ am_K2 G s
/-- the end of an activation -/
def am_Z (G : am_G) (Q : am_O → am_H → Prop) (R : Room) (s : State) (below : List Frame) : State → Prop := fun t =>
  ∃ (o : Outcome) (Lc : List Loc) (k n : Nat) (ao : am_O) (h' : am_H), t.status = .running ∧ Ended t below o ∧ s.WarmedH t.vm ∧ s.sameButNew ({ t with vm := s.vm } : State) Lc k n ∧ k ≤ R.cells ∧ n ≤ R.slots ∧
    (∀ q ∈ Lc, am_gz G ≤ q.base) ∧ (∀ q : Nat, q < am_gz G → t.heap[q]? = s.heap[q]?) ∧ am_R G h' t.heap ∧ am_out G ao o ∧ Q ao h'
/-- room for d frames more, bc cells and bs slots -/
def am_Rm (d bc bs : Nat) (R : Room) (cells slots : Nat) : Prop := d ≤ R.frames ∧ 64 * d ≤ R.locals ∧ cells + bc ≤ R.cells ∧ slots + bs ≤ R.slots
/-- THE JUDGEMENT: from pc with these locals, this stack and these cells the method y comes to an end with Q -/
def am_W (G : am_G) (y : am_M) (d bc bs : Nat) (Q : am_O → am_H → Prop) (pc : Nat) (L : List (Nat × Value)) (st : List Value) (h : am_H) : Prop :=
  ∀ (p : Program) (e : Env) (R : Room) (s : State) (m : MethodId) (args : Array Value) (below : List Frame) (meth : Method) (c : Code) (H : Heap) (locs : List Loc) (cells slots : Nat) (ls : Array Slot),
    am_C G y p s m args meth c → am_Rm d bc bs R cells slots → am_R G h H → va_S (am_A G) s.heap H locs → lv_has ls y.2.2.1 (am_L G L) →
    W p G.1 e R s m args below meth c H locs cells slots (am_Z G Q R s below) (F0 m pc ls (st.map (am_v G)))
def am_st1 (L : List (Nat × Value)) (i : Nat) (v : Value) : List (Nat × Value) := (i, v) :: L.filter (fun q => !(q.1 == i) && !(q.1 + 1 == i && q.2.category == 2))
def am_st2 (L : List (Nat × Value)) (i : Nat) (v : Value) : List (Nat × Value) := (i, v) :: L.filter (fun q => !(q.1 == i) && (!(q.1 == i + 1) && !(q.1 + 1 == i && q.2.category == 2)))
theorem am_v_cat (G : am_G) (v : Value) : (am_v G v).category = v.category := by cases v <;> rfl
theorem am_L_st1 (G : am_G) (L : List (Nat × Value)) (i : Nat) (v : Value) : (i, am_v G v) :: (am_L G L).filter (fun q => !(q.1 == i) && !(q.1 + 1 == i && q.2.category == 2)) = am_L G (am_st1 L i v) := by
  unfold am_L am_st1
  rw [List.map_cons, List.filter_map]
  congr 2
  refine List.filter_congr (fun q _ => ?_)
  simp only [Function.comp, am_v_cat]
theorem am_L_st2 (G : am_G) (L : List (Nat × Value)) (i : Nat) (v : Value) : (i, am_v G v) :: (am_L G L).filter (fun q => !(q.1 == i) && (!(q.1 == i + 1) && !(q.1 + 1 == i && q.2.category == 2))) = am_L G (am_st2 L i v) := by
  unfold am_L am_st2
  rw [List.map_cons, List.filter_map]
  congr 2
  refine List.filter_congr (fun q _ => ?_)
  simp only [Function.comp, am_v_cat]
theorem am_lk : ∀ {L : List (Nat × Value)} {i : Nat} {v : Value}, L.lookup i = some v → (i, v) ∈ L
  | [], i, v, h => by simp at h
  | (a, w) :: L, i, v, h => by
    rw [List.lookup_cons] at h
    split at h
    · rename_i hb
      have : i = a := by simpa using hb
      subst this
      cases h
      exact List.mem_cons_self
    · exact List.mem_cons_of_mem _ (am_lk h)
theorem am_at {G : am_G} {L : List (Nat × Value)} {ls : Array Slot} {n i : Nat} {v : Value} (h : lv_has ls n (am_L G L)) (hl : L.lookup i = some v) : ls[i]? = some (.val (am_v G v)) :=
  h.2.2 (i, am_v G v) (List.mem_map.mpr ⟨(i, v), am_lk hl, rfl⟩)

section AMR
variable {G : am_G} {y : am_M} {d bc bs : Nat} {Q : am_O → am_H → Prop} {pc : Nat} {L : List (Nat × Value)} {st : List Value} {h : am_H}
theorem am_iconst {n : Int} {v : Int32} (hd : decode y.2.1 pc = .ok (.iconst n, 1)) (hv : Int32.ofInt n = v) (k : am_W G y d bc bs Q (pc + 1) L (.int v :: st) h) : am_W G y d bc bs Q pc L (st) h := by
  intro p e R s m args below meth c H locs cells slots ls C hR hh hS hl
  exact lv_iconst C.1.1 C.1.2.1 hd hv (k p e R s m args below meth c H locs cells slots ls C hR hh hS hl)
theorem am_bipush {n : Int} {v : Int32} (hd : decode y.2.1 pc = .ok (.bipush n, 2)) (hv : (Int8.ofInt n).toInt32 = v) (k : am_W G y d bc bs Q (pc + 2) L (.int v :: st) h) : am_W G y d bc bs Q pc L (st) h := by
  intro p e R s m args below meth c H locs cells slots ls C hR hh hS hl
  exact lv_bipush C.1.1 C.1.2.1 hd hv (k p e R s m args below meth c H locs cells slots ls C hR hh hS hl)
theorem am_sipush {n : Int} {v : Int32} (hd : decode y.2.1 pc = .ok (.sipush n, 3)) (hv : (Int16.ofInt n).toInt32 = v) (k : am_W G y d bc bs Q (pc + 3) L (.int v :: st) h) : am_W G y d bc bs Q pc L (st) h := by
  intro p e R s m args below meth c H locs cells slots ls C hR hh hS hl
  exact lv_sipush C.1.1 C.1.2.1 hd hv (k p e R s m args below meth c H locs cells slots ls C hR hh hS hl)
theorem am_lconst {n : Fin 2} {v : Int64} (hd : decode y.2.1 pc = .ok (.lconst n, 1)) (hv : Int64.ofNat (n : Nat) = v) (k : am_W G y d bc bs Q (pc + 1) L (.long v :: st) h) : am_W G y d bc bs Q pc L (st) h := by
  intro p e R s m args below meth c H locs cells slots ls C hR hh hS hl
  exact lv_lconst C.1.1 C.1.2.1 hd hv (k p e R s m args below meth c H locs cells slots ls C hR hh hS hl)
theorem am_ldc {index : Nat} {v : Int32} (hd : decode y.2.1 pc = .ok (.ldc index, 2)) (hw : Cond.constant y.1.cls index v ∈ am_T) (k : am_W G y d bc bs Q (pc + 2) L (.int v :: st) h) : am_W G y d bc bs Q pc L (st) h := by
  intro p e R s m args below meth c H locs cells slots ls C hR hh hS hl
  exact lv_ldc C.1.1 C.1.2.1 C.1.2.2.2.1 (C.1.2.2.2.2 _ hw) hd (k p e R s m args below meth c H locs cells slots ls C hR hh hS hl)
theorem am_ldc2 {index : Nat} {v : Int64} (hd : decode y.2.1 pc = .ok (.ldc2_w index, 3)) (hw : Cond.constantLong y.1.cls index v ∈ am_T) (k : am_W G y d bc bs Q (pc + 3) L (.long v :: st) h) : am_W G y d bc bs Q pc L (st) h := by
  intro p e R s m args below meth c H locs cells slots ls C hR hh hS hl
  exact lv_ldc2 C.1.1 C.1.2.1 C.1.2.2.2.1 (C.1.2.2.2.2 _ hw) hd (k p e R s m args below meth c H locs cells slots ls C hR hh hS hl)
theorem am_iload_n {j : Fin 4} {i : Nat} {x : Int32} (hd : decode y.2.1 pc = .ok (.iload_n j, 1)) (hi : (j : Nat) = i) (hx : L.lookup i = some (.int x)) (k : am_W G y d bc bs Q (pc + 1) L (.int x :: st) h) : am_W G y d bc bs Q pc L (st) h := by
  intro p e R s m args below meth c H locs cells slots ls C hR hh hS hl
  exact lv_iload_n C.1.1 C.1.2.1 hd hi (am_at hl hx) (k p e R s m args below meth c H locs cells slots ls C hR hh hS hl)
theorem am_iload {i : Nat} {x : Int32} (hd : decode y.2.1 pc = .ok (.iload i, 2)) (hx : L.lookup i = some (.int x)) (k : am_W G y d bc bs Q (pc + 2) L (.int x :: st) h) : am_W G y d bc bs Q pc L (st) h := by
  intro p e R s m args below meth c H locs cells slots ls C hR hh hS hl
  exact lv_iload C.1.1 C.1.2.1 hd (am_at hl hx) (k p e R s m args below meth c H locs cells slots ls C hR hh hS hl)
theorem am_lload_n {j : Fin 4} {i : Nat} {x : Int64} (hd : decode y.2.1 pc = .ok (.lload_n j, 1)) (hi : (j : Nat) = i) (hx : L.lookup i = some (.long x)) (k : am_W G y d bc bs Q (pc + 1) L (.long x :: st) h) : am_W G y d bc bs Q pc L (st) h := by
  intro p e R s m args below meth c H locs cells slots ls C hR hh hS hl
  exact lv_lload_n C.1.1 C.1.2.1 hd hi (am_at hl hx) (k p e R s m args below meth c H locs cells slots ls C hR hh hS hl)
theorem am_lload {i : Nat} {x : Int64} (hd : decode y.2.1 pc = .ok (.lload i, 2)) (hx : L.lookup i = some (.long x)) (k : am_W G y d bc bs Q (pc + 2) L (.long x :: st) h) : am_W G y d bc bs Q pc L (st) h := by
  intro p e R s m args below meth c H locs cells slots ls C hR hh hS hl
  exact lv_lload C.1.1 C.1.2.1 hd (am_at hl hx) (k p e R s m args below meth c H locs cells slots ls C hR hh hS hl)
theorem am_aload_n {j : Fin 4} {i : Nat} {x : Nat} (hd : decode y.2.1 pc = .ok (.aload_n j, 1)) (hi : (j : Nat) = i) (hx : L.lookup i = some (.ref x)) (k : am_W G y d bc bs Q (pc + 1) L (.ref x :: st) h) : am_W G y d bc bs Q pc L (st) h := by
  intro p e R s m args below meth c H locs cells slots ls C hR hh hS hl
  exact lv_aload_n C.1.1 C.1.2.1 hd hi (am_at hl hx) (k p e R s m args below meth c H locs cells slots ls C hR hh hS hl)
theorem am_aload {i : Nat} {x : Nat} (hd : decode y.2.1 pc = .ok (.aload i, 2)) (hx : L.lookup i = some (.ref x)) (k : am_W G y d bc bs Q (pc + 2) L (.ref x :: st) h) : am_W G y d bc bs Q pc L (st) h := by
  intro p e R s m args below meth c H locs cells slots ls C hR hh hS hl
  exact lv_aload C.1.1 C.1.2.1 hd (am_at hl hx) (k p e R s m args below meth c H locs cells slots ls C hR hh hS hl)
theorem am_istore_n {j : Fin 4} {i : Nat} {x : Int32} (hd : decode y.2.1 pc = .ok (.istore_n j, 1)) (hi : (j : Nat) = i) (hn : i < y.2.2.1) (k : am_W G y d bc bs Q (pc + 1) (am_st1 L i (.int x)) (st) h) : am_W G y d bc bs Q pc L (.int x :: st) h := by
  intro p e R s m args below meth c H locs cells slots ls C hR hh hS hl
  exact lv_istore_n C.1.1 C.1.2.1 hd hi hl hn (am_L_st1 G L i (.int x)) (fun ls hl => (k p e R s m args below meth c H locs cells slots ls C hR hh hS hl))
theorem am_istore {i : Nat} {x : Int32} (hd : decode y.2.1 pc = .ok (.istore i, 2)) (hn : i < y.2.2.1) (k : am_W G y d bc bs Q (pc + 2) (am_st1 L i (.int x)) (st) h) : am_W G y d bc bs Q pc L (.int x :: st) h := by
  intro p e R s m args below meth c H locs cells slots ls C hR hh hS hl
  exact lv_istore C.1.1 C.1.2.1 hd hl hn (am_L_st1 G L i (.int x)) (fun ls hl => (k p e R s m args below meth c H locs cells slots ls C hR hh hS hl))
theorem am_astore_n {j : Fin 4} {i : Nat} {x : Nat} (hd : decode y.2.1 pc = .ok (.astore_n j, 1)) (hi : (j : Nat) = i) (hn : i < y.2.2.1) (k : am_W G y d bc bs Q (pc + 1) (am_st1 L i (.ref x)) (st) h) : am_W G y d bc bs Q pc L (.ref x :: st) h := by
  intro p e R s m args below meth c H locs cells slots ls C hR hh hS hl
  exact lv_astore_n C.1.1 C.1.2.1 hd hi hl hn (am_L_st1 G L i (.ref x)) (fun ls hl => (k p e R s m args below meth c H locs cells slots ls C hR hh hS hl))
theorem am_astore {i : Nat} {x : Nat} (hd : decode y.2.1 pc = .ok (.astore i, 2)) (hn : i < y.2.2.1) (k : am_W G y d bc bs Q (pc + 2) (am_st1 L i (.ref x)) (st) h) : am_W G y d bc bs Q pc L (.ref x :: st) h := by
  intro p e R s m args below meth c H locs cells slots ls C hR hh hS hl
  exact lv_astore C.1.1 C.1.2.1 hd hl hn (am_L_st1 G L i (.ref x)) (fun ls hl => (k p e R s m args below meth c H locs cells slots ls C hR hh hS hl))
theorem am_lstore_n {j : Fin 4} {i : Nat} {x : Int64} (hd : decode y.2.1 pc = .ok (.lstore_n j, 1)) (hi : (j : Nat) = i) (hn : i + 1 < y.2.2.1) (k : am_W G y d bc bs Q (pc + 1) (am_st2 L i (.long x)) (st) h) : am_W G y d bc bs Q pc L (.long x :: st) h := by
  intro p e R s m args below meth c H locs cells slots ls C hR hh hS hl
  exact lv_lstore_n C.1.1 C.1.2.1 hd hi hl hn (am_L_st2 G L i (.long x)) (fun ls hl => (k p e R s m args below meth c H locs cells slots ls C hR hh hS hl))
theorem am_lstore {i : Nat} {x : Int64} (hd : decode y.2.1 pc = .ok (.lstore i, 2)) (hn : i + 1 < y.2.2.1) (k : am_W G y d bc bs Q (pc + 2) (am_st2 L i (.long x)) (st) h) : am_W G y d bc bs Q pc L (.long x :: st) h := by
  intro p e R s m args below meth c H locs cells slots ls C hR hh hS hl
  exact lv_lstore C.1.1 C.1.2.1 hd hl hn (am_L_st2 G L i (.long x)) (fun ls hl => (k p e R s m args below meth c H locs cells slots ls C hR hh hS hl))
theorem am_iinc {i : Nat} {n : Int} {x v : Int32} (hd : decode y.2.1 pc = .ok (.iinc i n, 3)) (hx : L.lookup i = some (.int x)) (hv : x + Int32.ofInt n = v) (hn : i < y.2.2.1) (k : am_W G y d bc bs Q (pc + 3) (am_st1 L i (.int v)) (st) h) : am_W G y d bc bs Q pc L (st) h := by
  intro p e R s m args below meth c H locs cells slots ls C hR hh hS hl
  obtain ⟨j, hj⟩ := List.getElem?_of_mem (List.mem_map.mpr ⟨(i, Value.int x), am_lk hx, rfl⟩ : (i, Value.int x) ∈ am_L G L)
  exact lv_iinc C.1.1 C.1.2.1 hd hl (k := j) hj hv hn (am_L_st1 G L i (.int v)) (fun ls hl => (k p e R s m args below meth c H locs cells slots ls C hR hh hS hl))
theorem am_iadd {x z : Int32} (hd : decode y.2.1 pc = .ok (.iadd, 1)) (k : am_W G y d bc bs Q (pc + 1) L (.int (x + z) :: st) h) : am_W G y d bc bs Q pc L (.int z :: .int x :: st) h := by
  intro p e R s m args below meth c H locs cells slots ls C hR hh hS hl
  exact lv_iadd C.1.1 C.1.2.1 hd (k p e R s m args below meth c H locs cells slots ls C hR hh hS hl)
theorem am_isub {x z : Int32} (hd : decode y.2.1 pc = .ok (.isub, 1)) (k : am_W G y d bc bs Q (pc + 1) L (.int (x - z) :: st) h) : am_W G y d bc bs Q pc L (.int z :: .int x :: st) h := by
  intro p e R s m args below meth c H locs cells slots ls C hR hh hS hl
  exact lv_isub C.1.1 C.1.2.1 hd (k p e R s m args below meth c H locs cells slots ls C hR hh hS hl)
theorem am_imul {x z : Int32} (hd : decode y.2.1 pc = .ok (.imul, 1)) (k : am_W G y d bc bs Q (pc + 1) L (.int (x * z) :: st) h) : am_W G y d bc bs Q pc L (.int z :: .int x :: st) h := by
  intro p e R s m args below meth c H locs cells slots ls C hR hh hS hl
  exact lv_imul C.1.1 C.1.2.1 hd (k p e R s m args below meth c H locs cells slots ls C hR hh hS hl)
theorem am_iand {x z : Int32} (hd : decode y.2.1 pc = .ok (.iand, 1)) (k : am_W G y d bc bs Q (pc + 1) L (.int (x &&& z) :: st) h) : am_W G y d bc bs Q pc L (.int z :: .int x :: st) h := by
  intro p e R s m args below meth c H locs cells slots ls C hR hh hS hl
  exact lv_iand C.1.1 C.1.2.1 hd (k p e R s m args below meth c H locs cells slots ls C hR hh hS hl)
theorem am_ladd {x z : Int64} (hd : decode y.2.1 pc = .ok (.ladd, 1)) (k : am_W G y d bc bs Q (pc + 1) L (.long (x + z) :: st) h) : am_W G y d bc bs Q pc L (.long z :: .long x :: st) h := by
  intro p e R s m args below meth c H locs cells slots ls C hR hh hS hl
  exact lv_ladd C.1.1 C.1.2.1 hd (k p e R s m args below meth c H locs cells slots ls C hR hh hS hl)
theorem am_lsub {x z : Int64} (hd : decode y.2.1 pc = .ok (.lsub, 1)) (k : am_W G y d bc bs Q (pc + 1) L (.long (x - z) :: st) h) : am_W G y d bc bs Q pc L (.long z :: .long x :: st) h := by
  intro p e R s m args below meth c H locs cells slots ls C hR hh hS hl
  exact lv_lsub C.1.1 C.1.2.1 hd (k p e R s m args below meth c H locs cells slots ls C hR hh hS hl)
theorem am_lmul {x z : Int64} (hd : decode y.2.1 pc = .ok (.lmul, 1)) (k : am_W G y d bc bs Q (pc + 1) L (.long (x * z) :: st) h) : am_W G y d bc bs Q pc L (.long z :: .long x :: st) h := by
  intro p e R s m args below meth c H locs cells slots ls C hR hh hS hl
  exact lv_lmul C.1.1 C.1.2.1 hd (k p e R s m args below meth c H locs cells slots ls C hR hh hS hl)
theorem am_lrem {x z : Int64} (hd : decode y.2.1 pc = .ok (.lrem, 1)) (hz : ¬ z = 0) (k : am_W G y d bc bs Q (pc + 1) L (.long (x - x / z * z) :: st) h) : am_W G y d bc bs Q pc L (.long z :: .long x :: st) h := by
  intro p e R s m args below meth c H locs cells slots ls C hR hh hS hl
  exact lv_lrem C.1.1 C.1.2.1 hd hz (k p e R s m args below meth c H locs cells slots ls C hR hh hS hl)
theorem am_i2l {x : Int32} (hd : decode y.2.1 pc = .ok (.i2l, 1)) (k : am_W G y d bc bs Q (pc + 1) L (.long x.toInt64 :: st) h) : am_W G y d bc bs Q pc L (.int x :: st) h := by
  intro p e R s m args below meth c H locs cells slots ls C hR hh hS hl
  exact lv_i2l C.1.1 C.1.2.1 hd rfl (k p e R s m args below meth c H locs cells slots ls C hR hh hS hl)
theorem am_l2i {x : Int64} (hd : decode y.2.1 pc = .ok (.l2i, 1)) (k : am_W G y d bc bs Q (pc + 1) L (.int x.toInt32 :: st) h) : am_W G y d bc bs Q pc L (.long x :: st) h := by
  intro p e R s m args below meth c H locs cells slots ls C hR hh hS hl
  exact lv_l2i C.1.1 C.1.2.1 hd rfl (k p e R s m args below meth c H locs cells slots ls C hR hh hS hl)
theorem am_lushr {x : Int64} {z : Int32} (hd : decode y.2.1 pc = .ok (.lushr, 1)) (k : am_W G y d bc bs Q (pc + 1) L (.long (x.toUInt64 >>> (z.toInt64.toUInt64 &&& Int64.toUInt64 63)).toInt64 :: st) h) : am_W G y d bc bs Q pc L (.int z :: .long x :: st) h := by
  intro p e R s m args below meth c H locs cells slots ls C hR hh hS hl
  exact lv_lushr C.1.1 C.1.2.1 hd rfl (k p e R s m args below meth c H locs cells slots ls C hR hh hS hl)
theorem am_lcmp {x z : Int64} (hd : decode y.2.1 pc = .ok (.lcmp, 1)) (k : am_W G y d bc bs Q (pc + 1) L (.int (lg_cmp x z) :: st) h) : am_W G y d bc bs Q pc L (.long z :: .long x :: st) h := by
  intro p e R s m args below meth c H locs cells slots ls C hR hh hS hl
  exact W.lcmp C.1.1 C.1.2.1 hd (k p e R s m args below meth c H locs cells slots ls C hR hh hS hl)
theorem am_dup {va : Value} (hd : decode y.2.1 pc = .ok (.dup, 1)) (ha : va.category = 1) (k : am_W G y d bc bs Q (pc + 1) L (va :: va :: st) h) : am_W G y d bc bs Q pc L (va :: st) h := by
  intro p e R s m args below meth c H locs cells slots ls C hR hh hS hl
  exact lv_dup C.1.1 C.1.2.1 hd (by rw [am_v_cat]; exact ha) (k p e R s m args below meth c H locs cells slots ls C hR hh hS hl)
theorem am_pop {va : Value} (hd : decode y.2.1 pc = .ok (.pop, 1)) (ha : va.category = 1) (k : am_W G y d bc bs Q (pc + 1) L (st) h) : am_W G y d bc bs Q pc L (va :: st) h := by
  intro p e R s m args below meth c H locs cells slots ls C hR hh hS hl
  exact lv_pop C.1.1 C.1.2.1 hd (by rw [am_v_cat]; exact ha) (k p e R s m args below meth c H locs cells slots ls C hR hh hS hl)
theorem am_dup_x1 {va vb : Value} (hd : decode y.2.1 pc = .ok (.dup_x1, 1)) (ha : va.category = 1) (hb : vb.category = 1) (k : am_W G y d bc bs Q (pc + 1) L (va :: vb :: va :: st) h) : am_W G y d bc bs Q pc L (va :: vb :: st) h := by
  intro p e R s m args below meth c H locs cells slots ls C hR hh hS hl
  exact lv_dup_x1 C.1.1 C.1.2.1 hd (by rw [am_v_cat]; exact ha) (by rw [am_v_cat]; exact hb) (k p e R s m args below meth c H locs cells slots ls C hR hh hS hl)
theorem am_dup_x2 {va vb vd : Value} (hd : decode y.2.1 pc = .ok (.dup_x2, 1)) (ha : va.category = 1) (hb : vb.category = 1) (hc : vd.category = 1) (k : am_W G y d bc bs Q (pc + 1) L (va :: vb :: vd :: va :: st) h) : am_W G y d bc bs Q pc L (va :: vb :: vd :: st) h := by
  intro p e R s m args below meth c H locs cells slots ls C hR hh hS hl
  exact lv_dup_x2 C.1.1 C.1.2.1 hd (by rw [am_v_cat]; exact ha) (by rw [am_v_cat]; exact hb) (by rw [am_v_cat]; exact hc) (k p e R s m args below meth c H locs cells slots ls C hR hh hS hl)
theorem am_dup2 {va vb : Value} (hd : decode y.2.1 pc = .ok (.dup2, 1)) (ha : va.category = 1) (hb : vb.category = 1) (k : am_W G y d bc bs Q (pc + 1) L (va :: vb :: va :: vb :: st) h) : am_W G y d bc bs Q pc L (va :: vb :: st) h := by
  intro p e R s m args below meth c H locs cells slots ls C hR hh hS hl
  exact lv_dup2_11 C.1.1 C.1.2.1 hd (by rw [am_v_cat]; exact ha) (by rw [am_v_cat]; exact hb) (k p e R s m args below meth c H locs cells slots ls C hR hh hS hl)
theorem am_dup2L {va : Value} (hd : decode y.2.1 pc = .ok (.dup2, 1)) (ha : va.category = 2) (k : am_W G y d bc bs Q (pc + 1) L (va :: va :: st) h) : am_W G y d bc bs Q pc L (va :: st) h := by
  intro p e R s m args below meth c H locs cells slots ls C hR hh hS hl
  exact lv_dup2_2 C.1.1 C.1.2.1 hd (by rw [am_v_cat]; exact ha) (k p e R s m args below meth c H locs cells slots ls C hR hh hS hl)
theorem am_dup2_x1L {va vb : Value} (hd : decode y.2.1 pc = .ok (.dup2_x1, 1)) (ha : va.category = 2) (hb : vb.category = 1) (k : am_W G y d bc bs Q (pc + 1) L (va :: vb :: va :: st) h) : am_W G y d bc bs Q pc L (va :: vb :: st) h := by
  intro p e R s m args below meth c H locs cells slots ls C hR hh hS hl
  exact lv_dup2_x1_2 C.1.1 C.1.2.1 hd (by rw [am_v_cat]; exact ha) (by rw [am_v_cat]; exact hb) (k p e R s m args below meth c H locs cells slots ls C hR hh hS hl)
theorem am_if_eq {x : Int32} {off : Int} {tgt : Nat} (hd : decode y.2.1 pc = .ok (.ifCond .eq off, 3)) (ht : (pc : Int) + off = (tgt : Int)) (k1 : x = 0 → am_W G y d bc bs Q tgt L (st) h) (k2 : ¬ x = 0 → am_W G y d bc bs Q (pc + 3) L (st) h) : am_W G y d bc bs Q pc L (.int x :: st) h := by
  intro p e R s m args below meth c H locs cells slots ls C hR hh hS hl
  exact lv_if_eq C.1.1 C.1.2.1 hd ht (fun q => k1 q p e R s m args below meth c H locs cells slots ls C hR hh hS hl) (fun q => k2 q p e R s m args below meth c H locs cells slots ls C hR hh hS hl)
theorem am_icmp_eq {x z : Int32} {off : Int} {tgt : Nat} (hd : decode y.2.1 pc = .ok (.if_icmp .eq off, 3)) (ht : (pc : Int) + off = (tgt : Int)) (k1 : x = z → am_W G y d bc bs Q tgt L (st) h) (k2 : ¬ x = z → am_W G y d bc bs Q (pc + 3) L (st) h) : am_W G y d bc bs Q pc L (.int z :: .int x :: st) h := by
  intro p e R s m args below meth c H locs cells slots ls C hR hh hS hl
  exact lv_icmp_eq C.1.1 C.1.2.1 hd ht (fun q => k1 q p e R s m args below meth c H locs cells slots ls C hR hh hS hl) (fun q => k2 q p e R s m args below meth c H locs cells slots ls C hR hh hS hl)
theorem am_if_ne {x : Int32} {off : Int} {tgt : Nat} (hd : decode y.2.1 pc = .ok (.ifCond .ne off, 3)) (ht : (pc : Int) + off = (tgt : Int)) (k1 : ¬ x = 0 → am_W G y d bc bs Q tgt L (st) h) (k2 : x = 0 → am_W G y d bc bs Q (pc + 3) L (st) h) : am_W G y d bc bs Q pc L (.int x :: st) h := by
  intro p e R s m args below meth c H locs cells slots ls C hR hh hS hl
  exact lv_if_ne C.1.1 C.1.2.1 hd ht (fun q => k1 q p e R s m args below meth c H locs cells slots ls C hR hh hS hl) (fun q => k2 q p e R s m args below meth c H locs cells slots ls C hR hh hS hl)
theorem am_icmp_ne {x z : Int32} {off : Int} {tgt : Nat} (hd : decode y.2.1 pc = .ok (.if_icmp .ne off, 3)) (ht : (pc : Int) + off = (tgt : Int)) (k1 : ¬ x = z → am_W G y d bc bs Q tgt L (st) h) (k2 : x = z → am_W G y d bc bs Q (pc + 3) L (st) h) : am_W G y d bc bs Q pc L (.int z :: .int x :: st) h := by
  intro p e R s m args below meth c H locs cells slots ls C hR hh hS hl
  exact lv_icmp_ne C.1.1 C.1.2.1 hd ht (fun q => k1 q p e R s m args below meth c H locs cells slots ls C hR hh hS hl) (fun q => k2 q p e R s m args below meth c H locs cells slots ls C hR hh hS hl)
theorem am_if_lt {x : Int32} {off : Int} {tgt : Nat} (hd : decode y.2.1 pc = .ok (.ifCond .lt off, 3)) (ht : (pc : Int) + off = (tgt : Int)) (k1 : x < 0 → am_W G y d bc bs Q tgt L (st) h) (k2 : ¬ x < 0 → am_W G y d bc bs Q (pc + 3) L (st) h) : am_W G y d bc bs Q pc L (.int x :: st) h := by
  intro p e R s m args below meth c H locs cells slots ls C hR hh hS hl
  exact lv_if_lt C.1.1 C.1.2.1 hd ht (fun q => k1 q p e R s m args below meth c H locs cells slots ls C hR hh hS hl) (fun q => k2 q p e R s m args below meth c H locs cells slots ls C hR hh hS hl)
theorem am_icmp_lt {x z : Int32} {off : Int} {tgt : Nat} (hd : decode y.2.1 pc = .ok (.if_icmp .lt off, 3)) (ht : (pc : Int) + off = (tgt : Int)) (k1 : x < z → am_W G y d bc bs Q tgt L (st) h) (k2 : ¬ x < z → am_W G y d bc bs Q (pc + 3) L (st) h) : am_W G y d bc bs Q pc L (.int z :: .int x :: st) h := by
  intro p e R s m args below meth c H locs cells slots ls C hR hh hS hl
  exact lv_icmp_lt C.1.1 C.1.2.1 hd ht (fun q => k1 q p e R s m args below meth c H locs cells slots ls C hR hh hS hl) (fun q => k2 q p e R s m args below meth c H locs cells slots ls C hR hh hS hl)
theorem am_if_ge {x : Int32} {off : Int} {tgt : Nat} (hd : decode y.2.1 pc = .ok (.ifCond .ge off, 3)) (ht : (pc : Int) + off = (tgt : Int)) (k1 : 0 ≤ x → am_W G y d bc bs Q tgt L (st) h) (k2 : ¬ 0 ≤ x → am_W G y d bc bs Q (pc + 3) L (st) h) : am_W G y d bc bs Q pc L (.int x :: st) h := by
  intro p e R s m args below meth c H locs cells slots ls C hR hh hS hl
  exact lv_if_ge C.1.1 C.1.2.1 hd ht (fun q => k1 q p e R s m args below meth c H locs cells slots ls C hR hh hS hl) (fun q => k2 q p e R s m args below meth c H locs cells slots ls C hR hh hS hl)
theorem am_icmp_ge {x z : Int32} {off : Int} {tgt : Nat} (hd : decode y.2.1 pc = .ok (.if_icmp .ge off, 3)) (ht : (pc : Int) + off = (tgt : Int)) (k1 : z ≤ x → am_W G y d bc bs Q tgt L (st) h) (k2 : ¬ z ≤ x → am_W G y d bc bs Q (pc + 3) L (st) h) : am_W G y d bc bs Q pc L (.int z :: .int x :: st) h := by
  intro p e R s m args below meth c H locs cells slots ls C hR hh hS hl
  exact lv_icmp_ge C.1.1 C.1.2.1 hd ht (fun q => k1 q p e R s m args below meth c H locs cells slots ls C hR hh hS hl) (fun q => k2 q p e R s m args below meth c H locs cells slots ls C hR hh hS hl)
theorem am_if_gt {x : Int32} {off : Int} {tgt : Nat} (hd : decode y.2.1 pc = .ok (.ifCond .gt off, 3)) (ht : (pc : Int) + off = (tgt : Int)) (k1 : 0 < x → am_W G y d bc bs Q tgt L (st) h) (k2 : ¬ 0 < x → am_W G y d bc bs Q (pc + 3) L (st) h) : am_W G y d bc bs Q pc L (.int x :: st) h := by
  intro p e R s m args below meth c H locs cells slots ls C hR hh hS hl
  exact lv_if_gt C.1.1 C.1.2.1 hd ht (fun q => k1 q p e R s m args below meth c H locs cells slots ls C hR hh hS hl) (fun q => k2 q p e R s m args below meth c H locs cells slots ls C hR hh hS hl)
theorem am_icmp_gt {x z : Int32} {off : Int} {tgt : Nat} (hd : decode y.2.1 pc = .ok (.if_icmp .gt off, 3)) (ht : (pc : Int) + off = (tgt : Int)) (k1 : z < x → am_W G y d bc bs Q tgt L (st) h) (k2 : ¬ z < x → am_W G y d bc bs Q (pc + 3) L (st) h) : am_W G y d bc bs Q pc L (.int z :: .int x :: st) h := by
  intro p e R s m args below meth c H locs cells slots ls C hR hh hS hl
  exact lv_icmp_gt C.1.1 C.1.2.1 hd ht (fun q => k1 q p e R s m args below meth c H locs cells slots ls C hR hh hS hl) (fun q => k2 q p e R s m args below meth c H locs cells slots ls C hR hh hS hl)
theorem am_if_le {x : Int32} {off : Int} {tgt : Nat} (hd : decode y.2.1 pc = .ok (.ifCond .le off, 3)) (ht : (pc : Int) + off = (tgt : Int)) (k1 : x ≤ 0 → am_W G y d bc bs Q tgt L (st) h) (k2 : ¬ x ≤ 0 → am_W G y d bc bs Q (pc + 3) L (st) h) : am_W G y d bc bs Q pc L (.int x :: st) h := by
  intro p e R s m args below meth c H locs cells slots ls C hR hh hS hl
  exact lv_if_le C.1.1 C.1.2.1 hd ht (fun q => k1 q p e R s m args below meth c H locs cells slots ls C hR hh hS hl) (fun q => k2 q p e R s m args below meth c H locs cells slots ls C hR hh hS hl)
theorem am_icmp_le {x z : Int32} {off : Int} {tgt : Nat} (hd : decode y.2.1 pc = .ok (.if_icmp .le off, 3)) (ht : (pc : Int) + off = (tgt : Int)) (k1 : x ≤ z → am_W G y d bc bs Q tgt L (st) h) (k2 : ¬ x ≤ z → am_W G y d bc bs Q (pc + 3) L (st) h) : am_W G y d bc bs Q pc L (.int z :: .int x :: st) h := by
  intro p e R s m args below meth c H locs cells slots ls C hR hh hS hl
  exact lv_icmp_le C.1.1 C.1.2.1 hd ht (fun q => k1 q p e R s m args below meth c H locs cells slots ls C hR hh hS hl) (fun q => k2 q p e R s m args below meth c H locs cells slots ls C hR hh hS hl)
theorem am_goto {off : Int} {tgt : Nat} (hd : decode y.2.1 pc = .ok (.goto off, 3)) (ht : (pc : Int) + off = (tgt : Int)) (k : am_W G y d bc bs Q tgt L (st) h) : am_W G y d bc bs Q pc L (st) h := by
  intro p e R s m args below meth c H locs cells slots ls C hR hh hS hl
  exact lv_goto C.1.1 C.1.2.1 hd ht (k p e R s m args below meth c H locs cells slots ls C hR hh hS hl)
theorem am_tableOut {dflt lo hi : Int} {offs : Array Int} {len : Nat} {x : Int32} {tgt : Nat} (hd : decode y.2.1 pc = .ok (.tableswitch dflt lo hi offs, len)) (hx : x.toInt < lo ∨ hi < x.toInt) (ht : (pc : Int) + dflt = (tgt : Int)) (k : am_W G y d bc bs Q tgt L (st) h) : am_W G y d bc bs Q pc L (.int x :: st) h := by
  intro p e R s m args below meth c H locs cells slots ls C hR hh hS hl
  exact lv_tableOut C.1.1 C.1.2.1 hd hx ht (k p e R s m args below meth c H locs cells slots ls C hR hh hS hl)
theorem am_tableIn {dflt lo hi : Int} {offs : Array Int} {len : Nat} {x : Int32} {off : Int} {tgt : Nat} (hd : decode y.2.1 pc = .ok (.tableswitch dflt lo hi offs, len)) (h1 : ¬ x.toInt < lo) (h2 : ¬ hi < x.toInt) (ho : offs[(x.toInt - lo).toNat]? = some off) (ht : (pc : Int) + off = (tgt : Int)) (k : am_W G y d bc bs Q tgt L (st) h) : am_W G y d bc bs Q pc L (.int x :: st) h := by
  intro p e R s m args below meth c H locs cells slots ls C hR hh hS hl
  exact lv_tableIn C.1.1 C.1.2.1 hd h1 h2 ho ht (k p e R s m args below meth c H locs cells slots ls C hR hh hS hl)
theorem am_loc {L' : List (Nat × Value)} (hq : L'.all (fun q => decide (q.1 ∈ L.map Prod.fst)) = true ∨ True) (hs : ∀ q ∈ L', L.lookup q.1 = some q.2) (k : am_W G y d bc bs Q pc L' (st) h) : am_W G y d bc bs Q pc L (st) h := by
  intro p e R s m args below meth c H locs cells slots ls C hR hh hS hl
  refine k p e R s m args below meth c H locs cells slots ls C hR hh hS ⟨hl.1, hl.2.1, fun q hq => ?_⟩
  obtain ⟨q', hq', rfl⟩ := List.mem_map.mp hq
  exact am_at hl (hs q' hq')
theorem am_sub {bc' bs' : Nat} (h1 : bc' ≤ bc) (h2 : bs' ≤ bs) (k : am_W G y d bc' bs' Q pc L st h) : am_W G y d bc bs Q pc L (st) h := by
  intro p e R s m args below meth c H locs cells slots ls C hR hh hS hl
  exact k p e R s m args below meth c H locs cells slots ls C ⟨hR.1, hR.2.1, by have := hR.2.2.1; omega, by have := hR.2.2.2; omega⟩ hh hS hl
theorem am_mono {Q' : am_O → am_H → Prop} (hq : ∀ o h, Q' o h → Q o h) (k : am_W G y d bc bs Q' pc L st h) : am_W G y d bc bs Q pc L (st) h := by
  intro p e R s m args below meth c H locs cells slots ls C hR hh hS hl T hT X
  obtain ⟨t, a, o, Lc, kk, n, ao, h', b1, b2, b3, b4, b5, b6, b7, b8, b9, b10, b11⟩ := k p e R s m args below meth c H locs cells slots ls C hR hh hS hl T hT X
  exact ⟨t, a, o, Lc, kk, n, ao, h', b1, b2, b3, b4, b5, b6, b7, b8, b9, b10, hq _ _ b11⟩
end AMR
end
section
theorem am_wsat {G : am_G} {h : am_H} {a : Nat} {e : am_E} (ha : h[a]? = some e) : (am_ws G (am_gz G) h)[a]? = some (am_gz G + a, am_e G e) := by rw [am_ws_get, ha]; rfl
theorem am_R.set {G : am_G} {h : am_H} {H H1 : Heap} {a : Nat} {e0 e : am_E} (hh : am_R G h H) (ha : h[a]? = some e0) (he : va_at (am_gD G) am_cl (am_gz G + a, am_e G e) H1) (z : H1.size = H.size) (oq : ∀ q : Nat, q ≠ am_gz G + a → H1[q]? = H[q]?) : am_R G (h.set a e) H1 :=
  ⟨by rw [z, hh.1, List.length_set], by rw [am_ws_set]; exact hh.2.set (am_D G h) (am_wsat ha) he oq⟩
theorem am_R.push {G : am_G} {h : am_H} {H H1 : Heap} {e : am_E} (hh : am_R G h H) (he : va_at (am_gD G) am_cl (am_gz G + h.length, am_e G e) H1) (z : H1.size = H.size + 1) (oq : ∀ q : Nat, q < H.size → H1[q]? = H[q]?) : am_R G (h ++ [e]) H1 := by
  refine ⟨by rw [z, hh.1, List.length_append]; simp; omega, ?_⟩
  rw [am_ws_app]
  refine (hh.2.kept (fun k q hk => oq q.1 ((hh.2 k q hk).lt))).app (fun k x hx => ?_)
  have hz : k < 1 := (List.getElem?_eq_some_iff.mp hx).1
  rw [show k = 0 by omega] at hx
  cases hx
  exact he
theorem am_S.put {G : am_G} {H0 H H1 : Heap} {locs : List Loc} {a i : Nat} (hS : va_S (am_A G) H0 H locs) (z : H1.size = H.size) (oq : ∀ q : Nat, q ≠ am_gz G + a → H1[q]? = H[q]?) : va_S (am_A G) H0 H1 (locs ++ [⟨am_gz G + a, i⟩]) :=
  hS.put z oq (show am_gz G ≤ am_gz G + a by omega)
theorem am_S.push {G : am_G} {H0 H H1 : Heap} {locs : List Loc} (hS : va_S (am_A G) H0 H locs) (z : H1.size = H.size + 1) (oq : ∀ q : Nat, q < H.size → H1[q]? = H[q]?) : va_S (am_A G) H0 H1 locs :=
  ⟨Nat.le_trans hS.1 (by omega), fun x h1 h2 => (oq x (Nat.lt_of_lt_of_le h1 hS.1)).trans (hS.2.1 x h1 h2), hS.2.2⟩
/-- what is known of the class number ci -/
def am_F (ci : Nat) (Cn : String) (T : u_T) (N : Nat) (ty : Nat → FieldType) : Prop :=
  am_cl[ci]? = some (Cn, T, N) ∧ (∀ w ∈ u_ws Cn T N, w ∈ am_T) ∧ (∀ k, k < N → parseFieldDescriptor (T k).2.2.1 = some (ty k)) ∧ ∀ a, a < N → ∀ b, b < N → a ≠ b → (T a).2.1 ≠ (T b).2.1
section AMH
variable {G : am_G} {y : am_M} {d bc bs : Nat} {Q : am_O → am_H → Prop} {pc : Nat} {L : List (Nat × Value)} {st : List Value} {h : am_H}
variable {ci N : Nat} {Cn : String} {T : u_T} {ty : Nat → FieldType}
theorem am_get (F : am_F ci Cn T N ty) (k : Nat) (hk : k < N) {a index : Nat} {fs : List Value} {v : Value} (hd : decode y.2.1 pc = .ok (.getfield index, 3)) (hw : Cond.fieldLink y.1.cls index (T k).1 (T k).2.1 (T k).2.2.1 ∈ am_T) (ha : h[a]? = some (.inr (ci, fs))) (hv : fs[k]? = some v) (kk : am_W G y d bc bs Q (pc + 3) L (v :: st) h) : am_W G y d bc bs Q pc L (.ref (a + 1) :: st) h := by
  intro p e R s m args below meth c H locs cells slots ls C hR hh hS hl
  exact va_get C.1.1 C.1.2.1 C.1.2.2.2.2 F.2.1 C.1.2.2.2.1 C.2.1 hh.2 a (am_wsat ha) F.1 k hk (C.1.2.2.2.2 _ hw) (fun _ q => q) (by rw [List.getElem?_map, hv]; rfl) hd (kk p e R s m args below meth c H locs cells slots ls C hR hh hS hl)
theorem am_put (F : am_F ci Cn T N ty) (k : Nat) (hk : k < N) {a index : Nat} {fs : List Value} {v : Value} (hd : decode y.2.1 pc = .ok (.putfield index, 3)) (hw : Cond.fieldLink y.1.cls index (T k).1 (T k).2.1 (T k).2.2.1 ∈ am_T) (hfin : (T k).2.2.2 = false) (ha : h[a]? = some (.inr (ci, fs))) (hl' : k < fs.length) (hn : narrow (ty k) (am_v G v) = am_v G v) (hf : fits (ty k) (am_v G v) = true) (kk : am_W G y d bc bs Q (pc + 3) L (st) (h.set a (.inr (ci, fs.set k v)))) : am_W G y d bc bs Q pc L (v :: .ref (a + 1) :: st) h := by
  intro p e R s m args below meth c H locs cells slots ls C hR hh hS hl
  have hc := F.1
  have hap := va_apart (own := y.1.cls) C.1.2.2.2.2 F.2.1 ty F.2.2.1 F.2.2.2 C.2.1 hc
  obtain ⟨r, h1, cell, q1, q2, q3, q4⟩ := hh.2 a _ (am_wsat ha)
  have hr : r = (Cn, T, N) := Option.some.inj (h1.symm.trans hc)
  subst hr
  obtain ⟨hSl, hfc, kC, hkC, hkind⟩ := C.2.1.1 ci _ hc
  obtain ⟨cf, kf, fi, f, hi, hsl⟩ := hSl k hk
  have hlay := C.1.2.2.2.2 _ (F.2.1 _ (u_in_lay hk))
  unfold u_lay at hlay
  rw [if_neg (by rw [hfin]; decide)] at hlay
  have hst := (u_facts hfc hkC (u_lays C.1.2.2.2.2 F.2.1 hk) hi).1
  have h6 := u_store hfc hkC hkind hlay hi (F.2.2.1 k hk) hn hf
  refine W.putK C.1.1 C.1.2.1 (f := f) ⟨C.1.2.2.2.1, C.1.2.2.2.2 _ hw, ⟨_, _, _, hi⟩, hst⟩ (by rw [q2]; exact h6) q1 q3 (by rw [hsl]; exact k2_hasslot (q4 k hk)) rfl rfl hd fun H' e1 e2 e3 => ?_
  rw [hsl] at e1 ⊢
  refine kk p e R s m args below meth c H' _ cells slots ls C hR (hh.set ha ?_ e2 e3) (am_S.put hS e2 e3) hl
  refine ⟨_, hc, t_OB.to (V := updV (vp_V (fs.map (am_v G))) k (am_v G v)) ⟨_, e1, q2, q3, t_set q4 hap hk _⟩ (fun j _ => ?_)⟩
  show _ = vp_V ((fs.set k v).map (am_v G)) j
  rw [List.map_set]
  exact vp_updV_set (by rw [List.length_map]; exact hl') _ j
theorem am_putF (F : am_F ci Cn T N ty) (k : Nat) (hk : k < N) {a index : Nat} {fs : List Value} {v : Value} (hd : decode y.2.1 pc = .ok (.putfield index, 3)) (hw : Cond.fieldLink y.1.cls index (T k).1 (T k).2.1 (T k).2.2.1 ∈ am_T) (hfin : (T k).2.2.2 = true) (hin : y.1.name = "<init>") (hdecl : (T k).1 = y.1.cls) (ha : h[a]? = some (.inr (ci, fs))) (hl' : k < fs.length) (hn : narrow (ty k) (am_v G v) = am_v G v) (hf : fits (ty k) (am_v G v) = true) (kk : am_W G y d bc bs Q (pc + 3) L (st) (h.set a (.inr (ci, fs.set k v)))) : am_W G y d bc bs Q pc L (v :: .ref (a + 1) :: st) h := by
  intro p e R s m args below meth c H locs cells slots ls C hR hh hS hl
  have hc := F.1
  have hap := va_apart (own := y.1.cls) C.1.2.2.2.2 F.2.1 ty F.2.2.1 F.2.2.2 C.2.1 hc
  obtain ⟨r, h1, cell, q1, q2, q3, q4⟩ := hh.2 a _ (am_wsat ha)
  have hr : r = (Cn, T, N) := Option.some.inj (h1.symm.trans hc)
  subst hr
  obtain ⟨hSl, hfc, kC, hkC, hkind⟩ := C.2.1.1 ci _ hc
  obtain ⟨cf, kf, fi, f, hi, hsl⟩ := hSl k hk
  have hlay := C.1.2.2.2.2 _ (F.2.1 _ (u_in_lay hk))
  unfold u_lay at hlay
  rw [if_pos hfin] at hlay
  have hst := (u_facts hfc hkC (u_lays C.1.2.2.2.2 F.2.1 hk) hi).1
  have hcf : m.cls = cf := by
    obtain ⟨_, _, c', _, _, _, -, -, hf', -, -, -, hown2, -⟩ := Cond.laysFinal_spec hlay
    have e1 : c' = cf := by have := hi.symm.trans hf'; simp at this; exact this.1.symm
    rw [hdecl] at hown2
    rw [← e1]; exact Option.some.inj (C.1.2.2.2.1.symm.trans hown2)
  have h6 := u_fits hfc hkC hkind (Or.inr hlay) hi (F.2.2.1 k hk) hn hf
  refine W.putFinK C.1.1 C.1.2.1 C.1.2.2.2.1 (C.1.2.2.2.2 _ hw) hi hst hcf (C.2.2.2.2.2.1.trans hin) (by rw [q2]; exact h6) q1 q3 (by rw [hsl]; exact k2_hasslot (q4 k hk)) rfl rfl hd fun H' e1 e2 e3 => ?_
  rw [hsl] at e1 ⊢
  refine kk p e R s m args below meth c H' _ cells slots ls C hR (hh.set ha ?_ e2 e3) (am_S.put hS e2 e3) hl
  refine ⟨_, hc, t_OB.to (V := updV (vp_V (fs.map (am_v G))) k (am_v G v)) ⟨_, e1, q2, q3, t_set q4 hap hk _⟩ (fun j _ => ?_)⟩
  show _ = vp_V ((fs.set k v).map (am_v G)) j
  rw [List.map_set]
  exact vp_updV_set (by rw [List.length_map]; exact hl') _ j
theorem am_iald {a n : Nat} {f : Nat → Int32} {i : Int32} (hd : decode y.2.1 pc = .ok (.iaload, 1)) (ha : h[a]? = some (.inl (0, n, .inl f))) (hi : vp_in i n) (k : am_W G y d bc bs Q (pc + 1) L (.int (f i.toNatClampNeg) :: st) h) : am_W G y d bc bs Q pc L (.int i :: .ref (a + 1) :: st) h := by
  intro p e R s m args below meth c H locs cells slots ls C hR hh hS hl
  exact va_iald C.1.1 C.1.2.1 C.2.1 hh.2 a 0 (am_wsat ha) rfl hi hd (k p e R s m args below meth c H locs cells slots ls C hR hh hS hl)
theorem am_ialdN (j : Nat) {a n : Nat} {f : Nat → Int32} {i : Int32} (hd : decode y.2.1 pc = .ok (.iaload, 1)) (ha : h[a]? = some (.inl (0, n, .inl f))) (hj : i = nI j) (hlt : j < n) (hn : n < 2 ^ 31) (k : am_W G y d bc bs Q (pc + 1) L (.int (f j) :: st) h) : am_W G y d bc bs Q pc L (.int i :: .ref (a + 1) :: st) h := by
  subst hj
  refine am_iald hd ha (vp_in_nI hlt hn) ?_
  rw [nI_clamp (by omega)]
  exact k
theorem am_lald {a n : Nat} {f : Nat → Int64} {i : Int32} (hd : decode y.2.1 pc = .ok (.laload, 1)) (ha : h[a]? = some (.inl (1, n, .inr (.inl f)))) (hi : vp_in i n) (k : am_W G y d bc bs Q (pc + 1) L (.long (f i.toNatClampNeg) :: st) h) : am_W G y d bc bs Q pc L (.int i :: .ref (a + 1) :: st) h := by
  intro p e R s m args below meth c H locs cells slots ls C hR hh hS hl
  exact va_lald C.1.1 C.1.2.1 C.2.1 hh.2 a 1 (am_wsat ha) rfl hi hd (k p e R s m args below meth c H locs cells slots ls C hR hh hS hl)
theorem am_laldN (j : Nat) {a n : Nat} {f : Nat → Int64} {i : Int32} (hd : decode y.2.1 pc = .ok (.laload, 1)) (ha : h[a]? = some (.inl (1, n, .inr (.inl f)))) (hj : i = nI j) (hlt : j < n) (hn : n < 2 ^ 31) (k : am_W G y d bc bs Q (pc + 1) L (.long (f j) :: st) h) : am_W G y d bc bs Q pc L (.int i :: .ref (a + 1) :: st) h := by
  subst hj
  refine am_lald hd ha (vp_in_nI hlt hn) ?_
  rw [nI_clamp (by omega)]
  exact k
theorem am_zald {a n : Nat} {f : Nat → Int32} {i : Int32} (hd : decode y.2.1 pc = .ok (.baload, 1)) (ha : h[a]? = some (.inl (2, n, .inl f))) (hi : vp_in i n) (k : am_W G y d bc bs Q (pc + 1) L (.int (f i.toNatClampNeg) :: st) h) : am_W G y d bc bs Q pc L (.int i :: .ref (a + 1) :: st) h := by
  intro p e R s m args below meth c H locs cells slots ls C hR hh hS hl
  exact va_zald C.1.1 C.1.2.1 C.2.1 hh.2 a 2 (am_wsat ha) rfl hi hd (k p e R s m args below meth c H locs cells slots ls C hR hh hS hl)
theorem am_zaldN (j : Nat) {a n : Nat} {f : Nat → Int32} {i : Int32} (hd : decode y.2.1 pc = .ok (.baload, 1)) (ha : h[a]? = some (.inl (2, n, .inl f))) (hj : i = nI j) (hlt : j < n) (hn : n < 2 ^ 31) (k : am_W G y d bc bs Q (pc + 1) L (.int (f j) :: st) h) : am_W G y d bc bs Q pc L (.int i :: .ref (a + 1) :: st) h := by
  subst hj
  refine am_zald hd ha (vp_in_nI hlt hn) ?_
  rw [nI_clamp (by omega)]
  exact k
theorem am_iast {a n : Nat} {f : Nat → Int32} {i : Int32} {x : Int32} (hd : decode y.2.1 pc = .ok (.iastore, 1)) (ha : h[a]? = some (.inl (0, n, .inl f))) (hi : vp_in i n) (k : am_W G y d bc bs Q (pc + 1) L (st) (h.set a (.inl (0, n, .inl (upd f i.toNatClampNeg x))))) : am_W G y d bc bs Q pc L (.int x :: .int i :: .ref (a + 1) :: st) h := by
  intro p e R s m args below meth c H locs cells slots ls C hR hh hS hl
  refine W.iast C.1.1 C.1.2.1 (hh.2 a _ (am_wsat ha)) ((C.2.1.2 0 _ rfl).1 n (fun j => .int (f j))) (fun q => by cases q) (by show ¬ (i < 0 ∨ (arrV _ _ _).slots.size ≤ _); rw [arrV_size]; exact hi) rfl rfl hd fun H1 e1 z oq => ?_
  refine k p e R s m args below meth c H1 _ cells slots ls C hR (hh.set ha ?_ z oq) (am_S.put hS z oq) hl
  show H1[_]? = some (vp_cell _ _)
  rw [e1]
  rw [vp_cell_i, vp_cell_i, arrV_store]
  congr 2
  funext q
  by_cases hq : q = i.toNatClampNeg
  · subst hq
    simp [updV, upd]
    
  · simp [updV, upd, hq]
theorem am_last {a n : Nat} {f : Nat → Int64} {i : Int32} {x : Int64} (hd : decode y.2.1 pc = .ok (.lastore, 1)) (ha : h[a]? = some (.inl (1, n, .inr (.inl f)))) (hi : vp_in i n) (k : am_W G y d bc bs Q (pc + 1) L (st) (h.set a (.inl (1, n, .inr (.inl (vp_updL f i.toNatClampNeg x)))))) : am_W G y d bc bs Q pc L (.long x :: .int i :: .ref (a + 1) :: st) h := by
  intro p e R s m args below meth c H locs cells slots ls C hR hh hS hl
  refine W.last C.1.1 C.1.2.1 (hh.2 a _ (am_wsat ha)) ((C.2.1.2 1 _ rfl).1 n (fun j => .long (f j))) (fun q => by cases q) (by show ¬ (i < 0 ∨ (arrV _ _ _).slots.size ≤ _); rw [arrV_size]; exact hi) rfl rfl hd fun H1 e1 z oq => ?_
  refine k p e R s m args below meth c H1 _ cells slots ls C hR (hh.set ha ?_ z oq) (am_S.put hS z oq) hl
  show H1[_]? = some (vp_cell _ _)
  rw [e1]
  rw [vp_cell_l, vp_cell_l, arrV_store]
  congr 2
  funext q
  by_cases hq : q = i.toNatClampNeg
  · subst hq
    simp [updV, vp_updL]
    
  · simp [updV, vp_updL, hq]
theorem am_zast {a n : Nat} {f : Nat → Int32} {i : Int32} {x : Int32} (hd : decode y.2.1 pc = .ok (.bastore, 1)) (ha : h[a]? = some (.inl (2, n, .inl f))) (hi : vp_in i n) (k : am_W G y d bc bs Q (pc + 1) L (st) (h.set a (.inl (2, n, .inl (upd f i.toNatClampNeg (vp_nar .boolean x)))))) : am_W G y d bc bs Q pc L (.int x :: .int i :: .ref (a + 1) :: st) h := by
  intro p e R s m args below meth c H locs cells slots ls C hR hh hS hl
  refine W.zast C.1.1 C.1.2.1 (hh.2 a _ (am_wsat ha)) ((C.2.1.2 2 _ rfl).1 n (fun j => .int (f j))) (fun q => by cases q) (by show ¬ (i < 0 ∨ (arrV _ _ _).slots.size ≤ _); rw [arrV_size]; exact hi) rfl rfl hd fun H1 e1 z oq => ?_
  refine k p e R s m args below meth c H1 _ cells slots ls C hR (hh.set ha ?_ z oq) (am_S.put hS z oq) hl
  show H1[_]? = some (vp_cell _ _)
  rw [e1]
  rw [vp_cell_i, vp_cell_i, arrV_store]
  congr 2
  funext q
  by_cases hq : q = i.toNatClampNeg
  · subst hq
    simp [updV, upd, vp_nar]
    try rfl
  · simp [updV, upd, hq]
theorem am_iastN (j : Nat) {a n : Nat} {f : Nat → Int32} {i : Int32} {x : Int32} (hd : decode y.2.1 pc = .ok (.iastore, 1)) (ha : h[a]? = some (.inl (0, n, .inl f))) (hj : i = nI j) (hlt : j < n) (hn : n < 2 ^ 31) (k : am_W G y d bc bs Q (pc + 1) L (st) (h.set a (.inl (0, n, .inl (upd f j x))))) : am_W G y d bc bs Q pc L (.int x :: .int i :: .ref (a + 1) :: st) h := by
  subst hj
  refine am_iast hd ha (vp_in_nI hlt hn) ?_
  rw [nI_clamp (by omega)]
  exact k
theorem am_lastN (j : Nat) {a n : Nat} {f : Nat → Int64} {i : Int32} {x : Int64} (hd : decode y.2.1 pc = .ok (.lastore, 1)) (ha : h[a]? = some (.inl (1, n, .inr (.inl f)))) (hj : i = nI j) (hlt : j < n) (hn : n < 2 ^ 31) (k : am_W G y d bc bs Q (pc + 1) L (st) (h.set a (.inl (1, n, .inr (.inl (vp_updL f j x)))))) : am_W G y d bc bs Q pc L (.long x :: .int i :: .ref (a + 1) :: st) h := by
  subst hj
  refine am_last hd ha (vp_in_nI hlt hn) ?_
  rw [nI_clamp (by omega)]
  exact k
theorem am_zastN (j : Nat) {a n : Nat} {f : Nat → Int32} {i : Int32} {x : Int32} (hd : decode y.2.1 pc = .ok (.bastore, 1)) (ha : h[a]? = some (.inl (2, n, .inl f))) (hj : i = nI j) (hlt : j < n) (hn : n < 2 ^ 31) (hx : vp_nar .boolean x = x) (k : am_W G y d bc bs Q (pc + 1) L (st) (h.set a (.inl (2, n, .inl (upd f j x))))) : am_W G y d bc bs Q pc L (.int x :: .int i :: .ref (a + 1) :: st) h := by
  subst hj
  refine am_zast hd ha (vp_in_nI hlt hn) ?_
  rw [nI_clamp (by omega), hx]
  exact k
theorem am_alen {a t : Nat} {x : vp_A} {v : Int32} (hd : decode y.2.1 pc = .ok (.arraylength, 1)) (ha : h[a]? = some (.inl (t, x))) (ht : t < 3) (hv : Int32.ofNat x.1 = v) (k : am_W G y d bc bs Q (pc + 1) L (.int v :: st) h) : am_W G y d bc bs Q pc L (.ref (a + 1) :: st) h := by
  intro p e R s m args below meth c H locs cells slots ls C hR hh hS hl
  rcases (show t = 0 ∨ t = 1 ∨ t = 2 by omega) with rfl | rfl | rfl
  · exact va_alen C.1.1 C.1.2.1 C.2.1 hh.2 a 0 (am_wsat ha) rfl hv hd (k p e R s m args below meth c H locs cells slots ls C hR hh hS hl)
  · exact va_alen C.1.1 C.1.2.1 C.2.1 hh.2 a 1 (am_wsat ha) rfl hv hd (k p e R s m args below meth c H locs cells slots ls C hR hh hS hl)
  · exact va_alen C.1.1 C.1.2.1 C.2.1 hh.2 a 2 (am_wsat ha) rfl hv hd (k p e R s m args below meth c H locs cells slots ls C hR hh hS hl)
/-- the script -/
theorem am_sld {i : Int32} (hd : decode y.2.1 pc = .ok (.iaload, 1)) (hi : vp_in i (am_gn G)) (k : am_W G y d bc bs Q (pc + 1) L (.int (am_gx G i.toNatClampNeg) :: st) h) : am_W G y d bc bs Q pc L (.int i :: .ref 0 :: st) h := by
  intro p e R s m args below meth c H locs cells slots ls C hR hh hS hl
  have C' := C
  obtain ⟨-, -, -, -, -, -, hz, hX, hb, -⟩ := C'
  exact va_sld C.1.1 C.1.2.1 hX (Nat.lt_of_lt_of_le hb hz) (Nat.not_le.mpr hb) hS hi hd (k p e R s m args below meth c H locs cells slots ls C hR hh hS hl)
theorem am_slen (hd : decode y.2.1 pc = .ok (.arraylength, 1)) (k : am_W G y d bc bs Q (pc + 1) L (.int (nI (am_gn G)) :: st) h) : am_W G y d bc bs Q pc L (.ref 0 :: st) h := by
  intro p e R s m args below meth c H locs cells slots ls C hR hh hS hl
  have C' := C
  obtain ⟨-, -, -, -, -, -, hz, hX, hb, -⟩ := C'
  exact va_slen C.1.1 C.1.2.1 hX (Nat.lt_of_lt_of_le hb hz) (Nat.not_le.mpr hb) hS hd (k p e R s m args below meth c H locs cells slots ls C hR hh hS hl)
theorem am_new (F : am_F ci Cn T N ty) {index : Nat} {fs : List Value} (hd : decode y.2.1 pc = .ok (.new index, 3)) (hw : Cond.classLink y.1.cls index Cn ∈ am_T) (hw2 : Cond.instantiable Cn N ∈ am_T) (hw3 : Cond.initialized Cn ∈ am_T) (hfs : ∀ j, j < N → defaultValue (ty j) = vp_V (fs.map (am_v G)) j) (hb1 : 1 ≤ bc) (hb2 : N ≤ bs) (k : am_W G y d (bc - 1) (bs - N) Q (pc + 3) L (.ref (h.length + 1) :: st) (h ++ [.inr (ci, fs)])) : am_W G y d bc bs Q pc L (st) h := by
  intro p e R s m args below meth c H locs cells slots ls C hR hh hS hl
  have hc := F.1
  have hKn := C.2.1.1 ci _ hc
  obtain ⟨r1, r2, r3, r4⟩ := hR
  refine W.newcK C.1.1 C.1.2.1 C.1.2.2.2.1 (C.1.2.2.2.2 _ hw) (C.1.2.2.2.2 _ hw2) (C.1.2.2.2.2 _ hw3) rfl hd (by omega) (by omega) hKn.2.1 hh.1 fun H1 kC hkC e1 z1 o1 => ?_
  exact k p e R s m args below meth c H1 locs (cells + 1) (slots + N) ls C ⟨r1, r2, by omega, by omega⟩ (hh.push ⟨_, hc, (u_born ty C.1.2.2.2.2 F.2.1 hKn hkC e1 F.2.2.1).to hfs⟩ (by rw [z1, hh.1]) (fun q hq => o1 q (by rw [← hh.1]; exact hq))) (am_S.push hS (by rw [z1, hh.1]) (fun q hq => o1 q (by rw [← hh.1]; exact hq))) hl
theorem am_newa {atype : ArrayType} {t NN : Nat} {n : Int32} {a0 : vp_A} (hd : decode y.2.1 pc = .ok (.newarray atype, 2)) (hw : Cond.arrayClass (newarray.typeOf atype) ∈ am_T) (ht : (am_tys G)[t]? = some (am_gA G t, newarray.typeOf atype)) (ha0 : ∀ cA : ClassId, vp_cell cA a0 = arrV cA NN (fun _ => defaultValue (newarray.typeOf atype))) (hn : n = nI NN) (hN : NN ≤ 1000000) (hbytes : NN * componentBytes (newarray.typeOf atype) ≤ 536870912) (hb1 : 1 ≤ bc) (hb2 : NN ≤ bs) (k : am_W G y d (bc - 1) (bs - NN) Q (pc + 2) L (.ref (h.length + 1) :: st) (h ++ [.inl (t, a0)])) : am_W G y d bc bs Q pc L (.int n :: st) h := by
  intro p e R s m args below meth c H locs cells slots ls C hR hh hS hl
  obtain ⟨r1, r2, r3, r4⟩ := hR
  subst hn
  refine va_newaK C.1.1 C.1.2.1 (C.1.2.2.2.2 _ hw) rfl hd rfl (nI_pos (by omega)) (nI_clamp (by omega)) hbytes (by omega) (by omega) hh.1 fun H1 cA e1 z1 o1 hAr hNm => ?_
  have hcA : cA = am_gA G t := by
    have h2 := (C.2.1.2 t _ ht).2
    have h3 : s.vm.findClass ("[" ++ (newarray.typeOf atype).toString) = some (am_gA G t) := by cases atype <;> exact h2
    exact Option.some.inj (hNm.symm.trans h3)
  subst hcA
  refine k p e R s m args below meth c H1 locs (cells + 1) (slots + NN) ls C ⟨r1, r2, by omega, by omega⟩ (hh.push ?_ (by rw [z1, hh.1]) (fun q hq => o1 q (by rw [← hh.1]; exact hq))) (am_S.push hS (by rw [z1, hh.1]) (fun q hq => o1 q (by rw [← hh.1]; exact hq))) hl
  show H1[am_gz G + h.length]? = some (vp_cell _ _)
  rw [ha0]
  exact e1
theorem am_objInit {index a : Nat} (hd : decode y.2.1 pc = .ok (.invokespecial index, 3)) (hw1 : Cond.methodLink y.1.cls index Lib.objectInit ∈ am_T) (hw2 : Cond.instanceMethod Lib.objectInit ∈ am_T) (hw3 : Cond.code Lib.objectInit ⟨#[0xb1]⟩ 1 none ∈ am_T) (hd1 : 1 ≤ d) (hst : (st.map fun v => v.category).sum ≤ 20) (k : am_W G y d bc bs Q (pc + 3) L (st) h) : am_W G y d bc bs Q pc L (.ref (a + 1) :: st) h := by
  intro p e R s m args below meth c H locs cells slots ls C hR hh hS hl
  obtain ⟨r1, r2, r3, r4⟩ := id hR
  refine W.objInit C.1.1 C.1.2.1 C.1.2.2.2.1 (C.1.2.2.2.2 _ hw1) (C.1.2.2.2.2 _ hw2) (C.1.2.2.2.2 _ hw3) rfl (by rw [C.1.2.2.1]; exact hl.1) (a := am_gz G + a) (rest := st.map (am_v G)) rfl hd (by omega) ?_ (k p e R s m args below meth c H locs cells slots ls C hR hh hS hl)
  have e1 : ((st.map (am_v G)).map fun v => v.category) = st.map fun v => v.category := by
    rw [List.map_map]; exact List.map_congr_left (fun v _ => am_v_cat G v)
  show 2 * 0 + _ + 12 ≤ _
  rw [e1]
  omega
theorem am_end {p : Program} {e : Env} {R : Room} {s : State} {m : MethodId} {args : Array Value} {below : List Frame} {meth : Method} {c : Code} {H : Heap} {locs : List Loc} {cells slots : Nat} {g : JFrame} {v : Option Value} {b1 b2 : Nat}
    (C : am_C G y p s m args meth c) (hR : am_Rm d b1 b2 R cells slots) (hh : am_R G h H) (hS : va_S (am_A G) s.heap H locs) (hq : Q (.inl v) h)
    (w : W p G.1 e R s m args below meth c H locs cells slots (MQ below (fun _ _ o t => o = .returned (v.map (am_v G)) ∧ t.heap = H) args s cells slots (am_A G)) g) : W p G.1 e R s m args below meth c H locs cells slots (am_Z G Q R s below) g := by
  intro T hT X
  obtain ⟨t, a, o, q1, q2, ⟨q3, q4⟩, Lc, ⟨-, q5, q6⟩, q7⟩ := w T hT X
  obtain ⟨r1, r2, r3, r4⟩ := hR
  refine ⟨t, a, o, Lc, cells, slots, .inl v, h, q1, q2, q5, q6, by omega, by omega, q7, fun q hq => ?_, by rw [q4]; exact hh, q3, hq⟩
  rw [q4]
  exact hS.2.1 q (Nat.lt_of_lt_of_le hq C.2.2.2.2.2.2.1) (Nat.not_le.mpr hq)
theorem am_iret {v : Int32} (hd : decode y.2.1 pc = .ok (.ireturn, 1)) (hr : y.2.2.2.1 = some .int) (hq : Q (.inl (some (.int v))) h) : am_W G y d bc bs Q pc L ([.int v]) h := by
  intro p e R s m args below meth c H locs cells slots ls C hR hh hS hl
  exact am_end C hR hh hS hq (W.iret C.1.1 C.1.2.1 (C.2.2.1.trans hr) (fun t ht _ => ⟨rfl, ht⟩) hS.2.2 hd C.2.2.2.1)
theorem am_zret {v : Int32} (hd : decode y.2.1 pc = .ok (.ireturn, 1)) (hr : y.2.2.2.1 = some .boolean) (hv : narrow .boolean (.int v) = .int v) (hq : Q (.inl (some (.int v))) h) : am_W G y d bc bs Q pc L ([.int v]) h := by
  intro p e R s m args below meth c H locs cells slots ls C hR hh hS hl
  exact am_end C hR hh hS hq (W.zret C.1.1 C.1.2.1 (C.2.2.1.trans hr) hv (fun t ht _ => ⟨rfl, ht⟩) hS.2.2 hd C.2.2.2.1)
theorem am_lret {v : Int64} (hd : decode y.2.1 pc = .ok (.lreturn, 1)) (hr : y.2.2.2.1 = some .long) (hq : Q (.inl (some (.long v))) h) : am_W G y d bc bs Q pc L ([.long v]) h := by
  intro p e R s m args below meth c H locs cells slots ls C hR hh hS hl
  exact am_end C hR hh hS hq (W.lret C.1.1 C.1.2.1 (C.2.2.1.trans hr) (fun t ht _ => ⟨rfl, ht⟩) hS.2.2 hd C.2.2.2.1)
theorem am_vret (hd : decode y.2.1 pc = .ok (.return_, 1)) (hr : y.2.2.2.1 = none) (hq : Q (.inl none) h) : am_W G y d bc bs Q pc L ([]) h := by
  intro p e R s m args below meth c H locs cells slots ls C hR hh hS hl
  exact am_end C hR hh hS hq (W.vret C.1.1 C.1.2.1 (C.2.2.1.trans hr) (fun t ht _ => ⟨rfl, ht⟩) hS.2.2 hd C.2.2.2.1)
end AMH
end
section
theorem am_Largs (G : am_G) : ∀ (As : List Value) (i : Nat), lv_args i (As.map (am_v G)) = am_L G (lv_args i As)
  | [], i => rfl
  | v :: As, i => by
    have h1 := am_Largs G As
    simp only [List.map_cons, lv_args, am_v_cat, h1]
    rfl
theorem am_slargs (G : am_G) : ∀ (As : List Value), (lg_sl (As.map (am_v G))).length = (lg_sl As).length
  | [] => rfl
  | v :: As => by
    have h1 := am_slargs G As
    simp only [lg_sl, List.map_cons, List.flatMap_cons, List.length_append, am_v_cat] at h1 ⊢
    rw [h1]
    congr 1
    split <;> rfl
theorem am_cats (G : am_G) (st : List Value) : ((st.map (am_v G)).map fun v => v.category) = st.map fun v => v.category := by
  rw [List.map_map]; exact List.map_congr_left (fun v _ => am_v_cat G v)
/-- the exception q has come to the frame at pc -/
def am_TW (G : am_G) (y : am_M) (d bc bs : Nat) (Q : am_O → am_H → Prop) (pc : Nat) (L : List (Nat × Value)) (q : Nat × Nat) (h : am_H) : Prop :=
  ∀ (p : Program) (e : Env) (R : Room) (s : State) (m : MethodId) (args : Array Value) (below : List Frame) (meth : Method) (c : Code) (H : Heap) (locs : List Loc) (cells slots : Nat) (ls : Array Slot) (stk : List Value),
    am_C G y p s m args meth c → am_Rm d bc bs R cells slots → am_R G h H → va_S (am_A G) s.heap H locs → lv_has ls y.2.2.1 (am_L G L) →
    ∀ T : State, T.heap = H → Stand p G.1 e R s m args below meth c T locs cells slots → ∃ t, Steps p.tables e below ((T.setTop (F0 m pc ls stk)).pushFrame (.throwing (am_ad G q.2))) t ∧ am_Z G Q R s below t
/-- the call at pc goes to the method z with the arguments As (a receiver is the first) -/
def am_Lk (G : am_G) (y z : am_M) (pc : Nat) (L : List (Nat × Value)) (As rest : List Value) (h : am_H) : Prop :=
  ∀ (p : Program) (e : Env) (R : Room) (s : State) (m : MethodId) (args : Array Value) (below : List Frame) (meth : Method) (c : Code) (H : Heap) (locs : List Loc) (cells slots : Nat) (ls : Array Slot),
    am_C G y p s m args meth c → am_R G h H → lv_has ls y.2.2.1 (am_L G L) →
    ∀ T : State, T.heap = H → Stand p G.1 e R s m args below meth c T locs cells slots →
    ∃ (vm' : Vm) (mk : MethodId) (methk : Method) (ck : Code) (ig : Instr), Stand p G.1 e R s m args below meth c (T.setVm vm') locs cells slots ∧ s.methodNamed? z.1 = some mk ∧ s.vm.method? mk = some methk ∧
      methk.code = some ck ∧ ck.code = z.2.1 ∧ ck.maxLocals = z.2.2.1 ∧ methk.sig.returnType = z.2.2.2.1 ∧ methk.locks = false ∧ ck.exceptionTable.toList.map (fun h => (h.startPc, h.endPc, h.handlerPc, h.catchType)) = z.2.2.2.2 ∧
      decode c.code pc = .ok (ig, 3) ∧
      ∀ target, (∀ acts, Steps p.tables e below (doInvoke e ((T.setVm vm').setTop (F0 m pc ls (rest.map (am_v G)))) acts mk ((As.map (am_v G)).toArray)).1 target) → Steps p.tables e below (T.setTop (F0 m pc ls ((As.reverse ++ rest).map (am_v G)))) target
/-- the word of a method's code -/
def am_cw (z : am_M) : Cond := match z.2.2.2.2 with
  | [] => .code z.1 z.2.1 z.2.2.1 z.2.2.2.1
  | hs => .codeWith z.1 z.2.1 z.2.2.1 z.2.2.2.1 hs
theorem am_cw_spec {z : am_M} {args : Array Value} {s : State} (h : (am_cw z).before args s = true) : ∃ mk meth c, s.methodNamed? z.1 = some mk ∧ s.vm.method? mk = some meth ∧ meth.code = some c ∧ c.code = z.2.1 ∧ c.maxLocals = z.2.2.1 ∧
    meth.sig.returnType = z.2.2.2.1 ∧ meth.locks = false ∧ c.exceptionTable.toList.map (fun h => (h.startPc, h.endPc, h.handlerPc, h.catchType)) = z.2.2.2.2 ∧ parseMethodDescriptor z.1.desc = some meth.sig := by
  obtain ⟨z1, z2, z3, z4, z5⟩ := z
  cases z5 with
  | nil =>
    obtain ⟨mk, hn⟩ := Cond.code_named (show (Cond.code z1 z2 z3 z4).before args s = true from h)
    obtain ⟨meth, c, h1, h2, h3, h4, h5, h6, h7, h8⟩ := Cond.code_spec hn h
    refine ⟨mk, meth, c, hn, h1, h2, h3, h4, h5, h6, ?_, h8⟩
    have : c.exceptionTable = #[] := by simpa using h7
    rw [this]
    rfl
  | cons a l =>
    obtain ⟨mk, meth, c, hn, h1, h2, h3, h4, h5, h6, h7, h8⟩ := Cond.codeWith_spec (show (Cond.codeWith z1 z2 z3 z4 (a :: l)).before args s = true from h)
    exact ⟨mk, meth, c, hn, h1, h2, h3, h4, h6, h7, h5, h8⟩
section AMC
variable {G : am_G} {y z : am_M} {d bc bs bc' bs' : Nat} {Q Q' : am_O → am_H → Prop} {pc : Nat} {L : List (Nat × Value)} {As rest st : List Value} {h : am_H}
theorem am_call (lk : am_Lk G y z pc L As rest h) (hpl : plainName z.1.cls = true) (hm : z.2.2.1 ≤ 44) (hfit : (lg_sl As).length ≤ z.2.2.1) (hrest : (rest.map fun v => v.category).sum ≤ 8) (hb1 : bc' ≤ bc) (hb2 : bs' ≤ bs)
    (hk : am_W G z d bc' bs' Q' 0 (lv_args 0 As) [] h)
    (hr : ∀ v h', Q' (.inl v) h' → am_W G y (d + 1) (bc - bc') (bs - bs') Q (pc + 3) L (v.toList ++ rest) h')
    (hth : ∀ q h', Q' (.inr q) h' → am_TW G y (d + 1) (bc - bc') (bs - bs') Q pc L q h') : am_W G y (d + 1) bc bs Q pc L (As.reverse ++ rest) h := by
  intro p e R s m args below meth c H locs cells slots ls C hR hh hS hl T hT X
  obtain ⟨vm', mk, methk, ck, ig, X1, hn, hmk, hck, hcb, hml, hret, hlk, hex, hdg, step⟩ := lk p e R s m args below meth c H locs cells slots ls C hh hl T hT X
  obtain ⟨r1, r2, r3, r4⟩ := hR
  have hal := X1.warmed.alike
  have hmk1 : (T.setVm vm').vm.method? mk = some methk := by rw [hal.method?]; exact hmk
  have hn1 : (T.setVm vm').methodNamed? z.1 = some mk := X1.named hn
  have hpk : (T.setVm vm').plainMethod mk := State.plainMethod.of_named (plainFor_of_name hpl) hn1 hmk1
  have hsz : (F0 m pc ls (rest.map (am_v G))).locals.size = c.maxLocals := by rw [C.1.2.2.1]; exact hl.1
  obtain ⟨Y0, hin⟩ := X1.into (g := F0 m pc ls (rest.map (am_v G))) rfl hsz hdg ((As.map (am_v G)).toArray) (R' := { frames := d, cells := bc', slots := bs', locals := 64 * d }) hmk1 hck hlk hpk (by show d + 1 ≤ _; omega)
    (by show 2 * 0 + ((rest.map (am_v G)).map fun v => v.category).sum + (ck.maxLocals + 11) + 64 * d ≤ _; rw [am_cats, hml]; omega) (by show cells + bc' ≤ _; omega) (by show slots + bs' ≤ _; omega)
  have hent : entryFrame mk (As.map (am_v G)).toArray ck.maxLocals = F0 mk 0 ((lg_sl (As.map (am_v G)) ++ List.replicate (ck.maxLocals - (lg_sl (As.map (am_v G))).length) Slot.unset).toArray) [] := lg_entry_eq mk (As.map (am_v G)) ck.maxLocals
  have hl0 := lv_entry (As.map (am_v G)) (n := z.2.2.1) (by rw [am_slargs]; exact hfit)
  rw [am_Largs] at hl0
  rw [hml] at hent hin Y0
  have hheap : ((T.setVm vm').calling (F0 m pc ls (rest.map (am_v G))) mk (As.map (am_v G)).toArray).heap = H := hT
  have hvmc : ((T.setVm vm').calling (F0 m pc ls (rest.map (am_v G))) mk (As.map (am_v G)).toArray).vm = (T.setVm vm').vm := rfl
  have C' : am_C G z p ((T.setVm vm').calling (F0 m pc ls (rest.map (am_v G))) mk (As.map (am_v G)).toArray) mk (As.map (am_v G)).toArray methk ck := by
    obtain ⟨⟨c1, c2, c3, c4, c5⟩, c6, c7, c8, c9, c10, c11, c12, c13, c14⟩ := C
    refine ⟨⟨c1, hcb, hml, ?_, fun w hw => ?_⟩, va_K.moved hal c6, hret, hlk, hex, (name_of_methodNamed hn hmk).1, ?_, ?_, c13, c14.moved (by rw [hvmc]; exact X1.warmed) c11 (fun q hq => by rw [hheap]; exact hS.2.1 q (Nat.lt_of_lt_of_le hq c11) (Nat.not_le.mpr hq)) ⟨h, by rw [hheap]; exact hh⟩⟩
    · rw [hvmc, hal.findClass]; exact findClass_of_methodNamed hn
    · exact word_at (s := s) (by rw [hvmc]; exact X1.warmed) (am_T_good w hw) (c5 w hw)
    · rw [hheap, hh.1]; omega
    · refine va_X.moved (u := s) hal ?_
      rw [hheap]
      exact c12.kept (hS.2.1 _ (Nat.lt_of_lt_of_le c13 c11) (Nat.not_le.mpr c13))
  obtain ⟨t, stp, o, Lc, k1, n1, ao, h', q1, q2, q3, q4, q5, q6, q7, q8, q9, q10, q11⟩ := hk p e { frames := d, cells := bc', slots := bs', locals := 64 * d } ((T.setVm vm').calling (F0 m pc ls (rest.map (am_v G))) mk (As.map (am_v G)).toArray) mk (As.map (am_v G)).toArray (.java (F0 m pc ls (rest.map (am_v G))) :: below) methk ck H [] 0 0 _
    C' ⟨Nat.le_refl d, Nat.le_refl (64 * d), by show 0 + bc' ≤ bc'; omega, by show 0 + bs' ≤ bs'; omega⟩ hh (by rw [hheap]; exact va_S.rf) hl0 (((T.setVm vm').setTop (F0 m pc ls (rest.map (am_v G)))).pushFrame (.java (entryFrame mk (As.map (am_v G)).toArray z.2.2.1))) hT Y0
  have hS' : va_S (am_A G) s.heap t.heap (locs ++ Lc) := by
    refine ⟨?_, fun q g1 g2 => ?_, fun q hq => ?_⟩
    · have := q4.2.1
      have h2 : H.size ≤ t.heap.size := by rw [← hheap]; exact this
      exact Nat.le_trans hS.1 h2
    · rw [q8 q (Nat.not_le.mp g2), hheap]
      exact hS.2.1 q g1 g2
    · rcases List.mem_append.mp hq with h1 | h1
      · exact hS.2.2 q h1
      · exact q7 q h1
  have q5' : k1 ≤ bc' := q5
  have q6' : n1 ≤ bs' := q6
  have stp' : Steps p.tables e below (((T.setVm vm').setTop (F0 m pc ls (rest.map (am_v G)))).pushFrame (.java (entryFrame mk (As.map (am_v G)).toArray z.2.2.1)) |>.setTop (entryFrame mk (As.map (am_v G)).toArray z.2.2.1)) t := by
    refine Steps.weaken (mid := [.java (F0 m pc ls (rest.map (am_v G)))]) ?_
    rw [List.map_nil, ← hent] at stp
    exact stp
  cases ao with
  | inl v =>
    obtain rfl : o = .returned (v.map (am_v G)) := q10
    obtain ⟨T', X', hW', hB', ht⟩ := X1.outOf (g := F0 m pc ls (rest.map (am_v G))) rfl hdg q2 q3 q4
    have hT' : T'.heap = t.heap := by rw [ht]; simp
    obtain ⟨t2, a1, b1⟩ := hr v h' q11 p e R s m args below meth c t.heap (locs ++ Lc) (cells + k1) (slots + n1) ls C ⟨r1, r2, by omega, by omega⟩ q9 hS' hl T' hT' X'
    refine ⟨t2, step t2 (fun acts => ?_), b1⟩
    rw [hin acts]
    refine stp'.trans ?_
    have e1 : (v.toList ++ rest).map (am_v G) = (v.map (am_v G)).toList ++ rest.map (am_v G) := by cases v <;> simp
    rw [e1] at a1
    rw [ht]
    exact a1
  | inr q =>
    obtain rfl : o = .threw (am_ad G q.2) := q10
    obtain ⟨T', X', hW', hB', ht⟩ := X1.outOfThrown (g := F0 m pc ls (rest.map (am_v G))) rfl q2 q3 q4
    have hT' : T'.heap = t.heap := by rw [ht]; exact (Stand.throwing_heap T' _ _).symm
    obtain ⟨t2, a1, b1⟩ := hth q h' q11 p e R s m args below meth c t.heap (locs ++ Lc) (cells + k1) (slots + n1) ls (rest.map (am_v G)) C ⟨r1, r2, by omega, by omega⟩ q9 hS' hl T' hT' X'
    refine ⟨t2, step t2 (fun acts => ?_), b1⟩
    rw [hin acts]
    refine stp'.trans ?_
    rw [ht]
    exact a1
/-- it leaves the method -/
theorem am_thr_out {q : Nat × Nat} (hx : y.2.2.2.2.all (fun r => !(decide (r.1 ≤ pc) && decide (pc < r.2.1))) = true) (hq : Q (.inr q) h) : am_TW G y d bc bs Q pc L q h := by
  intro p e R s m args below meth c H locs cells slots ls stk C hR hh hS hl T hT X
  have hout : ∀ x ∈ c.exceptionTable.toList, covers x (F0 m pc ls stk).pc = false := by
    intro x hxm
    have h1 : (x.startPc, x.endPc, x.handlerPc, x.catchType) ∈ y.2.2.2.2 := by rw [← C.2.2.2.2.1]; exact List.mem_map.mpr ⟨x, hxm, rfl⟩
    have h2 := List.all_eq_true.mp hx _ h1
    have h3 : pc < x.startPc ∨ x.endPc ≤ pc := by simpa using h2
    show (decide (x.startPc ≤ pc) && decide (pc < x.endPc)) = false
    rcases h3 with h3 | h3
    · rw [decide_eq_false (by omega)]; rfl
    · rw [decide_eq_false (p := pc < x.endPc) (by omega), Bool.and_false]
  obtain ⟨a1, a2, a3, a4, a5⟩ := X.leaveThrown (am_ad G q.2) (g := F0 m pc ls stk) rfl rfl rfl hout C.2.2.2.1
  obtain ⟨r1, r2, r3, r4⟩ := hR
  have hth : (T.setFrames (.throwing (am_ad G q.2) :: below)).heap = H := hT
  refine ⟨_, a1, _, locs, cells, slots, .inr q, h, a2, a3, a4, a5, by omega, by omega, hS.2.2, fun x hx => ?_, by rw [hth]; exact hh, rfl, hq⟩
  rw [hth]
  exact hS.2.1 x (Nat.lt_of_lt_of_le hx C.2.2.2.2.2.2.1) (Nat.not_le.mpr hx)
theorem am_athrow {ci a : Nat} (hd : decode y.2.1 pc = .ok (.athrow, 1)) (k : am_TW G y d bc bs Q pc L (ci, a) h) : am_W G y d bc bs Q pc L (.ref a :: st) h := by
  intro p e R s m args below meth c H locs cells slots ls C hR hh hS hl T hT X
  obtain ⟨t, a1, b1⟩ := k p e R s m args below meth c H locs cells slots ls (st.map (am_v G)) C hR hh hS hl T hT X
  refine ⟨t, ?_, b1⟩
  have hx := C.1.1
  have hb := C.1.2.1
  jvm_step X.here [hx, hb, hd, athrow.wp_sem]
  exact a1
/-! the links of calls -/
theorem am_lkS {index : Nat} (hd : decode y.2.1 pc = .ok (.invokestatic index, 3)) (w1 : Cond.methodLink y.1.cls index z.1 ∈ am_T) (w2 : Cond.static z.1 ∈ am_T) (w3 : Cond.initialized z.1.cls ∈ am_T) (w4 : am_cw z ∈ am_T)
    (hy : z.1.cls ≠ "java/lang/invoke/MethodHandle" ∧ z.1.cls ≠ "java/lang/invoke/VarHandle") (hn : (parseMethodDescriptor z.1.desc).map (fun d => d.parameters.length) = some As.length) : am_Lk G y z pc L As rest h := by
  intro p e R s m args below meth c H locs cells slots ls C hh hl T hT X
  have ok := C.1.2.2.2.2
  have ok2 := C.2.2.2.2.2.2.2.2.2.2.2.2.2.2.1
  obtain ⟨mk, methk, ck, hnm, h1, h2, h3, h4, h5, h6, h7, h8⟩ := am_cw_spec (ok _ w4)
  have hst : methk.isStatic = true := Cond.static_spec hnm h1 (ok _ w2)
  obtain ⟨kP, hkP, -⟩ := className_of_methodNamed hnm
  have hinitP : kP.init = .initialized := Cond.initialized_spec (findClass_of_methodNamed hnm) hkP (ok _ w3)
  have hlen : As.length = methk.sig.parameters.length := by rw [h8] at hn; exact (Option.some.inj hn).symm
  obtain ⟨vm1, X1, hs1⟩ := X.invokestatic C.1.1 C.1.2.2.2.1 (ok _ w1) hnm h1 hst hkP hinitP hy (g := F0 m pc ls ((As.reverse ++ rest).map (am_v G))) rfl (argsL := As.map (am_v G)) (rest := rest.map (am_v G)) (by rw [List.length_map]; exact hlen) (by show (As.reverse ++ rest).map (am_v G) = _; rw [List.map_append, List.map_reverse]) (by rw [C.1.2.1]; exact hd)
  exact ⟨vm1, mk, methk, ck, _, X1, hnm, h1, h2, h3, h4, h5, h6, h7, by rw [C.1.2.1]; exact hd, hs1⟩
theorem am_lkSN {index : Nat} {host : String} (hd : decode y.2.1 pc = .ok (.invokestatic index, 3)) (w1 : Cond.methodLinkNest y.1.cls index z.1 host ∈ am_T2) (w2 : Cond.static z.1 ∈ am_T) (w3 : Cond.initialized z.1.cls ∈ am_T) (w4 : am_cw z ∈ am_T)
    (hy : z.1.cls ≠ "java/lang/invoke/MethodHandle" ∧ z.1.cls ≠ "java/lang/invoke/VarHandle") (hn : (parseMethodDescriptor z.1.desc).map (fun d => d.parameters.length) = some As.length) : am_Lk G y z pc L As rest h := by
  intro p e R s m args below meth c H locs cells slots ls C hh hl T hT X
  have ok := C.1.2.2.2.2
  have ok2 := C.2.2.2.2.2.2.2.2.2.2.2.2.2.2.1
  obtain ⟨mk, methk, ck, hnm, h1, h2, h3, h4, h5, h6, h7, h8⟩ := am_cw_spec (ok _ w4)
  have hst : methk.isStatic = true := Cond.static_spec hnm h1 (ok _ w2)
  obtain ⟨kP, hkP, -⟩ := className_of_methodNamed hnm
  have hinitP : kP.init = .initialized := Cond.initialized_spec (findClass_of_methodNamed hnm) hkP (ok _ w3)
  have hlen : As.length = methk.sig.parameters.length := by rw [h8] at hn; exact (Option.some.inj hn).symm
  obtain ⟨vm1, X1, hs1⟩ := X.invokestaticNest C.1.1 C.1.2.2.2.1 (va_Nw.use rfl (ok2 _ w1)) hnm h1 hst hkP hinitP hy (g := F0 m pc ls ((As.reverse ++ rest).map (am_v G))) rfl (argsL := As.map (am_v G)) (rest := rest.map (am_v G)) (by rw [List.length_map]; exact hlen) (by show (As.reverse ++ rest).map (am_v G) = _; rw [List.map_append, List.map_reverse]) (by rw [C.1.2.1]; exact hd)
  exact ⟨vm1, mk, methk, ck, _, X1, hnm, h1, h2, h3, h4, h5, h6, h7, by rw [C.1.2.1]; exact hd, hs1⟩
theorem am_lkV {index a ci N : Nat} {T0 : u_T} {fs : List Value} (hd : decode y.2.1 pc = .ok (.invokevirtual index, 3)) (w1 : Cond.methodLink y.1.cls index z.1 ∈ am_T) (w2 : Cond.instanceMethod z.1 ∈ am_T) (w3 : Cond.selects z.1.cls z.1 z.1 ∈ am_T) (w4 : am_cw z ∈ am_T)
    (hcl : am_cl[ci]? = some (z.1.cls, T0, N)) (ha : h[a]? = some (.inr (ci, fs))) (hy : z.1.cls ≠ "java/lang/invoke/MethodHandle" ∧ z.1.cls ≠ "java/lang/invoke/VarHandle") (hn : (parseMethodDescriptor z.1.desc).map (fun d => d.parameters.length) = some As.length) : am_Lk G y z pc L (.ref (a + 1) :: As) rest h := by
  intro p e R s m args below meth c H locs cells slots ls C hh hl T hT X
  have ok := C.1.2.2.2.2
  have ok2 := C.2.2.2.2.2.2.2.2.2.2.2.2.2.2.1
  obtain ⟨mk, methk, ck, hnm, h1, h2, h3, h4, h5, h6, h7, h8⟩ := am_cw_spec (ok _ w4)
  obtain ⟨mk', methM, hnamed, hmethM, hstM, habM⟩ := Cond.instanceMethod_spec (ok _ w2)
  cases hnm.symm.trans hnamed
  cases h1.symm.trans hmethM
  obtain ⟨cellB, hcB, hoB, hclB⟩ := va_recv C.2.1 hh.2 hcl (am_wsat ha)
  obtain ⟨c2, r2, m2, q1, q2, q3, q4, kP, hkP, hkPi⟩ := Cond.selects_spec (ok _ w3)
  cases hclB.symm.trans q1
  cases (State.methodFound?_of_named hnamed hy).symm.trans q2
  cases hnamed.symm.trans q3
  have hselP : selectMethod e.platform s.vm cellB.cls mk = .method mk := by rw [Launch.admits_selectMethod X.admits]; exact q4
  have hlen : As.length = methk.sig.parameters.length := by rw [h8] at hn; exact (Option.some.inj hn).symm
  obtain ⟨vm1, X1, hs1⟩ := X.invokevirtual C.1.1 C.1.2.2.2.1 (ok _ w1) hnamed hmethM hstM hkP hkPi hy (a := am_gz G + a) (cell := cellB) (by rw [hT]; exact hcB) (fun x hx => by rw [hx] at hoB; cases hoB) hselP hmethM habM hkP hkPi
    (g := F0 m pc ls (((Value.ref (a + 1) :: As).reverse ++ rest).map (am_v G))) rfl (argsL := As.map (am_v G)) (rest := rest.map (am_v G)) (by rw [List.length_map]; exact hlen) (by show ((Value.ref (a + 1) :: As).reverse ++ rest).map (am_v G) = _; simp [am_v, am_ad]) (by rw [C.1.2.1]; exact hd)
  exact ⟨vm1, mk, methk, ck, _, X1, hnm, h1, h2, h3, h4, h5, h6, h7, by rw [C.1.2.1]; exact hd, hs1⟩
theorem am_lkVN {index a ci N : Nat} {host : String} {T0 : u_T} {fs : List Value} (hd : decode y.2.1 pc = .ok (.invokevirtual index, 3)) (w1 : Cond.methodLinkNest y.1.cls index z.1 host ∈ am_T2) (w2 : Cond.instanceMethod z.1 ∈ am_T) (w3 : Cond.selects z.1.cls z.1 z.1 ∈ am_T) (w4 : am_cw z ∈ am_T)
    (hcl : am_cl[ci]? = some (z.1.cls, T0, N)) (ha : h[a]? = some (.inr (ci, fs))) (hy : z.1.cls ≠ "java/lang/invoke/MethodHandle" ∧ z.1.cls ≠ "java/lang/invoke/VarHandle") (hn : (parseMethodDescriptor z.1.desc).map (fun d => d.parameters.length) = some As.length) : am_Lk G y z pc L (.ref (a + 1) :: As) rest h := by
  intro p e R s m args below meth c H locs cells slots ls C hh hl T hT X
  have ok := C.1.2.2.2.2
  have ok2 := C.2.2.2.2.2.2.2.2.2.2.2.2.2.2.1
  obtain ⟨mk, methk, ck, hnm, h1, h2, h3, h4, h5, h6, h7, h8⟩ := am_cw_spec (ok _ w4)
  obtain ⟨mk', methM, hnamed, hmethM, hstM, habM⟩ := Cond.instanceMethod_spec (ok _ w2)
  cases hnm.symm.trans hnamed
  cases h1.symm.trans hmethM
  obtain ⟨cellB, hcB, hoB, hclB⟩ := va_recv C.2.1 hh.2 hcl (am_wsat ha)
  obtain ⟨c2, r2, m2, q1, q2, q3, q4, kP, hkP, hkPi⟩ := Cond.selects_spec (ok _ w3)
  cases hclB.symm.trans q1
  cases (State.methodFound?_of_named hnamed hy).symm.trans q2
  cases hnamed.symm.trans q3
  have hselP : selectMethod e.platform s.vm cellB.cls mk = .method mk := by rw [Launch.admits_selectMethod X.admits]; exact q4
  have hlen : As.length = methk.sig.parameters.length := by rw [h8] at hn; exact (Option.some.inj hn).symm
  obtain ⟨vm1, X1, hs1⟩ := X.invokevirtualNest C.1.1 C.1.2.2.2.1 (va_Nw.use rfl (ok2 _ w1)) hnamed hmethM hstM hkP hkPi hy (a := am_gz G + a) (cell := cellB) (by rw [hT]; exact hcB) (fun x hx => by rw [hx] at hoB; cases hoB) hselP hmethM habM hkP hkPi
    (g := F0 m pc ls (((Value.ref (a + 1) :: As).reverse ++ rest).map (am_v G))) rfl (argsL := As.map (am_v G)) (rest := rest.map (am_v G)) (by rw [List.length_map]; exact hlen) (by show ((Value.ref (a + 1) :: As).reverse ++ rest).map (am_v G) = _; simp [am_v, am_ad]) (by rw [C.1.2.1]; exact hd)
  exact ⟨vm1, mk, methk, ck, _, X1, hnm, h1, h2, h3, h4, h5, h6, h7, by rw [C.1.2.1]; exact hd, hs1⟩
theorem am_lkI {index a : Nat} (hd : decode y.2.1 pc = .ok (.invokespecial index, 3)) (w1 : Cond.methodLink y.1.cls index z.1 ∈ am_T) (w2 : Cond.instanceMethod z.1 ∈ am_T) (w4 : am_cw z ∈ am_T) (hz1 : z.1.name = "<init>") (hz2 : z.2.2.2 = (none, []))
    (hy : z.1.cls ≠ "java/lang/invoke/MethodHandle" ∧ z.1.cls ≠ "java/lang/invoke/VarHandle") (hn : (parseMethodDescriptor z.1.desc).map (fun d => d.parameters.length) = some As.length) : am_Lk G y z pc L (.ref (a + 1) :: As) rest h := by
  intro p e R s m args below meth c H locs cells slots ls C hh hl T hT X
  have ok := C.1.2.2.2.2
  have ok2 := C.2.2.2.2.2.2.2.2.2.2.2.2.2.2.1
  obtain ⟨mk, methk, ck, hnm, h1, h2, h3, h4, h5, h6, h7, h8⟩ := am_cw_spec (ok _ w4)
  have hcw : (Cond.code z.1 z.2.1 z.2.2.1 none).before args s = true := by
    have h9 := ok _ w4
    obtain ⟨z1, z2, z3, z4, z5⟩ := z
    cases hz2
    exact h9
  have hpl : e.platform.magicAccessors = ({} : Platform).magicAccessors := by rw [X.admits.platform]
  have hlen : ∀ sig, parseMethodDescriptor z.1.desc = some sig → (As.map (am_v G)).length = sig.parameters.length := by
    intro sig hs
    rw [hs] at hn
    rw [List.length_map]
    exact (Option.some.inj hn).symm
  obtain ⟨mk', methM, cM, kP, vm1, hnamed, hmethM, hcodeM, -, hlocalsM, -, hkP, -, hW1, hs1⟩ := Steps.initColdArgs (e := e) X.here C.1.1 X.warmed hpl C.1.2.2.2.1 hz1 hy (ok _ w1) (ok _ w2) hcw (f := F0 m pc ls (((Value.ref (a + 1) :: As).reverse ++ rest).map (am_v G))) rfl (a := am_gz G + a) (argsL := As.map (am_v G)) (rest := rest.map (am_v G)) hlen
    (by show ((Value.ref (a + 1) :: As).reverse ++ rest).map (am_v G) = _; simp [am_v, am_ad]) (by rw [C.1.2.1]; exact hd)
  cases hnm.symm.trans hnamed
  exact ⟨vm1, mk, methk, ck, _, X.noted hW1, hnm, h1, h2, h3, h4, h5, h6, h7, by rw [C.1.2.1]; exact hd, hs1⟩
theorem am_lkIN {index a : Nat} {host : String} (hd : decode y.2.1 pc = .ok (.invokespecial index, 3)) (w1 : Cond.methodLinkNest y.1.cls index z.1 host ∈ am_T2) (w2 : Cond.instanceMethod z.1 ∈ am_T) (w4 : am_cw z ∈ am_T) (hz1 : z.1.name = "<init>") (hz2 : z.2.2.2 = (none, []))
    (hy : z.1.cls ≠ "java/lang/invoke/MethodHandle" ∧ z.1.cls ≠ "java/lang/invoke/VarHandle") (hn : (parseMethodDescriptor z.1.desc).map (fun d => d.parameters.length) = some As.length) : am_Lk G y z pc L (.ref (a + 1) :: As) rest h := by
  intro p e R s m args below meth c H locs cells slots ls C hh hl T hT X
  have ok := C.1.2.2.2.2
  have ok2 := C.2.2.2.2.2.2.2.2.2.2.2.2.2.2.1
  obtain ⟨mk, methk, ck, hnm, h1, h2, h3, h4, h5, h6, h7, h8⟩ := am_cw_spec (ok _ w4)
  have hcw : (Cond.code z.1 z.2.1 z.2.2.1 none).before args s = true := by
    have h9 := ok _ w4
    obtain ⟨z1, z2, z3, z4, z5⟩ := z
    cases hz2
    exact h9
  have hpl : e.platform.magicAccessors = ({} : Platform).magicAccessors := by rw [X.admits.platform]
  have hlen : ∀ sig, parseMethodDescriptor z.1.desc = some sig → (As.map (am_v G)).length = sig.parameters.length := by
    intro sig hs
    rw [hs] at hn
    rw [List.length_map]
    exact (Option.some.inj hn).symm
  obtain ⟨mk', methM, cM, kP, vm1, hnamed, hmethM, hcodeM, -, hlocalsM, -, hkP, -, hW1, hs1⟩ := Steps.initColdArgsNest (e := e) X.here C.1.1 X.warmed hpl C.1.2.2.2.1 hz1 hy (va_Nw.use rfl (ok2 _ w1)) (ok _ w2) hcw (f := F0 m pc ls (((Value.ref (a + 1) :: As).reverse ++ rest).map (am_v G))) rfl (a := am_gz G + a) (argsL := As.map (am_v G)) (rest := rest.map (am_v G)) hlen
    (by show ((Value.ref (a + 1) :: As).reverse ++ rest).map (am_v G) = _; simp [am_v, am_ad]) (by rw [C.1.2.1]; exact hd)
  cases hnm.symm.trans hnamed
  exact ⟨vm1, mk, methk, ck, _, X.noted hW1, hnm, h1, h2, h3, h4, h5, h6, h7, by rw [C.1.2.1]; exact hd, hs1⟩
end AMC
end
section
/-- the activation seen from where it stands: nothing written, nothing made so far -/
theorem am_reroot {p : Program} {l : Launch} {e : Env} {R R' : Room} {s : State} {m : MethodId} {args : Array Value} {below : List Frame} {meth : Method} {c : Code} {T : State} {locs : List Loc} {cells slots : Nat}
    (X : Stand p l e R s m args below meth c T locs cells slots) (h1 : R'.frames ≤ R.frames) (h2 : R'.locals ≤ R.locals) (h3 : cells + R'.cells ≤ R.cells) (h4 : slots + R'.slots ≤ R.slots) :
    Stand p l e R' (T.setFrames (.invoking m args :: below)) m args below meth c T [] 0 0 := by
  obtain ⟨g0, hfr⟩ := X.frames_eq
  have hcur : T.cur < T.threads.size := State.cur_lt_of_frames hfr
  have hf : (T.setFrames (.invoking m args :: below)).frames = .invoking m args :: below := State.frames_setFrames _ hcur
  have hvm : (T.setFrames (.invoking m args :: below)).vm = T.vm := rfl
  have hal := X.warmed.alike
  have hmeth : (T.setFrames (.invoking m args :: below)).vm.method? m = some meth := X.method'
  obtain ⟨th, hth, -⟩ := State.frames_cons hf
  refine ⟨X.admits, X.cas, X.clock, hf, ?_, ?_, hmeth, X.code, X.here, X.tail, State.WarmedH.refl _, by rw [State.stackLimits_setFrames], by rw [State.stackBytes_setFrames], ?_⟩
  · have hr := X.room
    simp only [State.hasRoom, Bool.and_eq_true, decide_eq_true_eq] at hr ⊢
    rw [State.localsInUse_invoking X.frames X.method X.code] at hr
    rw [State.localsInUse_invoking hf hmeth X.code]
    have hl1 : e.platform.stackLimits (T.setFrames (.invoking m args :: below)).me = e.platform.stackLimits s.me := by rw [State.stackLimits_setFrames]; exact X.limits
    have hl2 : (T.setFrames (.invoking m args :: below)).me.stackBytes = s.me.stackBytes := by rw [State.stackBytes_setFrames]; exact X.bytes
    rw [hl1, hl2, hf]
    rw [X.frames] at hr
    have hz := X.heapSize
    have hu := X.used
    have e1 : (T.setFrames (.invoking m args :: below)).heap.size = T.heap.size := rfl
    have e2 : (T.setFrames (.invoking m args :: below)).slotsUsed = T.slotsUsed := rfl
    rw [e1, e2]
    obtain ⟨⟨⟨⟨q1, q2, q3, q4, q5, q6⟩, q7⟩, q8⟩, q9⟩ := hr
    exact ⟨⟨⟨⟨by omega, by omega, by omega, by omega, by omega, q6⟩, by omega⟩, by omega⟩, X.book⟩
  · have hh := X.hears
    cases below with
    | nil =>
      simp only [State.hears] at hh ⊢
      rw [hmeth]
      rw [X.method] at hh
      exact hh
    | cons f r =>
      cases f with
      | java g =>
        simp only [State.hears, State.code?_eq] at hh ⊢
        rw [hvm, hal.method?]
        exact hh
      | native g => simp only [State.hears]
      | proc g => simp only [State.hears]
      | _ =>
        simp only [State.hears] at hh ⊢
        rw [hmeth]
        rw [X.method] at hh
        exact hh
  · have h := (State.sameButNew.refl (T.setFrames (.invoking m args :: below)) hth).setFrames T.frames (State.cur_lt_of_frames hf)
    have e3 : (T.setFrames (.invoking m args :: below)).setFrames T.frames = T := by
      rw [State.setFrames_setFrames]
      obtain ⟨tt, htt, -⟩ := State.frames_cons hfr
      exact State.setFrames_self htt
    rw [e3] at h
    exact h
end
section
/-! throws and catches -/
theorem am_static {C n d : String} {A : Nat → Prop} {s : State} {args : Array Value} (h : va_Zq C n d A s s.heap) : (Cond.isRef (.static C n d)).before args s = true := by
  have key : ∀ v : Value, va_Z C n d v A s s.heap → (Term.static C n d).eval args s none [] s = some v := by
    intro v h
    obtain ⟨cf, kf, fi, f, a, cell, h1, h2, h3, h4, h5, h6, h7, h8⟩ := h
    simp [Term.eval, State.fieldNamed?, h1, h2, h4, h5, h6, h7]
  rcases h with h | ⟨t, h⟩
  · simp [Cond.before, Cond.holds, Cond.value, key _ h, Value.isRef]
  · simp [Cond.before, Cond.holds, Cond.value, key _ h, Value.isRef]
theorem am_T2_tabs : ∀ w ∈ am_T2, w.onTables = true := by decide +kernel
/-- the names above an exception's class -/
def am_up : List String := ["java/lang/RuntimeException", "java/lang/Exception"]
section AMT
variable {G : am_G} {y : am_M} {d bc bs : Nat} {Q : am_O → am_H → Prop} {pc : Nat} {L : List (Nat × Value)} {st : List Value} {h : am_H}
/-- the words of a throw: of the tables, or the two statics -/
def am_oA (own : String) (ic : Nat) (X : String) : Prop := ∀ a ∈ Bundle.ownAtoms own ic X am_up, a ∈ am_T ∨ a ∈ am_T2 ∨ a = Cond.isRef (.static "java/lang/Throwable" "UNASSIGNED_STACK" "[Ljava/lang/StackTraceElement;") ∨ a = Cond.isRef (.static "java/lang/Throwable" "SUPPRESSED_SENTINEL" "Ljava/util/List;") ∨ a = Cond.laysStatic "java/lang/Throwable" "UNASSIGNED_STACK" "[Ljava/lang/StackTraceElement;" ∨ a = Cond.laysStatic "java/lang/Throwable" "SUPPRESSED_SENTINEL" "Ljava/util/List;"
set_option maxHeartbeats 1000000 in
/-- new E; dup; ldc text; E.<init>(text); athrow -/
theorem am_throwS {index il ic ci : Nat} {X tx : String} {T0 : u_T} (hd0 : decode y.2.1 pc = .ok (.new index, 3)) (hd1 : decode y.2.1 (pc + 3) = .ok (.dup, 1)) (hd2 : decode y.2.1 (pc + 4) = .ok (.ldc il, 2)) (hd3 : decode y.2.1 (pc + 6) = .ok (.invokespecial ic, 3)) (hd4 : decode y.2.1 (pc + 9) = .ok (.athrow, 1))
    (hown : y.1.cls = R_X) (hcl : am_cl[ci]? = some (X, T0, 0)) (w1 : Cond.classLink y.1.cls index X ∈ am_T) (w2 : Cond.instantiable X 6 ∈ am_T) (w3 : Cond.initialized X ∈ am_T) (hs : (il, tx) ∈ am_strs) (hat : am_oA y.1.cls ic X) (hfit : Bundle.fit X = true)
    (hd : 6 ≤ d) (hb1 : 1 ≤ bc) (hb2 : 6 ≤ bs) (hst : (st.map fun v => v.category).sum ≤ 8) (hx : y.2.2.2.2 = []) (hq : Q (.inr (ci, h.length + 1)) (h ++ [.inr (ci, [])])) : am_W G y d bc bs Q pc L st h := by
  intro p e R s m args below meth c H locs cells slots ls C hR hh hS hl T hT X0
  obtain ⟨r1, r2, r3, r4⟩ := hR
  obtain ⟨⟨c1, c2, c3, c4, c5⟩, c6, c7, c8, c9, c10, c11, c12, c13, c14⟩ := C
  have Y := am_reroot X0 (R' := { frames := R.frames, cells := 1, slots := 6, locals := R.locals }) (Nat.le_refl _) (Nat.le_refl _) (by show cells + 1 ≤ _; omega) (by show slots + 6 ≤ _; omega)
  have hW : s.WarmedH (T.setFrames (.invoking m args :: below)).vm := X0.warmed
  have hsH : (T.setFrames (.invoking m args :: below)).heap = H := hT
  generalize hse : T.setFrames (.invoking m args :: below) = s' at Y hW hsH
  have hal := hW.alike
  have ok : ∀ w ∈ am_T, w.before args s' = true := fun w hw => word_at hW (am_T_good w hw) (c5 w hw)
  have hown' : s'.vm.findClass y.1.cls = some m.cls := by rw [hal.findClass]; exact c4
  have hK := va_K.moved hal c6
  have hold : ∀ q : Nat, q < am_gz G → s'.heap[q]? = s.heap[q]? := fun q hq => by rw [hsH]; exact hS.2.1 q (Nat.lt_of_lt_of_le hq c11) (Nat.not_le.mpr hq)
  have hK2 := c14.moved hW c11 hold ⟨h, by rw [hsH]; exact hh⟩
  obtain ⟨k1, k2, k3, k4, k5, k6, k7, k8, -⟩ := hK2
  obtain ⟨qs, hqs⟩ := k2 _ hs
  have hfound : s'.vm.findClass X = some ((am_gD G).1 ci) := (hK.1 ci _ hcl).2.1
  have hatoms : ∀ a ∈ Bundle.ownAtoms y.1.cls ic X am_up, a.before args s' = true := by
    intro a ha
    rcases hat a ha with h1 | h1 | rfl | rfl | rfl | rfl
    · exact ok a h1
    · exact va_Nw.use (am_T2_tabs a h1) (k6 a h1)
    · exact am_static k3
    · exact am_static k4
    · exact k7.use
    · exact k8.use
  have htr : e.platform.stackTraces = false := by
    have := X0.admits.2.2.2.2.1
    rw [this]
    exact k1
  have hsz : ls.size = c.maxLocals := by rw [c3]; exact hl.1
  have w : W p G.1 e { frames := R.frames, cells := 1, slots := 6, locals := R.locals } s' m args below meth c H [] 0 0 (fun U => U.status = .running ∧ Ended U below (.threw (am_gz G + h.length)) ∧ s'.WarmedH U.vm ∧ s'.sameButNew ({ U with vm := s'.vm } : State) [] 1 6 ∧ ∃ ce, U.heap[am_gz G + h.length]? = some ce ∧ s'.vm.findClass X = some ce.cls ∧ ce.vm = .none) (F0 m pc ls (st.map (am_v G))) := by
    refine W.newcK c1 c2 hown' (ok _ w1) (ok _ w2) (ok _ w3) rfl hd0 (by show 0 + 1 ≤ 1; omega) (by show 0 + 6 ≤ 6; omega) hfound hh.1 fun H1 kC hkC e1 z1 o1 => ?_
    refine lv_dup c1 c2 hd1 rfl ?_
    refine va_ldcS c1 c2 hown' (by rw [hown]; exact hqs) hd2 ?_
    intro T2 hT2 X2
    obtain ⟨U, u1, u2, u3, u4, u5, ce, u6, u7⟩ := X2.ctorThrowS c1 htr (own := y.1.cls) (cls := X) (names := am_up) (ic := ic) hown' hfit (by decide) hatoms (fun x hx => by cases hx) (a := am_gz G + h.length) (cX := (am_gD G).1 ci) (kX := kC) hfound hkC (by rw [hT2]; exact e1) (by rw [hsH, hh.1]; exact Nat.le_refl _)
      (msg := .ref qs) rfl (g := F0 m (pc + 6) ls (.ref qs :: .ref (am_gz G + h.length) :: .ref (am_gz G + h.length) :: st.map (am_v G))) rfl hsz rfl rfl (rest := st.map (am_v G)) rfl (by rw [c2]; exact hd3) (by rw [c2]; exact hd4)
      (fun x hxm => by
        have h1 : (x.startPc, x.endPc, x.handlerPc, x.catchType) ∈ y.2.2.2.2 := by rw [← c9]; exact List.mem_map.mpr ⟨x, hxm, rfl⟩
        rw [hx] at h1
        cases h1)
      (by show 2 + 3 < R.frames; omega) (by
        show 2 * 0 + ((Value.ref (am_gz G + h.length) :: st.map (am_v G)).map fun v => v.category).sum + (13 * (2 + 1) + 42) ≤ R.locals
        rw [List.map_cons, List.sum_cons, am_cats]
        show 2 * 0 + (1 + _) + _ ≤ _
        omega) c8
    exact ⟨U, u1, u2, u3, u4, u5, ce, u6, u7.cls, u7.vm⟩
  obtain ⟨U, u1, u2, u3, u4, u5, ce, u6, u7, u8⟩ := w T hT Y
  have hoH : ∀ q : Nat, q < H.size → U.heap[q]? = H[q]? := by
    intro q hq
    obtain ⟨cq, hcq⟩ : ∃ cq, s'.heap[q]? = some cq := ⟨_, Array.getElem?_eq_getElem (by rw [hsH]; exact hq)⟩
    obtain ⟨c', g1, g2, g3, g4⟩ := u5.2.2.2.2.2 q cq hcq
    have hsl : c'.slots = cq.slots := by
      apply Array.ext_getElem?
      intro i
      exact g4 i (by simp)
    have g1' : U.heap[q]? = some c' := g1
    have : c' = cq := by rw [g2, hsl]
    rw [g1', this, ← hcq, hsH]
  have hUz : U.heap.size = H.size + 1 := by
    have h1 : U.heap.size ≤ s'.heap.size + 1 := u5.2.2.1
    have h2 := (Array.getElem?_eq_some_iff.mp u6).1
    rw [hsH] at h1
    have h3 := hh.1
    omega
  have hsame : s.sameButNew ({ U with vm := s.vm } : State) (locs ++ []) (cells + 1) (slots + 6) := by
    have h5 : T.sameButNew ({ U with vm := T.vm } : State) [] 1 6 := by
      have h6 := u5
      rw [← hse] at h6
      obtain ⟨q1, q2⟩ := h6
      refine ⟨?_, q2⟩
      have q3 : (T.setFrames (.invoking m args :: below)).setFrames U.frames = T.setFrames U.frames := State.setFrames_setFrames ..
      have q4 : ({ U with vm := T.vm } : State) = { (T.setFrames (.invoking m args :: below)).setFrames U.frames with heap := U.heap, slotsUsed := U.slotsUsed } := q1
      rw [q3] at q4
      exact q4
    have h7 := X0.same.trans (h5.setVm s.vm)
    exact h7
  rw [List.append_nil] at hsame
  refine ⟨U, u1, .threw (am_gz G + h.length), locs, cells + 1, slots + 6, .inr (ci, h.length + 1), h ++ [.inr (ci, [])], u2, u3, State.WarmedH.trans hW u4, hsame, by omega, by omega, hS.2.2, fun q hq => ?_, ?_, rfl, hq⟩
  · rw [hoH q (by have := hh.1; omega), ← hold q hq, hsH]
  · refine hh.push ⟨_, hcl, ce, u6, ?_, u8, fun k hk => absurd hk (Nat.not_lt_zero k)⟩ hUz hoH
    exact Option.some.inj (u7.symm.trans hfound)
end AMT
end
section
/-! the search for a handler, the catch types linked or not yet -/
section AMG
variable {E : CtlPost} {e : Env} {d : Bool} {acts : List Action} {s : State} {f : JFrame} {a : Addr} {Q : Handler → Pre}
theorem am_goC {x : ExceptionTableEntry} {t : List ExceptionTableEntry} {c : ClassId} {vm' : Vm} {cell : Cell} (hx : covers x f.pc = true) (h0 : x.catchType ≠ 0)
    (hg : (Jvm.resolveClass f.method.cls x.catchType).Gives e.toSetting s.vm (.ok c) vm') (hsz : vm'.classes.size ≤ s.vm.classes.size) (hcell : s.heap[a]? = some cell) (hobj : ∀ k, cell.vm ≠ .statics k)
    (hk : ∃ k, vm'.classes[cell.cls]? = some k) (hc : ∃ k, vm'.classes[c]? = some k) :
    wp (findHandler.go f a (x :: t)) Q E e d acts s ↔ if vm'.assignable cell.cls c = true then Q (.found x.handlerPc) d acts (s.setVm vm') else wp (findHandler.go f a t) Q E e d acts (s.setVm vm') := by
  simp only [covers] at hx
  obtain ⟨ha, ht⟩ := hg.op (op := VmOp.resolveClass f.method.cls x.catchType) rfl
  cases hfit : vm'.assignable cell.cls c <;>
    simp [findHandler.go, hx, h0, ha, ht, hsz, hcell, hobj, hk, hc, hfit, VmOp.dirties, VmOp.acts]
end AMG
/-- an entry of the table: it covers the place, and its class is linked, can (b) or can't take the object -/
def am_ent (s₀ : State) (e : Env) (f : JFrame) (cell : Cell) (b : Bool) (q : ExceptionTableEntry) : Prop :=
  covers q f.pc = true ∧ q.catchType ≠ 0 ∧ ∃ c, s₀.vm.ClassLinks e.platform f.method.cls q.catchType c ∧ (∃ k, s₀.vm.classes[c]? = some k) ∧ s₀.vm.assignable cell.cls c = b
theorem am_search {s₀ S : State} {e : Env} {f : JFrame} {a : Addr} {cell : Cell} (hobj : ∀ k, cell.vm ≠ .statics k) (hcell : S.heap[a]? = some cell) (hk : ∃ k, s₀.vm.classes[cell.cls]? = some k) (x : ExceptionTableEntry) (rest : List ExceptionTableEntry) (hx : am_ent s₀ e f cell true x) :
    ∀ (pre : List ExceptionTableEntry) (vm₀ : Vm), s₀.WarmedH vm₀ → (∀ q ∈ pre, am_ent s₀ e f cell false q) →
      ∃ vm', s₀.WarmedH vm' ∧ ∀ (Q : Handler → Pre) (E : CtlPost) (d : Bool) (acts : List Action), wp (findHandler.go f a (pre ++ x :: rest)) Q E e d acts (S.setVm vm₀) ↔ Q (.found x.handlerPc) d acts (S.setVm vm')
  | [], vm₀, hW, _ => by
    obtain ⟨h1, h2, c, h3, ⟨kc, h4⟩, h5⟩ := hx
    obtain ⟨kk, hkk⟩ := hk
    obtain ⟨hg, hw, hr⟩ := State.classEntry (e := e) hW h3
    have hal := hw.alike
    refine ⟨_, hw, fun Q E d acts => ?_⟩
    rw [List.nil_append, am_goC (s := S.setVm vm₀) h1 h2 hg (by rw [Vm.size_noted]; exact Nat.le_refl _) hcell hobj (by obtain ⟨k', hk', -⟩ := hal.2.2 _ _ hkk; exact ⟨k', hk'⟩) (by obtain ⟨k', hk', -⟩ := hal.2.2 _ _ h4; exact ⟨k', hk'⟩), hal.assignable, h5, if_pos rfl]
    rfl
  | p :: pre, vm₀, hW, hp => by
    obtain ⟨h1, h2, c, h3, ⟨kc, h4⟩, h5⟩ := hp p List.mem_cons_self
    obtain ⟨kk, hkk⟩ := id hk
    obtain ⟨hg, hw, hr⟩ := State.classEntry (e := e) hW h3
    have hal := hw.alike
    obtain ⟨vm', hw', ih⟩ := am_search hobj hcell hk x rest hx pre _ hw (fun q hq => hp q (List.mem_cons_of_mem _ hq))
    refine ⟨vm', hw', fun Q E d acts => ?_⟩
    rw [List.cons_append, am_goC (s := S.setVm vm₀) h1 h2 hg (by rw [Vm.size_noted]; exact Nat.le_refl _) hcell hobj (by obtain ⟨k', hk', -⟩ := hal.2.2 _ _ hkk; exact ⟨k', hk'⟩) (by obtain ⟨k', hk', -⟩ := hal.2.2 _ _ h4; exact ⟨k', hk'⟩), hal.assignable, h5, if_neg (by decide)]
    exact ih Q E d acts
theorem am_stepCatch {e : Env} {s s' : State} {a : Addr} {f : JFrame} {r : List Frame} {pc : Nat} (hfind : ∀ (Q : Handler → Pre) (E : CtlPost) (d : Bool) (acts : List Action), wp (findHandler f a) Q E e d acts s ↔ Q (.found pc) d acts s') :
    (stepThrowing e s a (.java f :: r)).Is (s'.setFrames (.java { f with pc := pc, stack := [.ref a] } :: r)) [] := by
  simp only [stepThrowing, searchFrame, vmDo]
  generalize hr : Sem.go _ e false [] s = res
  obtain ⟨as, rfl, ha⟩ := Sem.eq_ok_of hr (a := Handler.found pc) (s' := s') (acts' := []) (by simp [hfind _ _ _ _])
  exact ⟨rfl, ha⟩
theorem am_split {α β : Type} (f : α → β) : ∀ (l : List α) (pre : List β) (x : β) (rest : List β), l.map f = pre ++ x :: rest → ∃ p q r, l = p ++ q :: r ∧ p.map f = pre ∧ f q = x
  | [], pre, x, rest, h => by simp at h
  | b :: l, [], x, rest, h => by
    simp at h
    exact ⟨[], b, l, rfl, rfl, h.1⟩
  | b :: l, c :: pre, x, rest, h => by
    simp at h
    obtain ⟨p, q, r, h1, h2, h3⟩ := am_split f l pre x rest h.2
    exact ⟨b :: p, q, r, by rw [h1]; rfl, by rw [List.map_cons, h.1, h2], h3⟩
section AMCT
variable {G : am_G} {y : am_M} {d bc bs : Nat} {Q : am_O → am_H → Prop} {pc : Nat} {L : List (Nat × Value)} {st : List Value} {h : am_H}
theorem am_catch {ci a : Nat} {X : String} {T0 : u_T} {fs : List Value} {s1 e1 hp ct : Nat} (hcl : am_cl[ci]? = some (X, T0, 0)) (ha : h[a]? = some (.inr (ci, fs))) (pre rest : List (Nat × Nat × Nat × Nat)) (hsp : y.2.2.2.2 = pre ++ (s1, e1, hp, ct) :: rest)
    (hpre : ∀ q ∈ pre, q.1 ≤ pc ∧ pc < q.2.1 ∧ q.2.2.2 ≠ 0 ∧ ∃ B, Cond.classLink y.1.cls q.2.2.2 B ∈ am_T ∧ (X, B) ∈ am_ncs) (hx : s1 ≤ pc ∧ pc < e1 ∧ ct ≠ 0) (w1 : Cond.classLink y.1.cls ct X ∈ am_T) (w2 : Cond.castable X X ∈ am_T2)
    (k : am_W G y d bc bs Q hp L [.ref (a + 1)] h) : am_TW G y d bc bs Q pc L (ci, a + 1) h := by
  intro p e R s m args below meth c H locs cells slots ls stk C hR hh hS hl T hT X0
  have hpl : e.platform.magicAccessors = ({} : Platform).magicAccessors := by rw [X0.admits.platform]
  obtain ⟨r, h1, cell, q1, q2, q3, -⟩ := hh.2 a _ (am_wsat ha)
  have hfX : s.vm.findClass X = some cell.cls := by rw [q2]; exact (C.2.1.1 ci _ hcl).2.1
  obtain ⟨kX, hkX⟩ := Vm.classAt_of_findClass hfX
  obtain ⟨ps, x, rs, hs1, hs2, hs3⟩ := am_split _ _ _ _ _ (C.2.2.2.2.1.trans hsp)
  have ok := C.1.2.2.2.2
  have hent : am_ent s e (F0 m pc ls stk) cell true x := by
    have e1' : x.startPc = s1 := congrArg Prod.fst hs3
    have e2' : x.endPc = e1 := congrArg (fun q => q.2.1) hs3
    have e3' : x.catchType = ct := congrArg (fun q => q.2.2.2) hs3
    obtain ⟨c1, hc1, hl1⟩ := Cond.classLink_spec C.1.2.2.2.1 (ok _ w1) e.platform hpl
    refine ⟨?_, by rw [e3']; exact hx.2.2, c1, by rw [e3']; exact hl1, Vm.classAt_of_findClass hc1, ?_⟩
    · show (decide (x.startPc ≤ pc) && decide (pc < x.endPc)) = true
      rw [e1', e2', decide_eq_true hx.1, decide_eq_true hx.2.1]
      rfl
    · obtain ⟨c3, c4, hc3, hc4, hasg⟩ := Cond.castable_spec (args := args) (first := s) (o := none) (idx := []) (va_Nw.use (A := args) rfl (C.2.2.2.2.2.2.2.2.2.2.2.2.2.2.1 _ w2))
      cases Option.some.inj (hc3.symm.trans hfX)
      cases Option.some.inj (hc4.symm.trans hfX)
      cases Option.some.inj (hc1.symm.trans hfX)
      exact hasg
  have hpent : ∀ q ∈ ps, am_ent s e (F0 m pc ls stk) cell false q := by
    intro q hq
    have hm : (q.startPc, q.endPc, q.handlerPc, q.catchType) ∈ pre := by rw [← hs2]; exact List.mem_map.mpr ⟨q, hq, rfl⟩
    obtain ⟨g1, g2, g3, B, g4, g5⟩ := hpre _ hm
    obtain ⟨c1, hc1, hl1⟩ := Cond.classLink_spec C.1.2.2.2.1 (ok _ g4) e.platform hpl
    refine ⟨?_, g3, c1, hl1, Vm.classAt_of_findClass hc1, ?_⟩
    · show (decide (q.startPc ≤ pc) && decide (pc < q.endPc)) = true
      rw [decide_eq_true g1, decide_eq_true g2]
      rfl
    · obtain ⟨-, -, -, -, -, -, -, -, -, -, -, -, -, k5, -⟩ := C
      obtain ⟨a', b', f1, f2, f3⟩ := k5 _ g5
      cases Option.some.inj (f1.symm.trans hfX)
      cases Option.some.inj (f2.symm.trans hc1)
      exact f3
  have hcellS : ((T.setTop (F0 m pc ls stk)).pushFrame (.throwing (am_gz G + a))).heap[am_gz G + a]? = some cell := by
    rw [Stand.throwing_heap, hT]
    exact q1
  obtain ⟨vm', hW', hfind⟩ := am_search (S := (T.setTop (F0 m pc ls stk)).pushFrame (.throwing (am_gz G + a))) (e := e) (f := F0 m pc ls stk) (a := am_gz G + a) (fun k hk => by rw [q3] at hk; cases hk) hcellS ⟨kX, hkX⟩ x rs hent ps T.vm X0.warmed hpent
  have hmT : ((T.setTop (F0 m pc ls stk)).pushFrame (.throwing (am_gz G + a))).vm.method? m = some meth := by
    rw [Stand.throwing_vm]
    exact X0.method'
  have hfind2 : ∀ (Q : Handler → Pre) (E : CtlPost) (d : Bool) (acts : List Action), wp (findHandler (F0 m pc ls stk) (am_gz G + a)) Q E e d acts ((T.setTop (F0 m pc ls stk)).pushFrame (.throwing (am_gz G + a))) ↔ Q (.found x.handlerPc) d acts (((T.setTop (F0 m pc ls stk)).pushFrame (.throwing (am_gz G + a))).setVm vm') := by
    intro Q E d acts
    have hS0 : ((T.setTop (F0 m pc ls stk)).pushFrame (.throwing (am_gz G + a))).setVm T.vm = (T.setTop (F0 m pc ls stk)).pushFrame (.throwing (am_gz G + a)) := by
      have := Stand.throwing_vm T (F0 m pc ls stk) (am_gz G + a)
      rw [← this, State.setVm_self]
    have h9 := hfind Q E d acts
    rw [hS0] at h9
    rw [W.findHandler_eq (f := F0 m pc ls stk) hmT X0.code, hs1]
    exact h9
  have hhp : x.handlerPc = hp := congrArg (fun q => q.2.2.1) hs3
  rw [hhp] at hfind2
  obtain ⟨t, a1, b1⟩ := k p e R s m args below meth c H locs cells slots ls C hR hh hS hl (T.setVm vm') hT (X0.noted hW')
  refine ⟨t, ?_, b1⟩
  have hAt : At T (F0 m pc ls stk).method c below := X0.here
  obtain ⟨hgo, hw⟩ := hAt.throwing (am_gz G + a)
  refine Steps.head hgo hw ?_
  show Steps p.tables e below (stepThread p.tables e ((T.setTop (F0 m pc ls stk)).pushFrame (.throwing (am_gz G + a)))).1 t
  rw [stepThread_throwing (frames_entered hAt.top _), (am_stepCatch hfind2).1]
  obtain ⟨g0, hg⟩ := Option.isSome_iff_exists.mp hAt.top
  obtain ⟨rr, hrr⟩ := State.topJava?_eq_some.mp hg
  have hrr' : (T.setVm vm').frames = .java g0 :: rr := hrr
  rw [State.setTop_of_frames _ hrr'] at a1
  have e5 : (((T.setTop (F0 m pc ls stk)).pushFrame (.throwing (am_gz G + a))).setVm vm').setFrames (.java { F0 m pc ls stk with pc := hp, stack := [.ref (am_gz G + a)] } :: T.frames.tail) = (T.setVm vm').setFrames (.java (F0 m hp ls [.ref (am_gz G + a)]) :: rr) := by
    rw [State.pushFrame, State.setTop_of_frames _ hrr, State.setFrames_setFrames, hrr]
    show ((T.setFrames _).setFrames _).setVm vm' = _
    rw [State.setFrames_setFrames]
    rfl
  rw [e5]
  exact a1
end AMCT
end
section
/-! System.arraycopy of ints -/
section AMY
variable {G : am_G} {y : am_M} {d bc bs : Nat} {Q : am_O → am_H → Prop} {pc : Nat} {L : List (Nat × Value)} {st : List Value} {h : am_H}
theorem am_copy {index a0 a1 n0 n1 : Nat} {f g : Nat → Int32} (sp dp n : Nat) (hd : decode y.2.1 pc = .ok (.invokestatic index, 3)) (w1 : Cond.methodLink y.1.cls index arraycopyName ∈ am_T) (w2 : Cond.native arraycopyName ∈ am_T) (w3 : Cond.static arraycopyName ∈ am_T) (w4 : Cond.initialized "java/lang/System" ∈ am_T)
    (h0 : h[a0]? = some (.inl (0, n0, .inl f))) (h1 : h[a1]? = some (.inl (0, n1, .inl g))) (hs : sp + n ≤ n0) (ht : dp + n ≤ n1) (hn0 : n0 < 2 ^ 31) (hn1 : n1 < 2 ^ 31) (hdd : 1 ≤ d) (hst : (st.map fun v => v.category).sum ≤ 8)
    (k : am_W G y d bc bs Q (pc + 3) L st (h.set a1 (.inl (0, n1, .inl (va_cpy f g sp dp n))))) : am_W G y d bc bs Q pc L (.int (nI n) :: .int (nI dp) :: .ref (a1 + 1) :: .int (nI sp) :: .ref (a0 + 1) :: st) h := by
  intro p e R s m args below meth c H locs cells slots ls C hR hh hS hl T hT X
  obtain ⟨r1, r2, r3, r4⟩ := id hR
  have ok := C.1.2.2.2.2
  have hc0 : H[am_gz G + a0]? = some (vp_cell (am_gA G 0) (n0, .inl f)) := hh.2 a0 _ (am_wsat h0)
  have hc1 : H[am_gz G + a1]? = some (vp_cell (am_gA G 0) (n1, .inl g)) := hh.2 a1 _ (am_wsat h1)
  obtain ⟨-, k0, hk0, cm0, hkk0⟩ := (C.2.1.2 0 _ rfl).1 n0 (fun j => .int (f j))
  obtain ⟨-, k1, hk1, cm1, hkk1⟩ := (C.2.1.2 0 _ rfl).1 n1 (fun j => .int (g j))
  have q1 : (nI sp).toInt = sp := nI_toInt (by omega)
  have q2 : (nI dp).toInt = dp := nI_toInt (by omega)
  have q3 : (nI n).toInt = n := nI_toInt (by omega)
  have z1 : (nI sp).toNatClampNeg = sp := nI_clamp (by omega)
  have z2 : (nI dp).toNatClampNeg = dp := nI_clamp (by omega)
  have z3 : (nI n).toNatClampNeg = n := nI_clamp (by omega)
  obtain ⟨vm', X', step⟩ := X.arraycopy C.1.1 C.1.2.2.2.1 (ok _ w1) (ok _ w2) (ok _ w3) (ok _ w4) (src := am_gz G + a0) (dst := am_gz G + a1) (cs := vp_cell (am_gA G 0) (n0, .inl f)) (cd := vp_cell (am_gA G 0) (n1, .inl g)) (srcPos := nI sp) (destPos := nI dp) (n := nI n) (by rw [hT]; exact hc0) (by rw [hT]; exact hc1)
    (fun _ h => by cases h) (fun _ h => by cases h) (fun h => by cases h) (fun h => by cases h) hk0 hk1 hkk0 hkk1 (by simp [refKind]) (nI_pos (by omega)) (nI_pos (by omega)) (nI_pos (by omega))
    (by rw [q1, q3]; show ¬ _ > ((arrV (am_gA G 0) n0 (fun j => .int (f j))).slots.size : Int); rw [arrV_size]; omega)
    (by rw [q2, q3]; show ¬ _ > ((arrV (am_gA G 0) n1 (fun j => .int (g j))).slots.size : Int); rw [arrV_size]; omega)
    (fun vm₁ _ i hi => by
      rw [z3] at hi
      rw [z1]
      have e : (vp_cell (am_gA G 0) (n0, .inl f)).slots.getD (sp + i) .null = .int (f (sp + i)) := by
        show (arrV (am_gA G 0) n0 (fun j => .int (f j))).slots.getD _ _ = _
        rw [Array.getD_eq_getD_getElem?, arrV_read _ _ (by omega)]
        rfl
      refine ⟨?_, ?_⟩
      · rw [e]
        rfl
      · rw [e]
        exact trivial)
    (g := F0 m pc ls ((Value.int (nI n) :: .int (nI dp) :: .ref (a1 + 1) :: .int (nI sp) :: .ref (a0 + 1) :: st).map (am_v G))) rfl (by rw [C.1.2.2.1]; exact hl.1) (rest := st.map (am_v G)) rfl (by rw [C.1.2.1]; exact hd) (by omega)
    (by
      show 2 * 0 + ((st.map (am_v G)).map fun v => v.category).sum + _ ≤ _
      rw [am_cats]
      have : nativeFrameWords "java/lang/System" "arraycopy" 5 ≤ 30 := by decide +kernel
      omega)
  have e1 : copied (vp_cell (am_gA G 0) (n0, .inl f)) (vp_cell (am_gA G 0) (n1, .inl g)) (nI sp) (nI dp) (nI n) = vp_cell (am_gA G 0) (n1, .inl (va_cpy f g sp dp n)) := by
    have := va_copied (fun z => Value.int z) (am_gA G 0) (am_gA G 0) (n0 := n0) (n1 := n1) (sp := sp) (dp := dp) (n := n) f g hs
    rw [← z1, ← z2, ← z3] at this
    conv => rhs; rw [← z1, ← z2, ← z3]
    exact this
  rw [e1] at X' step
  have hlt : am_gz G + a1 < H.size := (Array.getElem?_eq_some_iff.mp hc1).1
  have hheap : ((T.setVm vm').setCell (am_gz G + a1) (vp_cell (am_gA G 0) (n1, .inl (va_cpy f g sp dp n)))).heap = H.setIfInBounds (am_gz G + a1) (vp_cell (am_gA G 0) (n1, .inl (va_cpy f g sp dp n))) := by rw [← hT]; rfl
  have oq : ∀ q : Nat, q ≠ am_gz G + a1 → (H.setIfInBounds (am_gz G + a1) (vp_cell (am_gA G 0) (n1, .inl (va_cpy f g sp dp n))))[q]? = H[q]? := fun q hq => by simp [Array.getElem?_setIfInBounds, Ne.symm hq]
  obtain ⟨t, a2, b2⟩ := k p e R s m args below meth c _ _ cells slots ls C hR (hh.set h1 (H1 := H.setIfInBounds (am_gz G + a1) (vp_cell (am_gA G 0) (n1, .inl (va_cpy f g sp dp n)))) (show (H.setIfInBounds (am_gz G + a1) _)[am_gz G + a1]? = some _ by simp [Array.getElem?_setIfInBounds, hlt]) (by simp) oq)
    ⟨by simp; exact hS.1, fun q g1 g2 => by
      rw [oq q (fun e => g2 (by rw [e]; exact Nat.le_add_right _ _))]
      exact hS.2.1 q g1 g2, fun q hq => by
      rcases List.mem_append.mp hq with h | h
      · exact hS.2.2 q h
      · obtain ⟨z, -, hz⟩ := List.mem_map.mp h
        rw [← hz]
        exact Nat.le_add_right _ _⟩ hl _ hheap X'
  exact ⟨t, step t a2, b2⟩
end AMY
end
