section
-- ===== PART A: goes FIRST, ahead of the names: the tables' words, and 'selects' of the private methods out of them =====
/-- a private method of a class that the tables say can be made, by its rows of tables_1 -/
def lw_okq (q : MethodName × Nat) : Prop := (q.1.cls ≠ "java/lang/invoke/MethodHandle" ∧ q.1.cls ≠ "java/lang/invoke/VarHandle") ∧ Cond.instantiable q.1.cls q.2 ∈ tables_1 ∧ Cond.privateMethod q.1 ∈ tables_1 ∧ Cond.instanceMethod q.1 ∈ tables_1
theorem lw_p0 : lw_okq (⟨"java/lang/Throwable", "fillInStackTrace", "(I)Ljava/lang/Throwable;"⟩, 6) := ⟨⟨by decide +kernel, by decide +kernel⟩, List.mem_of_getElem? (i := 290) (by decide +kernel), List.mem_of_getElem? (i := 288) (by decide +kernel), List.mem_of_getElem? (i := 289) (by decide +kernel)⟩
theorem lw_p1 : lw_okq (⟨"WorkPlans", "demandJob", "(I)V"⟩, 6) := ⟨⟨by decide +kernel, by decide +kernel⟩, List.mem_of_getElem? (i := 15) (by decide +kernel), List.mem_of_getElem? (i := 390) (by decide +kernel), List.mem_of_getElem? (i := 391) (by decide +kernel)⟩
theorem lw_p2 : lw_okq (⟨"WorkPlans$Shop", "hasMachine", "(I)Z"⟩, 15) := ⟨⟨by decide +kernel, by decide +kernel⟩, List.mem_of_getElem? (i := 23) (by decide +kernel), List.mem_of_getElem? (i := 429) (by decide +kernel), List.mem_of_getElem? (i := 430) (by decide +kernel)⟩
theorem lw_p3 : lw_okq (⟨"WorkPlans$Floor", "addBusy", "(III)V"⟩, 6) := ⟨⟨by decide +kernel, by decide +kernel⟩, List.mem_of_getElem? (i := 104) (by decide +kernel), List.mem_of_getElem? (i := 446) (by decide +kernel), List.mem_of_getElem? (i := 447) (by decide +kernel)⟩
theorem lw_p4 : lw_okq (⟨"WorkPlans$Floor", "placeStep", "(II)I"⟩, 6) := ⟨⟨by decide +kernel, by decide +kernel⟩, List.mem_of_getElem? (i := 104) (by decide +kernel), List.mem_of_getElem? (i := 454) (by decide +kernel), List.mem_of_getElem? (i := 455) (by decide +kernel)⟩
theorem lw_p5 : lw_okq (⟨"WorkPlans$Floor", "firstBegin", "(III)I"⟩, 6) := ⟨⟨by decide +kernel, by decide +kernel⟩, List.mem_of_getElem? (i := 104) (by decide +kernel), List.mem_of_getElem? (i := 458) (by decide +kernel), List.mem_of_getElem? (i := 459) (by decide +kernel)⟩
theorem lw_p6 : lw_okq (⟨"WorkPlans$Search", "orderByDue", "()V"⟩, 10) := ⟨⟨by decide +kernel, by decide +kernel⟩, List.mem_of_getElem? (i := 131) (by decide +kernel), List.mem_of_getElem? (i := 473) (by decide +kernel), List.mem_of_getElem? (i := 474) (by decide +kernel)⟩
theorem lw_p7 : lw_okq (⟨"WorkPlans$Search", "goOn", "(IJJ)Z"⟩, 10) := ⟨⟨by decide +kernel, by decide +kernel⟩, List.mem_of_getElem? (i := 131) (by decide +kernel), List.mem_of_getElem? (i := 482) (by decide +kernel), List.mem_of_getElem? (i := 483) (by decide +kernel)⟩
theorem lw_p8 : lw_okq (⟨"WorkPlans$Search", "follow", "(IJJ)Z"⟩, 10) := ⟨⟨by decide +kernel, by decide +kernel⟩, List.mem_of_getElem? (i := 131) (by decide +kernel), List.mem_of_getElem? (i := 488) (by decide +kernel), List.mem_of_getElem? (i := 489) (by decide +kernel)⟩
theorem lw_p9 : lw_okq (⟨"WorkPlans", "demandFreshPlan", "()V"⟩, 6) := ⟨⟨by decide +kernel, by decide +kernel⟩, List.mem_of_getElem? (i := 15) (by decide +kernel), List.mem_of_getElem? (i := 517) (by decide +kernel), List.mem_of_getElem? (i := 518) (by decide +kernel)⟩
theorem lw_p10 : lw_okq (⟨"WorkPlans", "nextPlace", "(I)I"⟩, 6) := ⟨⟨by decide +kernel, by decide +kernel⟩, List.mem_of_getElem? (i := 15) (by decide +kernel), List.mem_of_getElem? (i := 526) (by decide +kernel), List.mem_of_getElem? (i := 527) (by decide +kernel)⟩
theorem lw_p11 : lw_okq (⟨"WorkPlans$Plan", "swap", "(II)V"⟩, 10) := ⟨⟨by decide +kernel, by decide +kernel⟩, List.mem_of_getElem? (i := 173) (by decide +kernel), List.mem_of_getElem? (i := 536) (by decide +kernel), List.mem_of_getElem? (i := 537) (by decide +kernel)⟩
theorem lw_p12 : lw_okq (⟨"WorkPlans", "demandPlan", "()V"⟩, 6) := ⟨⟨by decide +kernel, by decide +kernel⟩, List.mem_of_getElem? (i := 15) (by decide +kernel), List.mem_of_getElem? (i := 548) (by decide +kernel), List.mem_of_getElem? (i := 549) (by decide +kernel)⟩
theorem lw_p13 : lw_okq (⟨"WorkPlans$Floor", "costOfTwo", "(II)J"⟩, 6) := ⟨⟨by decide +kernel, by decide +kernel⟩, List.mem_of_getElem? (i := 104) (by decide +kernel), List.mem_of_getElem? (i := 608) (by decide +kernel), List.mem_of_getElem? (i := 609) (by decide +kernel)⟩
theorem lw_p14 : lw_okq (⟨"WorkPlans$Plan", "beginsTooEarly", "(I)Z"⟩, 10) := ⟨⟨by decide +kernel, by decide +kernel⟩, List.mem_of_getElem? (i := 173) (by decide +kernel), List.mem_of_getElem? (i := 623) (by decide +kernel), List.mem_of_getElem? (i := 624) (by decide +kernel)⟩
theorem lw_p15 : lw_okq (⟨"WorkPlans$Plan", "stepEnd", "(I)I"⟩, 10) := ⟨⟨by decide +kernel, by decide +kernel⟩, List.mem_of_getElem? (i := 173) (by decide +kernel), List.mem_of_getElem? (i := 627) (by decide +kernel), List.mem_of_getElem? (i := 628) (by decide +kernel)⟩
def lw_privs_1 : List (MethodName × Nat) := [(⟨"java/lang/Throwable", "fillInStackTrace", "(I)Ljava/lang/Throwable;"⟩, 6), (⟨"WorkPlans", "demandJob", "(I)V"⟩, 6), (⟨"WorkPlans$Shop", "hasMachine", "(I)Z"⟩, 15), (⟨"WorkPlans$Floor", "addBusy", "(III)V"⟩, 6), (⟨"WorkPlans$Floor", "placeStep", "(II)I"⟩, 6), (⟨"WorkPlans$Floor", "firstBegin", "(III)I"⟩, 6), (⟨"WorkPlans$Search", "orderByDue", "()V"⟩, 10), (⟨"WorkPlans$Search", "goOn", "(IJJ)Z"⟩, 10), (⟨"WorkPlans$Search", "follow", "(IJJ)Z"⟩, 10), (⟨"WorkPlans", "demandFreshPlan", "()V"⟩, 6), (⟨"WorkPlans", "nextPlace", "(I)I"⟩, 6), (⟨"WorkPlans$Plan", "swap", "(II)V"⟩, 10), (⟨"WorkPlans", "demandPlan", "()V"⟩, 6), (⟨"WorkPlans$Floor", "costOfTwo", "(II)J"⟩, 6), (⟨"WorkPlans$Plan", "beginsTooEarly", "(I)Z"⟩, 10), (⟨"WorkPlans$Plan", "stepEnd", "(I)I"⟩, 10)]
theorem lw_r1 : ∀ q ∈ lw_privs_1, lw_okq q := List.forall_mem_cons.mpr ⟨lw_p0, List.forall_mem_cons.mpr ⟨lw_p1, List.forall_mem_cons.mpr ⟨lw_p2, List.forall_mem_cons.mpr ⟨lw_p3, List.forall_mem_cons.mpr ⟨lw_p4, List.forall_mem_cons.mpr ⟨lw_p5, List.forall_mem_cons.mpr ⟨lw_p6, List.forall_mem_cons.mpr ⟨lw_p7, List.forall_mem_cons.mpr ⟨lw_p8, List.forall_mem_cons.mpr ⟨lw_p9, List.forall_mem_cons.mpr ⟨lw_p10, List.forall_mem_cons.mpr ⟨lw_p11, List.forall_mem_cons.mpr ⟨lw_p12, List.forall_mem_cons.mpr ⟨lw_p13, List.forall_mem_cons.mpr ⟨lw_p14, List.forall_mem_cons.mpr ⟨lw_p15, fun _ h => absurd h List.not_mem_nil⟩⟩⟩⟩⟩⟩⟩⟩⟩⟩⟩⟩⟩⟩⟩⟩
theorem lw_p16 : lw_okq (⟨"WorkPlans$Plan", "sharesWithStep", "(I)Z"⟩, 10) := ⟨⟨by decide +kernel, by decide +kernel⟩, List.mem_of_getElem? (i := 173) (by decide +kernel), List.mem_of_getElem? (i := 631) (by decide +kernel), List.mem_of_getElem? (i := 632) (by decide +kernel)⟩
theorem lw_p17 : lw_okq (⟨"WorkPlans$Plan", "sharesWithSpan", "(I)Z"⟩, 10) := ⟨⟨by decide +kernel, by decide +kernel⟩, List.mem_of_getElem? (i := 173) (by decide +kernel), List.mem_of_getElem? (i := 636) (by decide +kernel), List.mem_of_getElem? (i := 637) (by decide +kernel)⟩
theorem lw_p18 : lw_okq (⟨"WorkPlansModel", "allFit", "()Z"⟩, 34) := ⟨⟨by decide +kernel, by decide +kernel⟩, List.mem_of_getElem? (i := 645) (by decide +kernel), List.mem_of_getElem? (i := 785) (by decide +kernel), List.mem_of_getElem? (i := 786) (by decide +kernel)⟩
theorem lw_p19 : lw_okq (⟨"WorkPlansModel", "fits", "(I)Z"⟩, 34) := ⟨⟨by decide +kernel, by decide +kernel⟩, List.mem_of_getElem? (i := 645) (by decide +kernel), List.mem_of_getElem? (i := 789) (by decide +kernel), List.mem_of_getElem? (i := 790) (by decide +kernel)⟩
theorem lw_p20 : lw_okq (⟨"WorkPlansModel", "keepWas", "()V"⟩, 34) := ⟨⟨by decide +kernel, by decide +kernel⟩, List.mem_of_getElem? (i := 645) (by decide +kernel), List.mem_of_getElem? (i := 793) (by decide +kernel), List.mem_of_getElem? (i := 794) (by decide +kernel)⟩
theorem lw_p21 : lw_okq (⟨"WorkPlansModel", "search", "(I)I"⟩, 34) := ⟨⟨by decide +kernel, by decide +kernel⟩, List.mem_of_getElem? (i := 645) (by decide +kernel), List.mem_of_getElem? (i := 797) (by decide +kernel), List.mem_of_getElem? (i := 798) (by decide +kernel)⟩
theorem lw_p22 : lw_okq (⟨"WorkPlansModel", "layByDue", "()V"⟩, 34) := ⟨⟨by decide +kernel, by decide +kernel⟩, List.mem_of_getElem? (i := 645) (by decide +kernel), List.mem_of_getElem? (i := 801) (by decide +kernel), List.mem_of_getElem? (i := 802) (by decide +kernel)⟩
theorem lw_p23 : lw_okq (⟨"WorkPlansModel", "costOfRow", "(I)J"⟩, 34) := ⟨⟨by decide +kernel, by decide +kernel⟩, List.mem_of_getElem? (i := 645) (by decide +kernel), List.mem_of_getElem? (i := 805) (by decide +kernel), List.mem_of_getElem? (i := 806) (by decide +kernel)⟩
theorem lw_p24 : lw_okq (⟨"WorkPlansModel", "clearBoard", "()V"⟩, 34) := ⟨⟨by decide +kernel, by decide +kernel⟩, List.mem_of_getElem? (i := 645) (by decide +kernel), List.mem_of_getElem? (i := 809) (by decide +kernel), List.mem_of_getElem? (i := 810) (by decide +kernel)⟩
theorem lw_p25 : lw_okq (⟨"WorkPlansModel", "place", "(I)I"⟩, 34) := ⟨⟨by decide +kernel, by decide +kernel⟩, List.mem_of_getElem? (i := 645) (by decide +kernel), List.mem_of_getElem? (i := 813) (by decide +kernel), List.mem_of_getElem? (i := 814) (by decide +kernel)⟩
theorem lw_p26 : lw_okq (⟨"WorkPlansModel", "freeFrom", "(III)I"⟩, 34) := ⟨⟨by decide +kernel, by decide +kernel⟩, List.mem_of_getElem? (i := 645) (by decide +kernel), List.mem_of_getElem? (i := 817) (by decide +kernel), List.mem_of_getElem? (i := 818) (by decide +kernel)⟩
theorem lw_p27 : lw_okq (⟨"WorkPlansModel", "costOf", "(II)J"⟩, 34) := ⟨⟨by decide +kernel, by decide +kernel⟩, List.mem_of_getElem? (i := 645) (by decide +kernel), List.mem_of_getElem? (i := 824) (by decide +kernel), List.mem_of_getElem? (i := 825) (by decide +kernel)⟩
theorem lw_p28 : lw_okq (⟨"WorkPlansModel", "toPlan", "()V"⟩, 34) := ⟨⟨by decide +kernel, by decide +kernel⟩, List.mem_of_getElem? (i := 645) (by decide +kernel), List.mem_of_getElem? (i := 828) (by decide +kernel), List.mem_of_getElem? (i := 829) (by decide +kernel)⟩
theorem lw_p29 : lw_okq (⟨"WorkPlansModel", "least", "(I)J"⟩, 34) := ⟨⟨by decide +kernel, by decide +kernel⟩, List.mem_of_getElem? (i := 645) (by decide +kernel), List.mem_of_getElem? (i := 832) (by decide +kernel), List.mem_of_getElem? (i := 833) (by decide +kernel)⟩
theorem lw_p30 : lw_okq (⟨"WorkPlansModel", "aloneOf", "(I)J"⟩, 34) := ⟨⟨by decide +kernel, by decide +kernel⟩, List.mem_of_getElem? (i := 645) (by decide +kernel), List.mem_of_getElem? (i := 836) (by decide +kernel), List.mem_of_getElem? (i := 837) (by decide +kernel)⟩
theorem lw_p31 : lw_okq (⟨"WorkPlansModel", "become", "()V"⟩, 34) := ⟨⟨by decide +kernel, by decide +kernel⟩, List.mem_of_getElem? (i := 645) (by decide +kernel), List.mem_of_getElem? (i := 840) (by decide +kernel), List.mem_of_getElem? (i := 841) (by decide +kernel)⟩
def lw_privs_2 : List (MethodName × Nat) := [(⟨"WorkPlans$Plan", "sharesWithStep", "(I)Z"⟩, 10), (⟨"WorkPlans$Plan", "sharesWithSpan", "(I)Z"⟩, 10), (⟨"WorkPlansModel", "allFit", "()Z"⟩, 34), (⟨"WorkPlansModel", "fits", "(I)Z"⟩, 34), (⟨"WorkPlansModel", "keepWas", "()V"⟩, 34), (⟨"WorkPlansModel", "search", "(I)I"⟩, 34), (⟨"WorkPlansModel", "layByDue", "()V"⟩, 34), (⟨"WorkPlansModel", "costOfRow", "(I)J"⟩, 34), (⟨"WorkPlansModel", "clearBoard", "()V"⟩, 34), (⟨"WorkPlansModel", "place", "(I)I"⟩, 34), (⟨"WorkPlansModel", "freeFrom", "(III)I"⟩, 34), (⟨"WorkPlansModel", "costOf", "(II)J"⟩, 34), (⟨"WorkPlansModel", "toPlan", "()V"⟩, 34), (⟨"WorkPlansModel", "least", "(I)J"⟩, 34), (⟨"WorkPlansModel", "aloneOf", "(I)J"⟩, 34), (⟨"WorkPlansModel", "become", "()V"⟩, 34)]
theorem lw_r2 : ∀ q ∈ lw_privs_2, lw_okq q := List.forall_mem_cons.mpr ⟨lw_p16, List.forall_mem_cons.mpr ⟨lw_p17, List.forall_mem_cons.mpr ⟨lw_p18, List.forall_mem_cons.mpr ⟨lw_p19, List.forall_mem_cons.mpr ⟨lw_p20, List.forall_mem_cons.mpr ⟨lw_p21, List.forall_mem_cons.mpr ⟨lw_p22, List.forall_mem_cons.mpr ⟨lw_p23, List.forall_mem_cons.mpr ⟨lw_p24, List.forall_mem_cons.mpr ⟨lw_p25, List.forall_mem_cons.mpr ⟨lw_p26, List.forall_mem_cons.mpr ⟨lw_p27, List.forall_mem_cons.mpr ⟨lw_p28, List.forall_mem_cons.mpr ⟨lw_p29, List.forall_mem_cons.mpr ⟨lw_p30, List.forall_mem_cons.mpr ⟨lw_p31, fun _ h => absurd h List.not_mem_nil⟩⟩⟩⟩⟩⟩⟩⟩⟩⟩⟩⟩⟩⟩⟩⟩
theorem lw_p32 : lw_okq (⟨"WorkPlansModel", "draw", "()I"⟩, 34) := ⟨⟨by decide +kernel, by decide +kernel⟩, List.mem_of_getElem? (i := 645) (by decide +kernel), List.mem_of_getElem? (i := 848) (by decide +kernel), List.mem_of_getElem? (i := 849) (by decide +kernel)⟩
theorem lw_p33 : lw_okq (⟨"WorkPlansModel", "swap", "(II)V"⟩, 34) := ⟨⟨by decide +kernel, by decide +kernel⟩, List.mem_of_getElem? (i := 645) (by decide +kernel), List.mem_of_getElem? (i := 854) (by decide +kernel), List.mem_of_getElem? (i := 855) (by decide +kernel)⟩
theorem lw_p34 : lw_okq (⟨"WorkPlansModel", "canBoth", "(II)Z"⟩, 34) := ⟨⟨by decide +kernel, by decide +kernel⟩, List.mem_of_getElem? (i := 645) (by decide +kernel), List.mem_of_getElem? (i := 882) (by decide +kernel), List.mem_of_getElem? (i := 883) (by decide +kernel)⟩
theorem lw_p35 : lw_okq (⟨"WorkPlansModel", "breaks", "(II)Z"⟩, 34) := ⟨⟨by decide +kernel, by decide +kernel⟩, List.mem_of_getElem? (i := 645) (by decide +kernel), List.mem_of_getElem? (i := 890) (by decide +kernel), List.mem_of_getElem? (i := 891) (by decide +kernel)⟩
theorem lw_p36 : lw_okq (⟨"WorkPlansModel", "before", "(I)I"⟩, 34) := ⟨⟨by decide +kernel, by decide +kernel⟩, List.mem_of_getElem? (i := 645) (by decide +kernel), List.mem_of_getElem? (i := 894) (by decide +kernel), List.mem_of_getElem? (i := 895) (by decide +kernel)⟩
theorem lw_p37 : lw_okq (⟨"WorkPlansModel", "isLate", "(I)Z"⟩, 34) := ⟨⟨by decide +kernel, by decide +kernel⟩, List.mem_of_getElem? (i := 645) (by decide +kernel), List.mem_of_getElem? (i := 898) (by decide +kernel), List.mem_of_getElem? (i := 899) (by decide +kernel)⟩
def lw_privs_3 : List (MethodName × Nat) := [(⟨"WorkPlansModel", "draw", "()I"⟩, 34), (⟨"WorkPlansModel", "swap", "(II)V"⟩, 34), (⟨"WorkPlansModel", "canBoth", "(II)Z"⟩, 34), (⟨"WorkPlansModel", "breaks", "(II)Z"⟩, 34), (⟨"WorkPlansModel", "before", "(I)I"⟩, 34), (⟨"WorkPlansModel", "isLate", "(I)Z"⟩, 34)]
theorem lw_r3 : ∀ q ∈ lw_privs_3, lw_okq q := List.forall_mem_cons.mpr ⟨lw_p32, List.forall_mem_cons.mpr ⟨lw_p33, List.forall_mem_cons.mpr ⟨lw_p34, List.forall_mem_cons.mpr ⟨lw_p35, List.forall_mem_cons.mpr ⟨lw_p36, List.forall_mem_cons.mpr ⟨lw_p37, fun _ h => absurd h List.not_mem_nil⟩⟩⟩⟩⟩⟩
def lw_privs : List (MethodName × Nat) := lw_privs_1 ++ (lw_privs_2 ++ (lw_privs_3))
def lw_tbl : List Cond := k2_sels lw_privs ++ tables_1
theorem lw_privs_ok : ∀ q ∈ lw_privs, lw_okq q := by
  show ∀ q ∈ lw_privs_1 ++ (lw_privs_2 ++ (lw_privs_3)), lw_okq q
  exact List.forall_mem_append.mpr ⟨lw_r1, List.forall_mem_append.mpr ⟨lw_r2, lw_r3⟩⟩
end
section
/-! names: the classes, their fields, their methods -/
def R_X : String := "WorkPlans"
def T_X : u_T := fun k => match k with
  | 0 => ("WorkPlans", "shop", "LWorkPlans$Shop;", true)
  | 1 => ("WorkPlans", "floor", "LWorkPlans$Floor;", true)
  | 2 => ("WorkPlans", "search", "LWorkPlans$Search;", true)
  | 3 => ("WorkPlans", "plan", "LWorkPlans$Plan;", true)
  | 4 => ("WorkPlans", "chance", "J", false)
  | _ => ("WorkPlans", "toldSincePlan", "Z", false)
def ty_X : Nat → FieldType := fun k => match k with
  | 0 => .object "WorkPlans$Shop"
  | 1 => .object "WorkPlans$Floor"
  | 2 => .object "WorkPlans$Search"
  | 3 => .object "WorkPlans$Plan"
  | 4 => .long
  | _ => .boolean
def R_S : String := "WorkPlans$Shop"
def T_S : u_T := fun k => match k with
  | 0 => ("WorkPlans$Shop", "machines", "I", false)
  | 1 => ("WorkPlans$Shop", "kindOf", "[I", true)
  | 2 => ("WorkPlans$Shop", "spansOf", "[I", true)
  | 3 => ("WorkPlans$Shop", "spanFrom", "[I", true)
  | 4 => ("WorkPlans$Shop", "spanTo", "[I", true)
  | 5 => ("WorkPlans$Shop", "jobs", "I", false)
  | 6 => ("WorkPlans$Shop", "dueOf", "[I", true)
  | 7 => ("WorkPlans$Shop", "weightOf", "[I", true)
  | 8 => ("WorkPlans$Shop", "stepsOf", "[I", true)
  | 9 => ("WorkPlans$Shop", "stepAt", "[I", true)
  | 10 => ("WorkPlans$Shop", "steps", "I", false)
  | 11 => ("WorkPlans$Shop", "stepKind", "[I", true)
  | 12 => ("WorkPlans$Shop", "stepHours", "[I", true)
  | 13 => ("WorkPlans$Shop", "stepWait", "[I", true)
  | _ => ("WorkPlans$Shop", "stepBefore", "[I", true)
def ty_S : Nat → FieldType := fun k => match k with
  | 0 => .int
  | 1 => .array .int
  | 2 => .array .int
  | 3 => .array .int
  | 4 => .array .int
  | 5 => .int
  | 6 => .array .int
  | 7 => .array .int
  | 8 => .array .int
  | 9 => .array .int
  | 10 => .int
  | 11 => .array .int
  | 12 => .array .int
  | 13 => .array .int
  | _ => .array .int
def R_F : String := "WorkPlans$Floor"
def T_F : u_T := fun k => match k with
  | 0 => ("WorkPlans$Floor", "shop", "LWorkPlans$Shop;", true)
  | 1 => ("WorkPlans$Floor", "beginOf", "[I", true)
  | 2 => ("WorkPlans$Floor", "machineOf", "[I", true)
  | 3 => ("WorkPlans$Floor", "busyCount", "[I", true)
  | 4 => ("WorkPlans$Floor", "busyFrom", "[I", true)
  | _ => ("WorkPlans$Floor", "busyTo", "[I", true)
def ty_F : Nat → FieldType := fun k => match k with
  | 0 => .object "WorkPlans$Shop"
  | 1 => .array .int
  | 2 => .array .int
  | 3 => .array .int
  | 4 => .array .int
  | _ => .array .int
def R_R : String := "WorkPlans$Search"
def T_R : u_T := fun k => match k with
  | 0 => ("WorkPlans$Search", "shop", "LWorkPlans$Shop;", true)
  | 1 => ("WorkPlans$Search", "floor", "LWorkPlans$Floor;", true)
  | 2 => ("WorkPlans$Search", "aloneOf", "[J", true)
  | 3 => ("WorkPlans$Search", "begun", "[I", true)
  | 4 => ("WorkPlans$Search", "isBegun", "[Z", true)
  | 5 => ("WorkPlans$Search", "best", "[I", true)
  | 6 => ("WorkPlans$Search", "bestCost", "J", false)
  | 7 => ("WorkPlans$Search", "limit", "I", false)
  | 8 => ("WorkPlans$Search", "bound", "J", false)
  | _ => ("WorkPlans$Search", "nodes", "I", false)
def ty_R : Nat → FieldType := fun k => match k with
  | 0 => .object "WorkPlans$Shop"
  | 1 => .object "WorkPlans$Floor"
  | 2 => .array .long
  | 3 => .array .int
  | 4 => .array .boolean
  | 5 => .array .int
  | 6 => .long
  | 7 => .int
  | 8 => .long
  | _ => .int
def R_P : String := "WorkPlans$Plan"
def T_P : u_T := fun k => match k with
  | 0 => ("WorkPlans$Plan", "shop", "LWorkPlans$Shop;", true)
  | 1 => ("WorkPlans$Plan", "jobAt", "[I", true)
  | 2 => ("WorkPlans$Plan", "beginOf", "[I", true)
  | 3 => ("WorkPlans$Plan", "machineOf", "[I", true)
  | 4 => ("WorkPlans$Plan", "jobs", "I", false)
  | 5 => ("WorkPlans$Plan", "steps", "I", false)
  | 6 => ("WorkPlans$Plan", "cost", "J", false)
  | 7 => ("WorkPlans$Plan", "bound", "J", false)
  | 8 => ("WorkPlans$Plan", "nodes", "I", false)
  | _ => ("WorkPlans$Plan", "moved", "I", false)
def ty_P : Nat → FieldType := fun k => match k with
  | 0 => .object "WorkPlans$Shop"
  | 1 => .array .int
  | 2 => .array .int
  | 3 => .array .int
  | 4 => .int
  | 5 => .int
  | 6 => .long
  | 7 => .long
  | 8 => .int
  | _ => .int
def R_M : String := "WorkPlansModel"
def T_M : u_T := fun k => match k with
  | 0 => ("WorkPlansModel", "code", "I", false)
  | 1 => ("WorkPlansModel", "machines", "I", false)
  | 2 => ("WorkPlansModel", "kindOf", "[I", true)
  | 3 => ("WorkPlansModel", "spans", "[I", true)
  | 4 => ("WorkPlansModel", "outFrom", "[I", true)
  | 5 => ("WorkPlansModel", "outTo", "[I", true)
  | 6 => ("WorkPlansModel", "jobs", "I", false)
  | 7 => ("WorkPlansModel", "dues", "[I", true)
  | 8 => ("WorkPlansModel", "weights", "[I", true)
  | 9 => ("WorkPlansModel", "stepsOf", "[I", true)
  | 10 => ("WorkPlansModel", "stepAt", "[I", true)
  | 11 => ("WorkPlansModel", "steps", "I", false)
  | 12 => ("WorkPlansModel", "jobOf", "[I", true)
  | 13 => ("WorkPlansModel", "kinds", "[I", true)
  | 14 => ("WorkPlansModel", "hours", "[I", true)
  | 15 => ("WorkPlansModel", "waits", "[I", true)
  | 16 => ("WorkPlansModel", "x", "J", false)
  | 17 => ("WorkPlansModel", "hour", "[I", true)
  | 18 => ("WorkPlansModel", "machine", "[I", true)
  | 19 => ("WorkPlansModel", "planned", "Z", false)
  | 20 => ("WorkPlansModel", "fresh", "Z", false)
  | 21 => ("WorkPlansModel", "planJobs", "I", false)
  | 22 => ("WorkPlansModel", "plan", "[I", true)
  | 23 => ("WorkPlansModel", "planHour", "[I", true)
  | 24 => ("WorkPlansModel", "planMachine", "[I", true)
  | 25 => ("WorkPlansModel", "wasHour", "[I", true)
  | 26 => ("WorkPlansModel", "wasMachine", "[I", true)
  | 27 => ("WorkPlansModel", "cost", "J", false)
  | 28 => ("WorkPlansModel", "bound", "J", false)
  | 29 => ("WorkPlansModel", "nodes", "I", false)
  | 30 => ("WorkPlansModel", "changed", "I", false)
  | 31 => ("WorkPlansModel", "row", "[I", true)
  | 32 => ("WorkPlansModel", "tried", "[I", true)
  | _ => ("WorkPlansModel", "used", "[Z", true)
def ty_M : Nat → FieldType := fun k => match k with
  | 0 => .int
  | 1 => .int
  | 2 => .array .int
  | 3 => .array .int
  | 4 => .array .int
  | 5 => .array .int
  | 6 => .int
  | 7 => .array .int
  | 8 => .array .int
  | 9 => .array .int
  | 10 => .array .int
  | 11 => .int
  | 12 => .array .int
  | 13 => .array .int
  | 14 => .array .int
  | 15 => .array .int
  | 16 => .long
  | 17 => .array .int
  | 18 => .array .int
  | 19 => .boolean
  | 20 => .boolean
  | 21 => .int
  | 22 => .array .int
  | 23 => .array .int
  | 24 => .array .int
  | 25 => .array .int
  | 26 => .array .int
  | 27 => .long
  | 28 => .long
  | 29 => .int
  | 30 => .int
  | 31 => .array .int
  | 32 => .array .int
  | _ => .array .boolean
def R_E0 : String := "java/lang/IllegalArgumentException"
def T_E0 : u_T := fun k => match k with
  | _ => ("", "", "", false)
def ty_E0 : Nat → FieldType := fun k => match k with
  | _ => .int
def R_E1 : String := "java/lang/IllegalStateException"
def T_E1 : u_T := fun k => match k with
  | _ => ("", "", "", false)
def ty_E1 : Nat → FieldType := fun k => match k with
  | _ => .int
def R_E2 : String := "java/lang/IndexOutOfBoundsException"
def T_E2 : u_T := fun k => match k with
  | _ => ("", "", "", false)
def ty_E2 : Nat → FieldType := fun k => match k with
  | _ => .int
/-- the classes whose objects the worlds hold -/
def am_cl : List vw_C := [(R_X, T_X, 6), (R_S, T_S, 15), (R_F, T_F, 6), (R_R, T_R, 10), (R_P, T_P, 10), (R_M, T_M, 34), (R_E0, T_E0, 0), (R_E1, T_E1, 0), (R_E2, T_E2, 0)]
/-- the texts of the exceptions -/
def am_strs : List (Nat × String) := [(55, "no such kind"), (66, "no room for a machine"), (75, "no such machine"), (78, "no such span"), (84, "no room for a span"), (90, "no such due hour or weight"), (95, "no room for a job"), (221, "no such job"), (105, "no such due hour"), (110, "no such kind, hours or wait"), (118, "no room for a step"), (124, "no such number of nodes"), (130, "no jobs, or one does not fit"), (151, "no such number of changes"), (228, "no plan, or something was told since"), (167, "no such step or what"), (226, "no plan"), (181, "no such place"), (183, "no such what"), (194, "the job does not fit"), (207, "no such clash"), (209, "a job does not fit")]
/-- what can not be cast -/
def am_ncs : List (String × String) := [("java/lang/IllegalArgumentException", "java/lang/IllegalStateException"), ("java/lang/IllegalArgumentException", "java/lang/IndexOutOfBoundsException"), ("java/lang/IllegalStateException", "java/lang/IllegalArgumentException"), ("java/lang/IllegalStateException", "java/lang/IndexOutOfBoundsException"), ("java/lang/IndexOutOfBoundsException", "java/lang/IllegalArgumentException"), ("java/lang/IndexOutOfBoundsException", "java/lang/IllegalStateException")]
/-- words of two other kinds that stay true too -/
def am_T2 : List Cond := [Cond.methodLinkNest "WorkPlans" 11 ⟨"WorkPlans$Shop", "<init>", "()V"⟩ "WorkPlans", Cond.castable "java/lang/IllegalArgumentException" "java/lang/IllegalArgumentException", Cond.declares ⟨"java/lang/RuntimeException", "<init>", "()V"⟩, Cond.declares ⟨"java/lang/RuntimeException", "<init>", "(Ljava/lang/String;)V"⟩, Cond.declares ⟨"java/lang/Exception", "<init>", "()V"⟩, Cond.declares ⟨"java/lang/Exception", "<init>", "(Ljava/lang/String;)V"⟩, Cond.declares ⟨"java/lang/Throwable", "<init>", "()V"⟩, Cond.declares ⟨"java/lang/Throwable", "<init>", "(Ljava/lang/String;)V"⟩, Cond.castable "java/lang/IllegalStateException" "java/lang/IllegalStateException", Cond.castable "java/lang/IndexOutOfBoundsException" "java/lang/IndexOutOfBoundsException", Cond.methodLinkNest "WorkPlans$Floor" 97 ⟨"WorkPlans", "shareAnHour", "(IIII)Z"⟩ "WorkPlans", Cond.methodLinkNest "WorkPlans$Plan" 109 ⟨"WorkPlans", "shareAnHour", "(IIII)Z"⟩ "WorkPlans"]
theorem am_T2_warm {s U : State} (hW : s.WarmedH U.vm) (h : ∀ w ∈ am_T2, va_Nw w s) : ∀ w ∈ am_T2, va_Nw w U := by
  have key : ∀ (l : List Cond), l.all (fun w => match w with | .methodLinkNest .. => true | .castable .. => true | .declares _ => true | _ => false) = true → (∀ w ∈ l, va_Nw w s) → ∀ w ∈ l, va_Nw w U := by
    intro l hl hh w hw
    have h1 := List.all_eq_true.mp hl w hw
    have h2 := hh w hw
    cases w with
    | methodLinkNest a i x b => exact va_Nw.warmM hW h2
    | castable a b => exact va_Nw.warmC hW h2
    | declares a => exact va_Nw.warmD hW h2
    | _ => simp at h1
  exact key am_T2 (by decide +kernel) h
/-- the words that stay true while the tables warm -/
def am_T : List Cond := lw_tbl.filter goodWord
theorem am_T_good : ∀ w ∈ am_T, (w.onTables && w.keeps) = true ∨ ∃ ty, w = .arrayClass ty := fun w hw => good_of_word (List.mem_filter.mp hw).2
theorem am_T_tbl : ∀ w ∈ am_T, w ∈ lw_tbl := fun w hw => (List.mem_filter.mp hw).1
/-- a word by its place in the tables -/
theorem am_in {w : Cond} (i : Nat) (h : tables_1[i]? = some w) (g : goodWord w = true) : w ∈ am_T := List.mem_filter.mpr ⟨List.mem_append_right _ (List.mem_of_getElem? h), g⟩
theorem am_inS {w : Cond} (i : Nat) (h : (k2_sels lw_privs)[i]? = some w) (g : goodWord w = true) : w ∈ am_T := List.mem_filter.mpr ⟨List.mem_append_left _ (List.mem_of_getElem? h), g⟩
theorem am_ins {ws : List Cond} (is : List Nat) (h : is.map (fun i => tables_1[i]?) = ws.map some) (g : ws.all goodWord = true) : ∀ w ∈ ws, w ∈ am_T := by
  intro w hw
  have h1 : some w ∈ is.map (fun i => tables_1[i]?) := by rw [h]; exact List.mem_map.mpr ⟨w, hw, rfl⟩
  obtain ⟨i, -, hi⟩ := List.mem_map.mp h1
  exact am_in i hi (List.all_eq_true.mp g w hw)
set_option maxRecDepth 20000 in
theorem in_X : ∀ w ∈ u_ws R_X T_X 6, w ∈ am_T := am_ins [223, 225, 227, 229, 231, 233] (by decide +kernel) (by decide +kernel)
theorem nm_X : ∀ a, a < 6 → ∀ b, b < 6 → a ≠ b → (T_X a).2.1 ≠ (T_X b).2.1 := by decide +kernel
theorem tk_X : ∀ k, k < 6 → parseFieldDescriptor (T_X k).2.2.1 = some (ty_X k) := by decide +kernel
set_option maxRecDepth 20000 in
theorem in_S : ∀ w ∈ u_ws R_S T_S 15, w ∈ am_T := am_ins [71, 73, 75, 77, 79, 81, 83, 85, 87, 89, 91, 93, 95, 97, 99] (by decide +kernel) (by decide +kernel)
theorem nm_S : ∀ a, a < 15 → ∀ b, b < 15 → a ≠ b → (T_S a).2.1 ≠ (T_S b).2.1 := by decide +kernel
theorem tk_S : ∀ k, k < 15 → parseFieldDescriptor (T_S k).2.2.1 = some (ty_S k) := by decide +kernel
set_option maxRecDepth 20000 in
theorem in_F : ∀ w ∈ u_ws R_F T_F 6, w ∈ am_T := am_ins [117, 119, 121, 123, 125, 127] (by decide +kernel) (by decide +kernel)
theorem nm_F : ∀ a, a < 6 → ∀ b, b < 6 → a ≠ b → (T_F a).2.1 ≠ (T_F b).2.1 := by decide +kernel
theorem tk_F : ∀ k, k < 6 → parseFieldDescriptor (T_F k).2.2.1 = some (ty_F k) := by decide +kernel
set_option maxRecDepth 20000 in
theorem in_R : ∀ w ∈ u_ws R_R T_R 10, w ∈ am_T := am_ins [149, 151, 153, 155, 157, 159, 161, 163, 165, 167] (by decide +kernel) (by decide +kernel)
theorem nm_R : ∀ a, a < 10 → ∀ b, b < 10 → a ≠ b → (T_R a).2.1 ≠ (T_R b).2.1 := by decide +kernel
theorem tk_R : ∀ k, k < 10 → parseFieldDescriptor (T_R k).2.2.1 = some (ty_R k) := by decide +kernel
set_option maxRecDepth 20000 in
theorem in_P : ∀ w ∈ u_ws R_P T_P 10, w ∈ am_T := am_ins [196, 198, 200, 202, 204, 206, 208, 210, 212, 214] (by decide +kernel) (by decide +kernel)
theorem nm_P : ∀ a, a < 10 → ∀ b, b < 10 → a ≠ b → (T_P a).2.1 ≠ (T_P b).2.1 := by decide +kernel
theorem tk_P : ∀ k, k < 10 → parseFieldDescriptor (T_P k).2.2.1 = some (ty_P k) := by decide +kernel
set_option maxRecDepth 20000 in
theorem in_M : ∀ w ∈ u_ws R_M T_M 34, w ∈ am_T := am_ins [684, 686, 688, 690, 692, 694, 696, 698, 700, 702, 704, 706, 708, 710, 712, 714, 716, 718, 720, 722, 724, 726, 728, 730, 732, 734, 736, 738, 740, 742, 744, 746, 748, 750] (by decide +kernel) (by decide +kernel)
theorem nm_M : ∀ a, a < 34 → ∀ b, b < 34 → a ≠ b → (T_M a).2.1 ≠ (T_M b).2.1 := by decide +kernel
theorem tk_M : ∀ k, k < 34 → parseFieldDescriptor (T_M k).2.2.1 = some (ty_M k) := by decide +kernel
end
section

/-! THE ABSTRACT LAYER: a method's state is its pc, its known locals, its stack and the list of all cells that were made since the law's entry; reference 0 is the script, reference i + 1 the i-th such cell. -/
abbrev am_E : Type := (Nat × vp_A) ⊕ (Nat × List Value)
abbrev am_H : Type := List am_E
/-- how a method ends: it returned (a value or none), or threw (the number of the class among the classes, the cell) -/
abbrev am_O : Type := Option Value ⊕ (Nat × Nat)
/-- a method: name, bytes, locals, result, handlers -/
abbrev am_M : Type := MethodName × ByteArray × Nat × Option FieldType × List (Nat × Nat × Nat × Nat)
/-- the launch; the classes' numbers, their slots; the array classes; the script's address, the first new address, the script's length, its ints -/
abbrev am_G : Type := Launch × (Nat → ClassId) × (Nat → Nat → Nat) × (Nat → ClassId) × Nat × Nat × Nat × (Nat → Int32)
abbrev am_gD (G : am_G) : va_G := (G.2.1, G.2.2.1)
abbrev am_gA (G : am_G) : Nat → ClassId := G.2.2.2.1
abbrev am_gb (G : am_G) : Nat := G.2.2.2.2.1
abbrev am_gz (G : am_G) : Nat := G.2.2.2.2.2.1
abbrev am_gn (G : am_G) : Nat := G.2.2.2.2.2.2.1
abbrev am_gx (G : am_G) : Nat → Int32 := G.2.2.2.2.2.2.2
def am_tys (G : am_G) : List (ClassId × FieldType) := [(am_gA G 0, .int), (am_gA G 1, .long), (am_gA G 2, .boolean)]
def am_ad (G : am_G) : Nat → Nat
  | 0 => am_gb G
  | i + 1 => am_gz G + i
def am_v (G : am_G) : Value → Value
  | .ref a => .ref (am_ad G a)
  | v => v
def am_e (G : am_G) : am_E → va_E
  | .inl q => .inl (am_gA G q.1, q.2)
  | .inr q => .inr (q.1, q.2.map (am_v G))
def am_ws (G : am_G) : Nat → am_H → va_W
  | _, [] => []
  | n, e :: h => (n, am_e G e) :: am_ws G (n + 1) h
theorem am_ws_get (G : am_G) : ∀ (h : am_H) (n k : Nat), (am_ws G n h)[k]? = (h[k]?).map (fun e => (n + k, am_e G e))
  | [], n, k => by simp [am_ws]
  | e :: h, n, 0 => by simp [am_ws]
  | e :: h, n, k + 1 => by
    have := am_ws_get G h (n + 1) k
    simp only [am_ws, List.getElem?_cons_succ, this]
    rw [show n + 1 + k = n + (k + 1) by omega]
theorem am_ws_set (G : am_G) : ∀ (h : am_H) (n k : Nat) (e : am_E), am_ws G n (h.set k e) = (am_ws G n h).set k (n + k, am_e G e)
  | [], n, k, e => by simp [am_ws]
  | a :: h, n, 0, e => by simp [am_ws]
  | a :: h, n, k + 1, e => by
    have := am_ws_set G h (n + 1) k e
    simp only [am_ws, List.set_cons_succ, this]
    rw [show n + 1 + k = n + (k + 1) by omega]
theorem am_ws_app (G : am_G) : ∀ (h : am_H) (n : Nat) (e : am_E), am_ws G n (h ++ [e]) = am_ws G n h ++ [(n + h.length, am_e G e)]
  | [], n, e => by simp [am_ws]
  | a :: h, n, e => by
    have := am_ws_app G h (n + 1) e
    simp only [am_ws, List.cons_append, this, List.length_cons]
    rw [show n + 1 + h.length = n + (h.length + 1) by omega]
def am_A (G : am_G) : Nat → Prop := fun q => am_gz G ≤ q
theorem am_D (G : am_G) (h : am_H) : va_D (am_A G) (am_ws G (am_gz G) h) := by
  have key : ∀ (k : Nat) (q : Nat × va_E), (am_ws G (am_gz G) h)[k]? = some q → q.1 = am_gz G + k := by
    intro k q hk
    rw [am_ws_get] at hk
    cases he : h[k]? with
    | none => rw [he] at hk; cases hk
    | some e => rw [he] at hk; cases hk; rfl
  refine ⟨fun i j x y hi hj hxy => ?_, fun k q hk => ?_⟩
  · have := key i x hi
    have := key j y hj
    omega
  · show am_gz G ≤ q.1
    rw [key k q hk]
    exact Nat.le_add_right _ _
/-- the heap holds the cells -/
def am_R (G : am_G) (h : am_H) (H : Heap) : Prop := H.size = am_gz G + h.length ∧ va_P (am_gD G) am_cl (am_ws G (am_gz G) h) H
def am_out (G : am_G) : am_O → Outcome → Prop
  | .inl v, o => o = .returned (v.map (am_v G))
  | .inr q, o => o = .threw (am_ad G q.2)
def am_L (G : am_G) (L : List (Nat × Value)) : List (Nat × Value) := L.map (fun q => (q.1, am_v G q.2))
/-- a static field that is laid, its cell an old one -/
def am_ls (G : am_G) (C n d : String) (s : State) : Prop := ∃ c k i f a cell, s.vm.findClass C = some c ∧ s.fieldFound? C n d = some (c, k, i, f) ∧ f.isStatic = true ∧ k.statics = some a ∧ s.heap[a]? = some cell ∧ cell.vm.isStatics = true ∧ cell.cls = c ∧ f.slot < cell.slots.size ∧ k.staticTypes[f.slot]? = some f.type ∧ a < am_gz G
theorem am_ls.moved {G : am_G} {C n d : String} {s U : State} (h : am_ls G C n d s) (hal : s.vm.Alike U.vm) (hq : ∀ q : Nat, q < am_gz G → U.heap[q]? = s.heap[q]?) : am_ls G C n d U := by
  obtain ⟨c, k, i, f, a, cell, hc, hi, hst, ha, hcell, hs, hcls, hlt, hty, hz⟩ := h
  obtain ⟨k', hi', hek⟩ := State.fieldFound?_setVm hal hi
  exact ⟨c, k', i, f, a, cell, by rw [hal.findClass]; exact hc, hi', hst, by rw [hek]; exact ha, by rw [hq a hz]; exact hcell, hs, hcls, hlt, by rw [hek]; exact hty, hz⟩
theorem am_ls.use {G : am_G} {C n d : String} {s : State} {args : Array Value} (h : am_ls G C n d s) : (Cond.laysStatic C n d).before args s = true := by
  obtain ⟨c, k, i, f, a, cell, hc, hi, hst, ha, hcell, hs, hcls, hlt, hty, hz⟩ := h
  exact Cond.laysStatic_of hc hi hst ha hcell hs hcls hlt hty
/-- what else is known of a state: no stack traces, the texts, Throwable's two statics, what can't be cast, the cells made so far -/
def am_K2 (G : am_G) (s : State) : Prop :=
  G.1.stackTraces = false ∧ (∀ q ∈ am_strs, ∃ a, vk_R R_X q.1 q.2 a s) ∧ va_Zq "java/lang/Throwable" "UNASSIGNED_STACK" "[Ljava/lang/StackTraceElement;" (am_A G) s s.heap ∧ va_Zq "java/lang/Throwable" "SUPPRESSED_SENTINEL" "Ljava/util/List;" (am_A G) s s.heap ∧
  (∀ q ∈ am_ncs, ∃ a b, s.vm.findClass q.1 = some a ∧ s.vm.findClass q.2 = some b ∧ s.vm.assignable a b = false) ∧ (∀ w ∈ am_T2, va_Nw w s) ∧ am_ls G "java/lang/Throwable" "UNASSIGNED_STACK" "[Ljava/lang/StackTraceElement;" s ∧ am_ls G "java/lang/Throwable" "SUPPRESSED_SENTINEL" "Ljava/util/List;" s ∧ ∃ h0, am_R G h0 s.heap
theorem am_K2.moved {G : am_G} {s U : State} (h : am_K2 G s) (hW : s.WarmedH U.vm) (hz : am_gz G ≤ s.heap.size) (hq : ∀ q : Nat, q < am_gz G → U.heap[q]? = s.heap[q]?) (hR : ∃ h0, am_R G h0 U.heap) : am_K2 G U := by
  obtain ⟨h1, h2, h3, h4, h5, h6, h7, h8, -⟩ := h
  have hal := hW.alike
  have hk : ∀ a : Nat, a < s.heap.size → ¬ am_A G a → U.heap[a]? = s.heap[a]? := fun a _ ha => hq a (Nat.not_le.mp ha)
  refine ⟨h1, fun q hqm => ?_, (h3.moved hal).kept hk, (h4.moved hal).kept hk, fun q hqm => ?_, am_T2_warm hW h6, h7.moved hal hq, h8.moved hal hq, hR⟩
  · obtain ⟨a, ha⟩ := h2 q hqm
    exact ⟨a, ha.warm hW⟩
  · obtain ⟨a, b, ha, hb, hc⟩ := h5 q hqm
    exact ⟨a, b, by rw [hal.findClass]; exact ha, by rw [hal.findClass]; exact hb, by rw [hal.assignable]; exact hc⟩
/-- what is known of an activation of the method y -/
def am_C (G : am_G) (y : am_M) (p : Program) (s : State) (m : MethodId) (args : Array Value) (meth : Method) (c : Code) : Prop :=
  (p.tables.exec = Jvm.exec ∧ c.code = y.2.1 ∧ c.maxLocals = y.2.2.1 ∧ s.vm.findClass y.1.cls = some m.cls ∧ (∀ w ∈ am_T, w.before args s = true)) ∧
  va_K (am_gD G) am_cl (am_tys G) s ∧ meth.sig.returnType = y.2.2.2.1 ∧ meth.locks = false ∧ c.exceptionTable.toList.map (fun h => (h.startPc, h.endPc, h.handlerPc, h.catchType)) = y.2.2.2.2 ∧ meth.name = y.1.name ∧
  am_gz G ≤ s.heap.size ∧ va_X (am_gb G) (am_gn G) (am_gx G) s s.heap ∧ am_gb G < am_gz G ∧ am_K2 G s
/-- the end of an activation -/
def am_Z (G : am_G) (Q : am_O → am_H → Prop) (R : Room) (s : State) (below : List Frame) : State → Prop := fun t =>
  ∃ (o : Outcome) (Lc : List Loc) (k n : Nat) (ao : am_O) (h' : am_H), t.status = .running ∧ Ended t below o ∧ s.WarmedH t.vm ∧ s.sameButNew ({ t with vm := s.vm } : State) Lc k n ∧ k ≤ R.cells ∧ n ≤ R.slots ∧
    (∀ q ∈ Lc, am_gz G ≤ q.base) ∧ (∀ q : Nat, q < am_gz G → t.heap[q]? = s.heap[q]?) ∧ am_R G h' t.heap ∧ am_out G ao o ∧ Q ao h'
/-- room for d frames more, bc cells and bs slots -/
def am_Rm (d bc bs : Nat) (R : Room) (cells slots : Nat) : Prop := d ≤ R.frames ∧ 64 * d ≤ R.locals ∧ cells + bc ≤ R.cells ∧ slots + bs ≤ R.slots
/-- THE JUDGEMENT: from pc with these locals, this stack and these cells the method y comes to an end with Q -/
def am_W (G : am_G) (y : am_M) (d bc bs : Nat) (Q : am_O → am_H → Prop) (pc : Nat) (L : List (Nat × Value)) (st : List Value) (h : am_H) : Prop :=
  ∀ (p : Program) (e : Env) (R : Room) (s : State) (m : MethodId) (args : Array Value) (below : List Frame) (meth : Method) (c : Code) (H : Heap) (locs : List Loc) (cells slots : Nat) (ls : Array Slot),
    am_C G y p s m args meth c → am_Rm d bc bs R cells slots → am_R G h H → va_S (am_A G) s.heap H locs → lv_has ls y.2.2.1 (am_L G L) →
    W p G.1 e R s m args below meth c H locs cells slots (am_Z G Q R s below) (F0 m pc ls (st.map (am_v G)))
def am_st1 (L : List (Nat × Value)) (i : Nat) (v : Value) : List (Nat × Value) := (i, v) :: L.filter (fun q => !(q.1 == i) && !(q.1 + 1 == i && q.2.category == 2))
def am_st2 (L : List (Nat × Value)) (i : Nat) (v : Value) : List (Nat × Value) := (i, v) :: L.filter (fun q => !(q.1 == i) && (!(q.1 == i + 1) && !(q.1 + 1 == i && q.2.category == 2)))
theorem am_v_cat (G : am_G) (v : Value) : (am_v G v).category = v.category := by cases v <;> rfl
theorem am_L_st1 (G : am_G) (L : List (Nat × Value)) (i : Nat) (v : Value) : (i, am_v G v) :: (am_L G L).filter (fun q => !(q.1 == i) && !(q.1 + 1 == i && q.2.category == 2)) = am_L G (am_st1 L i v) := by
  unfold am_L am_st1
  rw [List.map_cons, List.filter_map]
  congr 2
  refine List.filter_congr (fun q _ => ?_)
  simp only [Function.comp, am_v_cat]
theorem am_L_st2 (G : am_G) (L : List (Nat × Value)) (i : Nat) (v : Value) : (i, am_v G v) :: (am_L G L).filter (fun q => !(q.1 == i) && (!(q.1 == i + 1) && !(q.1 + 1 == i && q.2.category == 2))) = am_L G (am_st2 L i v) := by
  unfold am_L am_st2
  rw [List.map_cons, List.filter_map]
  congr 2
  refine List.filter_congr (fun q _ => ?_)
  simp only [Function.comp, am_v_cat]
theorem am_lk : ∀ {L : List (Nat × Value)} {i : Nat} {v : Value}, L.lookup i = some v → (i, v) ∈ L
  | [], i, v, h => by simp at h
  | (a, w) :: L, i, v, h => by
    rw [List.lookup_cons] at h
    split at h
    · rename_i hb
      have : i = a := by simpa using hb
      subst this
      cases h
      exact List.mem_cons_self
    · exact List.mem_cons_of_mem _ (am_lk h)
theorem am_at {G : am_G} {L : List (Nat × Value)} {ls : Array Slot} {n i : Nat} {v : Value} (h : lv_has ls n (am_L G L)) (hl : L.lookup i = some v) : ls[i]? = some (.val (am_v G v)) :=
  h.2.2 (i, am_v G v) (List.mem_map.mpr ⟨(i, v), am_lk hl, rfl⟩)

section AMR
variable {G : am_G} {y : am_M} {d bc bs : Nat} {Q : am_O → am_H → Prop} {pc : Nat} {L : List (Nat × Value)} {st : List Value} {h : am_H}
theorem am_iconst {n : Int} {v : Int32} (hd : decode y.2.1 pc = .ok (.iconst n, 1)) (hv : Int32.ofInt n = v) (k : am_W G y d bc bs Q (pc + 1) L (.int v :: st) h) : am_W G y d bc bs Q pc L (st) h := by
  intro p e R s m args below meth c H locs cells slots ls C hR hh hS hl
  exact lv_iconst C.1.1 C.1.2.1 hd hv (k p e R s m args below meth c H locs cells slots ls C hR hh hS hl)
theorem am_bipush {n : Int} {v : Int32} (hd : decode y.2.1 pc = .ok (.bipush n, 2)) (hv : (Int8.ofInt n).toInt32 = v) (k : am_W G y d bc bs Q (pc + 2) L (.int v :: st) h) : am_W G y d bc bs Q pc L (st) h := by
  intro p e R s m args below meth c H locs cells slots ls C hR hh hS hl
  exact lv_bipush C.1.1 C.1.2.1 hd hv (k p e R s m args below meth c H locs cells slots ls C hR hh hS hl)
theorem am_sipush {n : Int} {v : Int32} (hd : decode y.2.1 pc = .ok (.sipush n, 3)) (hv : (Int16.ofInt n).toInt32 = v) (k : am_W G y d bc bs Q (pc + 3) L (.int v :: st) h) : am_W G y d bc bs Q pc L (st) h := by
  intro p e R s m args below meth c H locs cells slots ls C hR hh hS hl
  exact lv_sipush C.1.1 C.1.2.1 hd hv (k p e R s m args below meth c H locs cells slots ls C hR hh hS hl)
theorem am_lconst {n : Fin 2} {v : Int64} (hd : decode y.2.1 pc = .ok (.lconst n, 1)) (hv : Int64.ofNat (n : Nat) = v) (k : am_W G y d bc bs Q (pc + 1) L (.long v :: st) h) : am_W G y d bc bs Q pc L (st) h := by
  intro p e R s m args below meth c H locs cells slots ls C hR hh hS hl
  exact lv_lconst C.1.1 C.1.2.1 hd hv (k p e R s m args below meth c H locs cells slots ls C hR hh hS hl)
theorem am_ldc {index : Nat} {v : Int32} (hd : decode y.2.1 pc = .ok (.ldc index, 2)) (hw : Cond.constant y.1.cls index v ∈ am_T) (k : am_W G y d bc bs Q (pc + 2) L (.int v :: st) h) : am_W G y d bc bs Q pc L (st) h := by
  intro p e R s m args below meth c H locs cells slots ls C hR hh hS hl
  exact lv_ldc C.1.1 C.1.2.1 C.1.2.2.2.1 (C.1.2.2.2.2 _ hw) hd (k p e R s m args below meth c H locs cells slots ls C hR hh hS hl)
theorem am_ldc2 {index : Nat} {v : Int64} (hd : decode y.2.1 pc = .ok (.ldc2_w index, 3)) (hw : Cond.constantLong y.1.cls index v ∈ am_T) (k : am_W G y d bc bs Q (pc + 3) L (.long v :: st) h) : am_W G y d bc bs Q pc L (st) h := by
  intro p e R s m args below meth c H locs cells slots ls C hR hh hS hl
  exact lv_ldc2 C.1.1 C.1.2.1 C.1.2.2.2.1 (C.1.2.2.2.2 _ hw) hd (k p e R s m args below meth c H locs cells slots ls C hR hh hS hl)
theorem am_iload_n {j : Fin 4} {i : Nat} {x : Int32} (hd : decode y.2.1 pc = .ok (.iload_n j, 1)) (hi : (j : Nat) = i) (hx : L.lookup i = some (.int x)) (k : am_W G y d bc bs Q (pc + 1) L (.int x :: st) h) : am_W G y d bc bs Q pc L (st) h := by
  intro p e R s m args below meth c H locs cells slots ls C hR hh hS hl
  exact lv_iload_n C.1.1 C.1.2.1 hd hi (am_at hl hx) (k p e R s m args below meth c H locs cells slots ls C hR hh hS hl)
theorem am_iload {i : Nat} {x : Int32} (hd : decode y.2.1 pc = .ok (.iload i, 2)) (hx : L.lookup i = some (.int x)) (k : am_W G y d bc bs Q (pc + 2) L (.int x :: st) h) : am_W G y d bc bs Q pc L (st) h := by
  intro p e R s m args below meth c H locs cells slots ls C hR hh hS hl
  exact lv_iload C.1.1 C.1.2.1 hd (am_at hl hx) (k p e R s m args below meth c H locs cells slots ls C hR hh hS hl)
theorem am_lload_n {j : Fin 4} {i : Nat} {x : Int64} (hd : decode y.2.1 pc = .ok (.lload_n j, 1)) (hi : (j : Nat) = i) (hx : L.lookup i = some (.long x)) (k : am_W G y d bc bs Q (pc + 1) L (.long x :: st) h) : am_W G y d bc bs Q pc L (st) h := by
  intro p e R s m args below meth c H locs cells slots ls C hR hh hS hl
  exact lv_lload_n C.1.1 C.1.2.1 hd hi (am_at hl hx) (k p e R s m args below meth c H locs cells slots ls C hR hh hS hl)
theorem am_lload {i : Nat} {x : Int64} (hd : decode y.2.1 pc = .ok (.lload i, 2)) (hx : L.lookup i = some (.long x)) (k : am_W G y d bc bs Q (pc + 2) L (.long x :: st) h) : am_W G y d bc bs Q pc L (st) h := by
  intro p e R s m args below meth c H locs cells slots ls C hR hh hS hl
  exact lv_lload C.1.1 C.1.2.1 hd (am_at hl hx) (k p e R s m args below meth c H locs cells slots ls C hR hh hS hl)
theorem am_aload_n {j : Fin 4} {i : Nat} {x : Nat} (hd : decode y.2.1 pc = .ok (.aload_n j, 1)) (hi : (j : Nat) = i) (hx : L.lookup i = some (.ref x)) (k : am_W G y d bc bs Q (pc + 1) L (.ref x :: st) h) : am_W G y d bc bs Q pc L (st) h := by
  intro p e R s m args below meth c H locs cells slots ls C hR hh hS hl
  exact lv_aload_n C.1.1 C.1.2.1 hd hi (am_at hl hx) (k p e R s m args below meth c H locs cells slots ls C hR hh hS hl)
theorem am_aload {i : Nat} {x : Nat} (hd : decode y.2.1 pc = .ok (.aload i, 2)) (hx : L.lookup i = some (.ref x)) (k : am_W G y d bc bs Q (pc + 2) L (.ref x :: st) h) : am_W G y d bc bs Q pc L (st) h := by
  intro p e R s m args below meth c H locs cells slots ls C hR hh hS hl
  exact lv_aload C.1.1 C.1.2.1 hd (am_at hl hx) (k p e R s m args below meth c H locs cells slots ls C hR hh hS hl)
theorem am_istore_n {j : Fin 4} {i : Nat} {x : Int32} (hd : decode y.2.1 pc = .ok (.istore_n j, 1)) (hi : (j : Nat) = i) (hn : i < y.2.2.1) (k : am_W G y d bc bs Q (pc + 1) (am_st1 L i (.int x)) (st) h) : am_W G y d bc bs Q pc L (.int x :: st) h := by
  intro p e R s m args below meth c H locs cells slots ls C hR hh hS hl
  exact lv_istore_n C.1.1 C.1.2.1 hd hi hl hn (am_L_st1 G L i (.int x)) (fun ls hl => (k p e R s m args below meth c H locs cells slots ls C hR hh hS hl))
theorem am_istore {i : Nat} {x : Int32} (hd : decode y.2.1 pc = .ok (.istore i, 2)) (hn : i < y.2.2.1) (k : am_W G y d bc bs Q (pc + 2) (am_st1 L i (.int x)) (st) h) : am_W G y d bc bs Q pc L (.int x :: st) h := by
  intro p e R s m args below meth c H locs cells slots ls C hR hh hS hl
  exact lv_istore C.1.1 C.1.2.1 hd hl hn (am_L_st1 G L i (.int x)) (fun ls hl => (k p e R s m args below meth c H locs cells slots ls C hR hh hS hl))
theorem am_astore_n {j : Fin 4} {i : Nat} {x : Nat} (hd : decode y.2.1 pc = .ok (.astore_n j, 1)) (hi : (j : Nat) = i) (hn : i < y.2.2.1) (k : am_W G y d bc bs Q (pc + 1) (am_st1 L i (.ref x)) (st) h) : am_W G y d bc bs Q pc L (.ref x :: st) h := by
  intro p e R s m args below meth c H locs cells slots ls C hR hh hS hl
  exact lv_astore_n C.1.1 C.1.2.1 hd hi hl hn (am_L_st1 G L i (.ref x)) (fun ls hl => (k p e R s m args below meth c H locs cells slots ls C hR hh hS hl))
theorem am_astore {i : Nat} {x : Nat} (hd : decode y.2.1 pc = .ok (.astore i, 2)) (hn : i < y.2.2.1) (k : am_W G y d bc bs Q (pc + 2) (am_st1 L i (.ref x)) (st) h) : am_W G y d bc bs Q pc L (.ref x :: st) h := by
  intro p e R s m args below meth c H locs cells slots ls C hR hh hS hl
  exact lv_astore C.1.1 C.1.2.1 hd hl hn (am_L_st1 G L i (.ref x)) (fun ls hl => (k p e R s m args below meth c H locs cells slots ls C hR hh hS hl))
theorem am_lstore_n {j : Fin 4} {i : Nat} {x : Int64} (hd : decode y.2.1 pc = .ok (.lstore_n j, 1)) (hi : (j : Nat) = i) (hn : i + 1 < y.2.2.1) (k : am_W G y d bc bs Q (pc + 1) (am_st2 L i (.long x)) (st) h) : am_W G y d bc bs Q pc L (.long x :: st) h := by
  intro p e R s m args below meth c H locs cells slots ls C hR hh hS hl
  exact lv_lstore_n C.1.1 C.1.2.1 hd hi hl hn (am_L_st2 G L i (.long x)) (fun ls hl => (k p e R s m args below meth c H locs cells slots ls C hR hh hS hl))
theorem am_lstore {i : Nat} {x : Int64} (hd : decode y.2.1 pc = .ok (.lstore i, 2)) (hn : i + 1 < y.2.2.1) (k : am_W G y d bc bs Q (pc + 2) (am_st2 L i (.long x)) (st) h) : am_W G y d bc bs Q pc L (.long x :: st) h := by
  intro p e R s m args below meth c H locs cells slots ls C hR hh hS hl
  exact lv_lstore C.1.1 C.1.2.1 hd hl hn (am_L_st2 G L i (.long x)) (fun ls hl => (k p e R s m args below meth c H locs cells slots ls C hR hh hS hl))
theorem am_iinc {i : Nat} {n : Int} {x v : Int32} (hd : decode y.2.1 pc = .ok (.iinc i n, 3)) (hx : L.lookup i = some (.int x)) (hv : x + Int32.ofInt n = v) (hn : i < y.2.2.1) (k : am_W G y d bc bs Q (pc + 3) (am_st1 L i (.int v)) (st) h) : am_W G y d bc bs Q pc L (st) h := by
  intro p e R s m args below meth c H locs cells slots ls C hR hh hS hl
  obtain ⟨j, hj⟩ := List.getElem?_of_mem (List.mem_map.mpr ⟨(i, Value.int x), am_lk hx, rfl⟩ : (i, Value.int x) ∈ am_L G L)
  exact lv_iinc C.1.1 C.1.2.1 hd hl (k := j) hj hv hn (am_L_st1 G L i (.int v)) (fun ls hl => (k p e R s m args below meth c H locs cells slots ls C hR hh hS hl))
theorem am_iadd {x z : Int32} (hd : decode y.2.1 pc = .ok (.iadd, 1)) (k : am_W G y d bc bs Q (pc + 1) L (.int (x + z) :: st) h) : am_W G y d bc bs Q pc L (.int z :: .int x :: st) h := by
  intro p e R s m args below meth c H locs cells slots ls C hR hh hS hl
  exact lv_iadd C.1.1 C.1.2.1 hd (k p e R s m args below meth c H locs cells slots ls C hR hh hS hl)
theorem am_isub {x z : Int32} (hd : decode y.2.1 pc = .ok (.isub, 1)) (k : am_W G y d bc bs Q (pc + 1) L (.int (x - z) :: st) h) : am_W G y d bc bs Q pc L (.int z :: .int x :: st) h := by
  intro p e R s m args below meth c H locs cells slots ls C hR hh hS hl
  exact lv_isub C.1.1 C.1.2.1 hd (k p e R s m args below meth c H locs cells slots ls C hR hh hS hl)
theorem am_imul {x z : Int32} (hd : decode y.2.1 pc = .ok (.imul, 1)) (k : am_W G y d bc bs Q (pc + 1) L (.int (x * z) :: st) h) : am_W G y d bc bs Q pc L (.int z :: .int x :: st) h := by
  intro p e R s m args below meth c H locs cells slots ls C hR hh hS hl
  exact lv_imul C.1.1 C.1.2.1 hd (k p e R s m args below meth c H locs cells slots ls C hR hh hS hl)
theorem am_iand {x z : Int32} (hd : decode y.2.1 pc = .ok (.iand, 1)) (k : am_W G y d bc bs Q (pc + 1) L (.int (x &&& z) :: st) h) : am_W G y d bc bs Q pc L (.int z :: .int x :: st) h := by
  intro p e R s m args below meth c H locs cells slots ls C hR hh hS hl
  exact lv_iand C.1.1 C.1.2.1 hd (k p e R s m args below meth c H locs cells slots ls C hR hh hS hl)
theorem am_ladd {x z : Int64} (hd : decode y.2.1 pc = .ok (.ladd, 1)) (k : am_W G y d bc bs Q (pc + 1) L (.long (x + z) :: st) h) : am_W G y d bc bs Q pc L (.long z :: .long x :: st) h := by
  intro p e R s m args below meth c H locs cells slots ls C hR hh hS hl
  exact lv_ladd C.1.1 C.1.2.1 hd (k p e R s m args below meth c H locs cells slots ls C hR hh hS hl)
theorem am_lsub {x z : Int64} (hd : decode y.2.1 pc = .ok (.lsub, 1)) (k : am_W G y d bc bs Q (pc + 1) L (.long (x - z) :: st) h) : am_W G y d bc bs Q pc L (.long z :: .long x :: st) h := by
  intro p e R s m args below meth c H locs cells slots ls C hR hh hS hl
  exact lv_lsub C.1.1 C.1.2.1 hd (k p e R s m args below meth c H locs cells slots ls C hR hh hS hl)
theorem am_lmul {x z : Int64} (hd : decode y.2.1 pc = .ok (.lmul, 1)) (k : am_W G y d bc bs Q (pc + 1) L (.long (x * z) :: st) h) : am_W G y d bc bs Q pc L (.long z :: .long x :: st) h := by
  intro p e R s m args below meth c H locs cells slots ls C hR hh hS hl
  exact lv_lmul C.1.1 C.1.2.1 hd (k p e R s m args below meth c H locs cells slots ls C hR hh hS hl)
theorem am_lrem {x z : Int64} (hd : decode y.2.1 pc = .ok (.lrem, 1)) (hz : ¬ z = 0) (k : am_W G y d bc bs Q (pc + 1) L (.long (x - x / z * z) :: st) h) : am_W G y d bc bs Q pc L (.long z :: .long x :: st) h := by
  intro p e R s m args below meth c H locs cells slots ls C hR hh hS hl
  exact lv_lrem C.1.1 C.1.2.1 hd hz (k p e R s m args below meth c H locs cells slots ls C hR hh hS hl)
theorem am_i2l {x : Int32} (hd : decode y.2.1 pc = .ok (.i2l, 1)) (k : am_W G y d bc bs Q (pc + 1) L (.long x.toInt64 :: st) h) : am_W G y d bc bs Q pc L (.int x :: st) h := by
  intro p e R s m args below meth c H locs cells slots ls C hR hh hS hl
  exact lv_i2l C.1.1 C.1.2.1 hd rfl (k p e R s m args below meth c H locs cells slots ls C hR hh hS hl)
theorem am_l2i {x : Int64} (hd : decode y.2.1 pc = .ok (.l2i, 1)) (k : am_W G y d bc bs Q (pc + 1) L (.int x.toInt32 :: st) h) : am_W G y d bc bs Q pc L (.long x :: st) h := by
  intro p e R s m args below meth c H locs cells slots ls C hR hh hS hl
  exact lv_l2i C.1.1 C.1.2.1 hd rfl (k p e R s m args below meth c H locs cells slots ls C hR hh hS hl)
theorem am_lushr {x : Int64} {z : Int32} (hd : decode y.2.1 pc = .ok (.lushr, 1)) (k : am_W G y d bc bs Q (pc + 1) L (.long (x.toUInt64 >>> (z.toInt64.toUInt64 &&& Int64.toUInt64 63)).toInt64 :: st) h) : am_W G y d bc bs Q pc L (.int z :: .long x :: st) h := by
  intro p e R s m args below meth c H locs cells slots ls C hR hh hS hl
  exact lv_lushr C.1.1 C.1.2.1 hd rfl (k p e R s m args below meth c H locs cells slots ls C hR hh hS hl)
theorem am_lcmp {x z : Int64} (hd : decode y.2.1 pc = .ok (.lcmp, 1)) (k : am_W G y d bc bs Q (pc + 1) L (.int (lg_cmp x z) :: st) h) : am_W G y d bc bs Q pc L (.long z :: .long x :: st) h := by
  intro p e R s m args below meth c H locs cells slots ls C hR hh hS hl
  exact W.lcmp C.1.1 C.1.2.1 hd (k p e R s m args below meth c H locs cells slots ls C hR hh hS hl)
theorem am_dup {va : Value} (hd : decode y.2.1 pc = .ok (.dup, 1)) (ha : va.category = 1) (k : am_W G y d bc bs Q (pc + 1) L (va :: va :: st) h) : am_W G y d bc bs Q pc L (va :: st) h := by
  intro p e R s m args below meth c H locs cells slots ls C hR hh hS hl
  exact lv_dup C.1.1 C.1.2.1 hd (by rw [am_v_cat]; exact ha) (k p e R s m args below meth c H locs cells slots ls C hR hh hS hl)
theorem am_pop {va : Value} (hd : decode y.2.1 pc = .ok (.pop, 1)) (ha : va.category = 1) (k : am_W G y d bc bs Q (pc + 1) L (st) h) : am_W G y d bc bs Q pc L (va :: st) h := by
  intro p e R s m args below meth c H locs cells slots ls C hR hh hS hl
  exact lv_pop C.1.1 C.1.2.1 hd (by rw [am_v_cat]; exact ha) (k p e R s m args below meth c H locs cells slots ls C hR hh hS hl)
theorem am_dup_x1 {va vb : Value} (hd : decode y.2.1 pc = .ok (.dup_x1, 1)) (ha : va.category = 1) (hb : vb.category = 1) (k : am_W G y d bc bs Q (pc + 1) L (va :: vb :: va :: st) h) : am_W G y d bc bs Q pc L (va :: vb :: st) h := by
  intro p e R s m args below meth c H locs cells slots ls C hR hh hS hl
  exact lv_dup_x1 C.1.1 C.1.2.1 hd (by rw [am_v_cat]; exact ha) (by rw [am_v_cat]; exact hb) (k p e R s m args below meth c H locs cells slots ls C hR hh hS hl)
theorem am_dup_x2 {va vb vd : Value} (hd : decode y.2.1 pc = .ok (.dup_x2, 1)) (ha : va.category = 1) (hb : vb.category = 1) (hc : vd.category = 1) (k : am_W G y d bc bs Q (pc + 1) L (va :: vb :: vd :: va :: st) h) : am_W G y d bc bs Q pc L (va :: vb :: vd :: st) h := by
  intro p e R s m args below meth c H locs cells slots ls C hR hh hS hl
  exact lv_dup_x2 C.1.1 C.1.2.1 hd (by rw [am_v_cat]; exact ha) (by rw [am_v_cat]; exact hb) (by rw [am_v_cat]; exact hc) (k p e R s m args below meth c H locs cells slots ls C hR hh hS hl)
theorem am_dup2 {va vb : Value} (hd : decode y.2.1 pc = .ok (.dup2, 1)) (ha : va.category = 1) (hb : vb.category = 1) (k : am_W G y d bc bs Q (pc + 1) L (va :: vb :: va :: vb :: st) h) : am_W G y d bc bs Q pc L (va :: vb :: st) h := by
  intro p e R s m args below meth c H locs cells slots ls C hR hh hS hl
  exact lv_dup2_11 C.1.1 C.1.2.1 hd (by rw [am_v_cat]; exact ha) (by rw [am_v_cat]; exact hb) (k p e R s m args below meth c H locs cells slots ls C hR hh hS hl)
theorem am_dup2L {va : Value} (hd : decode y.2.1 pc = .ok (.dup2, 1)) (ha : va.category = 2) (k : am_W G y d bc bs Q (pc + 1) L (va :: va :: st) h) : am_W G y d bc bs Q pc L (va :: st) h := by
  intro p e R s m args below meth c H locs cells slots ls C hR hh hS hl
  exact lv_dup2_2 C.1.1 C.1.2.1 hd (by rw [am_v_cat]; exact ha) (k p e R s m args below meth c H locs cells slots ls C hR hh hS hl)
theorem am_dup2_x1L {va vb : Value} (hd : decode y.2.1 pc = .ok (.dup2_x1, 1)) (ha : va.category = 2) (hb : vb.category = 1) (k : am_W G y d bc bs Q (pc + 1) L (va :: vb :: va :: st) h) : am_W G y d bc bs Q pc L (va :: vb :: st) h := by
  intro p e R s m args below meth c H locs cells slots ls C hR hh hS hl
  exact lv_dup2_x1_2 C.1.1 C.1.2.1 hd (by rw [am_v_cat]; exact ha) (by rw [am_v_cat]; exact hb) (k p e R s m args below meth c H locs cells slots ls C hR hh hS hl)
theorem am_if_eq {x : Int32} {off : Int} {tgt : Nat} (hd : decode y.2.1 pc = .ok (.ifCond .eq off, 3)) (ht : (pc : Int) + off = (tgt : Int)) (k1 : x = 0 → am_W G y d bc bs Q tgt L (st) h) (k2 : ¬ x = 0 → am_W G y d bc bs Q (pc + 3) L (st) h) : am_W G y d bc bs Q pc L (.int x :: st) h := by
  intro p e R s m args below meth c H locs cells slots ls C hR hh hS hl
  exact lv_if_eq C.1.1 C.1.2.1 hd ht (fun q => k1 q p e R s m args below meth c H locs cells slots ls C hR hh hS hl) (fun q => k2 q p e R s m args below meth c H locs cells slots ls C hR hh hS hl)
theorem am_icmp_eq {x z : Int32} {off : Int} {tgt : Nat} (hd : decode y.2.1 pc = .ok (.if_icmp .eq off, 3)) (ht : (pc : Int) + off = (tgt : Int)) (k1 : x = z → am_W G y d bc bs Q tgt L (st) h) (k2 : ¬ x = z → am_W G y d bc bs Q (pc + 3) L (st) h) : am_W G y d bc bs Q pc L (.int z :: .int x :: st) h := by
  intro p e R s m args below meth c H locs cells slots ls C hR hh hS hl
  exact lv_icmp_eq C.1.1 C.1.2.1 hd ht (fun q => k1 q p e R s m args below meth c H locs cells slots ls C hR hh hS hl) (fun q => k2 q p e R s m args below meth c H locs cells slots ls C hR hh hS hl)
theorem am_if_ne {x : Int32} {off : Int} {tgt : Nat} (hd : decode y.2.1 pc = .ok (.ifCond .ne off, 3)) (ht : (pc : Int) + off = (tgt : Int)) (k1 : ¬ x = 0 → am_W G y d bc bs Q tgt L (st) h) (k2 : x = 0 → am_W G y d bc bs Q (pc + 3) L (st) h) : am_W G y d bc bs Q pc L (.int x :: st) h := by
  intro p e R s m args below meth c H locs cells slots ls C hR hh hS hl
  exact lv_if_ne C.1.1 C.1.2.1 hd ht (fun q => k1 q p e R s m args below meth c H locs cells slots ls C hR hh hS hl) (fun q => k2 q p e R s m args below meth c H locs cells slots ls C hR hh hS hl)
theorem am_icmp_ne {x z : Int32} {off : Int} {tgt : Nat} (hd : decode y.2.1 pc = .ok (.if_icmp .ne off, 3)) (ht : (pc : Int) + off = (tgt : Int)) (k1 : ¬ x = z → am_W G y d bc bs Q tgt L (st) h) (k2 : x = z → am_W G y d bc bs Q (pc + 3) L (st) h) : am_W G y d bc bs Q pc L (.int z :: .int x :: st) h := by
  intro p e R s m args below meth c H locs cells slots ls C hR hh hS hl
  exact lv_icmp_ne C.1.1 C.1.2.1 hd ht (fun q => k1 q p e R s m args below meth c H locs cells slots ls C hR hh hS hl) (fun q => k2 q p e R s m args below meth c H locs cells slots ls C hR hh hS hl)
theorem am_if_lt {x : Int32} {off : Int} {tgt : Nat} (hd : decode y.2.1 pc = .ok (.ifCond .lt off, 3)) (ht : (pc : Int) + off = (tgt : Int)) (k1 : x < 0 → am_W G y d bc bs Q tgt L (st) h) (k2 : ¬ x < 0 → am_W G y d bc bs Q (pc + 3) L (st) h) : am_W G y d bc bs Q pc L (.int x :: st) h := by
  intro p e R s m args below meth c H locs cells slots ls C hR hh hS hl
  exact lv_if_lt C.1.1 C.1.2.1 hd ht (fun q => k1 q p e R s m args below meth c H locs cells slots ls C hR hh hS hl) (fun q => k2 q p e R s m args below meth c H locs cells slots ls C hR hh hS hl)
theorem am_icmp_lt {x z : Int32} {off : Int} {tgt : Nat} (hd : decode y.2.1 pc = .ok (.if_icmp .lt off, 3)) (ht : (pc : Int) + off = (tgt : Int)) (k1 : x < z → am_W G y d bc bs Q tgt L (st) h) (k2 : ¬ x < z → am_W G y d bc bs Q (pc + 3) L (st) h) : am_W G y d bc bs Q pc L (.int z :: .int x :: st) h := by
  intro p e R s m args below meth c H locs cells slots ls C hR hh hS hl
  exact lv_icmp_lt C.1.1 C.1.2.1 hd ht (fun q => k1 q p e R s m args below meth c H locs cells slots ls C hR hh hS hl) (fun q => k2 q p e R s m args below meth c H locs cells slots ls C hR hh hS hl)
theorem am_if_ge {x : Int32} {off : Int} {tgt : Nat} (hd : decode y.2.1 pc = .ok (.ifCond .ge off, 3)) (ht : (pc : Int) + off = (tgt : Int)) (k1 : 0 ≤ x → am_W G y d bc bs Q tgt L (st) h) (k2 : ¬ 0 ≤ x → am_W G y d bc bs Q (pc + 3) L (st) h) : am_W G y d bc bs Q pc L (.int x :: st) h := by
  intro p e R s m args below meth c H locs cells slots ls C hR hh hS hl
  exact lv_if_ge C.1.1 C.1.2.1 hd ht (fun q => k1 q p e R s m args below meth c H locs cells slots ls C hR hh hS hl) (fun q => k2 q p e R s m args below meth c H locs cells slots ls C hR hh hS hl)
theorem am_icmp_ge {x z : Int32} {off : Int} {tgt : Nat} (hd : decode y.2.1 pc = .ok (.if_icmp .ge off, 3)) (ht : (pc : Int) + off = (tgt : Int)) (k1 : z ≤ x → am_W G y d bc bs Q tgt L (st) h) (k2 : ¬ z ≤ x → am_W G y d bc bs Q (pc + 3) L (st) h) : am_W G y d bc bs Q pc L (.int z :: .int x :: st) h := by
  intro p e R s m args below meth c H locs cells slots ls C hR hh hS hl
  exact lv_icmp_ge C.1.1 C.1.2.1 hd ht (fun q => k1 q p e R s m args below meth c H locs cells slots ls C hR hh hS hl) (fun q => k2 q p e R s m args below meth c H locs cells slots ls C hR hh hS hl)
theorem am_if_gt {x : Int32} {off : Int} {tgt : Nat} (hd : decode y.2.1 pc = .ok (.ifCond .gt off, 3)) (ht : (pc : Int) + off = (tgt : Int)) (k1 : 0 < x → am_W G y d bc bs Q tgt L (st) h) (k2 : ¬ 0 < x → am_W G y d bc bs Q (pc + 3) L (st) h) : am_W G y d bc bs Q pc L (.int x :: st) h := by
  intro p e R s m args below meth c H locs cells slots ls C hR hh hS hl
  exact lv_if_gt C.1.1 C.1.2.1 hd ht (fun q => k1 q p e R s m args below meth c H locs cells slots ls C hR hh hS hl) (fun q => k2 q p e R s m args below meth c H locs cells slots ls C hR hh hS hl)
theorem am_icmp_gt {x z : Int32} {off : Int} {tgt : Nat} (hd : decode y.2.1 pc = .ok (.if_icmp .gt off, 3)) (ht : (pc : Int) + off = (tgt : Int)) (k1 : z < x → am_W G y d bc bs Q tgt L (st) h) (k2 : ¬ z < x → am_W G y d bc bs Q (pc + 3) L (st) h) : am_W G y d bc bs Q pc L (.int z :: .int x :: st) h := by
  intro p e R s m args below meth c H locs cells slots ls C hR hh hS hl
  exact lv_icmp_gt C.1.1 C.1.2.1 hd ht (fun q => k1 q p e R s m args below meth c H locs cells slots ls C hR hh hS hl) (fun q => k2 q p e R s m args below meth c H locs cells slots ls C hR hh hS hl)
theorem am_if_le {x : Int32} {off : Int} {tgt : Nat} (hd : decode y.2.1 pc = .ok (.ifCond .le off, 3)) (ht : (pc : Int) + off = (tgt : Int)) (k1 : x ≤ 0 → am_W G y d bc bs Q tgt L (st) h) (k2 : ¬ x ≤ 0 → am_W G y d bc bs Q (pc + 3) L (st) h) : am_W G y d bc bs Q pc L (.int x :: st) h := by
  intro p e R s m args below meth c H locs cells slots ls C hR hh hS hl
  exact lv_if_le C.1.1 C.1.2.1 hd ht (fun q => k1 q p e R s m args below meth c H locs cells slots ls C hR hh hS hl) (fun q => k2 q p e R s m args below meth c H locs cells slots ls C hR hh hS hl)
theorem am_icmp_le {x z : Int32} {off : Int} {tgt : Nat} (hd : decode y.2.1 pc = .ok (.if_icmp .le off, 3)) (ht : (pc : Int) + off = (tgt : Int)) (k1 : x ≤ z → am_W G y d bc bs Q tgt L (st) h) (k2 : ¬ x ≤ z → am_W G y d bc bs Q (pc + 3) L (st) h) : am_W G y d bc bs Q pc L (.int z :: .int x :: st) h := by
  intro p e R s m args below meth c H locs cells slots ls C hR hh hS hl
  exact lv_icmp_le C.1.1 C.1.2.1 hd ht (fun q => k1 q p e R s m args below meth c H locs cells slots ls C hR hh hS hl) (fun q => k2 q p e R s m args below meth c H locs cells slots ls C hR hh hS hl)
theorem am_goto {off : Int} {tgt : Nat} (hd : decode y.2.1 pc = .ok (.goto off, 3)) (ht : (pc : Int) + off = (tgt : Int)) (k : am_W G y d bc bs Q tgt L (st) h) : am_W G y d bc bs Q pc L (st) h := by
  intro p e R s m args below meth c H locs cells slots ls C hR hh hS hl
  exact lv_goto C.1.1 C.1.2.1 hd ht (k p e R s m args below meth c H locs cells slots ls C hR hh hS hl)
theorem am_tableOut {dflt lo hi : Int} {offs : Array Int} {len : Nat} {x : Int32} {tgt : Nat} (hd : decode y.2.1 pc = .ok (.tableswitch dflt lo hi offs, len)) (hx : x.toInt < lo ∨ hi < x.toInt) (ht : (pc : Int) + dflt = (tgt : Int)) (k : am_W G y d bc bs Q tgt L (st) h) : am_W G y d bc bs Q pc L (.int x :: st) h := by
  intro p e R s m args below meth c H locs cells slots ls C hR hh hS hl
  exact lv_tableOut C.1.1 C.1.2.1 hd hx ht (k p e R s m args below meth c H locs cells slots ls C hR hh hS hl)
theorem am_tableIn {dflt lo hi : Int} {offs : Array Int} {len : Nat} {x : Int32} {off : Int} {tgt : Nat} (hd : decode y.2.1 pc = .ok (.tableswitch dflt lo hi offs, len)) (h1 : ¬ x.toInt < lo) (h2 : ¬ hi < x.toInt) (ho : offs[(x.toInt - lo).toNat]? = some off) (ht : (pc : Int) + off = (tgt : Int)) (k : am_W G y d bc bs Q tgt L (st) h) : am_W G y d bc bs Q pc L (.int x :: st) h := by
  intro p e R s m args below meth c H locs cells slots ls C hR hh hS hl
  exact lv_tableIn C.1.1 C.1.2.1 hd h1 h2 ho ht (k p e R s m args below meth c H locs cells slots ls C hR hh hS hl)
theorem am_loc {L' : List (Nat × Value)} (hq : L'.all (fun q => decide (q.1 ∈ L.map Prod.fst)) = true ∨ True) (hs : ∀ q ∈ L', L.lookup q.1 = some q.2) (k : am_W G y d bc bs Q pc L' (st) h) : am_W G y d bc bs Q pc L (st) h := by
  intro p e R s m args below meth c H locs cells slots ls C hR hh hS hl
  refine k p e R s m args below meth c H locs cells slots ls C hR hh hS ⟨hl.1, hl.2.1, fun q hq => ?_⟩
  obtain ⟨q', hq', rfl⟩ := List.mem_map.mp hq
  exact am_at hl (hs q' hq')
theorem am_sub {bc' bs' : Nat} (h1 : bc' ≤ bc) (h2 : bs' ≤ bs) (k : am_W G y d bc' bs' Q pc L st h) : am_W G y d bc bs Q pc L (st) h := by
  intro p e R s m args below meth c H locs cells slots ls C hR hh hS hl
  exact k p e R s m args below meth c H locs cells slots ls C ⟨hR.1, hR.2.1, by have := hR.2.2.1; omega, by have := hR.2.2.2; omega⟩ hh hS hl
theorem am_mono {Q' : am_O → am_H → Prop} (hq : ∀ o h, Q' o h → Q o h) (k : am_W G y d bc bs Q' pc L st h) : am_W G y d bc bs Q pc L (st) h := by
  intro p e R s m args below meth c H locs cells slots ls C hR hh hS hl T hT X
  obtain ⟨t, a, o, Lc, kk, n, ao, h', b1, b2, b3, b4, b5, b6, b7, b8, b9, b10, b11⟩ := k p e R s m args below meth c H locs cells slots ls C hR hh hS hl T hT X
  exact ⟨t, a, o, Lc, kk, n, ao, h', b1, b2, b3, b4, b5, b6, b7, b8, b9, b10, hq _ _ b11⟩
end AMR
end
section
theorem am_wsat {G : am_G} {h : am_H} {a : Nat} {e : am_E} (ha : h[a]? = some e) : (am_ws G (am_gz G) h)[a]? = some (am_gz G + a, am_e G e) := by rw [am_ws_get, ha]; rfl
theorem am_R.set {G : am_G} {h : am_H} {H H1 : Heap} {a : Nat} {e0 e : am_E} (hh : am_R G h H) (ha : h[a]? = some e0) (he : va_at (am_gD G) am_cl (am_gz G + a, am_e G e) H1) (z : H1.size = H.size) (oq : ∀ q : Nat, q ≠ am_gz G + a → H1[q]? = H[q]?) : am_R G (h.set a e) H1 :=
  ⟨by rw [z, hh.1, List.length_set], by rw [am_ws_set]; exact hh.2.set (am_D G h) (am_wsat ha) he oq⟩
theorem am_R.push {G : am_G} {h : am_H} {H H1 : Heap} {e : am_E} (hh : am_R G h H) (he : va_at (am_gD G) am_cl (am_gz G + h.length, am_e G e) H1) (z : H1.size = H.size + 1) (oq : ∀ q : Nat, q < H.size → H1[q]? = H[q]?) : am_R G (h ++ [e]) H1 := by
  refine ⟨by rw [z, hh.1, List.length_append]; simp; omega, ?_⟩
  rw [am_ws_app]
  refine (hh.2.kept (fun k q hk => oq q.1 ((hh.2 k q hk).lt))).app (fun k x hx => ?_)
  have hz : k < 1 := (List.getElem?_eq_some_iff.mp hx).1
  rw [show k = 0 by omega] at hx
  cases hx
  exact he
theorem am_S.put {G : am_G} {H0 H H1 : Heap} {locs : List Loc} {a i : Nat} (hS : va_S (am_A G) H0 H locs) (z : H1.size = H.size) (oq : ∀ q : Nat, q ≠ am_gz G + a → H1[q]? = H[q]?) : va_S (am_A G) H0 H1 (locs ++ [⟨am_gz G + a, i⟩]) :=
  hS.put z oq (show am_gz G ≤ am_gz G + a by omega)
theorem am_S.push {G : am_G} {H0 H H1 : Heap} {locs : List Loc} (hS : va_S (am_A G) H0 H locs) (z : H1.size = H.size + 1) (oq : ∀ q : Nat, q < H.size → H1[q]? = H[q]?) : va_S (am_A G) H0 H1 locs :=
  ⟨Nat.le_trans hS.1 (by omega), fun x h1 h2 => (oq x (Nat.lt_of_lt_of_le h1 hS.1)).trans (hS.2.1 x h1 h2), hS.2.2⟩
/-- what is known of the class number ci -/
def am_F (ci : Nat) (Cn : String) (T : u_T) (N : Nat) (ty : Nat → FieldType) : Prop :=
  am_cl[ci]? = some (Cn, T, N) ∧ (∀ w ∈ u_ws Cn T N, w ∈ am_T) ∧ (∀ k, k < N → parseFieldDescriptor (T k).2.2.1 = some (ty k)) ∧ ∀ a, a < N → ∀ b, b < N → a ≠ b → (T a).2.1 ≠ (T b).2.1
section AMH
variable {G : am_G} {y : am_M} {d bc bs : Nat} {Q : am_O → am_H → Prop} {pc : Nat} {L : List (Nat × Value)} {st : List Value} {h : am_H}
variable {ci N : Nat} {Cn : String} {T : u_T} {ty : Nat → FieldType}
theorem am_get (F : am_F ci Cn T N ty) (k : Nat) (hk : k < N) {a index : Nat} {fs : List Value} {v : Value} (hd : decode y.2.1 pc = .ok (.getfield index, 3)) (hw : Cond.fieldLink y.1.cls index (T k).1 (T k).2.1 (T k).2.2.1 ∈ am_T) (ha : h[a]? = some (.inr (ci, fs))) (hv : fs[k]? = some v) (kk : am_W G y d bc bs Q (pc + 3) L (v :: st) h) : am_W G y d bc bs Q pc L (.ref (a + 1) :: st) h := by
  intro p e R s m args below meth c H locs cells slots ls C hR hh hS hl
  exact va_get C.1.1 C.1.2.1 C.1.2.2.2.2 F.2.1 C.1.2.2.2.1 C.2.1 hh.2 a (am_wsat ha) F.1 k hk (C.1.2.2.2.2 _ hw) (fun _ q => q) (by rw [List.getElem?_map, hv]; rfl) hd (kk p e R s m args below meth c H locs cells slots ls C hR hh hS hl)
theorem am_put (F : am_F ci Cn T N ty) (k : Nat) (hk : k < N) {a index : Nat} {fs : List Value} {v : Value} (hd : decode y.2.1 pc = .ok (.putfield index, 3)) (hw : Cond.fieldLink y.1.cls index (T k).1 (T k).2.1 (T k).2.2.1 ∈ am_T) (hfin : (T k).2.2.2 = false) (ha : h[a]? = some (.inr (ci, fs))) (hl' : k < fs.length) (hn : narrow (ty k) (am_v G v) = am_v G v) (hf : fits (ty k) (am_v G v) = true) (kk : am_W G y d bc bs Q (pc + 3) L (st) (h.set a (.inr (ci, fs.set k v)))) : am_W G y d bc bs Q pc L (v :: .ref (a + 1) :: st) h := by
  intro p e R s m args below meth c H locs cells slots ls C hR hh hS hl
  have hc := F.1
  have hap := va_apart (own := y.1.cls) C.1.2.2.2.2 F.2.1 ty F.2.2.1 F.2.2.2 C.2.1 hc
  obtain ⟨r, h1, cell, q1, q2, q3, q4⟩ := hh.2 a _ (am_wsat ha)
  have hr : r = (Cn, T, N) := Option.some.inj (h1.symm.trans hc)
  subst hr
  obtain ⟨hSl, hfc, kC, hkC, hkind⟩ := C.2.1.1 ci _ hc
  obtain ⟨cf, kf, fi, f, hi, hsl⟩ := hSl k hk
  have hlay := C.1.2.2.2.2 _ (F.2.1 _ (u_in_lay hk))
  unfold u_lay at hlay
  rw [if_neg (by rw [hfin]; decide)] at hlay
  have hst := (u_facts hfc hkC (u_lays C.1.2.2.2.2 F.2.1 hk) hi).1
  have h6 := u_store hfc hkC hkind hlay hi (F.2.2.1 k hk) hn hf
  refine W.putK C.1.1 C.1.2.1 (f := f) ⟨C.1.2.2.2.1, C.1.2.2.2.2 _ hw, ⟨_, _, _, hi⟩, hst⟩ (by rw [q2]; exact h6) q1 q3 (by rw [hsl]; exact k2_hasslot (q4 k hk)) rfl rfl hd fun H' e1 e2 e3 => ?_
  rw [hsl] at e1 ⊢
  refine kk p e R s m args below meth c H' _ cells slots ls C hR (hh.set ha ?_ e2 e3) (am_S.put hS e2 e3) hl
  refine ⟨_, hc, t_OB.to (V := updV (vp_V (fs.map (am_v G))) k (am_v G v)) ⟨_, e1, q2, q3, t_set q4 hap hk _⟩ (fun j _ => ?_)⟩
  show _ = vp_V ((fs.set k v).map (am_v G)) j
  rw [List.map_set]
  exact vp_updV_set (by rw [List.length_map]; exact hl') _ j
theorem am_putF (F : am_F ci Cn T N ty) (k : Nat) (hk : k < N) {a index : Nat} {fs : List Value} {v : Value} (hd : decode y.2.1 pc = .ok (.putfield index, 3)) (hw : Cond.fieldLink y.1.cls index (T k).1 (T k).2.1 (T k).2.2.1 ∈ am_T) (hfin : (T k).2.2.2 = true) (hin : y.1.name = "<init>") (hdecl : (T k).1 = y.1.cls) (ha : h[a]? = some (.inr (ci, fs))) (hl' : k < fs.length) (hn : narrow (ty k) (am_v G v) = am_v G v) (hf : fits (ty k) (am_v G v) = true) (kk : am_W G y d bc bs Q (pc + 3) L (st) (h.set a (.inr (ci, fs.set k v)))) : am_W G y d bc bs Q pc L (v :: .ref (a + 1) :: st) h := by
  intro p e R s m args below meth c H locs cells slots ls C hR hh hS hl
  have hc := F.1
  have hap := va_apart (own := y.1.cls) C.1.2.2.2.2 F.2.1 ty F.2.2.1 F.2.2.2 C.2.1 hc
  obtain ⟨r, h1, cell, q1, q2, q3, q4⟩ := hh.2 a _ (am_wsat ha)
  have hr : r = (Cn, T, N) := Option.some.inj (h1.symm.trans hc)
  subst hr
  obtain ⟨hSl, hfc, kC, hkC, hkind⟩ := C.2.1.1 ci _ hc
  obtain ⟨cf, kf, fi, f, hi, hsl⟩ := hSl k hk
  have hlay := C.1.2.2.2.2 _ (F.2.1 _ (u_in_lay hk))
  unfold u_lay at hlay
  rw [if_pos hfin] at hlay
  have hst := (u_facts hfc hkC (u_lays C.1.2.2.2.2 F.2.1 hk) hi).1
  have hcf : m.cls = cf := by
    obtain ⟨_, _, c', _, _, _, -, -, hf', -, -, -, hown2, -⟩ := Cond.laysFinal_spec hlay
    have e1 : c' = cf := by have := hi.symm.trans hf'; simp at this; exact this.1.symm
    rw [hdecl] at hown2
    rw [← e1]; exact Option.some.inj (C.1.2.2.2.1.symm.trans hown2)
  have h6 := u_fits hfc hkC hkind (Or.inr hlay) hi (F.2.2.1 k hk) hn hf
  refine W.putFinK C.1.1 C.1.2.1 C.1.2.2.2.1 (C.1.2.2.2.2 _ hw) hi hst hcf (C.2.2.2.2.2.1.trans hin) (by rw [q2]; exact h6) q1 q3 (by rw [hsl]; exact k2_hasslot (q4 k hk)) rfl rfl hd fun H' e1 e2 e3 => ?_
  rw [hsl] at e1 ⊢
  refine kk p e R s m args below meth c H' _ cells slots ls C hR (hh.set ha ?_ e2 e3) (am_S.put hS e2 e3) hl
  refine ⟨_, hc, t_OB.to (V := updV (vp_V (fs.map (am_v G))) k (am_v G v)) ⟨_, e1, q2, q3, t_set q4 hap hk _⟩ (fun j _ => ?_)⟩
  show _ = vp_V ((fs.set k v).map (am_v G)) j
  rw [List.map_set]
  exact vp_updV_set (by rw [List.length_map]; exact hl') _ j
theorem am_iald {a n : Nat} {f : Nat → Int32} {i : Int32} (hd : decode y.2.1 pc = .ok (.iaload, 1)) (ha : h[a]? = some (.inl (0, n, .inl f))) (hi : vp_in i n) (k : am_W G y d bc bs Q (pc + 1) L (.int (f i.toNatClampNeg) :: st) h) : am_W G y d bc bs Q pc L (.int i :: .ref (a + 1) :: st) h := by
  intro p e R s m args below meth c H locs cells slots ls C hR hh hS hl
  exact va_iald C.1.1 C.1.2.1 C.2.1 hh.2 a 0 (am_wsat ha) rfl hi hd (k p e R s m args below meth c H locs cells slots ls C hR hh hS hl)
theorem am_ialdN (j : Nat) {a n : Nat} {f : Nat → Int32} {i : Int32} (hd : decode y.2.1 pc = .ok (.iaload, 1)) (ha : h[a]? = some (.inl (0, n, .inl f))) (hj : i = nI j) (hlt : j < n) (hn : n < 2 ^ 31) (k : am_W G y d bc bs Q (pc + 1) L (.int (f j) :: st) h) : am_W G y d bc bs Q pc L (.int i :: .ref (a + 1) :: st) h := by
  subst hj
  refine am_iald hd ha (vp_in_nI hlt hn) ?_
  rw [nI_clamp (by omega)]
  exact k
theorem am_lald {a n : Nat} {f : Nat → Int64} {i : Int32} (hd : decode y.2.1 pc = .ok (.laload, 1)) (ha : h[a]? = some (.inl (1, n, .inr (.inl f)))) (hi : vp_in i n) (k : am_W G y d bc bs Q (pc + 1) L (.long (f i.toNatClampNeg) :: st) h) : am_W G y d bc bs Q pc L (.int i :: .ref (a + 1) :: st) h := by
  intro p e R s m args below meth c H locs cells slots ls C hR hh hS hl
  exact va_lald C.1.1 C.1.2.1 C.2.1 hh.2 a 1 (am_wsat ha) rfl hi hd (k p e R s m args below meth c H locs cells slots ls C hR hh hS hl)
theorem am_laldN (j : Nat) {a n : Nat} {f : Nat → Int64} {i : Int32} (hd : decode y.2.1 pc = .ok (.laload, 1)) (ha : h[a]? = some (.inl (1, n, .inr (.inl f)))) (hj : i = nI j) (hlt : j < n) (hn : n < 2 ^ 31) (k : am_W G y d bc bs Q (pc + 1) L (.long (f j) :: st) h) : am_W G y d bc bs Q pc L (.int i :: .ref (a + 1) :: st) h := by
  subst hj
  refine am_lald hd ha (vp_in_nI hlt hn) ?_
  rw [nI_clamp (by omega)]
  exact k
theorem am_zald {a n : Nat} {f : Nat → Int32} {i : Int32} (hd : decode y.2.1 pc = .ok (.baload, 1)) (ha : h[a]? = some (.inl (2, n, .inl f))) (hi : vp_in i n) (k : am_W G y d bc bs Q (pc + 1) L (.int (f i.toNatClampNeg) :: st) h) : am_W G y d bc bs Q pc L (.int i :: .ref (a + 1) :: st) h := by
  intro p e R s m args below meth c H locs cells slots ls C hR hh hS hl
  exact va_zald C.1.1 C.1.2.1 C.2.1 hh.2 a 2 (am_wsat ha) rfl hi hd (k p e R s m args below meth c H locs cells slots ls C hR hh hS hl)
theorem am_zaldN (j : Nat) {a n : Nat} {f : Nat → Int32} {i : Int32} (hd : decode y.2.1 pc = .ok (.baload, 1)) (ha : h[a]? = some (.inl (2, n, .inl f))) (hj : i = nI j) (hlt : j < n) (hn : n < 2 ^ 31) (k : am_W G y d bc bs Q (pc + 1) L (.int (f j) :: st) h) : am_W G y d bc bs Q pc L (.int i :: .ref (a + 1) :: st) h := by
  subst hj
  refine am_zald hd ha (vp_in_nI hlt hn) ?_
  rw [nI_clamp (by omega)]
  exact k
theorem am_iast {a n : Nat} {f : Nat → Int32} {i : Int32} {x : Int32} (hd : decode y.2.1 pc = .ok (.iastore, 1)) (ha : h[a]? = some (.inl (0, n, .inl f))) (hi : vp_in i n) (k : am_W G y d bc bs Q (pc + 1) L (st) (h.set a (.inl (0, n, .inl (upd f i.toNatClampNeg x))))) : am_W G y d bc bs Q pc L (.int x :: .int i :: .ref (a + 1) :: st) h := by
  intro p e R s m args below meth c H locs cells slots ls C hR hh hS hl
  refine W.iast C.1.1 C.1.2.1 (hh.2 a _ (am_wsat ha)) ((C.2.1.2 0 _ rfl).1 n (fun j => .int (f j))) (fun q => by cases q) (by show ¬ (i < 0 ∨ (arrV _ _ _).slots.size ≤ _); rw [arrV_size]; exact hi) rfl rfl hd fun H1 e1 z oq => ?_
  refine k p e R s m args below meth c H1 _ cells slots ls C hR (hh.set ha ?_ z oq) (am_S.put hS z oq) hl
  show H1[_]? = some (vp_cell _ _)
  rw [e1]
  rw [vp_cell_i, vp_cell_i, arrV_store]
  congr 2
  funext q
  by_cases hq : q = i.toNatClampNeg
  · subst hq
    simp [updV, upd]
    
  · simp [updV, upd, hq]
theorem am_last {a n : Nat} {f : Nat → Int64} {i : Int32} {x : Int64} (hd : decode y.2.1 pc = .ok (.lastore, 1)) (ha : h[a]? = some (.inl (1, n, .inr (.inl f)))) (hi : vp_in i n) (k : am_W G y d bc bs Q (pc + 1) L (st) (h.set a (.inl (1, n, .inr (.inl (vp_updL f i.toNatClampNeg x)))))) : am_W G y d bc bs Q pc L (.long x :: .int i :: .ref (a + 1) :: st) h := by
  intro p e R s m args below meth c H locs cells slots ls C hR hh hS hl
  refine W.last C.1.1 C.1.2.1 (hh.2 a _ (am_wsat ha)) ((C.2.1.2 1 _ rfl).1 n (fun j => .long (f j))) (fun q => by cases q) (by show ¬ (i < 0 ∨ (arrV _ _ _).slots.size ≤ _); rw [arrV_size]; exact hi) rfl rfl hd fun H1 e1 z oq => ?_
  refine k p e R s m args below meth c H1 _ cells slots ls C hR (hh.set ha ?_ z oq) (am_S.put hS z oq) hl
  show H1[_]? = some (vp_cell _ _)
  rw [e1]
  rw [vp_cell_l, vp_cell_l, arrV_store]
  congr 2
  funext q
  by_cases hq : q = i.toNatClampNeg
  · subst hq
    simp [updV, vp_updL]
    
  · simp [updV, vp_updL, hq]
theorem am_zast {a n : Nat} {f : Nat → Int32} {i : Int32} {x : Int32} (hd : decode y.2.1 pc = .ok (.bastore, 1)) (ha : h[a]? = some (.inl (2, n, .inl f))) (hi : vp_in i n) (k : am_W G y d bc bs Q (pc + 1) L (st) (h.set a (.inl (2, n, .inl (upd f i.toNatClampNeg (vp_nar .boolean x)))))) : am_W G y d bc bs Q pc L (.int x :: .int i :: .ref (a + 1) :: st) h := by
  intro p e R s m args below meth c H locs cells slots ls C hR hh hS hl
  refine W.zast C.1.1 C.1.2.1 (hh.2 a _ (am_wsat ha)) ((C.2.1.2 2 _ rfl).1 n (fun j => .int (f j))) (fun q => by cases q) (by show ¬ (i < 0 ∨ (arrV _ _ _).slots.size ≤ _); rw [arrV_size]; exact hi) rfl rfl hd fun H1 e1 z oq => ?_
  refine k p e R s m args below meth c H1 _ cells slots ls C hR (hh.set ha ?_ z oq) (am_S.put hS z oq) hl
  show H1[_]? = some (vp_cell _ _)
  rw [e1]
  rw [vp_cell_i, vp_cell_i, arrV_store]
  congr 2
  funext q
  by_cases hq : q = i.toNatClampNeg
  · subst hq
    simp [updV, upd, vp_nar]
    try rfl
  · simp [updV, upd, hq]
theorem am_iastN (j : Nat) {a n : Nat} {f : Nat → Int32} {i : Int32} {x : Int32} (hd : decode y.2.1 pc = .ok (.iastore, 1)) (ha : h[a]? = some (.inl (0, n, .inl f))) (hj : i = nI j) (hlt : j < n) (hn : n < 2 ^ 31) (k : am_W G y d bc bs Q (pc + 1) L (st) (h.set a (.inl (0, n, .inl (upd f j x))))) : am_W G y d bc bs Q pc L (.int x :: .int i :: .ref (a + 1) :: st) h := by
  subst hj
  refine am_iast hd ha (vp_in_nI hlt hn) ?_
  rw [nI_clamp (by omega)]
  exact k
theorem am_lastN (j : Nat) {a n : Nat} {f : Nat → Int64} {i : Int32} {x : Int64} (hd : decode y.2.1 pc = .ok (.lastore, 1)) (ha : h[a]? = some (.inl (1, n, .inr (.inl f)))) (hj : i = nI j) (hlt : j < n) (hn : n < 2 ^ 31) (k : am_W G y d bc bs Q (pc + 1) L (st) (h.set a (.inl (1, n, .inr (.inl (vp_updL f j x)))))) : am_W G y d bc bs Q pc L (.long x :: .int i :: .ref (a + 1) :: st) h := by
  subst hj
  refine am_last hd ha (vp_in_nI hlt hn) ?_
  rw [nI_clamp (by omega)]
  exact k
theorem am_zastN (j : Nat) {a n : Nat} {f : Nat → Int32} {i : Int32} {x : Int32} (hd : decode y.2.1 pc = .ok (.bastore, 1)) (ha : h[a]? = some (.inl (2, n, .inl f))) (hj : i = nI j) (hlt : j < n) (hn : n < 2 ^ 31) (hx : vp_nar .boolean x = x) (k : am_W G y d bc bs Q (pc + 1) L (st) (h.set a (.inl (2, n, .inl (upd f j x))))) : am_W G y d bc bs Q pc L (.int x :: .int i :: .ref (a + 1) :: st) h := by
  subst hj
  refine am_zast hd ha (vp_in_nI hlt hn) ?_
  rw [nI_clamp (by omega), hx]
  exact k
theorem am_alen {a t : Nat} {x : vp_A} {v : Int32} (hd : decode y.2.1 pc = .ok (.arraylength, 1)) (ha : h[a]? = some (.inl (t, x))) (ht : t < 3) (hv : Int32.ofNat x.1 = v) (k : am_W G y d bc bs Q (pc + 1) L (.int v :: st) h) : am_W G y d bc bs Q pc L (.ref (a + 1) :: st) h := by
  intro p e R s m args below meth c H locs cells slots ls C hR hh hS hl
  rcases (show t = 0 ∨ t = 1 ∨ t = 2 by omega) with rfl | rfl | rfl
  · exact va_alen C.1.1 C.1.2.1 C.2.1 hh.2 a 0 (am_wsat ha) rfl hv hd (k p e R s m args below meth c H locs cells slots ls C hR hh hS hl)
  · exact va_alen C.1.1 C.1.2.1 C.2.1 hh.2 a 1 (am_wsat ha) rfl hv hd (k p e R s m args below meth c H locs cells slots ls C hR hh hS hl)
  · exact va_alen C.1.1 C.1.2.1 C.2.1 hh.2 a 2 (am_wsat ha) rfl hv hd (k p e R s m args below meth c H locs cells slots ls C hR hh hS hl)
/-- the script -/
theorem am_sld {i : Int32} (hd : decode y.2.1 pc = .ok (.iaload, 1)) (hi : vp_in i (am_gn G)) (k : am_W G y d bc bs Q (pc + 1) L (.int (am_gx G i.toNatClampNeg) :: st) h) : am_W G y d bc bs Q pc L (.int i :: .ref 0 :: st) h := by
  intro p e R s m args below meth c H locs cells slots ls C hR hh hS hl
  have C' := C
  obtain ⟨-, -, -, -, -, -, hz, hX, hb, -⟩ := C'
  exact va_sld C.1.1 C.1.2.1 hX (Nat.lt_of_lt_of_le hb hz) (Nat.not_le.mpr hb) hS hi hd (k p e R s m args below meth c H locs cells slots ls C hR hh hS hl)
theorem am_slen (hd : decode y.2.1 pc = .ok (.arraylength, 1)) (k : am_W G y d bc bs Q (pc + 1) L (.int (nI (am_gn G)) :: st) h) : am_W G y d bc bs Q pc L (.ref 0 :: st) h := by
  intro p e R s m args below meth c H locs cells slots ls C hR hh hS hl
  have C' := C
  obtain ⟨-, -, -, -, -, -, hz, hX, hb, -⟩ := C'
  exact va_slen C.1.1 C.1.2.1 hX (Nat.lt_of_lt_of_le hb hz) (Nat.not_le.mpr hb) hS hd (k p e R s m args below meth c H locs cells slots ls C hR hh hS hl)
theorem am_new (F : am_F ci Cn T N ty) {index : Nat} {fs : List Value} (hd : decode y.2.1 pc = .ok (.new index, 3)) (hw : Cond.classLink y.1.cls index Cn ∈ am_T) (hw2 : Cond.instantiable Cn N ∈ am_T) (hw3 : Cond.initialized Cn ∈ am_T) (hfs : ∀ j, j < N → defaultValue (ty j) = vp_V (fs.map (am_v G)) j) (hb1 : 1 ≤ bc) (hb2 : N ≤ bs) (k : am_W G y d (bc - 1) (bs - N) Q (pc + 3) L (.ref (h.length + 1) :: st) (h ++ [.inr (ci, fs)])) : am_W G y d bc bs Q pc L (st) h := by
  intro p e R s m args below meth c H locs cells slots ls C hR hh hS hl
  have hc := F.1
  have hKn := C.2.1.1 ci _ hc
  obtain ⟨r1, r2, r3, r4⟩ := hR
  refine W.newcK C.1.1 C.1.2.1 C.1.2.2.2.1 (C.1.2.2.2.2 _ hw) (C.1.2.2.2.2 _ hw2) (C.1.2.2.2.2 _ hw3) rfl hd (by omega) (by omega) hKn.2.1 hh.1 fun H1 kC hkC e1 z1 o1 => ?_
  exact k p e R s m args below meth c H1 locs (cells + 1) (slots + N) ls C ⟨r1, r2, by omega, by omega⟩ (hh.push ⟨_, hc, (u_born ty C.1.2.2.2.2 F.2.1 hKn hkC e1 F.2.2.1).to hfs⟩ (by rw [z1, hh.1]) (fun q hq => o1 q (by rw [← hh.1]; exact hq))) (am_S.push hS (by rw [z1, hh.1]) (fun q hq => o1 q (by rw [← hh.1]; exact hq))) hl
theorem am_newa {atype : ArrayType} {t NN : Nat} {n : Int32} {a0 : vp_A} (hd : decode y.2.1 pc = .ok (.newarray atype, 2)) (hw : Cond.arrayClass (newarray.typeOf atype) ∈ am_T) (ht : (am_tys G)[t]? = some (am_gA G t, newarray.typeOf atype)) (ha0 : ∀ cA : ClassId, vp_cell cA a0 = arrV cA NN (fun _ => defaultValue (newarray.typeOf atype))) (hn : n = nI NN) (hN : NN ≤ 1000000) (hbytes : NN * componentBytes (newarray.typeOf atype) ≤ 536870912) (hb1 : 1 ≤ bc) (hb2 : NN ≤ bs) (k : am_W G y d (bc - 1) (bs - NN) Q (pc + 2) L (.ref (h.length + 1) :: st) (h ++ [.inl (t, a0)])) : am_W G y d bc bs Q pc L (.int n :: st) h := by
  intro p e R s m args below meth c H locs cells slots ls C hR hh hS hl
  obtain ⟨r1, r2, r3, r4⟩ := hR
  subst hn
  refine va_newaK C.1.1 C.1.2.1 (C.1.2.2.2.2 _ hw) rfl hd rfl (nI_pos (by omega)) (nI_clamp (by omega)) hbytes (by omega) (by omega) hh.1 fun H1 cA e1 z1 o1 hAr hNm => ?_
  have hcA : cA = am_gA G t := by
    have h2 := (C.2.1.2 t _ ht).2
    have h3 : s.vm.findClass ("[" ++ (newarray.typeOf atype).toString) = some (am_gA G t) := by cases atype <;> exact h2
    exact Option.some.inj (hNm.symm.trans h3)
  subst hcA
  refine k p e R s m args below meth c H1 locs (cells + 1) (slots + NN) ls C ⟨r1, r2, by omega, by omega⟩ (hh.push ?_ (by rw [z1, hh.1]) (fun q hq => o1 q (by rw [← hh.1]; exact hq))) (am_S.push hS (by rw [z1, hh.1]) (fun q hq => o1 q (by rw [← hh.1]; exact hq))) hl
  show H1[am_gz G + h.length]? = some (vp_cell _ _)
  rw [ha0]
  exact e1
theorem am_objInit {index a : Nat} (hd : decode y.2.1 pc = .ok (.invokespecial index, 3)) (hw1 : Cond.methodLink y.1.cls index Lib.objectInit ∈ am_T) (hw2 : Cond.instanceMethod Lib.objectInit ∈ am_T) (hw3 : Cond.code Lib.objectInit ⟨#[0xb1]⟩ 1 none ∈ am_T) (hd1 : 1 ≤ d) (hst : (st.map fun v => v.category).sum ≤ 20) (k : am_W G y d bc bs Q (pc + 3) L (st) h) : am_W G y d bc bs Q pc L (.ref (a + 1) :: st) h := by
  intro p e R s m args below meth c H locs cells slots ls C hR hh hS hl
  obtain ⟨r1, r2, r3, r4⟩ := id hR
  refine W.objInit C.1.1 C.1.2.1 C.1.2.2.2.1 (C.1.2.2.2.2 _ hw1) (C.1.2.2.2.2 _ hw2) (C.1.2.2.2.2 _ hw3) rfl (by rw [C.1.2.2.1]; exact hl.1) (a := am_gz G + a) (rest := st.map (am_v G)) rfl hd (by omega) ?_ (k p e R s m args below meth c H locs cells slots ls C hR hh hS hl)
  have e1 : ((st.map (am_v G)).map fun v => v.category) = st.map fun v => v.category := by
    rw [List.map_map]; exact List.map_congr_left (fun v _ => am_v_cat G v)
  show 2 * 0 + _ + 12 ≤ _
  rw [e1]
  omega
theorem am_end {p : Program} {e : Env} {R : Room} {s : State} {m : MethodId} {args : Array Value} {below : List Frame} {meth : Method} {c : Code} {H : Heap} {locs : List Loc} {cells slots : Nat} {g : JFrame} {v : Option Value} {b1 b2 : Nat}
    (C : am_C G y p s m args meth c) (hR : am_Rm d b1 b2 R cells slots) (hh : am_R G h H) (hS : va_S (am_A G) s.heap H locs) (hq : Q (.inl v) h)
    (w : W p G.1 e R s m args below meth c H locs cells slots (MQ below (fun _ _ o t => o = .returned (v.map (am_v G)) ∧ t.heap = H) args s cells slots (am_A G)) g) : W p G.1 e R s m args below meth c H locs cells slots (am_Z G Q R s below) g := by
  intro T hT X
  obtain ⟨t, a, o, q1, q2, ⟨q3, q4⟩, Lc, ⟨-, q5, q6⟩, q7⟩ := w T hT X
  obtain ⟨r1, r2, r3, r4⟩ := hR
  refine ⟨t, a, o, Lc, cells, slots, .inl v, h, q1, q2, q5, q6, by omega, by omega, q7, fun q hq => ?_, by rw [q4]; exact hh, q3, hq⟩
  rw [q4]
  exact hS.2.1 q (Nat.lt_of_lt_of_le hq C.2.2.2.2.2.2.1) (Nat.not_le.mpr hq)
theorem am_iret {v : Int32} (hd : decode y.2.1 pc = .ok (.ireturn, 1)) (hr : y.2.2.2.1 = some .int) (hq : Q (.inl (some (.int v))) h) : am_W G y d bc bs Q pc L ([.int v]) h := by
  intro p e R s m args below meth c H locs cells slots ls C hR hh hS hl
  exact am_end C hR hh hS hq (W.iret C.1.1 C.1.2.1 (C.2.2.1.trans hr) (fun t ht _ => ⟨rfl, ht⟩) hS.2.2 hd C.2.2.2.1)
theorem am_zret {v : Int32} (hd : decode y.2.1 pc = .ok (.ireturn, 1)) (hr : y.2.2.2.1 = some .boolean) (hv : narrow .boolean (.int v) = .int v) (hq : Q (.inl (some (.int v))) h) : am_W G y d bc bs Q pc L ([.int v]) h := by
  intro p e R s m args below meth c H locs cells slots ls C hR hh hS hl
  exact am_end C hR hh hS hq (W.zret C.1.1 C.1.2.1 (C.2.2.1.trans hr) hv (fun t ht _ => ⟨rfl, ht⟩) hS.2.2 hd C.2.2.2.1)
theorem am_lret {v : Int64} (hd : decode y.2.1 pc = .ok (.lreturn, 1)) (hr : y.2.2.2.1 = some .long) (hq : Q (.inl (some (.long v))) h) : am_W G y d bc bs Q pc L ([.long v]) h := by
  intro p e R s m args below meth c H locs cells slots ls C hR hh hS hl
  exact am_end C hR hh hS hq (W.lret C.1.1 C.1.2.1 (C.2.2.1.trans hr) (fun t ht _ => ⟨rfl, ht⟩) hS.2.2 hd C.2.2.2.1)
theorem am_vret (hd : decode y.2.1 pc = .ok (.return_, 1)) (hr : y.2.2.2.1 = none) (hq : Q (.inl none) h) : am_W G y d bc bs Q pc L ([]) h := by
  intro p e R s m args below meth c H locs cells slots ls C hR hh hS hl
  exact am_end C hR hh hS hq (W.vret C.1.1 C.1.2.1 (C.2.2.1.trans hr) (fun t ht _ => ⟨rfl, ht⟩) hS.2.2 hd C.2.2.2.1)
end AMH
end
section
theorem am_Largs (G : am_G) : ∀ (As : List Value) (i : Nat), lv_args i (As.map (am_v G)) = am_L G (lv_args i As)
  | [], i => rfl
  | v :: As, i => by
    have h1 := am_Largs G As
    simp only [List.map_cons, lv_args, am_v_cat, h1]
    rfl
theorem am_slargs (G : am_G) : ∀ (As : List Value), (lg_sl (As.map (am_v G))).length = (lg_sl As).length
  | [] => rfl
  | v :: As => by
    have h1 := am_slargs G As
    simp only [lg_sl, List.map_cons, List.flatMap_cons, List.length_append, am_v_cat] at h1 ⊢
    rw [h1]
    congr 1
    split <;> rfl
theorem am_cats (G : am_G) (st : List Value) : ((st.map (am_v G)).map fun v => v.category) = st.map fun v => v.category := by
  rw [List.map_map]; exact List.map_congr_left (fun v _ => am_v_cat G v)
/-- the exception q has come to the frame at pc -/
def am_TW (G : am_G) (y : am_M) (d bc bs : Nat) (Q : am_O → am_H → Prop) (pc : Nat) (L : List (Nat × Value)) (q : Nat × Nat) (h : am_H) : Prop :=
  ∀ (p : Program) (e : Env) (R : Room) (s : State) (m : MethodId) (args : Array Value) (below : List Frame) (meth : Method) (c : Code) (H : Heap) (locs : List Loc) (cells slots : Nat) (ls : Array Slot) (stk : List Value),
    am_C G y p s m args meth c → am_Rm d bc bs R cells slots → am_R G h H → va_S (am_A G) s.heap H locs → lv_has ls y.2.2.1 (am_L G L) →
    ∀ T : State, T.heap = H → Stand p G.1 e R s m args below meth c T locs cells slots → ∃ t, Steps p.tables e below ((T.setTop (F0 m pc ls stk)).pushFrame (.throwing (am_ad G q.2))) t ∧ am_Z G Q R s below t
/-- the call at pc goes to the method z with the arguments As (a receiver is the first) -/
def am_Lk (G : am_G) (y z : am_M) (pc : Nat) (L : List (Nat × Value)) (As rest : List Value) (h : am_H) : Prop :=
  ∀ (p : Program) (e : Env) (R : Room) (s : State) (m : MethodId) (args : Array Value) (below : List Frame) (meth : Method) (c : Code) (H : Heap) (locs : List Loc) (cells slots : Nat) (ls : Array Slot),
    am_C G y p s m args meth c → am_R G h H → lv_has ls y.2.2.1 (am_L G L) →
    ∀ T : State, T.heap = H → Stand p G.1 e R s m args below meth c T locs cells slots →
    ∃ (vm' : Vm) (mk : MethodId) (methk : Method) (ck : Code) (ig : Instr), Stand p G.1 e R s m args below meth c (T.setVm vm') locs cells slots ∧ s.methodNamed? z.1 = some mk ∧ s.vm.method? mk = some methk ∧
      methk.code = some ck ∧ ck.code = z.2.1 ∧ ck.maxLocals = z.2.2.1 ∧ methk.sig.returnType = z.2.2.2.1 ∧ methk.locks = false ∧ ck.exceptionTable.toList.map (fun h => (h.startPc, h.endPc, h.handlerPc, h.catchType)) = z.2.2.2.2 ∧
      decode c.code pc = .ok (ig, 3) ∧
      ∀ target, (∀ acts, Steps p.tables e below (doInvoke e ((T.setVm vm').setTop (F0 m pc ls (rest.map (am_v G)))) acts mk ((As.map (am_v G)).toArray)).1 target) → Steps p.tables e below (T.setTop (F0 m pc ls ((As.reverse ++ rest).map (am_v G)))) target
/-- the word of a method's code -/
def am_cw (z : am_M) : Cond := match z.2.2.2.2 with
  | [] => .code z.1 z.2.1 z.2.2.1 z.2.2.2.1
  | hs => .codeWith z.1 z.2.1 z.2.2.1 z.2.2.2.1 hs
theorem am_cw_spec {z : am_M} {args : Array Value} {s : State} (h : (am_cw z).before args s = true) : ∃ mk meth c, s.methodNamed? z.1 = some mk ∧ s.vm.method? mk = some meth ∧ meth.code = some c ∧ c.code = z.2.1 ∧ c.maxLocals = z.2.2.1 ∧
    meth.sig.returnType = z.2.2.2.1 ∧ meth.locks = false ∧ c.exceptionTable.toList.map (fun h => (h.startPc, h.endPc, h.handlerPc, h.catchType)) = z.2.2.2.2 ∧ parseMethodDescriptor z.1.desc = some meth.sig := by
  obtain ⟨z1, z2, z3, z4, z5⟩ := z
  cases z5 with
  | nil =>
    obtain ⟨mk, hn⟩ := Cond.code_named (show (Cond.code z1 z2 z3 z4).before args s = true from h)
    obtain ⟨meth, c, h1, h2, h3, h4, h5, h6, h7, h8⟩ := Cond.code_spec hn h
    refine ⟨mk, meth, c, hn, h1, h2, h3, h4, h5, h6, ?_, h8⟩
    have : c.exceptionTable = #[] := by simpa using h7
    rw [this]
    rfl
  | cons a l =>
    obtain ⟨mk, meth, c, hn, h1, h2, h3, h4, h5, h6, h7, h8⟩ := Cond.codeWith_spec (show (Cond.codeWith z1 z2 z3 z4 (a :: l)).before args s = true from h)
    exact ⟨mk, meth, c, hn, h1, h2, h3, h4, h6, h7, h5, h8⟩
section AMC
variable {G : am_G} {y z : am_M} {d bc bs bc' bs' : Nat} {Q Q' : am_O → am_H → Prop} {pc : Nat} {L : List (Nat × Value)} {As rest st : List Value} {h : am_H}
theorem am_call (lk : am_Lk G y z pc L As rest h) (hpl : plainName z.1.cls = true) (hm : z.2.2.1 ≤ 44) (hfit : (lg_sl As).length ≤ z.2.2.1) (hrest : (rest.map fun v => v.category).sum ≤ 8) (hb1 : bc' ≤ bc) (hb2 : bs' ≤ bs)
    (hk : am_W G z d bc' bs' Q' 0 (lv_args 0 As) [] h)
    (hr : ∀ v h', Q' (.inl v) h' → am_W G y (d + 1) (bc - bc') (bs - bs') Q (pc + 3) L (v.toList ++ rest) h')
    (hth : ∀ q h', Q' (.inr q) h' → am_TW G y (d + 1) (bc - bc') (bs - bs') Q pc L q h') : am_W G y (d + 1) bc bs Q pc L (As.reverse ++ rest) h := by
  intro p e R s m args below meth c H locs cells slots ls C hR hh hS hl T hT X
  obtain ⟨vm', mk, methk, ck, ig, X1, hn, hmk, hck, hcb, hml, hret, hlk, hex, hdg, step⟩ := lk p e R s m args below meth c H locs cells slots ls C hh hl T hT X
  obtain ⟨r1, r2, r3, r4⟩ := hR
  have hal := X1.warmed.alike
  have hmk1 : (T.setVm vm').vm.method? mk = some methk := by rw [hal.method?]; exact hmk
  have hn1 : (T.setVm vm').methodNamed? z.1 = some mk := X1.named hn
  have hpk : (T.setVm vm').plainMethod mk := State.plainMethod.of_named (plainFor_of_name hpl) hn1 hmk1
  have hsz : (F0 m pc ls (rest.map (am_v G))).locals.size = c.maxLocals := by rw [C.1.2.2.1]; exact hl.1
  obtain ⟨Y0, hin⟩ := X1.into (g := F0 m pc ls (rest.map (am_v G))) rfl hsz hdg ((As.map (am_v G)).toArray) (R' := { frames := d, cells := bc', slots := bs', locals := 64 * d }) hmk1 hck hlk hpk (by show d + 1 ≤ _; omega)
    (by show 2 * 0 + ((rest.map (am_v G)).map fun v => v.category).sum + (ck.maxLocals + 11) + 64 * d ≤ _; rw [am_cats, hml]; omega) (by show cells + bc' ≤ _; omega) (by show slots + bs' ≤ _; omega)
  have hent : entryFrame mk (As.map (am_v G)).toArray ck.maxLocals = F0 mk 0 ((lg_sl (As.map (am_v G)) ++ List.replicate (ck.maxLocals - (lg_sl (As.map (am_v G))).length) Slot.unset).toArray) [] := lg_entry_eq mk (As.map (am_v G)) ck.maxLocals
  have hl0 := lv_entry (As.map (am_v G)) (n := z.2.2.1) (by rw [am_slargs]; exact hfit)
  rw [am_Largs] at hl0
  rw [hml] at hent hin Y0
  have hheap : ((T.setVm vm').calling (F0 m pc ls (rest.map (am_v G))) mk (As.map (am_v G)).toArray).heap = H := hT
  have hvmc : ((T.setVm vm').calling (F0 m pc ls (rest.map (am_v G))) mk (As.map (am_v G)).toArray).vm = (T.setVm vm').vm := rfl
  have C' : am_C G z p ((T.setVm vm').calling (F0 m pc ls (rest.map (am_v G))) mk (As.map (am_v G)).toArray) mk (As.map (am_v G)).toArray methk ck := by
    obtain ⟨⟨c1, c2, c3, c4, c5⟩, c6, c7, c8, c9, c10, c11, c12, c13, c14⟩ := C
    refine ⟨⟨c1, hcb, hml, ?_, fun w hw => ?_⟩, va_K.moved hal c6, hret, hlk, hex, (name_of_methodNamed hn hmk).1, ?_, ?_, c13, c14.moved (by rw [hvmc]; exact X1.warmed) c11 (fun q hq => by rw [hheap]; exact hS.2.1 q (Nat.lt_of_lt_of_le hq c11) (Nat.not_le.mpr hq)) ⟨h, by rw [hheap]; exact hh⟩⟩
    · rw [hvmc, hal.findClass]; exact findClass_of_methodNamed hn
    · exact word_at (s := s) (by rw [hvmc]; exact X1.warmed) (am_T_good w hw) (c5 w hw)
    · rw [hheap, hh.1]; omega
    · refine va_X.moved (u := s) hal ?_
      rw [hheap]
      exact c12.kept (hS.2.1 _ (Nat.lt_of_lt_of_le c13 c11) (Nat.not_le.mpr c13))
  obtain ⟨t, stp, o, Lc, k1, n1, ao, h', q1, q2, q3, q4, q5, q6, q7, q8, q9, q10, q11⟩ := hk p e { frames := d, cells := bc', slots := bs', locals := 64 * d } ((T.setVm vm').calling (F0 m pc ls (rest.map (am_v G))) mk (As.map (am_v G)).toArray) mk (As.map (am_v G)).toArray (.java (F0 m pc ls (rest.map (am_v G))) :: below) methk ck H [] 0 0 _
    C' ⟨Nat.le_refl d, Nat.le_refl (64 * d), by show 0 + bc' ≤ bc'; omega, by show 0 + bs' ≤ bs'; omega⟩ hh (by rw [hheap]; exact va_S.rf) hl0 (((T.setVm vm').setTop (F0 m pc ls (rest.map (am_v G)))).pushFrame (.java (entryFrame mk (As.map (am_v G)).toArray z.2.2.1))) hT Y0
  have hS' : va_S (am_A G) s.heap t.heap (locs ++ Lc) := by
    refine ⟨?_, fun q g1 g2 => ?_, fun q hq => ?_⟩
    · have := q4.2.1
      have h2 : H.size ≤ t.heap.size := by rw [← hheap]; exact this
      exact Nat.le_trans hS.1 h2
    · rw [q8 q (Nat.not_le.mp g2), hheap]
      exact hS.2.1 q g1 g2
    · rcases List.mem_append.mp hq with h1 | h1
      · exact hS.2.2 q h1
      · exact q7 q h1
  have q5' : k1 ≤ bc' := q5
  have q6' : n1 ≤ bs' := q6
  have stp' : Steps p.tables e below (((T.setVm vm').setTop (F0 m pc ls (rest.map (am_v G)))).pushFrame (.java (entryFrame mk (As.map (am_v G)).toArray z.2.2.1)) |>.setTop (entryFrame mk (As.map (am_v G)).toArray z.2.2.1)) t := by
    refine Steps.weaken (mid := [.java (F0 m pc ls (rest.map (am_v G)))]) ?_
    rw [List.map_nil, ← hent] at stp
    exact stp
  cases ao with
  | inl v =>
    obtain rfl : o = .returned (v.map (am_v G)) := q10
    obtain ⟨T', X', hW', hB', ht⟩ := X1.outOf (g := F0 m pc ls (rest.map (am_v G))) rfl hdg q2 q3 q4
    have hT' : T'.heap = t.heap := by rw [ht]; simp
    obtain ⟨t2, a1, b1⟩ := hr v h' q11 p e R s m args below meth c t.heap (locs ++ Lc) (cells + k1) (slots + n1) ls C ⟨r1, r2, by omega, by omega⟩ q9 hS' hl T' hT' X'
    refine ⟨t2, step t2 (fun acts => ?_), b1⟩
    rw [hin acts]
    refine stp'.trans ?_
    have e1 : (v.toList ++ rest).map (am_v G) = (v.map (am_v G)).toList ++ rest.map (am_v G) := by cases v <;> simp
    rw [e1] at a1
    rw [ht]
    exact a1
  | inr q =>
    obtain rfl : o = .threw (am_ad G q.2) := q10
    obtain ⟨T', X', hW', hB', ht⟩ := X1.outOfThrown (g := F0 m pc ls (rest.map (am_v G))) rfl q2 q3 q4
    have hT' : T'.heap = t.heap := by rw [ht]; exact (Stand.throwing_heap T' _ _).symm
    obtain ⟨t2, a1, b1⟩ := hth q h' q11 p e R s m args below meth c t.heap (locs ++ Lc) (cells + k1) (slots + n1) ls (rest.map (am_v G)) C ⟨r1, r2, by omega, by omega⟩ q9 hS' hl T' hT' X'
    refine ⟨t2, step t2 (fun acts => ?_), b1⟩
    rw [hin acts]
    refine stp'.trans ?_
    rw [ht]
    exact a1
/-- it leaves the method -/
theorem am_thr_out {q : Nat × Nat} (hx : y.2.2.2.2.all (fun r => !(decide (r.1 ≤ pc) && decide (pc < r.2.1))) = true) (hq : Q (.inr q) h) : am_TW G y d bc bs Q pc L q h := by
  intro p e R s m args below meth c H locs cells slots ls stk C hR hh hS hl T hT X
  have hout : ∀ x ∈ c.exceptionTable.toList, covers x (F0 m pc ls stk).pc = false := by
    intro x hxm
    have h1 : (x.startPc, x.endPc, x.handlerPc, x.catchType) ∈ y.2.2.2.2 := by rw [← C.2.2.2.2.1]; exact List.mem_map.mpr ⟨x, hxm, rfl⟩
    have h2 := List.all_eq_true.mp hx _ h1
    have h3 : pc < x.startPc ∨ x.endPc ≤ pc := by simpa using h2
    show (decide (x.startPc ≤ pc) && decide (pc < x.endPc)) = false
    rcases h3 with h3 | h3
    · rw [decide_eq_false (by omega)]; rfl
    · rw [decide_eq_false (p := pc < x.endPc) (by omega), Bool.and_false]
  obtain ⟨a1, a2, a3, a4, a5⟩ := X.leaveThrown (am_ad G q.2) (g := F0 m pc ls stk) rfl rfl rfl hout C.2.2.2.1
  obtain ⟨r1, r2, r3, r4⟩ := hR
  have hth : (T.setFrames (.throwing (am_ad G q.2) :: below)).heap = H := hT
  refine ⟨_, a1, _, locs, cells, slots, .inr q, h, a2, a3, a4, a5, by omega, by omega, hS.2.2, fun x hx => ?_, by rw [hth]; exact hh, rfl, hq⟩
  rw [hth]
  exact hS.2.1 x (Nat.lt_of_lt_of_le hx C.2.2.2.2.2.2.1) (Nat.not_le.mpr hx)
theorem am_athrow {ci a : Nat} (hd : decode y.2.1 pc = .ok (.athrow, 1)) (k : am_TW G y d bc bs Q pc L (ci, a) h) : am_W G y d bc bs Q pc L (.ref a :: st) h := by
  intro p e R s m args below meth c H locs cells slots ls C hR hh hS hl T hT X
  obtain ⟨t, a1, b1⟩ := k p e R s m args below meth c H locs cells slots ls (st.map (am_v G)) C hR hh hS hl T hT X
  refine ⟨t, ?_, b1⟩
  have hx := C.1.1
  have hb := C.1.2.1
  jvm_step X.here [hx, hb, hd, athrow.wp_sem]
  exact a1
/-! the links of calls -/
theorem am_lkS {index : Nat} (hd : decode y.2.1 pc = .ok (.invokestatic index, 3)) (w1 : Cond.methodLink y.1.cls index z.1 ∈ am_T) (w2 : Cond.static z.1 ∈ am_T) (w3 : Cond.initialized z.1.cls ∈ am_T) (w4 : am_cw z ∈ am_T)
    (hy : z.1.cls ≠ "java/lang/invoke/MethodHandle" ∧ z.1.cls ≠ "java/lang/invoke/VarHandle") (hn : (parseMethodDescriptor z.1.desc).map (fun d => d.parameters.length) = some As.length) : am_Lk G y z pc L As rest h := by
  intro p e R s m args below meth c H locs cells slots ls C hh hl T hT X
  have ok := C.1.2.2.2.2
  have ok2 := C.2.2.2.2.2.2.2.2.2.2.2.2.2.2.1
  obtain ⟨mk, methk, ck, hnm, h1, h2, h3, h4, h5, h6, h7, h8⟩ := am_cw_spec (ok _ w4)
  have hst : methk.isStatic = true := Cond.static_spec hnm h1 (ok _ w2)
  obtain ⟨kP, hkP, -⟩ := className_of_methodNamed hnm
  have hinitP : kP.init = .initialized := Cond.initialized_spec (findClass_of_methodNamed hnm) hkP (ok _ w3)
  have hlen : As.length = methk.sig.parameters.length := by rw [h8] at hn; exact (Option.some.inj hn).symm
  obtain ⟨vm1, X1, hs1⟩ := X.invokestatic C.1.1 C.1.2.2.2.1 (ok _ w1) hnm h1 hst hkP hinitP hy (g := F0 m pc ls ((As.reverse ++ rest).map (am_v G))) rfl (argsL := As.map (am_v G)) (rest := rest.map (am_v G)) (by rw [List.length_map]; exact hlen) (by show (As.reverse ++ rest).map (am_v G) = _; rw [List.map_append, List.map_reverse]) (by rw [C.1.2.1]; exact hd)
  exact ⟨vm1, mk, methk, ck, _, X1, hnm, h1, h2, h3, h4, h5, h6, h7, by rw [C.1.2.1]; exact hd, hs1⟩
theorem am_lkSN {index : Nat} {host : String} (hd : decode y.2.1 pc = .ok (.invokestatic index, 3)) (w1 : Cond.methodLinkNest y.1.cls index z.1 host ∈ am_T2) (w2 : Cond.static z.1 ∈ am_T) (w3 : Cond.initialized z.1.cls ∈ am_T) (w4 : am_cw z ∈ am_T)
    (hy : z.1.cls ≠ "java/lang/invoke/MethodHandle" ∧ z.1.cls ≠ "java/lang/invoke/VarHandle") (hn : (parseMethodDescriptor z.1.desc).map (fun d => d.parameters.length) = some As.length) : am_Lk G y z pc L As rest h := by
  intro p e R s m args below meth c H locs cells slots ls C hh hl T hT X
  have ok := C.1.2.2.2.2
  have ok2 := C.2.2.2.2.2.2.2.2.2.2.2.2.2.2.1
  obtain ⟨mk, methk, ck, hnm, h1, h2, h3, h4, h5, h6, h7, h8⟩ := am_cw_spec (ok _ w4)
  have hst : methk.isStatic = true := Cond.static_spec hnm h1 (ok _ w2)
  obtain ⟨kP, hkP, -⟩ := className_of_methodNamed hnm
  have hinitP : kP.init = .initialized := Cond.initialized_spec (findClass_of_methodNamed hnm) hkP (ok _ w3)
  have hlen : As.length = methk.sig.parameters.length := by rw [h8] at hn; exact (Option.some.inj hn).symm
  obtain ⟨vm1, X1, hs1⟩ := X.invokestaticNest C.1.1 C.1.2.2.2.1 (va_Nw.use rfl (ok2 _ w1)) hnm h1 hst hkP hinitP hy (g := F0 m pc ls ((As.reverse ++ rest).map (am_v G))) rfl (argsL := As.map (am_v G)) (rest := rest.map (am_v G)) (by rw [List.length_map]; exact hlen) (by show (As.reverse ++ rest).map (am_v G) = _; rw [List.map_append, List.map_reverse]) (by rw [C.1.2.1]; exact hd)
  exact ⟨vm1, mk, methk, ck, _, X1, hnm, h1, h2, h3, h4, h5, h6, h7, by rw [C.1.2.1]; exact hd, hs1⟩
theorem am_lkV {index a ci N : Nat} {T0 : u_T} {fs : List Value} (hd : decode y.2.1 pc = .ok (.invokevirtual index, 3)) (w1 : Cond.methodLink y.1.cls index z.1 ∈ am_T) (w2 : Cond.instanceMethod z.1 ∈ am_T) (w3 : Cond.selects z.1.cls z.1 z.1 ∈ am_T) (w4 : am_cw z ∈ am_T)
    (hcl : am_cl[ci]? = some (z.1.cls, T0, N)) (ha : h[a]? = some (.inr (ci, fs))) (hy : z.1.cls ≠ "java/lang/invoke/MethodHandle" ∧ z.1.cls ≠ "java/lang/invoke/VarHandle") (hn : (parseMethodDescriptor z.1.desc).map (fun d => d.parameters.length) = some As.length) : am_Lk G y z pc L (.ref (a + 1) :: As) rest h := by
  intro p e R s m args below meth c H locs cells slots ls C hh hl T hT X
  have ok := C.1.2.2.2.2
  have ok2 := C.2.2.2.2.2.2.2.2.2.2.2.2.2.2.1
  obtain ⟨mk, methk, ck, hnm, h1, h2, h3, h4, h5, h6, h7, h8⟩ := am_cw_spec (ok _ w4)
  obtain ⟨mk', methM, hnamed, hmethM, hstM, habM⟩ := Cond.instanceMethod_spec (ok _ w2)
  cases hnm.symm.trans hnamed
  cases h1.symm.trans hmethM
  obtain ⟨cellB, hcB, hoB, hclB⟩ := va_recv C.2.1 hh.2 hcl (am_wsat ha)
  obtain ⟨c2, r2, m2, q1, q2, q3, q4, kP, hkP, hkPi⟩ := Cond.selects_spec (ok _ w3)
  cases hclB.symm.trans q1
  cases (State.methodFound?_of_named hnamed hy).symm.trans q2
  cases hnamed.symm.trans q3
  have hselP : selectMethod e.platform s.vm cellB.cls mk = .method mk := by rw [Launch.admits_selectMethod X.admits]; exact q4
  have hlen : As.length = methk.sig.parameters.length := by rw [h8] at hn; exact (Option.some.inj hn).symm
  obtain ⟨vm1, X1, hs1⟩ := X.invokevirtual C.1.1 C.1.2.2.2.1 (ok _ w1) hnamed hmethM hstM hkP hkPi hy (a := am_gz G + a) (cell := cellB) (by rw [hT]; exact hcB) (fun x hx => by rw [hx] at hoB; cases hoB) hselP hmethM habM hkP hkPi
    (g := F0 m pc ls (((Value.ref (a + 1) :: As).reverse ++ rest).map (am_v G))) rfl (argsL := As.map (am_v G)) (rest := rest.map (am_v G)) (by rw [List.length_map]; exact hlen) (by show ((Value.ref (a + 1) :: As).reverse ++ rest).map (am_v G) = _; simp [am_v, am_ad]) (by rw [C.1.2.1]; exact hd)
  exact ⟨vm1, mk, methk, ck, _, X1, hnm, h1, h2, h3, h4, h5, h6, h7, by rw [C.1.2.1]; exact hd, hs1⟩
theorem am_lkVN {index a ci N : Nat} {host : String} {T0 : u_T} {fs : List Value} (hd : decode y.2.1 pc = .ok (.invokevirtual index, 3)) (w1 : Cond.methodLinkNest y.1.cls index z.1 host ∈ am_T2) (w2 : Cond.instanceMethod z.1 ∈ am_T) (w3 : Cond.selects z.1.cls z.1 z.1 ∈ am_T) (w4 : am_cw z ∈ am_T)
    (hcl : am_cl[ci]? = some (z.1.cls, T0, N)) (ha : h[a]? = some (.inr (ci, fs))) (hy : z.1.cls ≠ "java/lang/invoke/MethodHandle" ∧ z.1.cls ≠ "java/lang/invoke/VarHandle") (hn : (parseMethodDescriptor z.1.desc).map (fun d => d.parameters.length) = some As.length) : am_Lk G y z pc L (.ref (a + 1) :: As) rest h := by
  intro p e R s m args below meth c H locs cells slots ls C hh hl T hT X
  have ok := C.1.2.2.2.2
  have ok2 := C.2.2.2.2.2.2.2.2.2.2.2.2.2.2.1
  obtain ⟨mk, methk, ck, hnm, h1, h2, h3, h4, h5, h6, h7, h8⟩ := am_cw_spec (ok _ w4)
  obtain ⟨mk', methM, hnamed, hmethM, hstM, habM⟩ := Cond.instanceMethod_spec (ok _ w2)
  cases hnm.symm.trans hnamed
  cases h1.symm.trans hmethM
  obtain ⟨cellB, hcB, hoB, hclB⟩ := va_recv C.2.1 hh.2 hcl (am_wsat ha)
  obtain ⟨c2, r2, m2, q1, q2, q3, q4, kP, hkP, hkPi⟩ := Cond.selects_spec (ok _ w3)
  cases hclB.symm.trans q1
  cases (State.methodFound?_of_named hnamed hy).symm.trans q2
  cases hnamed.symm.trans q3
  have hselP : selectMethod e.platform s.vm cellB.cls mk = .method mk := by rw [Launch.admits_selectMethod X.admits]; exact q4
  have hlen : As.length = methk.sig.parameters.length := by rw [h8] at hn; exact (Option.some.inj hn).symm
  obtain ⟨vm1, X1, hs1⟩ := X.invokevirtualNest C.1.1 C.1.2.2.2.1 (va_Nw.use rfl (ok2 _ w1)) hnamed hmethM hstM hkP hkPi hy (a := am_gz G + a) (cell := cellB) (by rw [hT]; exact hcB) (fun x hx => by rw [hx] at hoB; cases hoB) hselP hmethM habM hkP hkPi
    (g := F0 m pc ls (((Value.ref (a + 1) :: As).reverse ++ rest).map (am_v G))) rfl (argsL := As.map (am_v G)) (rest := rest.map (am_v G)) (by rw [List.length_map]; exact hlen) (by show ((Value.ref (a + 1) :: As).reverse ++ rest).map (am_v G) = _; simp [am_v, am_ad]) (by rw [C.1.2.1]; exact hd)
  exact ⟨vm1, mk, methk, ck, _, X1, hnm, h1, h2, h3, h4, h5, h6, h7, by rw [C.1.2.1]; exact hd, hs1⟩
theorem am_lkI {index a : Nat} (hd : decode y.2.1 pc = .ok (.invokespecial index, 3)) (w1 : Cond.methodLink y.1.cls index z.1 ∈ am_T) (w2 : Cond.instanceMethod z.1 ∈ am_T) (w4 : am_cw z ∈ am_T) (hz1 : z.1.name = "<init>") (hz2 : z.2.2.2 = (none, []))
    (hy : z.1.cls ≠ "java/lang/invoke/MethodHandle" ∧ z.1.cls ≠ "java/lang/invoke/VarHandle") (hn : (parseMethodDescriptor z.1.desc).map (fun d => d.parameters.length) = some As.length) : am_Lk G y z pc L (.ref (a + 1) :: As) rest h := by
  intro p e R s m args below meth c H locs cells slots ls C hh hl T hT X
  have ok := C.1.2.2.2.2
  have ok2 := C.2.2.2.2.2.2.2.2.2.2.2.2.2.2.1
  obtain ⟨mk, methk, ck, hnm, h1, h2, h3, h4, h5, h6, h7, h8⟩ := am_cw_spec (ok _ w4)
  have hcw : (Cond.code z.1 z.2.1 z.2.2.1 none).before args s = true := by
    have h9 := ok _ w4
    obtain ⟨z1, z2, z3, z4, z5⟩ := z
    cases hz2
    exact h9
  have hpl : e.platform.magicAccessors = ({} : Platform).magicAccessors := by rw [X.admits.platform]
  have hlen : ∀ sig, parseMethodDescriptor z.1.desc = some sig → (As.map (am_v G)).length = sig.parameters.length := by
    intro sig hs
    rw [hs] at hn
    rw [List.length_map]
    exact (Option.some.inj hn).symm
  obtain ⟨mk', methM, cM, kP, vm1, hnamed, hmethM, hcodeM, -, hlocalsM, -, hkP, -, hW1, hs1⟩ := Steps.initColdArgs (e := e) X.here C.1.1 X.warmed hpl C.1.2.2.2.1 hz1 hy (ok _ w1) (ok _ w2) hcw (f := F0 m pc ls (((Value.ref (a + 1) :: As).reverse ++ rest).map (am_v G))) rfl (a := am_gz G + a) (argsL := As.map (am_v G)) (rest := rest.map (am_v G)) hlen
    (by show ((Value.ref (a + 1) :: As).reverse ++ rest).map (am_v G) = _; simp [am_v, am_ad]) (by rw [C.1.2.1]; exact hd)
  cases hnm.symm.trans hnamed
  exact ⟨vm1, mk, methk, ck, _, X.noted hW1, hnm, h1, h2, h3, h4, h5, h6, h7, by rw [C.1.2.1]; exact hd, hs1⟩
theorem am_lkIN {index a : Nat} {host : String} (hd : decode y.2.1 pc = .ok (.invokespecial index, 3)) (w1 : Cond.methodLinkNest y.1.cls index z.1 host ∈ am_T2) (w2 : Cond.instanceMethod z.1 ∈ am_T) (w4 : am_cw z ∈ am_T) (hz1 : z.1.name = "<init>") (hz2 : z.2.2.2 = (none, []))
    (hy : z.1.cls ≠ "java/lang/invoke/MethodHandle" ∧ z.1.cls ≠ "java/lang/invoke/VarHandle") (hn : (parseMethodDescriptor z.1.desc).map (fun d => d.parameters.length) = some As.length) : am_Lk G y z pc L (.ref (a + 1) :: As) rest h := by
  intro p e R s m args below meth c H locs cells slots ls C hh hl T hT X
  have ok := C.1.2.2.2.2
  have ok2 := C.2.2.2.2.2.2.2.2.2.2.2.2.2.2.1
  obtain ⟨mk, methk, ck, hnm, h1, h2, h3, h4, h5, h6, h7, h8⟩ := am_cw_spec (ok _ w4)
  have hcw : (Cond.code z.1 z.2.1 z.2.2.1 none).before args s = true := by
    have h9 := ok _ w4
    obtain ⟨z1, z2, z3, z4, z5⟩ := z
    cases hz2
    exact h9
  have hpl : e.platform.magicAccessors = ({} : Platform).magicAccessors := by rw [X.admits.platform]
  have hlen : ∀ sig, parseMethodDescriptor z.1.desc = some sig → (As.map (am_v G)).length = sig.parameters.length := by
    intro sig hs
    rw [hs] at hn
    rw [List.length_map]
    exact (Option.some.inj hn).symm
  obtain ⟨mk', methM, cM, kP, vm1, hnamed, hmethM, hcodeM, -, hlocalsM, -, hkP, -, hW1, hs1⟩ := Steps.initColdArgsNest (e := e) X.here C.1.1 X.warmed hpl C.1.2.2.2.1 hz1 hy (va_Nw.use rfl (ok2 _ w1)) (ok _ w2) hcw (f := F0 m pc ls (((Value.ref (a + 1) :: As).reverse ++ rest).map (am_v G))) rfl (a := am_gz G + a) (argsL := As.map (am_v G)) (rest := rest.map (am_v G)) hlen
    (by show ((Value.ref (a + 1) :: As).reverse ++ rest).map (am_v G) = _; simp [am_v, am_ad]) (by rw [C.1.2.1]; exact hd)
  cases hnm.symm.trans hnamed
  exact ⟨vm1, mk, methk, ck, _, X.noted hW1, hnm, h1, h2, h3, h4, h5, h6, h7, by rw [C.1.2.1]; exact hd, hs1⟩
end AMC
end
section
/-- the activation seen from where it stands: nothing written, nothing made so far -/
theorem am_reroot {p : Program} {l : Launch} {e : Env} {R R' : Room} {s : State} {m : MethodId} {args : Array Value} {below : List Frame} {meth : Method} {c : Code} {T : State} {locs : List Loc} {cells slots : Nat}
    (X : Stand p l e R s m args below meth c T locs cells slots) (h1 : R'.frames ≤ R.frames) (h2 : R'.locals ≤ R.locals) (h3 : cells + R'.cells ≤ R.cells) (h4 : slots + R'.slots ≤ R.slots) :
    Stand p l e R' (T.setFrames (.invoking m args :: below)) m args below meth c T [] 0 0 := by
  obtain ⟨g0, hfr⟩ := X.frames_eq
  have hcur : T.cur < T.threads.size := State.cur_lt_of_frames hfr
  have hf : (T.setFrames (.invoking m args :: below)).frames = .invoking m args :: below := State.frames_setFrames _ hcur
  have hvm : (T.setFrames (.invoking m args :: below)).vm = T.vm := rfl
  have hal := X.warmed.alike
  have hmeth : (T.setFrames (.invoking m args :: below)).vm.method? m = some meth := X.method'
  obtain ⟨th, hth, -⟩ := State.frames_cons hf
  refine ⟨X.admits, X.cas, X.clock, hf, ?_, ?_, hmeth, X.code, X.here, X.tail, State.WarmedH.refl _, by rw [State.stackLimits_setFrames], by rw [State.stackBytes_setFrames], ?_⟩
  · have hr := X.room
    simp only [State.hasRoom, Bool.and_eq_true, decide_eq_true_eq] at hr ⊢
    rw [State.localsInUse_invoking X.frames X.method X.code] at hr
    rw [State.localsInUse_invoking hf hmeth X.code]
    have hl1 : e.platform.stackLimits (T.setFrames (.invoking m args :: below)).me = e.platform.stackLimits s.me := by rw [State.stackLimits_setFrames]; exact X.limits
    have hl2 : (T.setFrames (.invoking m args :: below)).me.stackBytes = s.me.stackBytes := by rw [State.stackBytes_setFrames]; exact X.bytes
    rw [hl1, hl2, hf]
    rw [X.frames] at hr
    have hz := X.heapSize
    have hu := X.used
    have e1 : (T.setFrames (.invoking m args :: below)).heap.size = T.heap.size := rfl
    have e2 : (T.setFrames (.invoking m args :: below)).slotsUsed = T.slotsUsed := rfl
    rw [e1, e2]
    obtain ⟨⟨⟨⟨q1, q2, q3, q4, q5, q6⟩, q7⟩, q8⟩, q9⟩ := hr
    exact ⟨⟨⟨⟨by omega, by omega, by omega, by omega, by omega, q6⟩, by omega⟩, by omega⟩, X.book⟩
  · have hh := X.hears
    cases below with
    | nil =>
      simp only [State.hears] at hh ⊢
      rw [hmeth]
      rw [X.method] at hh
      exact hh
    | cons f r =>
      cases f with
      | java g =>
        simp only [State.hears, State.code?_eq] at hh ⊢
        rw [hvm, hal.method?]
        exact hh
      | native g => simp only [State.hears]
      | proc g => simp only [State.hears]
      | _ =>
        simp only [State.hears] at hh ⊢
        rw [hmeth]
        rw [X.method] at hh
        exact hh
  · have h := (State.sameButNew.refl (T.setFrames (.invoking m args :: below)) hth).setFrames T.frames (State.cur_lt_of_frames hf)
    have e3 : (T.setFrames (.invoking m args :: below)).setFrames T.frames = T := by
      rw [State.setFrames_setFrames]
      obtain ⟨tt, htt, -⟩ := State.frames_cons hfr
      exact State.setFrames_self htt
    rw [e3] at h
    exact h
end
section
/-! throws and catches -/
theorem am_static {C n d : String} {A : Nat → Prop} {s : State} {args : Array Value} (h : va_Zq C n d A s s.heap) : (Cond.isRef (.static C n d)).before args s = true := by
  have key : ∀ v : Value, va_Z C n d v A s s.heap → (Term.static C n d).eval args s none [] s = some v := by
    intro v h
    obtain ⟨cf, kf, fi, f, a, cell, h1, h2, h3, h4, h5, h6, h7, h8⟩ := h
    simp [Term.eval, State.fieldNamed?, h1, h2, h4, h5, h6, h7]
  rcases h with h | ⟨t, h⟩
  · simp [Cond.before, Cond.holds, Cond.value, key _ h, Value.isRef]
  · simp [Cond.before, Cond.holds, Cond.value, key _ h, Value.isRef]
theorem am_T2_tabs : ∀ w ∈ am_T2, w.onTables = true := by decide +kernel
/-- the names above an exception's class -/
def am_up : List String := ["java/lang/RuntimeException", "java/lang/Exception"]
section AMT
variable {G : am_G} {y : am_M} {d bc bs : Nat} {Q : am_O → am_H → Prop} {pc : Nat} {L : List (Nat × Value)} {st : List Value} {h : am_H}
/-- the words of a throw: of the tables, or the two statics -/
def am_oA (own : String) (ic : Nat) (X : String) : Prop := ∀ a ∈ Bundle.ownAtoms own ic X am_up, a ∈ am_T ∨ a ∈ am_T2 ∨ a = Cond.isRef (.static "java/lang/Throwable" "UNASSIGNED_STACK" "[Ljava/lang/StackTraceElement;") ∨ a = Cond.isRef (.static "java/lang/Throwable" "SUPPRESSED_SENTINEL" "Ljava/util/List;") ∨ a = Cond.laysStatic "java/lang/Throwable" "UNASSIGNED_STACK" "[Ljava/lang/StackTraceElement;" ∨ a = Cond.laysStatic "java/lang/Throwable" "SUPPRESSED_SENTINEL" "Ljava/util/List;"
set_option maxHeartbeats 1000000 in
/-- new E; dup; ldc text; E.<init>(text); athrow -/
theorem am_throwS {index il ic ci : Nat} {X tx : String} {T0 : u_T} (hd0 : decode y.2.1 pc = .ok (.new index, 3)) (hd1 : decode y.2.1 (pc + 3) = .ok (.dup, 1)) (hd2 : decode y.2.1 (pc + 4) = .ok (.ldc il, 2)) (hd3 : decode y.2.1 (pc + 6) = .ok (.invokespecial ic, 3)) (hd4 : decode y.2.1 (pc + 9) = .ok (.athrow, 1))
    (hown : y.1.cls = R_X) (hcl : am_cl[ci]? = some (X, T0, 0)) (w1 : Cond.classLink y.1.cls index X ∈ am_T) (w2 : Cond.instantiable X 6 ∈ am_T) (w3 : Cond.initialized X ∈ am_T) (hs : (il, tx) ∈ am_strs) (hat : am_oA y.1.cls ic X) (hfit : Bundle.fit X = true)
    (hd : 6 ≤ d) (hb1 : 1 ≤ bc) (hb2 : 6 ≤ bs) (hst : (st.map fun v => v.category).sum ≤ 8) (hx : y.2.2.2.2 = []) (hq : Q (.inr (ci, h.length + 1)) (h ++ [.inr (ci, [])])) : am_W G y d bc bs Q pc L st h := by
  intro p e R s m args below meth c H locs cells slots ls C hR hh hS hl T hT X0
  obtain ⟨r1, r2, r3, r4⟩ := hR
  obtain ⟨⟨c1, c2, c3, c4, c5⟩, c6, c7, c8, c9, c10, c11, c12, c13, c14⟩ := C
  have Y := am_reroot X0 (R' := { frames := R.frames, cells := 1, slots := 6, locals := R.locals }) (Nat.le_refl _) (Nat.le_refl _) (by show cells + 1 ≤ _; omega) (by show slots + 6 ≤ _; omega)
  have hW : s.WarmedH (T.setFrames (.invoking m args :: below)).vm := X0.warmed
  have hsH : (T.setFrames (.invoking m args :: below)).heap = H := hT
  generalize hse : T.setFrames (.invoking m args :: below) = s' at Y hW hsH
  have hal := hW.alike
  have ok : ∀ w ∈ am_T, w.before args s' = true := fun w hw => word_at hW (am_T_good w hw) (c5 w hw)
  have hown' : s'.vm.findClass y.1.cls = some m.cls := by rw [hal.findClass]; exact c4
  have hK := va_K.moved hal c6
  have hold : ∀ q : Nat, q < am_gz G → s'.heap[q]? = s.heap[q]? := fun q hq => by rw [hsH]; exact hS.2.1 q (Nat.lt_of_lt_of_le hq c11) (Nat.not_le.mpr hq)
  have hK2 := c14.moved hW c11 hold ⟨h, by rw [hsH]; exact hh⟩
  obtain ⟨k1, k2, k3, k4, k5, k6, k7, k8, -⟩ := hK2
  obtain ⟨qs, hqs⟩ := k2 _ hs
  have hfound : s'.vm.findClass X = some ((am_gD G).1 ci) := (hK.1 ci _ hcl).2.1
  have hatoms : ∀ a ∈ Bundle.ownAtoms y.1.cls ic X am_up, a.before args s' = true := by
    intro a ha
    rcases hat a ha with h1 | h1 | rfl | rfl | rfl | rfl
    · exact ok a h1
    · exact va_Nw.use (am_T2_tabs a h1) (k6 a h1)
    · exact am_static k3
    · exact am_static k4
    · exact k7.use
    · exact k8.use
  have htr : e.platform.stackTraces = false := by
    have := X0.admits.2.2.2.2.1
    rw [this]
    exact k1
  have hsz : ls.size = c.maxLocals := by rw [c3]; exact hl.1
  have w : W p G.1 e { frames := R.frames, cells := 1, slots := 6, locals := R.locals } s' m args below meth c H [] 0 0 (fun U => U.status = .running ∧ Ended U below (.threw (am_gz G + h.length)) ∧ s'.WarmedH U.vm ∧ s'.sameButNew ({ U with vm := s'.vm } : State) [] 1 6 ∧ ∃ ce, U.heap[am_gz G + h.length]? = some ce ∧ s'.vm.findClass X = some ce.cls ∧ ce.vm = .none) (F0 m pc ls (st.map (am_v G))) := by
    refine W.newcK c1 c2 hown' (ok _ w1) (ok _ w2) (ok _ w3) rfl hd0 (by show 0 + 1 ≤ 1; omega) (by show 0 + 6 ≤ 6; omega) hfound hh.1 fun H1 kC hkC e1 z1 o1 => ?_
    refine lv_dup c1 c2 hd1 rfl ?_
    refine va_ldcS c1 c2 hown' (by rw [hown]; exact hqs) hd2 ?_
    intro T2 hT2 X2
    obtain ⟨U, u1, u2, u3, u4, u5, ce, u6, u7⟩ := X2.ctorThrowS c1 htr (own := y.1.cls) (cls := X) (names := am_up) (ic := ic) hown' hfit (by decide) hatoms (fun x hx => by cases hx) (a := am_gz G + h.length) (cX := (am_gD G).1 ci) (kX := kC) hfound hkC (by rw [hT2]; exact e1) (by rw [hsH, hh.1]; exact Nat.le_refl _)
      (msg := .ref qs) rfl (g := F0 m (pc + 6) ls (.ref qs :: .ref (am_gz G + h.length) :: .ref (am_gz G + h.length) :: st.map (am_v G))) rfl hsz rfl rfl (rest := st.map (am_v G)) rfl (by rw [c2]; exact hd3) (by rw [c2]; exact hd4)
      (fun x hxm => by
        have h1 : (x.startPc, x.endPc, x.handlerPc, x.catchType) ∈ y.2.2.2.2 := by rw [← c9]; exact List.mem_map.mpr ⟨x, hxm, rfl⟩
        rw [hx] at h1
        cases h1)
      (by show 2 + 3 < R.frames; omega) (by
        show 2 * 0 + ((Value.ref (am_gz G + h.length) :: st.map (am_v G)).map fun v => v.category).sum + (13 * (2 + 1) + 42) ≤ R.locals
        rw [List.map_cons, List.sum_cons, am_cats]
        show 2 * 0 + (1 + _) + _ ≤ _
        omega) c8
    exact ⟨U, u1, u2, u3, u4, u5, ce, u6, u7.cls, u7.vm⟩
  obtain ⟨U, u1, u2, u3, u4, u5, ce, u6, u7, u8⟩ := w T hT Y
  have hoH : ∀ q : Nat, q < H.size → U.heap[q]? = H[q]? := by
    intro q hq
    obtain ⟨cq, hcq⟩ : ∃ cq, s'.heap[q]? = some cq := ⟨_, Array.getElem?_eq_getElem (by rw [hsH]; exact hq)⟩
    obtain ⟨c', g1, g2, g3, g4⟩ := u5.2.2.2.2.2 q cq hcq
    have hsl : c'.slots = cq.slots := by
      apply Array.ext_getElem?
      intro i
      exact g4 i (by simp)
    have g1' : U.heap[q]? = some c' := g1
    have : c' = cq := by rw [g2, hsl]
    rw [g1', this, ← hcq, hsH]
  have hUz : U.heap.size = H.size + 1 := by
    have h1 : U.heap.size ≤ s'.heap.size + 1 := u5.2.2.1
    have h2 := (Array.getElem?_eq_some_iff.mp u6).1
    rw [hsH] at h1
    have h3 := hh.1
    omega
  have hsame : s.sameButNew ({ U with vm := s.vm } : State) (locs ++ []) (cells + 1) (slots + 6) := by
    have h5 : T.sameButNew ({ U with vm := T.vm } : State) [] 1 6 := by
      have h6 := u5
      rw [← hse] at h6
      obtain ⟨q1, q2⟩ := h6
      refine ⟨?_, q2⟩
      have q3 : (T.setFrames (.invoking m args :: below)).setFrames U.frames = T.setFrames U.frames := State.setFrames_setFrames ..
      have q4 : ({ U with vm := T.vm } : State) = { (T.setFrames (.invoking m args :: below)).setFrames U.frames with heap := U.heap, slotsUsed := U.slotsUsed } := q1
      rw [q3] at q4
      exact q4
    have h7 := X0.same.trans (h5.setVm s.vm)
    exact h7
  rw [List.append_nil] at hsame
  refine ⟨U, u1, .threw (am_gz G + h.length), locs, cells + 1, slots + 6, .inr (ci, h.length + 1), h ++ [.inr (ci, [])], u2, u3, State.WarmedH.trans hW u4, hsame, by omega, by omega, hS.2.2, fun q hq => ?_, ?_, rfl, hq⟩
  · rw [hoH q (by have := hh.1; omega), ← hold q hq, hsH]
  · refine hh.push ⟨_, hcl, ce, u6, ?_, u8, fun k hk => absurd hk (Nat.not_lt_zero k)⟩ hUz hoH
    exact Option.some.inj (u7.symm.trans hfound)
end AMT
end
section
/-! the search for a handler, the catch types linked or not yet -/
section AMG
variable {E : CtlPost} {e : Env} {d : Bool} {acts : List Action} {s : State} {f : JFrame} {a : Addr} {Q : Handler → Pre}
theorem am_goC {x : ExceptionTableEntry} {t : List ExceptionTableEntry} {c : ClassId} {vm' : Vm} {cell : Cell} (hx : covers x f.pc = true) (h0 : x.catchType ≠ 0)
    (hg : (Jvm.resolveClass f.method.cls x.catchType).Gives e.toSetting s.vm (.ok c) vm') (hsz : vm'.classes.size ≤ s.vm.classes.size) (hcell : s.heap[a]? = some cell) (hobj : ∀ k, cell.vm ≠ .statics k)
    (hk : ∃ k, vm'.classes[cell.cls]? = some k) (hc : ∃ k, vm'.classes[c]? = some k) :
    wp (findHandler.go f a (x :: t)) Q E e d acts s ↔ if vm'.assignable cell.cls c = true then Q (.found x.handlerPc) d acts (s.setVm vm') else wp (findHandler.go f a t) Q E e d acts (s.setVm vm') := by
  simp only [covers] at hx
  obtain ⟨ha, ht⟩ := hg.op (op := VmOp.resolveClass f.method.cls x.catchType) rfl
  cases hfit : vm'.assignable cell.cls c <;>
    simp [findHandler.go, hx, h0, ha, ht, hsz, hcell, hobj, hk, hc, hfit, VmOp.dirties, VmOp.acts]
end AMG
/-- an entry of the table: it covers the place, and its class is linked, can (b) or can't take the object -/
def am_ent (s₀ : State) (e : Env) (f : JFrame) (cell : Cell) (b : Bool) (q : ExceptionTableEntry) : Prop :=
  covers q f.pc = true ∧ q.catchType ≠ 0 ∧ ∃ c, s₀.vm.ClassLinks e.platform f.method.cls q.catchType c ∧ (∃ k, s₀.vm.classes[c]? = some k) ∧ s₀.vm.assignable cell.cls c = b
theorem am_search {s₀ S : State} {e : Env} {f : JFrame} {a : Addr} {cell : Cell} (hobj : ∀ k, cell.vm ≠ .statics k) (hcell : S.heap[a]? = some cell) (hk : ∃ k, s₀.vm.classes[cell.cls]? = some k) (x : ExceptionTableEntry) (rest : List ExceptionTableEntry) (hx : am_ent s₀ e f cell true x) :
    ∀ (pre : List ExceptionTableEntry) (vm₀ : Vm), s₀.WarmedH vm₀ → (∀ q ∈ pre, am_ent s₀ e f cell false q) →
      ∃ vm', s₀.WarmedH vm' ∧ ∀ (Q : Handler → Pre) (E : CtlPost) (d : Bool) (acts : List Action), wp (findHandler.go f a (pre ++ x :: rest)) Q E e d acts (S.setVm vm₀) ↔ Q (.found x.handlerPc) d acts (S.setVm vm')
  | [], vm₀, hW, _ => by
    obtain ⟨h1, h2, c, h3, ⟨kc, h4⟩, h5⟩ := hx
    obtain ⟨kk, hkk⟩ := hk
    obtain ⟨hg, hw, hr⟩ := State.classEntry (e := e) hW h3
    have hal := hw.alike
    refine ⟨_, hw, fun Q E d acts => ?_⟩
    rw [List.nil_append, am_goC (s := S.setVm vm₀) h1 h2 hg (by rw [Vm.size_noted]; exact Nat.le_refl _) hcell hobj (by obtain ⟨k', hk', -⟩ := hal.2.2 _ _ hkk; exact ⟨k', hk'⟩) (by obtain ⟨k', hk', -⟩ := hal.2.2 _ _ h4; exact ⟨k', hk'⟩), hal.assignable, h5, if_pos rfl]
    rfl
  | p :: pre, vm₀, hW, hp => by
    obtain ⟨h1, h2, c, h3, ⟨kc, h4⟩, h5⟩ := hp p List.mem_cons_self
    obtain ⟨kk, hkk⟩ := id hk
    obtain ⟨hg, hw, hr⟩ := State.classEntry (e := e) hW h3
    have hal := hw.alike
    obtain ⟨vm', hw', ih⟩ := am_search hobj hcell hk x rest hx pre _ hw (fun q hq => hp q (List.mem_cons_of_mem _ hq))
    refine ⟨vm', hw', fun Q E d acts => ?_⟩
    rw [List.cons_append, am_goC (s := S.setVm vm₀) h1 h2 hg (by rw [Vm.size_noted]; exact Nat.le_refl _) hcell hobj (by obtain ⟨k', hk', -⟩ := hal.2.2 _ _ hkk; exact ⟨k', hk'⟩) (by obtain ⟨k', hk', -⟩ := hal.2.2 _ _ h4; exact ⟨k', hk'⟩), hal.assignable, h5, if_neg (by decide)]
    exact ih Q E d acts
theorem am_stepCatch {e : Env} {s s' : State} {a : Addr} {f : JFrame} {r : List Frame} {pc : Nat} (hfind : ∀ (Q : Handler → Pre) (E : CtlPost) (d : Bool) (acts : List Action), wp (findHandler f a) Q E e d acts s ↔ Q (.found pc) d acts s') :
    (stepThrowing e s a (.java f :: r)).Is (s'.setFrames (.java { f with pc := pc, stack := [.ref a] } :: r)) [] := by
  simp only [stepThrowing, searchFrame, vmDo]
  generalize hr : Sem.go _ e false [] s = res
  obtain ⟨as, rfl, ha⟩ := Sem.eq_ok_of hr (a := Handler.found pc) (s' := s') (acts' := []) (by simp [hfind _ _ _ _])
  exact ⟨rfl, ha⟩
theorem am_split {α β : Type} (f : α → β) : ∀ (l : List α) (pre : List β) (x : β) (rest : List β), l.map f = pre ++ x :: rest → ∃ p q r, l = p ++ q :: r ∧ p.map f = pre ∧ f q = x
  | [], pre, x, rest, h => by simp at h
  | b :: l, [], x, rest, h => by
    simp at h
    exact ⟨[], b, l, rfl, rfl, h.1⟩
  | b :: l, c :: pre, x, rest, h => by
    simp at h
    obtain ⟨p, q, r, h1, h2, h3⟩ := am_split f l pre x rest h.2
    exact ⟨b :: p, q, r, by rw [h1]; rfl, by rw [List.map_cons, h.1, h2], h3⟩
section AMCT
variable {G : am_G} {y : am_M} {d bc bs : Nat} {Q : am_O → am_H → Prop} {pc : Nat} {L : List (Nat × Value)} {st : List Value} {h : am_H}
theorem am_catch {ci a : Nat} {X : String} {T0 : u_T} {fs : List Value} {s1 e1 hp ct : Nat} (hcl : am_cl[ci]? = some (X, T0, 0)) (ha : h[a]? = some (.inr (ci, fs))) (pre rest : List (Nat × Nat × Nat × Nat)) (hsp : y.2.2.2.2 = pre ++ (s1, e1, hp, ct) :: rest)
    (hpre : ∀ q ∈ pre, q.1 ≤ pc ∧ pc < q.2.1 ∧ q.2.2.2 ≠ 0 ∧ ∃ B, Cond.classLink y.1.cls q.2.2.2 B ∈ am_T ∧ (X, B) ∈ am_ncs) (hx : s1 ≤ pc ∧ pc < e1 ∧ ct ≠ 0) (w1 : Cond.classLink y.1.cls ct X ∈ am_T) (w2 : Cond.castable X X ∈ am_T2)
    (k : am_W G y d bc bs Q hp L [.ref (a + 1)] h) : am_TW G y d bc bs Q pc L (ci, a + 1) h := by
  intro p e R s m args below meth c H locs cells slots ls stk C hR hh hS hl T hT X0
  have hpl : e.platform.magicAccessors = ({} : Platform).magicAccessors := by rw [X0.admits.platform]
  obtain ⟨r, h1, cell, q1, q2, q3, -⟩ := hh.2 a _ (am_wsat ha)
  have hfX : s.vm.findClass X = some cell.cls := by rw [q2]; exact (C.2.1.1 ci _ hcl).2.1
  obtain ⟨kX, hkX⟩ := Vm.classAt_of_findClass hfX
  obtain ⟨ps, x, rs, hs1, hs2, hs3⟩ := am_split _ _ _ _ _ (C.2.2.2.2.1.trans hsp)
  have ok := C.1.2.2.2.2
  have hent : am_ent s e (F0 m pc ls stk) cell true x := by
    have e1' : x.startPc = s1 := congrArg Prod.fst hs3
    have e2' : x.endPc = e1 := congrArg (fun q => q.2.1) hs3
    have e3' : x.catchType = ct := congrArg (fun q => q.2.2.2) hs3
    obtain ⟨c1, hc1, hl1⟩ := Cond.classLink_spec C.1.2.2.2.1 (ok _ w1) e.platform hpl
    refine ⟨?_, by rw [e3']; exact hx.2.2, c1, by rw [e3']; exact hl1, Vm.classAt_of_findClass hc1, ?_⟩
    · show (decide (x.startPc ≤ pc) && decide (pc < x.endPc)) = true
      rw [e1', e2', decide_eq_true hx.1, decide_eq_true hx.2.1]
      rfl
    · obtain ⟨c3, c4, hc3, hc4, hasg⟩ := Cond.castable_spec (args := args) (first := s) (o := none) (idx := []) (va_Nw.use (A := args) rfl (C.2.2.2.2.2.2.2.2.2.2.2.2.2.2.1 _ w2))
      cases Option.some.inj (hc3.symm.trans hfX)
      cases Option.some.inj (hc4.symm.trans hfX)
      cases Option.some.inj (hc1.symm.trans hfX)
      exact hasg
  have hpent : ∀ q ∈ ps, am_ent s e (F0 m pc ls stk) cell false q := by
    intro q hq
    have hm : (q.startPc, q.endPc, q.handlerPc, q.catchType) ∈ pre := by rw [← hs2]; exact List.mem_map.mpr ⟨q, hq, rfl⟩
    obtain ⟨g1, g2, g3, B, g4, g5⟩ := hpre _ hm
    obtain ⟨c1, hc1, hl1⟩ := Cond.classLink_spec C.1.2.2.2.1 (ok _ g4) e.platform hpl
    refine ⟨?_, g3, c1, hl1, Vm.classAt_of_findClass hc1, ?_⟩
    · show (decide (q.startPc ≤ pc) && decide (pc < q.endPc)) = true
      rw [decide_eq_true g1, decide_eq_true g2]
      rfl
    · obtain ⟨-, -, -, -, -, -, -, -, -, -, -, -, -, k5, -⟩ := C
      obtain ⟨a', b', f1, f2, f3⟩ := k5 _ g5
      cases Option.some.inj (f1.symm.trans hfX)
      cases Option.some.inj (f2.symm.trans hc1)
      exact f3
  have hcellS : ((T.setTop (F0 m pc ls stk)).pushFrame (.throwing (am_gz G + a))).heap[am_gz G + a]? = some cell := by
    rw [Stand.throwing_heap, hT]
    exact q1
  obtain ⟨vm', hW', hfind⟩ := am_search (S := (T.setTop (F0 m pc ls stk)).pushFrame (.throwing (am_gz G + a))) (e := e) (f := F0 m pc ls stk) (a := am_gz G + a) (fun k hk => by rw [q3] at hk; cases hk) hcellS ⟨kX, hkX⟩ x rs hent ps T.vm X0.warmed hpent
  have hmT : ((T.setTop (F0 m pc ls stk)).pushFrame (.throwing (am_gz G + a))).vm.method? m = some meth := by
    rw [Stand.throwing_vm]
    exact X0.method'
  have hfind2 : ∀ (Q : Handler → Pre) (E : CtlPost) (d : Bool) (acts : List Action), wp (findHandler (F0 m pc ls stk) (am_gz G + a)) Q E e d acts ((T.setTop (F0 m pc ls stk)).pushFrame (.throwing (am_gz G + a))) ↔ Q (.found x.handlerPc) d acts (((T.setTop (F0 m pc ls stk)).pushFrame (.throwing (am_gz G + a))).setVm vm') := by
    intro Q E d acts
    have hS0 : ((T.setTop (F0 m pc ls stk)).pushFrame (.throwing (am_gz G + a))).setVm T.vm = (T.setTop (F0 m pc ls stk)).pushFrame (.throwing (am_gz G + a)) := by
      have := Stand.throwing_vm T (F0 m pc ls stk) (am_gz G + a)
      rw [← this, State.setVm_self]
    have h9 := hfind Q E d acts
    rw [hS0] at h9
    rw [W.findHandler_eq (f := F0 m pc ls stk) hmT X0.code, hs1]
    exact h9
  have hhp : x.handlerPc = hp := congrArg (fun q => q.2.2.1) hs3
  rw [hhp] at hfind2
  obtain ⟨t, a1, b1⟩ := k p e R s m args below meth c H locs cells slots ls C hR hh hS hl (T.setVm vm') hT (X0.noted hW')
  refine ⟨t, ?_, b1⟩
  have hAt : At T (F0 m pc ls stk).method c below := X0.here
  obtain ⟨hgo, hw⟩ := hAt.throwing (am_gz G + a)
  refine Steps.head hgo hw ?_
  show Steps p.tables e below (stepThread p.tables e ((T.setTop (F0 m pc ls stk)).pushFrame (.throwing (am_gz G + a)))).1 t
  rw [stepThread_throwing (frames_entered hAt.top _), (am_stepCatch hfind2).1]
  obtain ⟨g0, hg⟩ := Option.isSome_iff_exists.mp hAt.top
  obtain ⟨rr, hrr⟩ := State.topJava?_eq_some.mp hg
  have hrr' : (T.setVm vm').frames = .java g0 :: rr := hrr
  rw [State.setTop_of_frames _ hrr'] at a1
  have e5 : (((T.setTop (F0 m pc ls stk)).pushFrame (.throwing (am_gz G + a))).setVm vm').setFrames (.java { F0 m pc ls stk with pc := hp, stack := [.ref (am_gz G + a)] } :: T.frames.tail) = (T.setVm vm').setFrames (.java (F0 m hp ls [.ref (am_gz G + a)]) :: rr) := by
    rw [State.pushFrame, State.setTop_of_frames _ hrr, State.setFrames_setFrames, hrr]
    show ((T.setFrames _).setFrames _).setVm vm' = _
    rw [State.setFrames_setFrames]
    rfl
  rw [e5]
  exact a1
end AMCT
end
section
/-! System.arraycopy of ints -/
section AMY
variable {G : am_G} {y : am_M} {d bc bs : Nat} {Q : am_O → am_H → Prop} {pc : Nat} {L : List (Nat × Value)} {st : List Value} {h : am_H}
theorem am_copy {index a0 a1 n0 n1 : Nat} {f g : Nat → Int32} (sp dp n : Nat) (hd : decode y.2.1 pc = .ok (.invokestatic index, 3)) (w1 : Cond.methodLink y.1.cls index arraycopyName ∈ am_T) (w2 : Cond.native arraycopyName ∈ am_T) (w3 : Cond.static arraycopyName ∈ am_T) (w4 : Cond.initialized "java/lang/System" ∈ am_T)
    (h0 : h[a0]? = some (.inl (0, n0, .inl f))) (h1 : h[a1]? = some (.inl (0, n1, .inl g))) (hs : sp + n ≤ n0) (ht : dp + n ≤ n1) (hn0 : n0 < 2 ^ 31) (hn1 : n1 < 2 ^ 31) (hdd : 1 ≤ d) (hst : (st.map fun v => v.category).sum ≤ 8)
    (k : am_W G y d bc bs Q (pc + 3) L st (h.set a1 (.inl (0, n1, .inl (va_cpy f g sp dp n))))) : am_W G y d bc bs Q pc L (.int (nI n) :: .int (nI dp) :: .ref (a1 + 1) :: .int (nI sp) :: .ref (a0 + 1) :: st) h := by
  intro p e R s m args below meth c H locs cells slots ls C hR hh hS hl T hT X
  obtain ⟨r1, r2, r3, r4⟩ := id hR
  have ok := C.1.2.2.2.2
  have hc0 : H[am_gz G + a0]? = some (vp_cell (am_gA G 0) (n0, .inl f)) := hh.2 a0 _ (am_wsat h0)
  have hc1 : H[am_gz G + a1]? = some (vp_cell (am_gA G 0) (n1, .inl g)) := hh.2 a1 _ (am_wsat h1)
  obtain ⟨-, k0, hk0, cm0, hkk0⟩ := (C.2.1.2 0 _ rfl).1 n0 (fun j => .int (f j))
  obtain ⟨-, k1, hk1, cm1, hkk1⟩ := (C.2.1.2 0 _ rfl).1 n1 (fun j => .int (g j))
  have q1 : (nI sp).toInt = sp := nI_toInt (by omega)
  have q2 : (nI dp).toInt = dp := nI_toInt (by omega)
  have q3 : (nI n).toInt = n := nI_toInt (by omega)
  have z1 : (nI sp).toNatClampNeg = sp := nI_clamp (by omega)
  have z2 : (nI dp).toNatClampNeg = dp := nI_clamp (by omega)
  have z3 : (nI n).toNatClampNeg = n := nI_clamp (by omega)
  obtain ⟨vm', X', step⟩ := X.arraycopy C.1.1 C.1.2.2.2.1 (ok _ w1) (ok _ w2) (ok _ w3) (ok _ w4) (src := am_gz G + a0) (dst := am_gz G + a1) (cs := vp_cell (am_gA G 0) (n0, .inl f)) (cd := vp_cell (am_gA G 0) (n1, .inl g)) (srcPos := nI sp) (destPos := nI dp) (n := nI n) (by rw [hT]; exact hc0) (by rw [hT]; exact hc1)
    (fun _ h => by cases h) (fun _ h => by cases h) (fun h => by cases h) (fun h => by cases h) hk0 hk1 hkk0 hkk1 (by simp [refKind]) (nI_pos (by omega)) (nI_pos (by omega)) (nI_pos (by omega))
    (by rw [q1, q3]; show ¬ _ > ((arrV (am_gA G 0) n0 (fun j => .int (f j))).slots.size : Int); rw [arrV_size]; omega)
    (by rw [q2, q3]; show ¬ _ > ((arrV (am_gA G 0) n1 (fun j => .int (g j))).slots.size : Int); rw [arrV_size]; omega)
    (fun vm₁ _ i hi => by
      rw [z3] at hi
      rw [z1]
      have e : (vp_cell (am_gA G 0) (n0, .inl f)).slots.getD (sp + i) .null = .int (f (sp + i)) := by
        show (arrV (am_gA G 0) n0 (fun j => .int (f j))).slots.getD _ _ = _
        rw [Array.getD_eq_getD_getElem?, arrV_read _ _ (by omega)]
        rfl
      refine ⟨?_, ?_⟩
      · rw [e]
        rfl
      · rw [e]
        exact trivial)
    (g := F0 m pc ls ((Value.int (nI n) :: .int (nI dp) :: .ref (a1 + 1) :: .int (nI sp) :: .ref (a0 + 1) :: st).map (am_v G))) rfl (by rw [C.1.2.2.1]; exact hl.1) (rest := st.map (am_v G)) rfl (by rw [C.1.2.1]; exact hd) (by omega)
    (by
      show 2 * 0 + ((st.map (am_v G)).map fun v => v.category).sum + _ ≤ _
      rw [am_cats]
      have : nativeFrameWords "java/lang/System" "arraycopy" 5 ≤ 30 := by decide +kernel
      omega)
  have e1 : copied (vp_cell (am_gA G 0) (n0, .inl f)) (vp_cell (am_gA G 0) (n1, .inl g)) (nI sp) (nI dp) (nI n) = vp_cell (am_gA G 0) (n1, .inl (va_cpy f g sp dp n)) := by
    have := va_copied (fun z => Value.int z) (am_gA G 0) (am_gA G 0) (n0 := n0) (n1 := n1) (sp := sp) (dp := dp) (n := n) f g hs
    rw [← z1, ← z2, ← z3] at this
    conv => rhs; rw [← z1, ← z2, ← z3]
    exact this
  rw [e1] at X' step
  have hlt : am_gz G + a1 < H.size := (Array.getElem?_eq_some_iff.mp hc1).1
  have hheap : ((T.setVm vm').setCell (am_gz G + a1) (vp_cell (am_gA G 0) (n1, .inl (va_cpy f g sp dp n)))).heap = H.setIfInBounds (am_gz G + a1) (vp_cell (am_gA G 0) (n1, .inl (va_cpy f g sp dp n))) := by rw [← hT]; rfl
  have oq : ∀ q : Nat, q ≠ am_gz G + a1 → (H.setIfInBounds (am_gz G + a1) (vp_cell (am_gA G 0) (n1, .inl (va_cpy f g sp dp n))))[q]? = H[q]? := fun q hq => by simp [Array.getElem?_setIfInBounds, Ne.symm hq]
  obtain ⟨t, a2, b2⟩ := k p e R s m args below meth c _ _ cells slots ls C hR (hh.set h1 (H1 := H.setIfInBounds (am_gz G + a1) (vp_cell (am_gA G 0) (n1, .inl (va_cpy f g sp dp n)))) (show (H.setIfInBounds (am_gz G + a1) _)[am_gz G + a1]? = some _ by simp [Array.getElem?_setIfInBounds, hlt]) (by simp) oq)
    ⟨by simp; exact hS.1, fun q g1 g2 => by
      rw [oq q (fun e => g2 (by rw [e]; exact Nat.le_add_right _ _))]
      exact hS.2.1 q g1 g2, fun q hq => by
      rcases List.mem_append.mp hq with h | h
      · exact hS.2.2 q h
      · obtain ⟨z, -, hz⟩ := List.mem_map.mp h
        rw [← hz]
        exact Nat.le_add_right _ _⟩ hl _ hheap X'
  exact ⟨t, step t a2, b2⟩
end AMY
end
section
/-! the methods -/
def m_X_init : am_M := (⟨"WorkPlans", "<init>", "(I)V"⟩, prog_1_method_1_code, 2, none, [])
def m_S_init : am_M := (⟨"WorkPlans$Shop", "<init>", "()V"⟩, prog_5_method_1_code, 1, none, [])
def m_F_init : am_M := (⟨"WorkPlans$Floor", "<init>", "(LWorkPlans$Shop;)V"⟩, prog_2_method_1_code, 2, none, [])
def m_R_init : am_M := (⟨"WorkPlans$Search", "<init>", "(LWorkPlans$Shop;LWorkPlans$Floor;)V"⟩, prog_4_method_1_code, 3, none, [])
def m_P_init : am_M := (⟨"WorkPlans$Plan", "<init>", "(LWorkPlans$Shop;)V"⟩, prog_3_method_1_code, 2, none, [])
def m_L_cell : am_M := (⟨"WorkPlansLaw", "cell", "([II)I"⟩, method_2_code, 2, (some FieldType.int), [])
def m_L_machine : am_M := (⟨"WorkPlansLaw", "machine", "(LWorkPlans;I[J)I"⟩, method_3_code, 4, (some FieldType.int), [(0, 9, 12, 13), (0, 9, 15, 15)])
def m_X_machine : am_M := (⟨"WorkPlans", "machine", "(I)I"⟩, prog_1_method_2_code, 2, (some FieldType.int), [])
def m_X_isWithin : am_M := (⟨"WorkPlans", "isWithin", "(III)Z"⟩, prog_1_method_16_code, 3, (some FieldType.boolean), [])
def m_S_addMachine : am_M := (⟨"WorkPlans$Shop", "addMachine", "(I)I"⟩, prog_5_method_2_code, 3, (some FieldType.int), [])
def m_L_out : am_M := (⟨"WorkPlansLaw", "out", "(LWorkPlans;III[J)I"⟩, method_4_code, 6, (some FieldType.int), [(0, 12, 15, 21), (0, 12, 19, 13), (0, 12, 23, 15)])
def m_X_out : am_M := (⟨"WorkPlans", "out", "(III)I"⟩, prog_1_method_3_code, 4, (some FieldType.int), [])
def m_S_addSpan : am_M := (⟨"WorkPlans$Shop", "addSpan", "(III)I"⟩, prog_5_method_3_code, 5, (some FieldType.int), [])
def m_L_job : am_M := (⟨"WorkPlansLaw", "job", "(LWorkPlans;II[J)I"⟩, method_5_code, 5, (some FieldType.int), [(0, 10, 13, 13), (0, 10, 17, 15)])
def m_X_job : am_M := (⟨"WorkPlans", "job", "(II)I"⟩, prog_1_method_4_code, 3, (some FieldType.int), [])
def m_S_addJob : am_M := (⟨"WorkPlans$Shop", "addJob", "(II)I"⟩, prog_5_method_4_code, 4, (some FieldType.int), [])
def m_L_due : am_M := (⟨"WorkPlansLaw", "due", "(LWorkPlans;II)I"⟩, method_6_code, 4, (some FieldType.int), [(0, 6, 9, 21), (0, 6, 12, 13)])
def m_X_due : am_M := (⟨"WorkPlans", "due", "(II)V"⟩, prog_1_method_5_code, 3, none, [])
def m_X_demandJob : am_M := (⟨"WorkPlans", "demandJob", "(I)V"⟩, prog_1_method_18_code, 2, none, [])
def m_L_step : am_M := (⟨"WorkPlansLaw", "step", "(LWorkPlans;IIII[J)I"⟩, method_7_code, 7, (some FieldType.int), [(0, 14, 17, 21), (0, 14, 21, 13), (0, 14, 25, 15)])
def m_X_step : am_M := (⟨"WorkPlans", "step", "(IIII)I"⟩, prog_1_method_6_code, 5, (some FieldType.int), [])
def m_S_addStep : am_M := (⟨"WorkPlans$Shop", "addStep", "(IIII)I"⟩, prog_5_method_5_code, 6, (some FieldType.int), [])
def m_S_lastStep : am_M := (⟨"WorkPlans$Shop", "lastStep", "(I)I"⟩, prog_5_method_6_code, 2, (some FieldType.int), [])
def m_L_run : am_M := (⟨"WorkPlansLaw", "run", "(LWorkPlans;I[J)I"⟩, method_8_code, 4, (some FieldType.int), [(0, 9, 12, 13), (0, 9, 15, 15)])
def m_X_run : am_M := (⟨"WorkPlans", "run", "(I)I"⟩, prog_1_method_7_code, 3, (some FieldType.int), [])
def m_S_allFit : am_M := (⟨"WorkPlans$Shop", "allFit", "()Z"⟩, prog_5_method_8_code, 2, (some FieldType.boolean), [])
def m_S_fits : am_M := (⟨"WorkPlans$Shop", "fits", "(I)Z"⟩, prog_5_method_7_code, 3, (some FieldType.boolean), [])
def m_S_hasMachine : am_M := (⟨"WorkPlans$Shop", "hasMachine", "(I)Z"⟩, prog_5_method_10_code, 3, (some FieldType.boolean), [])
def m_R_findBest : am_M := (⟨"WorkPlans$Search", "findBest", "(I)Z"⟩, prog_4_method_2_code, 3, (some FieldType.boolean), [])
def m_F_costAlone : am_M := (⟨"WorkPlans$Floor", "costAlone", "(I)J"⟩, prog_2_method_7_code, 2, (some FieldType.long), [])
def m_F_clear : am_M := (⟨"WorkPlans$Floor", "clear", "()V"⟩, prog_2_method_2_code, 4, none, [])
def m_F_addBusy : am_M := (⟨"WorkPlans$Floor", "addBusy", "(III)V"⟩, prog_2_method_12_code, 5, none, [])
def m_F_place : am_M := (⟨"WorkPlans$Floor", "place", "(I)I"⟩, prog_2_method_3_code, 6, (some FieldType.int), [])
def m_F_placeStep : am_M := (⟨"WorkPlans$Floor", "placeStep", "(II)I"⟩, prog_2_method_10_code, 7, (some FieldType.int), [])
def m_F_firstBegin : am_M := (⟨"WorkPlans$Floor", "firstBegin", "(III)I"⟩, prog_2_method_11_code, 9, (some FieldType.int), [])
def m_X_shareAnHour : am_M := (⟨"WorkPlans", "shareAnHour", "(IIII)Z"⟩, prog_1_method_17_code, 4, (some FieldType.boolean), [])
def m_F_put : am_M := (⟨"WorkPlans$Floor", "put", "(III)V"⟩, prog_2_method_5_code, 4, none, [])
def m_S_costOf : am_M := (⟨"WorkPlans$Shop", "costOf", "(II)J"⟩, prog_5_method_9_code, 5, (some FieldType.long), [])
def m_R_orderByDue : am_M := (⟨"WorkPlans$Search", "orderByDue", "()V"⟩, prog_4_method_3_code, 3, none, [])
def m_F_costInOrder : am_M := (⟨"WorkPlans$Floor", "costInOrder", "([II)J"⟩, prog_2_method_6_code, 6, (some FieldType.long), [])
def m_R_goOn : am_M := (⟨"WorkPlans$Search", "goOn", "(IJJ)Z"⟩, prog_4_method_4_code, 9, (some FieldType.boolean), [])
def m_R_follow : am_M := (⟨"WorkPlans$Search", "follow", "(IJJ)Z"⟩, prog_4_method_5_code, 8, (some FieldType.boolean), [])
def m_F_lift : am_M := (⟨"WorkPlans$Floor", "lift", "(I)V"⟩, prog_2_method_4_code, 4, none, [])
def m_P_take : am_M := (⟨"WorkPlans$Plan", "take", "([ILWorkPlans$Floor;)V"⟩, prog_3_method_4_code, 4, none, [])
def m_P_has : am_M := (⟨"WorkPlans$Plan", "has", "(I)Z"⟩, prog_3_method_3_code, 2, (some FieldType.boolean), [])
def m_L_improve : am_M := (⟨"WorkPlansLaw", "improve", "(LWorkPlans;I[J)I"⟩, method_9_code, 4, (some FieldType.int), [(0, 9, 12, 13), (0, 9, 15, 15)])
def m_X_improve : am_M := (⟨"WorkPlans", "improve", "(I)I"⟩, prog_1_method_8_code, 6, (some FieldType.int), [])
def m_X_demandFreshPlan : am_M := (⟨"WorkPlans", "demandFreshPlan", "()V"⟩, prog_1_method_20_code, 1, none, [])
def m_P_exists : am_M := (⟨"WorkPlans$Plan", "exists", "()Z"⟩, prog_3_method_2_code, 1, (some FieldType.boolean), [])
def m_X_nextPlace : am_M := (⟨"WorkPlans", "nextPlace", "(I)I"⟩, prog_1_method_21_code, 2, (some FieldType.int), [])
def m_P_changeIfLess : am_M := (⟨"WorkPlans$Plan", "changeIfLess", "(IILWorkPlans$Floor;)Z"⟩, prog_3_method_5_code, 6, (some FieldType.boolean), [])
def m_P_swap : am_M := (⟨"WorkPlans$Plan", "swap", "(II)V"⟩, prog_3_method_9_code, 4, none, [])
def m_L_at : am_M := (⟨"WorkPlansLaw", "at", "(LWorkPlans;II[J)I"⟩, method_10_code, 5, (some FieldType.int), [(0, 10, 13, 21), (0, 10, 17, 15)])
def m_X_at : am_M := (⟨"WorkPlans", "at", "(II)I"⟩, prog_1_method_9_code, 3, (some FieldType.int), [])
def m_X_demandPlan : am_M := (⟨"WorkPlans", "demandPlan", "()V"⟩, prog_1_method_19_code, 1, none, [])
def m_L_order : am_M := (⟨"WorkPlansLaw", "order", "(LWorkPlans;I[J)I"⟩, method_11_code, 4, (some FieldType.int), [(0, 9, 12, 15), (0, 9, 15, 21)])
def m_X_order : am_M := (⟨"WorkPlans", "order", "(I)I"⟩, prog_1_method_10_code, 2, (some FieldType.int), [])
def m_L_about : am_M := (⟨"WorkPlansLaw", "about", "(LWorkPlans;I[J)I"⟩, method_12_code, 4, (some FieldType.int), [(0, 8, 11, 21), (0, 8, 14, 15)])
def m_X_about : am_M := (⟨"WorkPlans", "about", "(I)J"⟩, prog_1_method_11_code, 2, (some FieldType.long), [])
def m_L_alone : am_M := (⟨"WorkPlansLaw", "alone", "(LWorkPlans;I[J)I"⟩, method_13_code, 4, (some FieldType.int), [(0, 8, 11, 21), (0, 8, 14, 15)])
def m_X_alone : am_M := (⟨"WorkPlans", "alone", "(I)J"⟩, prog_1_method_12_code, 2, (some FieldType.long), [])
def m_L_promise : am_M := (⟨"WorkPlansLaw", "promise", "(LWorkPlans;I[J)I"⟩, method_14_code, 4, (some FieldType.int), [(0, 9, 12, 21), (0, 9, 15, 15)])
def m_X_promise : am_M := (⟨"WorkPlans", "promise", "(I)I"⟩, prog_1_method_13_code, 2, (some FieldType.int), [])
def m_P_layAllBut : am_M := (⟨"WorkPlans$Plan", "layAllBut", "(ILWorkPlans$Floor;)V"⟩, prog_3_method_6_code, 6, none, [])
def m_L_clash : am_M := (⟨"WorkPlansLaw", "clash", "(LWorkPlans;I[J)I"⟩, method_15_code, 4, (some FieldType.int), [(0, 9, 12, 13), (0, 9, 15, 15)])
def m_X_clash : am_M := (⟨"WorkPlans", "clash", "(I)I"⟩, prog_1_method_14_code, 5, (some FieldType.int), [])
def m_F_doClash : am_M := (⟨"WorkPlans$Floor", "doClash", "(II)Z"⟩, prog_2_method_8_code, 3, (some FieldType.boolean), [])
def m_F_costOfTwo : am_M := (⟨"WorkPlans$Floor", "costOfTwo", "(II)J"⟩, prog_2_method_9_code, 5, (some FieldType.long), [])
def m_L_check : am_M := (⟨"WorkPlansLaw", "check", "(LWorkPlans;[J)I"⟩, method_16_code, 3, (some FieldType.int), [(0, 8, 11, 15)])
def m_X_check : am_M := (⟨"WorkPlans", "check", "()I"⟩, prog_1_method_15_code, 3, (some FieldType.int), [])
def m_P_breaks : am_M := (⟨"WorkPlans$Plan", "breaks", "(II)Z"⟩, prog_3_method_7_code, 3, (some FieldType.boolean), [])
def m_P_beginsTooEarly : am_M := (⟨"WorkPlans$Plan", "beginsTooEarly", "(I)Z"⟩, prog_3_method_11_code, 3, (some FieldType.boolean), [])
def m_P_stepEnd : am_M := (⟨"WorkPlans$Plan", "stepEnd", "(I)I"⟩, prog_3_method_10_code, 2, (some FieldType.int), [])
def m_P_sharesWithStep : am_M := (⟨"WorkPlans$Plan", "sharesWithStep", "(I)Z"⟩, prog_3_method_12_code, 3, (some FieldType.boolean), [])
def m_P_sharesWithSpan : am_M := (⟨"WorkPlans$Plan", "sharesWithSpan", "(I)Z"⟩, prog_3_method_13_code, 5, (some FieldType.boolean), [])
def m_P_endOf : am_M := (⟨"WorkPlans$Plan", "endOf", "(I)I"⟩, prog_3_method_8_code, 3, (some FieldType.int), [])
def m_M_init : am_M := (⟨"WorkPlansModel", "<init>", "(I)V"⟩, prog_7_method_1_code, 3, none, [])
def m_M_thrown : am_M := (⟨"WorkPlansModel", "thrown", "()I"⟩, prog_7_method_2_code, 1, (some FieldType.int), [])
def m_M_machine : am_M := (⟨"WorkPlansModel", "machine", "(I)I"⟩, prog_7_method_4_code, 2, (some FieldType.int), [])
def m_M_in : am_M := (⟨"WorkPlansModel", "in", "(III)Z"⟩, prog_7_method_3_code, 3, (some FieldType.boolean), [])
def m_M_out : am_M := (⟨"WorkPlansModel", "out", "(III)I"⟩, prog_7_method_5_code, 4, (some FieldType.int), [])
def m_M_job : am_M := (⟨"WorkPlansModel", "job", "(II)I"⟩, prog_7_method_6_code, 3, (some FieldType.int), [])
def m_M_due : am_M := (⟨"WorkPlansModel", "due", "(II)V"⟩, prog_7_method_7_code, 3, none, [])
def m_M_step : am_M := (⟨"WorkPlansModel", "step", "(IIII)I"⟩, prog_7_method_8_code, 5, (some FieldType.int), [])
def m_M_run : am_M := (⟨"WorkPlansModel", "run", "(I)I"⟩, prog_7_method_24_code, 4, (some FieldType.int), [])
def m_M_allFit : am_M := (⟨"WorkPlansModel", "allFit", "()Z"⟩, prog_7_method_16_code, 3, (some FieldType.boolean), [])
def m_M_fits : am_M := (⟨"WorkPlansModel", "fits", "(I)Z"⟩, prog_7_method_15_code, 6, (some FieldType.boolean), [])
def m_M_keepWas : am_M := (⟨"WorkPlansModel", "keepWas", "()V"⟩, prog_7_method_18_code, 2, none, [])
def m_M_search : am_M := (⟨"WorkPlansModel", "search", "(I)I"⟩, prog_7_method_23_code, 8, (some FieldType.int), [])
def m_M_layByDue : am_M := (⟨"WorkPlansModel", "layByDue", "()V"⟩, prog_7_method_20_code, 4, none, [])
def m_M_costOfRow : am_M := (⟨"WorkPlansModel", "costOfRow", "(I)J"⟩, prog_7_method_14_code, 5, (some FieldType.long), [])
def m_M_clearBoard : am_M := (⟨"WorkPlansModel", "clearBoard", "()V"⟩, prog_7_method_9_code, 2, none, [])
def m_M_place : am_M := (⟨"WorkPlansModel", "place", "(I)I"⟩, prog_7_method_12_code, 10, (some FieldType.int), [])
def m_M_freeFrom : am_M := (⟨"WorkPlansModel", "freeFrom", "(III)I"⟩, prog_7_method_11_code, 7, (some FieldType.int), [])
def m_M_meets : am_M := (⟨"WorkPlansModel", "meets", "(IIII)Z"⟩, prog_7_method_10_code, 4, (some FieldType.boolean), [])
def m_M_costOf : am_M := (⟨"WorkPlansModel", "costOf", "(II)J"⟩, prog_7_method_13_code, 3, (some FieldType.long), [])
def m_M_toPlan : am_M := (⟨"WorkPlansModel", "toPlan", "()V"⟩, prog_7_method_21_code, 2, none, [])
def m_M_least : am_M := (⟨"WorkPlansModel", "least", "(I)J"⟩, prog_7_method_22_code, 7, (some FieldType.long), [])
def m_M_aloneOf : am_M := (⟨"WorkPlansModel", "aloneOf", "(I)J"⟩, prog_7_method_17_code, 2, (some FieldType.long), [])
def m_M_become : am_M := (⟨"WorkPlansModel", "become", "()V"⟩, prog_7_method_19_code, 2, none, [])
def m_M_improve : am_M := (⟨"WorkPlansModel", "improve", "(I)I"⟩, prog_7_method_27_code, 10, (some FieldType.int), [])
def m_M_draw : am_M := (⟨"WorkPlansModel", "draw", "()I"⟩, prog_7_method_25_code, 1, (some FieldType.int), [])
def m_M_swap : am_M := (⟨"WorkPlansModel", "swap", "(II)V"⟩, prog_7_method_26_code, 4, none, [])
def m_M_at : am_M := (⟨"WorkPlansModel", "at", "(II)I"⟩, prog_7_method_28_code, 3, (some FieldType.int), [])
def m_M_order : am_M := (⟨"WorkPlansModel", "order", "(I)I"⟩, prog_7_method_29_code, 2, (some FieldType.int), [])
def m_M_about : am_M := (⟨"WorkPlansModel", "about", "(I)J"⟩, prog_7_method_30_code, 2, (some FieldType.long), [])
def m_M_alone : am_M := (⟨"WorkPlansModel", "alone", "(I)J"⟩, prog_7_method_31_code, 2, (some FieldType.long), [])
def m_M_promise : am_M := (⟨"WorkPlansModel", "promise", "(I)I"⟩, prog_7_method_32_code, 4, (some FieldType.int), [])
def m_M_clash : am_M := (⟨"WorkPlansModel", "clash", "(I)I"⟩, prog_7_method_34_code, 5, (some FieldType.int), [])
def m_M_canBoth : am_M := (⟨"WorkPlansModel", "canBoth", "(II)Z"⟩, prog_7_method_33_code, 3, (some FieldType.boolean), [])
def m_M_check : am_M := (⟨"WorkPlansModel", "check", "()I"⟩, prog_7_method_38_code, 3, (some FieldType.int), [])
def m_M_breaks : am_M := (⟨"WorkPlansModel", "breaks", "(II)Z"⟩, prog_7_method_36_code, 8, (some FieldType.boolean), [])
def m_M_before : am_M := (⟨"WorkPlansModel", "before", "(I)I"⟩, prog_7_method_35_code, 4, (some FieldType.int), [])
def m_M_isLate : am_M := (⟨"WorkPlansModel", "isLate", "(I)Z"⟩, prog_7_method_37_code, 3, (some FieldType.boolean), [])
def m_L_law : am_M := (⟨"WorkPlansLaw", "law", "([I)Z"⟩, code, 8, (some FieldType.boolean), [])
end
section
/-! the words, by their places -/
theorem ws_0 : Cond.selects "java/lang/Throwable" ⟨"java/lang/Throwable", "fillInStackTrace", "(I)Ljava/lang/Throwable;"⟩ ⟨"java/lang/Throwable", "fillInStackTrace", "(I)Ljava/lang/Throwable;"⟩ ∈ am_T := am_inS 0 (by decide +kernel) (by decide +kernel)
theorem ws_1 : Cond.selects "WorkPlans" ⟨"WorkPlans", "demandJob", "(I)V"⟩ ⟨"WorkPlans", "demandJob", "(I)V"⟩ ∈ am_T := am_inS 1 (by decide +kernel) (by decide +kernel)
theorem ws_2 : Cond.selects "WorkPlans$Shop" ⟨"WorkPlans$Shop", "hasMachine", "(I)Z"⟩ ⟨"WorkPlans$Shop", "hasMachine", "(I)Z"⟩ ∈ am_T := am_inS 2 (by decide +kernel) (by decide +kernel)
theorem ws_3 : Cond.selects "WorkPlans$Floor" ⟨"WorkPlans$Floor", "addBusy", "(III)V"⟩ ⟨"WorkPlans$Floor", "addBusy", "(III)V"⟩ ∈ am_T := am_inS 3 (by decide +kernel) (by decide +kernel)
theorem ws_4 : Cond.selects "WorkPlans$Floor" ⟨"WorkPlans$Floor", "placeStep", "(II)I"⟩ ⟨"WorkPlans$Floor", "placeStep", "(II)I"⟩ ∈ am_T := am_inS 4 (by decide +kernel) (by decide +kernel)
theorem ws_5 : Cond.selects "WorkPlans$Floor" ⟨"WorkPlans$Floor", "firstBegin", "(III)I"⟩ ⟨"WorkPlans$Floor", "firstBegin", "(III)I"⟩ ∈ am_T := am_inS 5 (by decide +kernel) (by decide +kernel)
theorem ws_6 : Cond.selects "WorkPlans$Search" ⟨"WorkPlans$Search", "orderByDue", "()V"⟩ ⟨"WorkPlans$Search", "orderByDue", "()V"⟩ ∈ am_T := am_inS 6 (by decide +kernel) (by decide +kernel)
theorem ws_7 : Cond.selects "WorkPlans$Search" ⟨"WorkPlans$Search", "goOn", "(IJJ)Z"⟩ ⟨"WorkPlans$Search", "goOn", "(IJJ)Z"⟩ ∈ am_T := am_inS 7 (by decide +kernel) (by decide +kernel)
theorem ws_8 : Cond.selects "WorkPlans$Search" ⟨"WorkPlans$Search", "follow", "(IJJ)Z"⟩ ⟨"WorkPlans$Search", "follow", "(IJJ)Z"⟩ ∈ am_T := am_inS 8 (by decide +kernel) (by decide +kernel)
theorem ws_9 : Cond.selects "WorkPlans" ⟨"WorkPlans", "demandFreshPlan", "()V"⟩ ⟨"WorkPlans", "demandFreshPlan", "()V"⟩ ∈ am_T := am_inS 9 (by decide +kernel) (by decide +kernel)
theorem ws_10 : Cond.selects "WorkPlans" ⟨"WorkPlans", "nextPlace", "(I)I"⟩ ⟨"WorkPlans", "nextPlace", "(I)I"⟩ ∈ am_T := am_inS 10 (by decide +kernel) (by decide +kernel)
theorem ws_11 : Cond.selects "WorkPlans$Plan" ⟨"WorkPlans$Plan", "swap", "(II)V"⟩ ⟨"WorkPlans$Plan", "swap", "(II)V"⟩ ∈ am_T := am_inS 11 (by decide +kernel) (by decide +kernel)
theorem ws_12 : Cond.selects "WorkPlans" ⟨"WorkPlans", "demandPlan", "()V"⟩ ⟨"WorkPlans", "demandPlan", "()V"⟩ ∈ am_T := am_inS 12 (by decide +kernel) (by decide +kernel)
theorem ws_13 : Cond.selects "WorkPlans$Floor" ⟨"WorkPlans$Floor", "costOfTwo", "(II)J"⟩ ⟨"WorkPlans$Floor", "costOfTwo", "(II)J"⟩ ∈ am_T := am_inS 13 (by decide +kernel) (by decide +kernel)
theorem ws_14 : Cond.selects "WorkPlans$Plan" ⟨"WorkPlans$Plan", "beginsTooEarly", "(I)Z"⟩ ⟨"WorkPlans$Plan", "beginsTooEarly", "(I)Z"⟩ ∈ am_T := am_inS 14 (by decide +kernel) (by decide +kernel)
theorem ws_15 : Cond.selects "WorkPlans$Plan" ⟨"WorkPlans$Plan", "stepEnd", "(I)I"⟩ ⟨"WorkPlans$Plan", "stepEnd", "(I)I"⟩ ∈ am_T := am_inS 15 (by decide +kernel) (by decide +kernel)
theorem ws_16 : Cond.selects "WorkPlans$Plan" ⟨"WorkPlans$Plan", "sharesWithStep", "(I)Z"⟩ ⟨"WorkPlans$Plan", "sharesWithStep", "(I)Z"⟩ ∈ am_T := am_inS 16 (by decide +kernel) (by decide +kernel)
theorem ws_17 : Cond.selects "WorkPlans$Plan" ⟨"WorkPlans$Plan", "sharesWithSpan", "(I)Z"⟩ ⟨"WorkPlans$Plan", "sharesWithSpan", "(I)Z"⟩ ∈ am_T := am_inS 17 (by decide +kernel) (by decide +kernel)
theorem ws_18 : Cond.selects "WorkPlansModel" ⟨"WorkPlansModel", "allFit", "()Z"⟩ ⟨"WorkPlansModel", "allFit", "()Z"⟩ ∈ am_T := am_inS 18 (by decide +kernel) (by decide +kernel)
theorem ws_19 : Cond.selects "WorkPlansModel" ⟨"WorkPlansModel", "fits", "(I)Z"⟩ ⟨"WorkPlansModel", "fits", "(I)Z"⟩ ∈ am_T := am_inS 19 (by decide +kernel) (by decide +kernel)
theorem ws_20 : Cond.selects "WorkPlansModel" ⟨"WorkPlansModel", "keepWas", "()V"⟩ ⟨"WorkPlansModel", "keepWas", "()V"⟩ ∈ am_T := am_inS 20 (by decide +kernel) (by decide +kernel)
theorem ws_21 : Cond.selects "WorkPlansModel" ⟨"WorkPlansModel", "search", "(I)I"⟩ ⟨"WorkPlansModel", "search", "(I)I"⟩ ∈ am_T := am_inS 21 (by decide +kernel) (by decide +kernel)
theorem ws_22 : Cond.selects "WorkPlansModel" ⟨"WorkPlansModel", "layByDue", "()V"⟩ ⟨"WorkPlansModel", "layByDue", "()V"⟩ ∈ am_T := am_inS 22 (by decide +kernel) (by decide +kernel)
theorem ws_23 : Cond.selects "WorkPlansModel" ⟨"WorkPlansModel", "costOfRow", "(I)J"⟩ ⟨"WorkPlansModel", "costOfRow", "(I)J"⟩ ∈ am_T := am_inS 23 (by decide +kernel) (by decide +kernel)
theorem ws_24 : Cond.selects "WorkPlansModel" ⟨"WorkPlansModel", "clearBoard", "()V"⟩ ⟨"WorkPlansModel", "clearBoard", "()V"⟩ ∈ am_T := am_inS 24 (by decide +kernel) (by decide +kernel)
theorem ws_25 : Cond.selects "WorkPlansModel" ⟨"WorkPlansModel", "place", "(I)I"⟩ ⟨"WorkPlansModel", "place", "(I)I"⟩ ∈ am_T := am_inS 25 (by decide +kernel) (by decide +kernel)
theorem ws_26 : Cond.selects "WorkPlansModel" ⟨"WorkPlansModel", "freeFrom", "(III)I"⟩ ⟨"WorkPlansModel", "freeFrom", "(III)I"⟩ ∈ am_T := am_inS 26 (by decide +kernel) (by decide +kernel)
theorem ws_27 : Cond.selects "WorkPlansModel" ⟨"WorkPlansModel", "costOf", "(II)J"⟩ ⟨"WorkPlansModel", "costOf", "(II)J"⟩ ∈ am_T := am_inS 27 (by decide +kernel) (by decide +kernel)
theorem ws_28 : Cond.selects "WorkPlansModel" ⟨"WorkPlansModel", "toPlan", "()V"⟩ ⟨"WorkPlansModel", "toPlan", "()V"⟩ ∈ am_T := am_inS 28 (by decide +kernel) (by decide +kernel)
theorem ws_29 : Cond.selects "WorkPlansModel" ⟨"WorkPlansModel", "least", "(I)J"⟩ ⟨"WorkPlansModel", "least", "(I)J"⟩ ∈ am_T := am_inS 29 (by decide +kernel) (by decide +kernel)
theorem ws_30 : Cond.selects "WorkPlansModel" ⟨"WorkPlansModel", "aloneOf", "(I)J"⟩ ⟨"WorkPlansModel", "aloneOf", "(I)J"⟩ ∈ am_T := am_inS 30 (by decide +kernel) (by decide +kernel)
theorem ws_31 : Cond.selects "WorkPlansModel" ⟨"WorkPlansModel", "become", "()V"⟩ ⟨"WorkPlansModel", "become", "()V"⟩ ∈ am_T := am_inS 31 (by decide +kernel) (by decide +kernel)
theorem ws_32 : Cond.selects "WorkPlansModel" ⟨"WorkPlansModel", "draw", "()I"⟩ ⟨"WorkPlansModel", "draw", "()I"⟩ ∈ am_T := am_inS 32 (by decide +kernel) (by decide +kernel)
theorem ws_33 : Cond.selects "WorkPlansModel" ⟨"WorkPlansModel", "swap", "(II)V"⟩ ⟨"WorkPlansModel", "swap", "(II)V"⟩ ∈ am_T := am_inS 33 (by decide +kernel) (by decide +kernel)
theorem ws_34 : Cond.selects "WorkPlansModel" ⟨"WorkPlansModel", "canBoth", "(II)Z"⟩ ⟨"WorkPlansModel", "canBoth", "(II)Z"⟩ ∈ am_T := am_inS 34 (by decide +kernel) (by decide +kernel)
theorem ws_35 : Cond.selects "WorkPlansModel" ⟨"WorkPlansModel", "breaks", "(II)Z"⟩ ⟨"WorkPlansModel", "breaks", "(II)Z"⟩ ∈ am_T := am_inS 35 (by decide +kernel) (by decide +kernel)
theorem ws_36 : Cond.selects "WorkPlansModel" ⟨"WorkPlansModel", "before", "(I)I"⟩ ⟨"WorkPlansModel", "before", "(I)I"⟩ ∈ am_T := am_inS 36 (by decide +kernel) (by decide +kernel)
theorem ws_37 : Cond.selects "WorkPlansModel" ⟨"WorkPlansModel", "isLate", "(I)Z"⟩ ⟨"WorkPlansModel", "isLate", "(I)Z"⟩ ∈ am_T := am_inS 37 (by decide +kernel) (by decide +kernel)
theorem w_0 : Cond.initialized "WorkPlansLaw" ∈ am_T := am_in 0 (by decide +kernel) (by decide +kernel)
theorem w_1 : Cond.initialized "WorkPlans" ∈ am_T := am_in 1 (by decide +kernel) (by decide +kernel)
theorem w_2 : Cond.initialized "WorkPlans$Shop" ∈ am_T := am_in 2 (by decide +kernel) (by decide +kernel)
theorem w_3 : Cond.initialized "WorkPlans$Floor" ∈ am_T := am_in 3 (by decide +kernel) (by decide +kernel)
theorem w_4 : Cond.initialized "WorkPlans$Search" ∈ am_T := am_in 4 (by decide +kernel) (by decide +kernel)
theorem w_5 : Cond.initialized "WorkPlans$Plan" ∈ am_T := am_in 5 (by decide +kernel) (by decide +kernel)
theorem w_6 : Cond.initialized "WorkPlansModel" ∈ am_T := am_in 6 (by decide +kernel) (by decide +kernel)
theorem w_7 : Cond.initialized "java/lang/Throwable" ∈ am_T := am_in 7 (by decide +kernel) (by decide +kernel)
theorem w_8 : Cond.initialized "java/lang/Exception" ∈ am_T := am_in 8 (by decide +kernel) (by decide +kernel)
theorem w_9 : Cond.initialized "java/lang/RuntimeException" ∈ am_T := am_in 9 (by decide +kernel) (by decide +kernel)
theorem w_10 : Cond.initialized "java/lang/IllegalArgumentException" ∈ am_T := am_in 10 (by decide +kernel) (by decide +kernel)
theorem w_11 : Cond.initialized "java/lang/IllegalStateException" ∈ am_T := am_in 11 (by decide +kernel) (by decide +kernel)
theorem w_12 : Cond.initialized "java/lang/IndexOutOfBoundsException" ∈ am_T := am_in 12 (by decide +kernel) (by decide +kernel)
theorem w_13 : Cond.initialized "java/lang/System" ∈ am_T := am_in 13 (by decide +kernel) (by decide +kernel)
theorem w_14 : Cond.classLink "WorkPlansLaw" 8 "WorkPlans" ∈ am_T := am_in 14 (by decide +kernel) (by decide +kernel)
theorem w_15 : Cond.instantiable "WorkPlans" 6 ∈ am_T := am_in 15 (by decide +kernel) (by decide +kernel)
theorem w_16 : Cond.methodLink "WorkPlansLaw" 70 ⟨"WorkPlans", "<init>", "(I)V"⟩ ∈ am_T := am_in 16 (by decide +kernel) (by decide +kernel)
theorem w_17 : Cond.instanceMethod ⟨"WorkPlans", "<init>", "(I)V"⟩ ∈ am_T := am_in 17 (by decide +kernel) (by decide +kernel)
theorem w_18 : Cond.code ⟨"WorkPlans", "<init>", "(I)V"⟩ prog_1_method_1_code 2 none ∈ am_T := am_in 18 (by decide +kernel) (by decide +kernel)
theorem w_19 : Cond.methodLink "WorkPlans" 3 ⟨"java/lang/Object", "<init>", "()V"⟩ ∈ am_T := am_in 19 (by decide +kernel) (by decide +kernel)
theorem w_20 : Cond.instanceMethod ⟨"java/lang/Object", "<init>", "()V"⟩ ∈ am_T := am_in 20 (by decide +kernel) (by decide +kernel)
theorem w_21 : Cond.code ⟨"java/lang/Object", "<init>", "()V"⟩ object_method_1_code 1 none ∈ am_T := am_in 21 (by decide +kernel) (by decide +kernel)
theorem w_22 : Cond.classLink "WorkPlans" 9 "WorkPlans$Shop" ∈ am_T := am_in 22 (by decide +kernel) (by decide +kernel)
theorem w_23 : Cond.instantiable "WorkPlans$Shop" 15 ∈ am_T := am_in 23 (by decide +kernel) (by decide +kernel)
theorem w_25 : Cond.instanceMethod ⟨"WorkPlans$Shop", "<init>", "()V"⟩ ∈ am_T := am_in 25 (by decide +kernel) (by decide +kernel)
theorem w_26 : Cond.code ⟨"WorkPlans$Shop", "<init>", "()V"⟩ prog_5_method_1_code 1 none ∈ am_T := am_in 26 (by decide +kernel) (by decide +kernel)
theorem w_27 : Cond.methodLink "WorkPlans$Shop" 3 ⟨"java/lang/Object", "<init>", "()V"⟩ ∈ am_T := am_in 27 (by decide +kernel) (by decide +kernel)
theorem w_28 : Cond.fieldLink "WorkPlans$Shop" 9 "WorkPlans$Shop" "machines" "I" ∈ am_T := am_in 28 (by decide +kernel) (by decide +kernel)
theorem w_29 : Cond.fieldLink "WorkPlans$Floor" 31 "WorkPlans$Shop" "machines" "I" ∈ am_T := am_in 29 (by decide +kernel) (by decide +kernel)
theorem w_30 : Cond.fieldLink "WorkPlans" 60 "WorkPlans$Shop" "machines" "I" ∈ am_T := am_in 30 (by decide +kernel) (by decide +kernel)
theorem w_31 : Cond.fieldLink "WorkPlans$Shop" 15 "WorkPlans$Shop" "kindOf" "[I" ∈ am_T := am_in 31 (by decide +kernel) (by decide +kernel)
theorem w_32 : Cond.fieldLink "WorkPlans$Floor" 84 "WorkPlans$Shop" "kindOf" "[I" ∈ am_T := am_in 32 (by decide +kernel) (by decide +kernel)
theorem w_33 : Cond.fieldLink "WorkPlans$Shop" 19 "WorkPlans$Shop" "spansOf" "[I" ∈ am_T := am_in 33 (by decide +kernel) (by decide +kernel)
theorem w_34 : Cond.fieldLink "WorkPlans$Floor" 37 "WorkPlans$Shop" "spansOf" "[I" ∈ am_T := am_in 34 (by decide +kernel) (by decide +kernel)
theorem w_35 : Cond.fieldLink "WorkPlans" 80 "WorkPlans$Shop" "spansOf" "[I" ∈ am_T := am_in 35 (by decide +kernel) (by decide +kernel)
theorem w_36 : Cond.fieldLink "WorkPlans$Plan" 113 "WorkPlans$Shop" "spansOf" "[I" ∈ am_T := am_in 36 (by decide +kernel) (by decide +kernel)
theorem w_37 : Cond.fieldLink "WorkPlans$Shop" 22 "WorkPlans$Shop" "spanFrom" "[I" ∈ am_T := am_in 37 (by decide +kernel) (by decide +kernel)
theorem w_38 : Cond.fieldLink "WorkPlans$Floor" 40 "WorkPlans$Shop" "spanFrom" "[I" ∈ am_T := am_in 38 (by decide +kernel) (by decide +kernel)
theorem w_39 : Cond.fieldLink "WorkPlans$Plan" 116 "WorkPlans$Shop" "spanFrom" "[I" ∈ am_T := am_in 39 (by decide +kernel) (by decide +kernel)
theorem w_40 : Cond.fieldLink "WorkPlans$Shop" 25 "WorkPlans$Shop" "spanTo" "[I" ∈ am_T := am_in 40 (by decide +kernel) (by decide +kernel)
theorem w_41 : Cond.fieldLink "WorkPlans$Floor" 43 "WorkPlans$Shop" "spanTo" "[I" ∈ am_T := am_in 41 (by decide +kernel) (by decide +kernel)
theorem w_42 : Cond.fieldLink "WorkPlans$Plan" 119 "WorkPlans$Shop" "spanTo" "[I" ∈ am_T := am_in 42 (by decide +kernel) (by decide +kernel)
theorem w_43 : Cond.fieldLink "WorkPlans$Shop" 28 "WorkPlans$Shop" "jobs" "I" ∈ am_T := am_in 43 (by decide +kernel) (by decide +kernel)
theorem w_44 : Cond.fieldLink "WorkPlans$Search" 48 "WorkPlans$Shop" "jobs" "I" ∈ am_T := am_in 44 (by decide +kernel) (by decide +kernel)
theorem w_45 : Cond.fieldLink "WorkPlans$Plan" 45 "WorkPlans$Shop" "jobs" "I" ∈ am_T := am_in 45 (by decide +kernel) (by decide +kernel)
theorem w_46 : Cond.fieldLink "WorkPlans" 92 "WorkPlans$Shop" "jobs" "I" ∈ am_T := am_in 46 (by decide +kernel) (by decide +kernel)
theorem w_47 : Cond.fieldLink "WorkPlans$Shop" 31 "WorkPlans$Shop" "dueOf" "[I" ∈ am_T := am_in 47 (by decide +kernel) (by decide +kernel)
theorem w_48 : Cond.fieldLink "WorkPlans$Search" 73 "WorkPlans$Shop" "dueOf" "[I" ∈ am_T := am_in 48 (by decide +kernel) (by decide +kernel)
theorem w_49 : Cond.fieldLink "WorkPlans" 107 "WorkPlans$Shop" "dueOf" "[I" ∈ am_T := am_in 49 (by decide +kernel) (by decide +kernel)
theorem w_50 : Cond.fieldLink "WorkPlans$Shop" 34 "WorkPlans$Shop" "weightOf" "[I" ∈ am_T := am_in 50 (by decide +kernel) (by decide +kernel)
theorem w_51 : Cond.fieldLink "WorkPlans$Shop" 37 "WorkPlans$Shop" "stepsOf" "[I" ∈ am_T := am_in 51 (by decide +kernel) (by decide +kernel)
theorem w_52 : Cond.fieldLink "WorkPlans$Floor" 50 "WorkPlans$Shop" "stepsOf" "[I" ∈ am_T := am_in 52 (by decide +kernel) (by decide +kernel)
theorem w_53 : Cond.fieldLink "WorkPlans$Plan" 74 "WorkPlans$Shop" "stepsOf" "[I" ∈ am_T := am_in 53 (by decide +kernel) (by decide +kernel)
theorem w_54 : Cond.fieldLink "WorkPlans" 112 "WorkPlans$Shop" "stepsOf" "[I" ∈ am_T := am_in 54 (by decide +kernel) (by decide +kernel)
theorem w_55 : Cond.fieldLink "WorkPlans$Shop" 40 "WorkPlans$Shop" "stepAt" "[I" ∈ am_T := am_in 55 (by decide +kernel) (by decide +kernel)
theorem w_56 : Cond.fieldLink "WorkPlans$Floor" 53 "WorkPlans$Shop" "stepAt" "[I" ∈ am_T := am_in 56 (by decide +kernel) (by decide +kernel)
theorem w_57 : Cond.fieldLink "WorkPlans$Plan" 77 "WorkPlans$Shop" "stepAt" "[I" ∈ am_T := am_in 57 (by decide +kernel) (by decide +kernel)
theorem w_58 : Cond.fieldLink "WorkPlans$Shop" 43 "WorkPlans$Shop" "steps" "I" ∈ am_T := am_in 58 (by decide +kernel) (by decide +kernel)
theorem w_59 : Cond.fieldLink "WorkPlans$Plan" 54 "WorkPlans$Shop" "steps" "I" ∈ am_T := am_in 59 (by decide +kernel) (by decide +kernel)
theorem w_60 : Cond.fieldLink "WorkPlans" 115 "WorkPlans$Shop" "steps" "I" ∈ am_T := am_in 60 (by decide +kernel) (by decide +kernel)
theorem w_61 : Cond.fieldLink "WorkPlans$Shop" 46 "WorkPlans$Shop" "stepKind" "[I" ∈ am_T := am_in 61 (by decide +kernel) (by decide +kernel)
theorem w_62 : Cond.fieldLink "WorkPlans$Floor" 87 "WorkPlans$Shop" "stepKind" "[I" ∈ am_T := am_in 62 (by decide +kernel) (by decide +kernel)
theorem w_63 : Cond.fieldLink "WorkPlans$Shop" 49 "WorkPlans$Shop" "stepHours" "[I" ∈ am_T := am_in 63 (by decide +kernel) (by decide +kernel)
theorem w_64 : Cond.fieldLink "WorkPlans$Floor" 60 "WorkPlans$Shop" "stepHours" "[I" ∈ am_T := am_in 64 (by decide +kernel) (by decide +kernel)
theorem w_65 : Cond.fieldLink "WorkPlans$Plan" 100 "WorkPlans$Shop" "stepHours" "[I" ∈ am_T := am_in 65 (by decide +kernel) (by decide +kernel)
theorem w_66 : Cond.fieldLink "WorkPlans$Shop" 52 "WorkPlans$Shop" "stepWait" "[I" ∈ am_T := am_in 66 (by decide +kernel) (by decide +kernel)
theorem w_67 : Cond.fieldLink "WorkPlans$Floor" 63 "WorkPlans$Shop" "stepWait" "[I" ∈ am_T := am_in 67 (by decide +kernel) (by decide +kernel)
theorem w_68 : Cond.fieldLink "WorkPlans$Plan" 106 "WorkPlans$Shop" "stepWait" "[I" ∈ am_T := am_in 68 (by decide +kernel) (by decide +kernel)
theorem w_69 : Cond.fieldLink "WorkPlans$Shop" 55 "WorkPlans$Shop" "stepBefore" "[I" ∈ am_T := am_in 69 (by decide +kernel) (by decide +kernel)
theorem w_70 : Cond.fieldLink "WorkPlans$Plan" 103 "WorkPlans$Shop" "stepBefore" "[I" ∈ am_T := am_in 70 (by decide +kernel) (by decide +kernel)
theorem w_71 : Cond.lays "WorkPlans$Shop" "WorkPlans$Shop" "machines" "I" ∈ am_T := am_in 71 (by decide +kernel) (by decide +kernel)
theorem w_81 : Cond.lays "WorkPlans$Shop" "WorkPlans$Shop" "jobs" "I" ∈ am_T := am_in 81 (by decide +kernel) (by decide +kernel)
theorem w_91 : Cond.lays "WorkPlans$Shop" "WorkPlans$Shop" "steps" "I" ∈ am_T := am_in 91 (by decide +kernel) (by decide +kernel)
theorem w_101 : Cond.superclass "WorkPlans$Shop" "java/lang/Object" ∈ am_T := am_in 101 (by decide +kernel) (by decide +kernel)
theorem w_102 : Cond.arrayClass FieldType.int ∈ am_T := am_in 102 (by decide +kernel) (by decide +kernel)
theorem w_103 : Cond.classLink "WorkPlans" 16 "WorkPlans$Floor" ∈ am_T := am_in 103 (by decide +kernel) (by decide +kernel)
theorem w_104 : Cond.instantiable "WorkPlans$Floor" 6 ∈ am_T := am_in 104 (by decide +kernel) (by decide +kernel)
theorem w_105 : Cond.methodLink "WorkPlans" 18 ⟨"WorkPlans$Floor", "<init>", "(LWorkPlans$Shop;)V"⟩ ∈ am_T := am_in 105 (by decide +kernel) (by decide +kernel)
theorem w_106 : Cond.instanceMethod ⟨"WorkPlans$Floor", "<init>", "(LWorkPlans$Shop;)V"⟩ ∈ am_T := am_in 106 (by decide +kernel) (by decide +kernel)
theorem w_107 : Cond.code ⟨"WorkPlans$Floor", "<init>", "(LWorkPlans$Shop;)V"⟩ prog_2_method_1_code 2 none ∈ am_T := am_in 107 (by decide +kernel) (by decide +kernel)
theorem w_108 : Cond.methodLink "WorkPlans$Floor" 3 ⟨"java/lang/Object", "<init>", "()V"⟩ ∈ am_T := am_in 108 (by decide +kernel) (by decide +kernel)
theorem w_109 : Cond.fieldLink "WorkPlans$Floor" 27 "WorkPlans$Floor" "shop" "LWorkPlans$Shop;" ∈ am_T := am_in 109 (by decide +kernel) (by decide +kernel)
theorem w_110 : Cond.fieldLink "WorkPlans$Floor" 9 "WorkPlans$Floor" "beginOf" "[I" ∈ am_T := am_in 110 (by decide +kernel) (by decide +kernel)
theorem w_111 : Cond.fieldLink "WorkPlans$Plan" 59 "WorkPlans$Floor" "beginOf" "[I" ∈ am_T := am_in 111 (by decide +kernel) (by decide +kernel)
theorem w_112 : Cond.fieldLink "WorkPlans$Floor" 15 "WorkPlans$Floor" "machineOf" "[I" ∈ am_T := am_in 112 (by decide +kernel) (by decide +kernel)
theorem w_113 : Cond.fieldLink "WorkPlans$Plan" 60 "WorkPlans$Floor" "machineOf" "[I" ∈ am_T := am_in 113 (by decide +kernel) (by decide +kernel)
theorem w_114 : Cond.fieldLink "WorkPlans$Floor" 18 "WorkPlans$Floor" "busyCount" "[I" ∈ am_T := am_in 114 (by decide +kernel) (by decide +kernel)
theorem w_115 : Cond.fieldLink "WorkPlans$Floor" 21 "WorkPlans$Floor" "busyFrom" "[I" ∈ am_T := am_in 115 (by decide +kernel) (by decide +kernel)
theorem w_116 : Cond.fieldLink "WorkPlans$Floor" 24 "WorkPlans$Floor" "busyTo" "[I" ∈ am_T := am_in 116 (by decide +kernel) (by decide +kernel)
theorem w_129 : Cond.superclass "WorkPlans$Floor" "java/lang/Object" ∈ am_T := am_in 129 (by decide +kernel) (by decide +kernel)
theorem w_130 : Cond.classLink "WorkPlans" 25 "WorkPlans$Search" ∈ am_T := am_in 130 (by decide +kernel) (by decide +kernel)
theorem w_131 : Cond.instantiable "WorkPlans$Search" 10 ∈ am_T := am_in 131 (by decide +kernel) (by decide +kernel)
theorem w_132 : Cond.methodLink "WorkPlans" 27 ⟨"WorkPlans$Search", "<init>", "(LWorkPlans$Shop;LWorkPlans$Floor;)V"⟩ ∈ am_T := am_in 132 (by decide +kernel) (by decide +kernel)
theorem w_133 : Cond.instanceMethod ⟨"WorkPlans$Search", "<init>", "(LWorkPlans$Shop;LWorkPlans$Floor;)V"⟩ ∈ am_T := am_in 133 (by decide +kernel) (by decide +kernel)
theorem w_134 : Cond.code ⟨"WorkPlans$Search", "<init>", "(LWorkPlans$Shop;LWorkPlans$Floor;)V"⟩ prog_4_method_1_code 3 none ∈ am_T := am_in 134 (by decide +kernel) (by decide +kernel)
theorem w_135 : Cond.methodLink "WorkPlans$Search" 3 ⟨"java/lang/Object", "<init>", "()V"⟩ ∈ am_T := am_in 135 (by decide +kernel) (by decide +kernel)
theorem w_136 : Cond.fieldLink "WorkPlans$Search" 40 "WorkPlans$Search" "shop" "LWorkPlans$Shop;" ∈ am_T := am_in 136 (by decide +kernel) (by decide +kernel)
theorem w_137 : Cond.fieldLink "WorkPlans$Search" 44 "WorkPlans$Search" "floor" "LWorkPlans$Floor;" ∈ am_T := am_in 137 (by decide +kernel) (by decide +kernel)
theorem w_138 : Cond.fieldLink "WorkPlans$Search" 9 "WorkPlans$Search" "aloneOf" "[J" ∈ am_T := am_in 138 (by decide +kernel) (by decide +kernel)
theorem w_139 : Cond.fieldLink "WorkPlans$Search" 15 "WorkPlans$Search" "begun" "[I" ∈ am_T := am_in 139 (by decide +kernel) (by decide +kernel)
theorem w_140 : Cond.fieldLink "WorkPlans$Search" 19 "WorkPlans$Search" "isBegun" "[Z" ∈ am_T := am_in 140 (by decide +kernel) (by decide +kernel)
theorem w_141 : Cond.fieldLink "WorkPlans$Search" 23 "WorkPlans$Search" "best" "[I" ∈ am_T := am_in 141 (by decide +kernel) (by decide +kernel)
theorem w_142 : Cond.fieldLink "WorkPlans" 136 "WorkPlans$Search" "best" "[I" ∈ am_T := am_in 142 (by decide +kernel) (by decide +kernel)
theorem w_143 : Cond.fieldLink "WorkPlans$Search" 26 "WorkPlans$Search" "bestCost" "J" ∈ am_T := am_in 143 (by decide +kernel) (by decide +kernel)
theorem w_144 : Cond.fieldLink "WorkPlans$Search" 30 "WorkPlans$Search" "limit" "I" ∈ am_T := am_in 144 (by decide +kernel) (by decide +kernel)
theorem w_145 : Cond.fieldLink "WorkPlans$Search" 34 "WorkPlans$Search" "bound" "J" ∈ am_T := am_in 145 (by decide +kernel) (by decide +kernel)
theorem w_146 : Cond.fieldLink "WorkPlans" 143 "WorkPlans$Search" "bound" "J" ∈ am_T := am_in 146 (by decide +kernel) (by decide +kernel)
theorem w_147 : Cond.fieldLink "WorkPlans$Search" 37 "WorkPlans$Search" "nodes" "I" ∈ am_T := am_in 147 (by decide +kernel) (by decide +kernel)
theorem w_148 : Cond.fieldLink "WorkPlans" 147 "WorkPlans$Search" "nodes" "I" ∈ am_T := am_in 148 (by decide +kernel) (by decide +kernel)
theorem w_161 : Cond.lays "WorkPlans$Search" "WorkPlans$Search" "bestCost" "J" ∈ am_T := am_in 161 (by decide +kernel) (by decide +kernel)
theorem w_163 : Cond.lays "WorkPlans$Search" "WorkPlans$Search" "limit" "I" ∈ am_T := am_in 163 (by decide +kernel) (by decide +kernel)
theorem w_165 : Cond.lays "WorkPlans$Search" "WorkPlans$Search" "bound" "J" ∈ am_T := am_in 165 (by decide +kernel) (by decide +kernel)
theorem w_167 : Cond.lays "WorkPlans$Search" "WorkPlans$Search" "nodes" "I" ∈ am_T := am_in 167 (by decide +kernel) (by decide +kernel)
theorem w_169 : Cond.superclass "WorkPlans$Search" "java/lang/Object" ∈ am_T := am_in 169 (by decide +kernel) (by decide +kernel)
theorem w_170 : Cond.arrayClass FieldType.long ∈ am_T := am_in 170 (by decide +kernel) (by decide +kernel)
theorem w_171 : Cond.arrayClass FieldType.boolean ∈ am_T := am_in 171 (by decide +kernel) (by decide +kernel)
theorem w_172 : Cond.classLink "WorkPlans" 34 "WorkPlans$Plan" ∈ am_T := am_in 172 (by decide +kernel) (by decide +kernel)
theorem w_173 : Cond.instantiable "WorkPlans$Plan" 10 ∈ am_T := am_in 173 (by decide +kernel) (by decide +kernel)
theorem w_174 : Cond.methodLink "WorkPlans" 36 ⟨"WorkPlans$Plan", "<init>", "(LWorkPlans$Shop;)V"⟩ ∈ am_T := am_in 174 (by decide +kernel) (by decide +kernel)
theorem w_175 : Cond.instanceMethod ⟨"WorkPlans$Plan", "<init>", "(LWorkPlans$Shop;)V"⟩ ∈ am_T := am_in 175 (by decide +kernel) (by decide +kernel)
theorem w_176 : Cond.code ⟨"WorkPlans$Plan", "<init>", "(LWorkPlans$Shop;)V"⟩ prog_3_method_1_code 2 none ∈ am_T := am_in 176 (by decide +kernel) (by decide +kernel)
theorem w_177 : Cond.methodLink "WorkPlans$Plan" 3 ⟨"java/lang/Object", "<init>", "()V"⟩ ∈ am_T := am_in 177 (by decide +kernel) (by decide +kernel)
theorem w_178 : Cond.fieldLink "WorkPlans$Plan" 41 "WorkPlans$Plan" "shop" "LWorkPlans$Shop;" ∈ am_T := am_in 178 (by decide +kernel) (by decide +kernel)
theorem w_179 : Cond.fieldLink "WorkPlans$Plan" 9 "WorkPlans$Plan" "jobAt" "[I" ∈ am_T := am_in 179 (by decide +kernel) (by decide +kernel)
theorem w_180 : Cond.fieldLink "WorkPlans" 164 "WorkPlans$Plan" "jobAt" "[I" ∈ am_T := am_in 180 (by decide +kernel) (by decide +kernel)
theorem w_181 : Cond.fieldLink "WorkPlans$Plan" 15 "WorkPlans$Plan" "beginOf" "[I" ∈ am_T := am_in 181 (by decide +kernel) (by decide +kernel)
theorem w_182 : Cond.fieldLink "WorkPlans" 175 "WorkPlans$Plan" "beginOf" "[I" ∈ am_T := am_in 182 (by decide +kernel) (by decide +kernel)
theorem w_183 : Cond.fieldLink "WorkPlans$Plan" 18 "WorkPlans$Plan" "machineOf" "[I" ∈ am_T := am_in 183 (by decide +kernel) (by decide +kernel)
theorem w_184 : Cond.fieldLink "WorkPlans" 178 "WorkPlans$Plan" "machineOf" "[I" ∈ am_T := am_in 184 (by decide +kernel) (by decide +kernel)
theorem w_185 : Cond.fieldLink "WorkPlans$Plan" 21 "WorkPlans$Plan" "jobs" "I" ∈ am_T := am_in 185 (by decide +kernel) (by decide +kernel)
theorem w_186 : Cond.fieldLink "WorkPlans" 156 "WorkPlans$Plan" "jobs" "I" ∈ am_T := am_in 186 (by decide +kernel) (by decide +kernel)
theorem w_187 : Cond.fieldLink "WorkPlans$Plan" 25 "WorkPlans$Plan" "steps" "I" ∈ am_T := am_in 187 (by decide +kernel) (by decide +kernel)
theorem w_188 : Cond.fieldLink "WorkPlans$Plan" 28 "WorkPlans$Plan" "cost" "J" ∈ am_T := am_in 188 (by decide +kernel) (by decide +kernel)
theorem w_189 : Cond.fieldLink "WorkPlans" 185 "WorkPlans$Plan" "cost" "J" ∈ am_T := am_in 189 (by decide +kernel) (by decide +kernel)
theorem w_190 : Cond.fieldLink "WorkPlans$Plan" 32 "WorkPlans$Plan" "bound" "J" ∈ am_T := am_in 190 (by decide +kernel) (by decide +kernel)
theorem w_191 : Cond.fieldLink "WorkPlans" 146 "WorkPlans$Plan" "bound" "J" ∈ am_T := am_in 191 (by decide +kernel) (by decide +kernel)
theorem w_192 : Cond.fieldLink "WorkPlans$Plan" 35 "WorkPlans$Plan" "nodes" "I" ∈ am_T := am_in 192 (by decide +kernel) (by decide +kernel)
theorem w_193 : Cond.fieldLink "WorkPlans" 150 "WorkPlans$Plan" "nodes" "I" ∈ am_T := am_in 193 (by decide +kernel) (by decide +kernel)
theorem w_194 : Cond.fieldLink "WorkPlans$Plan" 38 "WorkPlans$Plan" "moved" "I" ∈ am_T := am_in 194 (by decide +kernel) (by decide +kernel)
theorem w_195 : Cond.fieldLink "WorkPlans" 188 "WorkPlans$Plan" "moved" "I" ∈ am_T := am_in 195 (by decide +kernel) (by decide +kernel)
theorem w_204 : Cond.lays "WorkPlans$Plan" "WorkPlans$Plan" "jobs" "I" ∈ am_T := am_in 204 (by decide +kernel) (by decide +kernel)
theorem w_206 : Cond.lays "WorkPlans$Plan" "WorkPlans$Plan" "steps" "I" ∈ am_T := am_in 206 (by decide +kernel) (by decide +kernel)
theorem w_208 : Cond.lays "WorkPlans$Plan" "WorkPlans$Plan" "cost" "J" ∈ am_T := am_in 208 (by decide +kernel) (by decide +kernel)
theorem w_210 : Cond.lays "WorkPlans$Plan" "WorkPlans$Plan" "bound" "J" ∈ am_T := am_in 210 (by decide +kernel) (by decide +kernel)
theorem w_212 : Cond.lays "WorkPlans$Plan" "WorkPlans$Plan" "nodes" "I" ∈ am_T := am_in 212 (by decide +kernel) (by decide +kernel)
theorem w_214 : Cond.lays "WorkPlans$Plan" "WorkPlans$Plan" "moved" "I" ∈ am_T := am_in 214 (by decide +kernel) (by decide +kernel)
theorem w_216 : Cond.superclass "WorkPlans$Plan" "java/lang/Object" ∈ am_T := am_in 216 (by decide +kernel) (by decide +kernel)
theorem w_217 : Cond.fieldLink "WorkPlans" 12 "WorkPlans" "shop" "LWorkPlans$Shop;" ∈ am_T := am_in 217 (by decide +kernel) (by decide +kernel)
theorem w_218 : Cond.fieldLink "WorkPlans" 21 "WorkPlans" "floor" "LWorkPlans$Floor;" ∈ am_T := am_in 218 (by decide +kernel) (by decide +kernel)
theorem w_219 : Cond.fieldLink "WorkPlans" 30 "WorkPlans" "search" "LWorkPlans$Search;" ∈ am_T := am_in 219 (by decide +kernel) (by decide +kernel)
theorem w_220 : Cond.fieldLink "WorkPlans" 37 "WorkPlans" "plan" "LWorkPlans$Plan;" ∈ am_T := am_in 220 (by decide +kernel) (by decide +kernel)
theorem w_221 : Cond.fieldLink "WorkPlans" 41 "WorkPlans" "chance" "J" ∈ am_T := am_in 221 (by decide +kernel) (by decide +kernel)
theorem w_222 : Cond.fieldLink "WorkPlans" 45 "WorkPlans" "toldSincePlan" "Z" ∈ am_T := am_in 222 (by decide +kernel) (by decide +kernel)
theorem w_231 : Cond.lays "WorkPlans" "WorkPlans" "chance" "J" ∈ am_T := am_in 231 (by decide +kernel) (by decide +kernel)
theorem w_233 : Cond.lays "WorkPlans" "WorkPlans" "toldSincePlan" "Z" ∈ am_T := am_in 233 (by decide +kernel) (by decide +kernel)
theorem w_235 : Cond.superclass "WorkPlans" "java/lang/Object" ∈ am_T := am_in 235 (by decide +kernel) (by decide +kernel)
theorem w_236 : Cond.methodLink "WorkPlansLaw" 64 ⟨"WorkPlansLaw", "cell", "([II)I"⟩ ∈ am_T := am_in 236 (by decide +kernel) (by decide +kernel)
theorem w_237 : Cond.static ⟨"WorkPlansLaw", "cell", "([II)I"⟩ ∈ am_T := am_in 237 (by decide +kernel) (by decide +kernel)
theorem w_238 : Cond.code ⟨"WorkPlansLaw", "cell", "([II)I"⟩ method_2_code 2 (some FieldType.int) ∈ am_T := am_in 238 (by decide +kernel) (by decide +kernel)
theorem w_239 : Cond.methodLink "WorkPlansLaw" 76 ⟨"WorkPlansLaw", "machine", "(LWorkPlans;I[J)I"⟩ ∈ am_T := am_in 239 (by decide +kernel) (by decide +kernel)
theorem w_240 : Cond.static ⟨"WorkPlansLaw", "machine", "(LWorkPlans;I[J)I"⟩ ∈ am_T := am_in 240 (by decide +kernel) (by decide +kernel)
theorem w_241 : Cond.codeWith ⟨"WorkPlansLaw", "machine", "(LWorkPlans;I[J)I"⟩ method_3_code 4 (some FieldType.int) [(0, 9, 12, 13), (0, 9, 15, 15)] ∈ am_T := am_in 241 (by decide +kernel) (by decide +kernel)
theorem w_242 : Cond.classLink "WorkPlansLaw" 13 "java/lang/IllegalArgumentException" ∈ am_T := am_in 242 (by decide +kernel) (by decide +kernel)
theorem w_243 : Cond.classLink "WorkPlansLaw" 15 "java/lang/IllegalStateException" ∈ am_T := am_in 243 (by decide +kernel) (by decide +kernel)
theorem w_244 : Cond.methodLink "WorkPlansLaw" 7 ⟨"WorkPlans", "machine", "(I)I"⟩ ∈ am_T := am_in 244 (by decide +kernel) (by decide +kernel)
theorem w_245 : Cond.instanceMethod ⟨"WorkPlans", "machine", "(I)I"⟩ ∈ am_T := am_in 245 (by decide +kernel) (by decide +kernel)
theorem w_246 : Cond.selects "WorkPlans" ⟨"WorkPlans", "machine", "(I)I"⟩ ⟨"WorkPlans", "machine", "(I)I"⟩ ∈ am_T := am_in 246 (by decide +kernel) (by decide +kernel)
theorem w_247 : Cond.code ⟨"WorkPlans", "machine", "(I)I"⟩ prog_1_method_2_code 2 (some FieldType.int) ∈ am_T := am_in 247 (by decide +kernel) (by decide +kernel)
theorem w_248 : Cond.methodLink "WorkPlans" 49 ⟨"WorkPlans", "isWithin", "(III)Z"⟩ ∈ am_T := am_in 248 (by decide +kernel) (by decide +kernel)
theorem w_249 : Cond.static ⟨"WorkPlans", "isWithin", "(III)Z"⟩ ∈ am_T := am_in 249 (by decide +kernel) (by decide +kernel)
theorem w_250 : Cond.code ⟨"WorkPlans", "isWithin", "(III)Z"⟩ prog_1_method_16_code 3 (some FieldType.boolean) ∈ am_T := am_in 250 (by decide +kernel) (by decide +kernel)
theorem w_251 : Cond.classLink "WorkPlans" 53 "java/lang/IllegalArgumentException" ∈ am_T := am_in 251 (by decide +kernel) (by decide +kernel)
theorem w_252 : Cond.instantiable "java/lang/IllegalArgumentException" 6 ∈ am_T := am_in 252 (by decide +kernel) (by decide +kernel)
theorem w_260 : Cond.selects "java/lang/IllegalArgumentException" ⟨"java/lang/Throwable", "fillInStackTrace", "(I)Ljava/lang/Throwable;"⟩ ⟨"java/lang/Throwable", "fillInStackTrace", "(I)Ljava/lang/Throwable;"⟩ ∈ am_T := am_in 260 (by decide +kernel) (by decide +kernel)
theorem w_261 : Cond.selects "java/lang/IllegalArgumentException" ⟨"java/lang/Throwable", "fillInStackTrace", "()Ljava/lang/Throwable;"⟩ ⟨"java/lang/Throwable", "fillInStackTrace", "()Ljava/lang/Throwable;"⟩ ∈ am_T := am_in 261 (by decide +kernel) (by decide +kernel)
theorem w_262 : Cond.lays "java/lang/IllegalArgumentException" "java/lang/Throwable" "cause" "Ljava/lang/Throwable;" ∈ am_T := am_in 262 (by decide +kernel) (by decide +kernel)
theorem w_263 : Cond.lays "java/lang/Throwable" "java/lang/Throwable" "cause" "Ljava/lang/Throwable;" ∈ am_T := am_in 263 (by decide +kernel) (by decide +kernel)
theorem w_264 : Cond.lays "java/lang/IllegalArgumentException" "java/lang/Throwable" "stackTrace" "[Ljava/lang/StackTraceElement;" ∈ am_T := am_in 264 (by decide +kernel) (by decide +kernel)
theorem w_265 : Cond.lays "java/lang/Throwable" "java/lang/Throwable" "stackTrace" "[Ljava/lang/StackTraceElement;" ∈ am_T := am_in 265 (by decide +kernel) (by decide +kernel)
theorem w_266 : Cond.lays "java/lang/IllegalArgumentException" "java/lang/Throwable" "suppressedExceptions" "Ljava/util/List;" ∈ am_T := am_in 266 (by decide +kernel) (by decide +kernel)
theorem w_267 : Cond.lays "java/lang/Throwable" "java/lang/Throwable" "suppressedExceptions" "Ljava/util/List;" ∈ am_T := am_in 267 (by decide +kernel) (by decide +kernel)
theorem w_268 : Cond.lays "java/lang/IllegalArgumentException" "java/lang/Throwable" "detailMessage" "Ljava/lang/String;" ∈ am_T := am_in 268 (by decide +kernel) (by decide +kernel)
theorem w_269 : Cond.lays "java/lang/Throwable" "java/lang/Throwable" "detailMessage" "Ljava/lang/String;" ∈ am_T := am_in 269 (by decide +kernel) (by decide +kernel)
theorem w_270 : Cond.lays "java/lang/IllegalArgumentException" "java/lang/Throwable" "backtrace" "Ljava/lang/Object;" ∈ am_T := am_in 270 (by decide +kernel) (by decide +kernel)
theorem w_271 : Cond.lays "java/lang/Throwable" "java/lang/Throwable" "backtrace" "Ljava/lang/Object;" ∈ am_T := am_in 271 (by decide +kernel) (by decide +kernel)
theorem w_272 : Cond.fieldLink "java/lang/Throwable" 198 "java/lang/Throwable" "backtrace" "Ljava/lang/Object;" ∈ am_T := am_in 272 (by decide +kernel) (by decide +kernel)
theorem w_273 : Cond.superclass "java/lang/Throwable" "java/lang/Object" ∈ am_T := am_in 273 (by decide +kernel) (by decide +kernel)
theorem w_274 : Cond.instanceMethod ⟨"java/lang/Throwable", "<init>", "()V"⟩ ∈ am_T := am_in 274 (by decide +kernel) (by decide +kernel)
theorem w_275 : Cond.code ⟨"java/lang/Throwable", "<init>", "()V"⟩ prog_15_method_1_code 1 none ∈ am_T := am_in 275 (by decide +kernel) (by decide +kernel)
theorem w_276 : Cond.methodLink "java/lang/Throwable" 1 ⟨"java/lang/Object", "<init>", "()V"⟩ ∈ am_T := am_in 276 (by decide +kernel) (by decide +kernel)
theorem w_277 : Cond.fieldLink "java/lang/Throwable" 13 "java/lang/Throwable" "UNASSIGNED_STACK" "[Ljava/lang/StackTraceElement;" ∈ am_T := am_in 277 (by decide +kernel) (by decide +kernel)
theorem w_279 : Cond.fieldLink "java/lang/Throwable" 20 "java/lang/Throwable" "SUPPRESSED_SENTINEL" "Ljava/util/List;" ∈ am_T := am_in 279 (by decide +kernel) (by decide +kernel)
theorem w_281 : Cond.methodLink "java/lang/Throwable" 27 ⟨"java/lang/Throwable", "fillInStackTrace", "()Ljava/lang/Throwable;"⟩ ∈ am_T := am_in 281 (by decide +kernel) (by decide +kernel)
theorem w_282 : Cond.instanceMethod ⟨"java/lang/Throwable", "fillInStackTrace", "()Ljava/lang/Throwable;"⟩ ∈ am_T := am_in 282 (by decide +kernel) (by decide +kernel)
theorem w_284 : Cond.selects "java/lang/IllegalStateException" ⟨"java/lang/Throwable", "fillInStackTrace", "()Ljava/lang/Throwable;"⟩ ⟨"java/lang/Throwable", "fillInStackTrace", "()Ljava/lang/Throwable;"⟩ ∈ am_T := am_in 284 (by decide +kernel) (by decide +kernel)
theorem w_285 : Cond.selects "java/lang/IndexOutOfBoundsException" ⟨"java/lang/Throwable", "fillInStackTrace", "()Ljava/lang/Throwable;"⟩ ⟨"java/lang/Throwable", "fillInStackTrace", "()Ljava/lang/Throwable;"⟩ ∈ am_T := am_in 285 (by decide +kernel) (by decide +kernel)
theorem w_286 : Cond.codeSync ⟨"java/lang/Throwable", "fillInStackTrace", "()Ljava/lang/Throwable;"⟩ prog_15_method_18_code 1 (some (FieldType.object "java/lang/Throwable")) ∈ am_T := am_in 286 (by decide +kernel) (by decide +kernel)
theorem w_287 : Cond.methodLink "java/lang/Throwable" 202 ⟨"java/lang/Throwable", "fillInStackTrace", "(I)Ljava/lang/Throwable;"⟩ ∈ am_T := am_in 287 (by decide +kernel) (by decide +kernel)
theorem w_289 : Cond.instanceMethod ⟨"java/lang/Throwable", "fillInStackTrace", "(I)Ljava/lang/Throwable;"⟩ ∈ am_T := am_in 289 (by decide +kernel) (by decide +kernel)
theorem w_290 : Cond.instantiable "java/lang/Throwable" 6 ∈ am_T := am_in 290 (by decide +kernel) (by decide +kernel)
theorem w_291 : Cond.native ⟨"java/lang/Throwable", "fillInStackTrace", "(I)Ljava/lang/Throwable;"⟩ ∈ am_T := am_in 291 (by decide +kernel) (by decide +kernel)
theorem w_293 : Cond.methodLink "WorkPlans" 57 ⟨"java/lang/IllegalArgumentException", "<init>", "(Ljava/lang/String;)V"⟩ ∈ am_T := am_in 293 (by decide +kernel) (by decide +kernel)
theorem w_294 : Cond.instanceMethod ⟨"java/lang/IllegalArgumentException", "<init>", "(Ljava/lang/String;)V"⟩ ∈ am_T := am_in 294 (by decide +kernel) (by decide +kernel)
theorem w_295 : Cond.code ⟨"java/lang/IllegalArgumentException", "<init>", "(Ljava/lang/String;)V"⟩ prog_9_method_2_code 2 none ∈ am_T := am_in 295 (by decide +kernel) (by decide +kernel)
theorem w_296 : Cond.methodLink "java/lang/IllegalArgumentException" 7 ⟨"java/lang/RuntimeException", "<init>", "(Ljava/lang/String;)V"⟩ ∈ am_T := am_in 296 (by decide +kernel) (by decide +kernel)
theorem w_297 : Cond.instanceMethod ⟨"java/lang/RuntimeException", "<init>", "(Ljava/lang/String;)V"⟩ ∈ am_T := am_in 297 (by decide +kernel) (by decide +kernel)
theorem w_298 : Cond.code ⟨"java/lang/RuntimeException", "<init>", "(Ljava/lang/String;)V"⟩ prog_12_method_2_code 2 none ∈ am_T := am_in 298 (by decide +kernel) (by decide +kernel)
theorem w_299 : Cond.methodLink "java/lang/RuntimeException" 7 ⟨"java/lang/Exception", "<init>", "(Ljava/lang/String;)V"⟩ ∈ am_T := am_in 299 (by decide +kernel) (by decide +kernel)
theorem w_300 : Cond.instanceMethod ⟨"java/lang/Exception", "<init>", "(Ljava/lang/String;)V"⟩ ∈ am_T := am_in 300 (by decide +kernel) (by decide +kernel)
theorem w_301 : Cond.code ⟨"java/lang/Exception", "<init>", "(Ljava/lang/String;)V"⟩ prog_8_method_2_code 2 none ∈ am_T := am_in 301 (by decide +kernel) (by decide +kernel)
theorem w_302 : Cond.methodLink "java/lang/Exception" 7 ⟨"java/lang/Throwable", "<init>", "(Ljava/lang/String;)V"⟩ ∈ am_T := am_in 302 (by decide +kernel) (by decide +kernel)
theorem w_303 : Cond.instanceMethod ⟨"java/lang/Throwable", "<init>", "(Ljava/lang/String;)V"⟩ ∈ am_T := am_in 303 (by decide +kernel) (by decide +kernel)
theorem w_304 : Cond.code ⟨"java/lang/Throwable", "<init>", "(Ljava/lang/String;)V"⟩ prog_15_method_2_code 2 none ∈ am_T := am_in 304 (by decide +kernel) (by decide +kernel)
theorem w_306 : Cond.fieldLink "java/lang/Throwable" 31 "java/lang/Throwable" "detailMessage" "Ljava/lang/String;" ∈ am_T := am_in 306 (by decide +kernel) (by decide +kernel)
theorem w_307 : Cond.fieldLink "java/lang/Throwable" 7 "java/lang/Throwable" "cause" "Ljava/lang/Throwable;" ∈ am_T := am_in 307 (by decide +kernel) (by decide +kernel)
theorem w_308 : Cond.fieldLink "java/lang/Throwable" 17 "java/lang/Throwable" "stackTrace" "[Ljava/lang/StackTraceElement;" ∈ am_T := am_in 308 (by decide +kernel) (by decide +kernel)
theorem w_309 : Cond.fieldLink "java/lang/Throwable" 24 "java/lang/Throwable" "suppressedExceptions" "Ljava/util/List;" ∈ am_T := am_in 309 (by decide +kernel) (by decide +kernel)
theorem w_314 : Cond.lays "java/lang/IllegalArgumentException" "java/lang/Throwable" "depth" "I" ∈ am_T := am_in 314 (by decide +kernel) (by decide +kernel)
theorem w_317 : Cond.superclass "java/lang/IllegalArgumentException" "java/lang/RuntimeException" ∈ am_T := am_in 317 (by decide +kernel) (by decide +kernel)
theorem w_318 : Cond.arrayClass FieldType.byte ∈ am_T := am_in 318 (by decide +kernel) (by decide +kernel)
theorem w_319 : Cond.classLink "WorkPlans" 64 "java/lang/IllegalStateException" ∈ am_T := am_in 319 (by decide +kernel) (by decide +kernel)
theorem w_320 : Cond.instantiable "java/lang/IllegalStateException" 6 ∈ am_T := am_in 320 (by decide +kernel) (by decide +kernel)
theorem w_322 : Cond.selects "java/lang/IllegalStateException" ⟨"java/lang/Throwable", "fillInStackTrace", "(I)Ljava/lang/Throwable;"⟩ ⟨"java/lang/Throwable", "fillInStackTrace", "(I)Ljava/lang/Throwable;"⟩ ∈ am_T := am_in 322 (by decide +kernel) (by decide +kernel)
theorem w_323 : Cond.lays "java/lang/IllegalStateException" "java/lang/Throwable" "cause" "Ljava/lang/Throwable;" ∈ am_T := am_in 323 (by decide +kernel) (by decide +kernel)
theorem w_324 : Cond.lays "java/lang/IllegalStateException" "java/lang/Throwable" "stackTrace" "[Ljava/lang/StackTraceElement;" ∈ am_T := am_in 324 (by decide +kernel) (by decide +kernel)
theorem w_325 : Cond.lays "java/lang/IllegalStateException" "java/lang/Throwable" "suppressedExceptions" "Ljava/util/List;" ∈ am_T := am_in 325 (by decide +kernel) (by decide +kernel)
theorem w_326 : Cond.lays "java/lang/IllegalStateException" "java/lang/Throwable" "detailMessage" "Ljava/lang/String;" ∈ am_T := am_in 326 (by decide +kernel) (by decide +kernel)
theorem w_327 : Cond.lays "java/lang/IllegalStateException" "java/lang/Throwable" "backtrace" "Ljava/lang/Object;" ∈ am_T := am_in 327 (by decide +kernel) (by decide +kernel)
theorem w_329 : Cond.methodLink "WorkPlans" 68 ⟨"java/lang/IllegalStateException", "<init>", "(Ljava/lang/String;)V"⟩ ∈ am_T := am_in 329 (by decide +kernel) (by decide +kernel)
theorem w_330 : Cond.instanceMethod ⟨"java/lang/IllegalStateException", "<init>", "(Ljava/lang/String;)V"⟩ ∈ am_T := am_in 330 (by decide +kernel) (by decide +kernel)
theorem w_331 : Cond.code ⟨"java/lang/IllegalStateException", "<init>", "(Ljava/lang/String;)V"⟩ prog_10_method_2_code 2 none ∈ am_T := am_in 331 (by decide +kernel) (by decide +kernel)
theorem w_332 : Cond.methodLink "java/lang/IllegalStateException" 7 ⟨"java/lang/RuntimeException", "<init>", "(Ljava/lang/String;)V"⟩ ∈ am_T := am_in 332 (by decide +kernel) (by decide +kernel)
theorem w_333 : Cond.lays "java/lang/IllegalStateException" "java/lang/Throwable" "depth" "I" ∈ am_T := am_in 333 (by decide +kernel) (by decide +kernel)
theorem w_334 : Cond.superclass "java/lang/IllegalStateException" "java/lang/RuntimeException" ∈ am_T := am_in 334 (by decide +kernel) (by decide +kernel)
theorem w_335 : Cond.methodLink "WorkPlans" 69 ⟨"WorkPlans$Shop", "addMachine", "(I)I"⟩ ∈ am_T := am_in 335 (by decide +kernel) (by decide +kernel)
theorem w_336 : Cond.instanceMethod ⟨"WorkPlans$Shop", "addMachine", "(I)I"⟩ ∈ am_T := am_in 336 (by decide +kernel) (by decide +kernel)
theorem w_337 : Cond.selects "WorkPlans$Shop" ⟨"WorkPlans$Shop", "addMachine", "(I)I"⟩ ⟨"WorkPlans$Shop", "addMachine", "(I)I"⟩ ∈ am_T := am_in 337 (by decide +kernel) (by decide +kernel)
theorem w_338 : Cond.code ⟨"WorkPlans$Shop", "addMachine", "(I)I"⟩ prog_5_method_2_code 3 (some FieldType.int) ∈ am_T := am_in 338 (by decide +kernel) (by decide +kernel)
theorem w_339 : Cond.methodLink "WorkPlansLaw" 83 ⟨"WorkPlansLaw", "out", "(LWorkPlans;III[J)I"⟩ ∈ am_T := am_in 339 (by decide +kernel) (by decide +kernel)
theorem w_340 : Cond.static ⟨"WorkPlansLaw", "out", "(LWorkPlans;III[J)I"⟩ ∈ am_T := am_in 340 (by decide +kernel) (by decide +kernel)
theorem w_341 : Cond.codeWith ⟨"WorkPlansLaw", "out", "(LWorkPlans;III[J)I"⟩ method_4_code 6 (some FieldType.int) [(0, 12, 15, 21), (0, 12, 19, 13), (0, 12, 23, 15)] ∈ am_T := am_in 341 (by decide +kernel) (by decide +kernel)
theorem w_342 : Cond.classLink "WorkPlansLaw" 21 "java/lang/IndexOutOfBoundsException" ∈ am_T := am_in 342 (by decide +kernel) (by decide +kernel)
theorem w_343 : Cond.methodLink "WorkPlansLaw" 17 ⟨"WorkPlans", "out", "(III)I"⟩ ∈ am_T := am_in 343 (by decide +kernel) (by decide +kernel)
theorem w_344 : Cond.instanceMethod ⟨"WorkPlans", "out", "(III)I"⟩ ∈ am_T := am_in 344 (by decide +kernel) (by decide +kernel)
theorem w_345 : Cond.selects "WorkPlans" ⟨"WorkPlans", "out", "(III)I"⟩ ⟨"WorkPlans", "out", "(III)I"⟩ ∈ am_T := am_in 345 (by decide +kernel) (by decide +kernel)
theorem w_346 : Cond.code ⟨"WorkPlans", "out", "(III)I"⟩ prog_1_method_3_code 4 (some FieldType.int) ∈ am_T := am_in 346 (by decide +kernel) (by decide +kernel)
theorem w_347 : Cond.classLink "WorkPlans" 73 "java/lang/IndexOutOfBoundsException" ∈ am_T := am_in 347 (by decide +kernel) (by decide +kernel)
theorem w_348 : Cond.instantiable "java/lang/IndexOutOfBoundsException" 6 ∈ am_T := am_in 348 (by decide +kernel) (by decide +kernel)
theorem w_350 : Cond.selects "java/lang/IndexOutOfBoundsException" ⟨"java/lang/Throwable", "fillInStackTrace", "(I)Ljava/lang/Throwable;"⟩ ⟨"java/lang/Throwable", "fillInStackTrace", "(I)Ljava/lang/Throwable;"⟩ ∈ am_T := am_in 350 (by decide +kernel) (by decide +kernel)
theorem w_351 : Cond.lays "java/lang/IndexOutOfBoundsException" "java/lang/Throwable" "cause" "Ljava/lang/Throwable;" ∈ am_T := am_in 351 (by decide +kernel) (by decide +kernel)
theorem w_352 : Cond.lays "java/lang/IndexOutOfBoundsException" "java/lang/Throwable" "stackTrace" "[Ljava/lang/StackTraceElement;" ∈ am_T := am_in 352 (by decide +kernel) (by decide +kernel)
theorem w_353 : Cond.lays "java/lang/IndexOutOfBoundsException" "java/lang/Throwable" "suppressedExceptions" "Ljava/util/List;" ∈ am_T := am_in 353 (by decide +kernel) (by decide +kernel)
theorem w_354 : Cond.lays "java/lang/IndexOutOfBoundsException" "java/lang/Throwable" "detailMessage" "Ljava/lang/String;" ∈ am_T := am_in 354 (by decide +kernel) (by decide +kernel)
theorem w_355 : Cond.lays "java/lang/IndexOutOfBoundsException" "java/lang/Throwable" "backtrace" "Ljava/lang/Object;" ∈ am_T := am_in 355 (by decide +kernel) (by decide +kernel)
theorem w_357 : Cond.methodLink "WorkPlans" 77 ⟨"java/lang/IndexOutOfBoundsException", "<init>", "(Ljava/lang/String;)V"⟩ ∈ am_T := am_in 357 (by decide +kernel) (by decide +kernel)
theorem w_358 : Cond.instanceMethod ⟨"java/lang/IndexOutOfBoundsException", "<init>", "(Ljava/lang/String;)V"⟩ ∈ am_T := am_in 358 (by decide +kernel) (by decide +kernel)
theorem w_359 : Cond.code ⟨"java/lang/IndexOutOfBoundsException", "<init>", "(Ljava/lang/String;)V"⟩ prog_11_method_2_code 2 none ∈ am_T := am_in 359 (by decide +kernel) (by decide +kernel)
theorem w_360 : Cond.methodLink "java/lang/IndexOutOfBoundsException" 7 ⟨"java/lang/RuntimeException", "<init>", "(Ljava/lang/String;)V"⟩ ∈ am_T := am_in 360 (by decide +kernel) (by decide +kernel)
theorem w_361 : Cond.lays "java/lang/IndexOutOfBoundsException" "java/lang/Throwable" "depth" "I" ∈ am_T := am_in 361 (by decide +kernel) (by decide +kernel)
theorem w_362 : Cond.superclass "java/lang/IndexOutOfBoundsException" "java/lang/RuntimeException" ∈ am_T := am_in 362 (by decide +kernel) (by decide +kernel)
theorem w_365 : Cond.methodLink "WorkPlans" 86 ⟨"WorkPlans$Shop", "addSpan", "(III)I"⟩ ∈ am_T := am_in 365 (by decide +kernel) (by decide +kernel)
theorem w_366 : Cond.instanceMethod ⟨"WorkPlans$Shop", "addSpan", "(III)I"⟩ ∈ am_T := am_in 366 (by decide +kernel) (by decide +kernel)
theorem w_367 : Cond.selects "WorkPlans$Shop" ⟨"WorkPlans$Shop", "addSpan", "(III)I"⟩ ⟨"WorkPlans$Shop", "addSpan", "(III)I"⟩ ∈ am_T := am_in 367 (by decide +kernel) (by decide +kernel)
theorem w_368 : Cond.code ⟨"WorkPlans$Shop", "addSpan", "(III)I"⟩ prog_5_method_3_code 5 (some FieldType.int) ∈ am_T := am_in 368 (by decide +kernel) (by decide +kernel)
theorem w_369 : Cond.methodLink "WorkPlansLaw" 87 ⟨"WorkPlansLaw", "job", "(LWorkPlans;II[J)I"⟩ ∈ am_T := am_in 369 (by decide +kernel) (by decide +kernel)
theorem w_370 : Cond.static ⟨"WorkPlansLaw", "job", "(LWorkPlans;II[J)I"⟩ ∈ am_T := am_in 370 (by decide +kernel) (by decide +kernel)
theorem w_371 : Cond.codeWith ⟨"WorkPlansLaw", "job", "(LWorkPlans;II[J)I"⟩ method_5_code 5 (some FieldType.int) [(0, 10, 13, 13), (0, 10, 17, 15)] ∈ am_T := am_in 371 (by decide +kernel) (by decide +kernel)
theorem w_372 : Cond.methodLink "WorkPlansLaw" 23 ⟨"WorkPlans", "job", "(II)I"⟩ ∈ am_T := am_in 372 (by decide +kernel) (by decide +kernel)
theorem w_373 : Cond.instanceMethod ⟨"WorkPlans", "job", "(II)I"⟩ ∈ am_T := am_in 373 (by decide +kernel) (by decide +kernel)
theorem w_374 : Cond.selects "WorkPlans" ⟨"WorkPlans", "job", "(II)I"⟩ ⟨"WorkPlans", "job", "(II)I"⟩ ∈ am_T := am_in 374 (by decide +kernel) (by decide +kernel)
theorem w_375 : Cond.code ⟨"WorkPlans", "job", "(II)I"⟩ prog_1_method_4_code 3 (some FieldType.int) ∈ am_T := am_in 375 (by decide +kernel) (by decide +kernel)
theorem w_378 : Cond.methodLink "WorkPlans" 97 ⟨"WorkPlans$Shop", "addJob", "(II)I"⟩ ∈ am_T := am_in 378 (by decide +kernel) (by decide +kernel)
theorem w_379 : Cond.instanceMethod ⟨"WorkPlans$Shop", "addJob", "(II)I"⟩ ∈ am_T := am_in 379 (by decide +kernel) (by decide +kernel)
theorem w_380 : Cond.selects "WorkPlans$Shop" ⟨"WorkPlans$Shop", "addJob", "(II)I"⟩ ⟨"WorkPlans$Shop", "addJob", "(II)I"⟩ ∈ am_T := am_in 380 (by decide +kernel) (by decide +kernel)
theorem w_381 : Cond.code ⟨"WorkPlans$Shop", "addJob", "(II)I"⟩ prog_5_method_4_code 4 (some FieldType.int) ∈ am_T := am_in 381 (by decide +kernel) (by decide +kernel)
theorem w_382 : Cond.methodLink "WorkPlansLaw" 91 ⟨"WorkPlansLaw", "due", "(LWorkPlans;II)I"⟩ ∈ am_T := am_in 382 (by decide +kernel) (by decide +kernel)
theorem w_383 : Cond.static ⟨"WorkPlansLaw", "due", "(LWorkPlans;II)I"⟩ ∈ am_T := am_in 383 (by decide +kernel) (by decide +kernel)
theorem w_384 : Cond.codeWith ⟨"WorkPlansLaw", "due", "(LWorkPlans;II)I"⟩ method_6_code 4 (some FieldType.int) [(0, 6, 9, 21), (0, 6, 12, 13)] ∈ am_T := am_in 384 (by decide +kernel) (by decide +kernel)
theorem w_385 : Cond.methodLink "WorkPlansLaw" 27 ⟨"WorkPlans", "due", "(II)V"⟩ ∈ am_T := am_in 385 (by decide +kernel) (by decide +kernel)
theorem w_386 : Cond.instanceMethod ⟨"WorkPlans", "due", "(II)V"⟩ ∈ am_T := am_in 386 (by decide +kernel) (by decide +kernel)
theorem w_387 : Cond.selects "WorkPlans" ⟨"WorkPlans", "due", "(II)V"⟩ ⟨"WorkPlans", "due", "(II)V"⟩ ∈ am_T := am_in 387 (by decide +kernel) (by decide +kernel)
theorem w_388 : Cond.code ⟨"WorkPlans", "due", "(II)V"⟩ prog_1_method_5_code 3 none ∈ am_T := am_in 388 (by decide +kernel) (by decide +kernel)
theorem w_389 : Cond.methodLink "WorkPlans" 101 ⟨"WorkPlans", "demandJob", "(I)V"⟩ ∈ am_T := am_in 389 (by decide +kernel) (by decide +kernel)
theorem w_391 : Cond.instanceMethod ⟨"WorkPlans", "demandJob", "(I)V"⟩ ∈ am_T := am_in 391 (by decide +kernel) (by decide +kernel)
theorem w_392 : Cond.code ⟨"WorkPlans", "demandJob", "(I)V"⟩ prog_1_method_18_code 2 none ∈ am_T := am_in 392 (by decide +kernel) (by decide +kernel)
theorem w_395 : Cond.methodLink "WorkPlansLaw" 95 ⟨"WorkPlansLaw", "step", "(LWorkPlans;IIII[J)I"⟩ ∈ am_T := am_in 395 (by decide +kernel) (by decide +kernel)
theorem w_396 : Cond.static ⟨"WorkPlansLaw", "step", "(LWorkPlans;IIII[J)I"⟩ ∈ am_T := am_in 396 (by decide +kernel) (by decide +kernel)
theorem w_397 : Cond.codeWith ⟨"WorkPlansLaw", "step", "(LWorkPlans;IIII[J)I"⟩ method_7_code 7 (some FieldType.int) [(0, 14, 17, 21), (0, 14, 21, 13), (0, 14, 25, 15)] ∈ am_T := am_in 397 (by decide +kernel) (by decide +kernel)
theorem w_398 : Cond.methodLink "WorkPlansLaw" 31 ⟨"WorkPlans", "step", "(IIII)I"⟩ ∈ am_T := am_in 398 (by decide +kernel) (by decide +kernel)
theorem w_399 : Cond.instanceMethod ⟨"WorkPlans", "step", "(IIII)I"⟩ ∈ am_T := am_in 399 (by decide +kernel) (by decide +kernel)
theorem w_400 : Cond.selects "WorkPlans" ⟨"WorkPlans", "step", "(IIII)I"⟩ ⟨"WorkPlans", "step", "(IIII)I"⟩ ∈ am_T := am_in 400 (by decide +kernel) (by decide +kernel)
theorem w_401 : Cond.code ⟨"WorkPlans", "step", "(IIII)I"⟩ prog_1_method_6_code 5 (some FieldType.int) ∈ am_T := am_in 401 (by decide +kernel) (by decide +kernel)
theorem w_404 : Cond.methodLink "WorkPlans" 120 ⟨"WorkPlans$Shop", "addStep", "(IIII)I"⟩ ∈ am_T := am_in 404 (by decide +kernel) (by decide +kernel)
theorem w_405 : Cond.instanceMethod ⟨"WorkPlans$Shop", "addStep", "(IIII)I"⟩ ∈ am_T := am_in 405 (by decide +kernel) (by decide +kernel)
theorem w_406 : Cond.selects "WorkPlans$Shop" ⟨"WorkPlans$Shop", "addStep", "(IIII)I"⟩ ⟨"WorkPlans$Shop", "addStep", "(IIII)I"⟩ ∈ am_T := am_in 406 (by decide +kernel) (by decide +kernel)
theorem w_407 : Cond.code ⟨"WorkPlans$Shop", "addStep", "(IIII)I"⟩ prog_5_method_5_code 6 (some FieldType.int) ∈ am_T := am_in 407 (by decide +kernel) (by decide +kernel)
theorem w_408 : Cond.methodLink "WorkPlans$Shop" 58 ⟨"WorkPlans$Shop", "lastStep", "(I)I"⟩ ∈ am_T := am_in 408 (by decide +kernel) (by decide +kernel)
theorem w_409 : Cond.instanceMethod ⟨"WorkPlans$Shop", "lastStep", "(I)I"⟩ ∈ am_T := am_in 409 (by decide +kernel) (by decide +kernel)
theorem w_410 : Cond.selects "WorkPlans$Shop" ⟨"WorkPlans$Shop", "lastStep", "(I)I"⟩ ⟨"WorkPlans$Shop", "lastStep", "(I)I"⟩ ∈ am_T := am_in 410 (by decide +kernel) (by decide +kernel)
theorem w_411 : Cond.code ⟨"WorkPlans$Shop", "lastStep", "(I)I"⟩ prog_5_method_6_code 2 (some FieldType.int) ∈ am_T := am_in 411 (by decide +kernel) (by decide +kernel)
theorem w_412 : Cond.methodLink "WorkPlansLaw" 99 ⟨"WorkPlansLaw", "run", "(LWorkPlans;I[J)I"⟩ ∈ am_T := am_in 412 (by decide +kernel) (by decide +kernel)
theorem w_413 : Cond.static ⟨"WorkPlansLaw", "run", "(LWorkPlans;I[J)I"⟩ ∈ am_T := am_in 413 (by decide +kernel) (by decide +kernel)
theorem w_414 : Cond.codeWith ⟨"WorkPlansLaw", "run", "(LWorkPlans;I[J)I"⟩ method_8_code 4 (some FieldType.int) [(0, 9, 12, 13), (0, 9, 15, 15)] ∈ am_T := am_in 414 (by decide +kernel) (by decide +kernel)
theorem w_415 : Cond.methodLink "WorkPlansLaw" 35 ⟨"WorkPlans", "run", "(I)I"⟩ ∈ am_T := am_in 415 (by decide +kernel) (by decide +kernel)
theorem w_416 : Cond.instanceMethod ⟨"WorkPlans", "run", "(I)I"⟩ ∈ am_T := am_in 416 (by decide +kernel) (by decide +kernel)
theorem w_417 : Cond.selects "WorkPlans" ⟨"WorkPlans", "run", "(I)I"⟩ ⟨"WorkPlans", "run", "(I)I"⟩ ∈ am_T := am_in 417 (by decide +kernel) (by decide +kernel)
theorem w_418 : Cond.code ⟨"WorkPlans", "run", "(I)I"⟩ prog_1_method_7_code 3 (some FieldType.int) ∈ am_T := am_in 418 (by decide +kernel) (by decide +kernel)
theorem w_420 : Cond.methodLink "WorkPlans" 126 ⟨"WorkPlans$Shop", "allFit", "()Z"⟩ ∈ am_T := am_in 420 (by decide +kernel) (by decide +kernel)
theorem w_421 : Cond.instanceMethod ⟨"WorkPlans$Shop", "allFit", "()Z"⟩ ∈ am_T := am_in 421 (by decide +kernel) (by decide +kernel)
theorem w_422 : Cond.selects "WorkPlans$Shop" ⟨"WorkPlans$Shop", "allFit", "()Z"⟩ ⟨"WorkPlans$Shop", "allFit", "()Z"⟩ ∈ am_T := am_in 422 (by decide +kernel) (by decide +kernel)
theorem w_423 : Cond.code ⟨"WorkPlans$Shop", "allFit", "()Z"⟩ prog_5_method_8_code 2 (some FieldType.boolean) ∈ am_T := am_in 423 (by decide +kernel) (by decide +kernel)
theorem w_424 : Cond.methodLink "WorkPlans$Shop" 66 ⟨"WorkPlans$Shop", "fits", "(I)Z"⟩ ∈ am_T := am_in 424 (by decide +kernel) (by decide +kernel)
theorem w_425 : Cond.instanceMethod ⟨"WorkPlans$Shop", "fits", "(I)Z"⟩ ∈ am_T := am_in 425 (by decide +kernel) (by decide +kernel)
theorem w_426 : Cond.selects "WorkPlans$Shop" ⟨"WorkPlans$Shop", "fits", "(I)Z"⟩ ⟨"WorkPlans$Shop", "fits", "(I)Z"⟩ ∈ am_T := am_in 426 (by decide +kernel) (by decide +kernel)
theorem w_427 : Cond.code ⟨"WorkPlans$Shop", "fits", "(I)Z"⟩ prog_5_method_7_code 3 (some FieldType.boolean) ∈ am_T := am_in 427 (by decide +kernel) (by decide +kernel)
theorem w_428 : Cond.methodLink "WorkPlans$Shop" 62 ⟨"WorkPlans$Shop", "hasMachine", "(I)Z"⟩ ∈ am_T := am_in 428 (by decide +kernel) (by decide +kernel)
theorem w_430 : Cond.instanceMethod ⟨"WorkPlans$Shop", "hasMachine", "(I)Z"⟩ ∈ am_T := am_in 430 (by decide +kernel) (by decide +kernel)
theorem w_431 : Cond.code ⟨"WorkPlans$Shop", "hasMachine", "(I)Z"⟩ prog_5_method_10_code 3 (some FieldType.boolean) ∈ am_T := am_in 431 (by decide +kernel) (by decide +kernel)
theorem w_433 : Cond.methodLink "WorkPlans" 132 ⟨"WorkPlans$Search", "findBest", "(I)Z"⟩ ∈ am_T := am_in 433 (by decide +kernel) (by decide +kernel)
theorem w_434 : Cond.instanceMethod ⟨"WorkPlans$Search", "findBest", "(I)Z"⟩ ∈ am_T := am_in 434 (by decide +kernel) (by decide +kernel)
theorem w_435 : Cond.selects "WorkPlans$Search" ⟨"WorkPlans$Search", "findBest", "(I)Z"⟩ ⟨"WorkPlans$Search", "findBest", "(I)Z"⟩ ∈ am_T := am_in 435 (by decide +kernel) (by decide +kernel)
theorem w_436 : Cond.code ⟨"WorkPlans$Search", "findBest", "(I)Z"⟩ prog_4_method_2_code 3 (some FieldType.boolean) ∈ am_T := am_in 436 (by decide +kernel) (by decide +kernel)
theorem w_437 : Cond.methodLink "WorkPlans$Search" 53 ⟨"WorkPlans$Floor", "costAlone", "(I)J"⟩ ∈ am_T := am_in 437 (by decide +kernel) (by decide +kernel)
theorem w_438 : Cond.instanceMethod ⟨"WorkPlans$Floor", "costAlone", "(I)J"⟩ ∈ am_T := am_in 438 (by decide +kernel) (by decide +kernel)
theorem w_439 : Cond.selects "WorkPlans$Floor" ⟨"WorkPlans$Floor", "costAlone", "(I)J"⟩ ⟨"WorkPlans$Floor", "costAlone", "(I)J"⟩ ∈ am_T := am_in 439 (by decide +kernel) (by decide +kernel)
theorem w_440 : Cond.code ⟨"WorkPlans$Floor", "costAlone", "(I)J"⟩ prog_2_method_7_code 2 (some FieldType.long) ∈ am_T := am_in 440 (by decide +kernel) (by decide +kernel)
theorem w_441 : Cond.methodLink "WorkPlans$Floor" 66 ⟨"WorkPlans$Floor", "clear", "()V"⟩ ∈ am_T := am_in 441 (by decide +kernel) (by decide +kernel)
theorem w_442 : Cond.instanceMethod ⟨"WorkPlans$Floor", "clear", "()V"⟩ ∈ am_T := am_in 442 (by decide +kernel) (by decide +kernel)
theorem w_443 : Cond.selects "WorkPlans$Floor" ⟨"WorkPlans$Floor", "clear", "()V"⟩ ⟨"WorkPlans$Floor", "clear", "()V"⟩ ∈ am_T := am_in 443 (by decide +kernel) (by decide +kernel)
theorem w_444 : Cond.code ⟨"WorkPlans$Floor", "clear", "()V"⟩ prog_2_method_2_code 4 none ∈ am_T := am_in 444 (by decide +kernel) (by decide +kernel)
theorem w_445 : Cond.methodLink "WorkPlans$Floor" 46 ⟨"WorkPlans$Floor", "addBusy", "(III)V"⟩ ∈ am_T := am_in 445 (by decide +kernel) (by decide +kernel)
theorem w_447 : Cond.instanceMethod ⟨"WorkPlans$Floor", "addBusy", "(III)V"⟩ ∈ am_T := am_in 447 (by decide +kernel) (by decide +kernel)
theorem w_448 : Cond.code ⟨"WorkPlans$Floor", "addBusy", "(III)V"⟩ prog_2_method_12_code 5 none ∈ am_T := am_in 448 (by decide +kernel) (by decide +kernel)
theorem w_449 : Cond.methodLink "WorkPlans$Floor" 69 ⟨"WorkPlans$Floor", "place", "(I)I"⟩ ∈ am_T := am_in 449 (by decide +kernel) (by decide +kernel)
theorem w_450 : Cond.instanceMethod ⟨"WorkPlans$Floor", "place", "(I)I"⟩ ∈ am_T := am_in 450 (by decide +kernel) (by decide +kernel)
theorem w_451 : Cond.selects "WorkPlans$Floor" ⟨"WorkPlans$Floor", "place", "(I)I"⟩ ⟨"WorkPlans$Floor", "place", "(I)I"⟩ ∈ am_T := am_in 451 (by decide +kernel) (by decide +kernel)
theorem w_452 : Cond.code ⟨"WorkPlans$Floor", "place", "(I)I"⟩ prog_2_method_3_code 6 (some FieldType.int) ∈ am_T := am_in 452 (by decide +kernel) (by decide +kernel)
theorem w_453 : Cond.methodLink "WorkPlans$Floor" 56 ⟨"WorkPlans$Floor", "placeStep", "(II)I"⟩ ∈ am_T := am_in 453 (by decide +kernel) (by decide +kernel)
theorem w_455 : Cond.instanceMethod ⟨"WorkPlans$Floor", "placeStep", "(II)I"⟩ ∈ am_T := am_in 455 (by decide +kernel) (by decide +kernel)
theorem w_456 : Cond.code ⟨"WorkPlans$Floor", "placeStep", "(II)I"⟩ prog_2_method_10_code 7 (some FieldType.int) ∈ am_T := am_in 456 (by decide +kernel) (by decide +kernel)
theorem w_457 : Cond.methodLink "WorkPlans$Floor" 90 ⟨"WorkPlans$Floor", "firstBegin", "(III)I"⟩ ∈ am_T := am_in 457 (by decide +kernel) (by decide +kernel)
theorem w_459 : Cond.instanceMethod ⟨"WorkPlans$Floor", "firstBegin", "(III)I"⟩ ∈ am_T := am_in 459 (by decide +kernel) (by decide +kernel)
theorem w_460 : Cond.code ⟨"WorkPlans$Floor", "firstBegin", "(III)I"⟩ prog_2_method_11_code 9 (some FieldType.int) ∈ am_T := am_in 460 (by decide +kernel) (by decide +kernel)
theorem w_462 : Cond.static ⟨"WorkPlans", "shareAnHour", "(IIII)Z"⟩ ∈ am_T := am_in 462 (by decide +kernel) (by decide +kernel)
theorem w_463 : Cond.code ⟨"WorkPlans", "shareAnHour", "(IIII)Z"⟩ prog_1_method_17_code 4 (some FieldType.boolean) ∈ am_T := am_in 463 (by decide +kernel) (by decide +kernel)
theorem w_464 : Cond.methodLink "WorkPlans$Floor" 94 ⟨"WorkPlans$Floor", "put", "(III)V"⟩ ∈ am_T := am_in 464 (by decide +kernel) (by decide +kernel)
theorem w_465 : Cond.instanceMethod ⟨"WorkPlans$Floor", "put", "(III)V"⟩ ∈ am_T := am_in 465 (by decide +kernel) (by decide +kernel)
theorem w_466 : Cond.selects "WorkPlans$Floor" ⟨"WorkPlans$Floor", "put", "(III)V"⟩ ⟨"WorkPlans$Floor", "put", "(III)V"⟩ ∈ am_T := am_in 466 (by decide +kernel) (by decide +kernel)
theorem w_467 : Cond.code ⟨"WorkPlans$Floor", "put", "(III)V"⟩ prog_2_method_5_code 4 none ∈ am_T := am_in 467 (by decide +kernel) (by decide +kernel)
theorem w_468 : Cond.methodLink "WorkPlans$Floor" 73 ⟨"WorkPlans$Shop", "costOf", "(II)J"⟩ ∈ am_T := am_in 468 (by decide +kernel) (by decide +kernel)
theorem w_469 : Cond.instanceMethod ⟨"WorkPlans$Shop", "costOf", "(II)J"⟩ ∈ am_T := am_in 469 (by decide +kernel) (by decide +kernel)
theorem w_470 : Cond.selects "WorkPlans$Shop" ⟨"WorkPlans$Shop", "costOf", "(II)J"⟩ ⟨"WorkPlans$Shop", "costOf", "(II)J"⟩ ∈ am_T := am_in 470 (by decide +kernel) (by decide +kernel)
theorem w_471 : Cond.code ⟨"WorkPlans$Shop", "costOf", "(II)J"⟩ prog_5_method_9_code 5 (some FieldType.long) ∈ am_T := am_in 471 (by decide +kernel) (by decide +kernel)
theorem w_472 : Cond.methodLink "WorkPlans$Search" 59 ⟨"WorkPlans$Search", "orderByDue", "()V"⟩ ∈ am_T := am_in 472 (by decide +kernel) (by decide +kernel)
theorem w_474 : Cond.instanceMethod ⟨"WorkPlans$Search", "orderByDue", "()V"⟩ ∈ am_T := am_in 474 (by decide +kernel) (by decide +kernel)
theorem w_475 : Cond.code ⟨"WorkPlans$Search", "orderByDue", "()V"⟩ prog_4_method_3_code 3 none ∈ am_T := am_in 475 (by decide +kernel) (by decide +kernel)
theorem w_476 : Cond.methodLink "WorkPlans$Search" 62 ⟨"WorkPlans$Floor", "costInOrder", "([II)J"⟩ ∈ am_T := am_in 476 (by decide +kernel) (by decide +kernel)
theorem w_477 : Cond.instanceMethod ⟨"WorkPlans$Floor", "costInOrder", "([II)J"⟩ ∈ am_T := am_in 477 (by decide +kernel) (by decide +kernel)
theorem w_478 : Cond.selects "WorkPlans$Floor" ⟨"WorkPlans$Floor", "costInOrder", "([II)J"⟩ ⟨"WorkPlans$Floor", "costInOrder", "([II)J"⟩ ∈ am_T := am_in 478 (by decide +kernel) (by decide +kernel)
theorem w_479 : Cond.code ⟨"WorkPlans$Floor", "costInOrder", "([II)J"⟩ prog_2_method_6_code 6 (some FieldType.long) ∈ am_T := am_in 479 (by decide +kernel) (by decide +kernel)
theorem w_480 : Cond.methodLink "WorkPlans$Search" 66 ⟨"WorkPlans$Floor", "clear", "()V"⟩ ∈ am_T := am_in 480 (by decide +kernel) (by decide +kernel)
theorem w_481 : Cond.methodLink "WorkPlans$Search" 69 ⟨"WorkPlans$Search", "goOn", "(IJJ)Z"⟩ ∈ am_T := am_in 481 (by decide +kernel) (by decide +kernel)
theorem w_483 : Cond.instanceMethod ⟨"WorkPlans$Search", "goOn", "(IJJ)Z"⟩ ∈ am_T := am_in 483 (by decide +kernel) (by decide +kernel)
theorem w_484 : Cond.code ⟨"WorkPlans$Search", "goOn", "(IJJ)Z"⟩ prog_4_method_4_code 9 (some FieldType.boolean) ∈ am_T := am_in 484 (by decide +kernel) (by decide +kernel)
theorem w_485 : Cond.methodLink "WorkPlans$Search" 76 ⟨"WorkPlans$Floor", "place", "(I)I"⟩ ∈ am_T := am_in 485 (by decide +kernel) (by decide +kernel)
theorem w_486 : Cond.methodLink "WorkPlans$Search" 80 ⟨"WorkPlans$Shop", "costOf", "(II)J"⟩ ∈ am_T := am_in 486 (by decide +kernel) (by decide +kernel)
theorem w_487 : Cond.methodLink "WorkPlans$Search" 84 ⟨"WorkPlans$Search", "follow", "(IJJ)Z"⟩ ∈ am_T := am_in 487 (by decide +kernel) (by decide +kernel)
theorem w_489 : Cond.instanceMethod ⟨"WorkPlans$Search", "follow", "(IJJ)Z"⟩ ∈ am_T := am_in 489 (by decide +kernel) (by decide +kernel)
theorem w_490 : Cond.code ⟨"WorkPlans$Search", "follow", "(IJJ)Z"⟩ prog_4_method_5_code 8 (some FieldType.boolean) ∈ am_T := am_in 490 (by decide +kernel) (by decide +kernel)
theorem w_491 : Cond.methodLink "WorkPlans$Search" 91 ⟨"java/lang/System", "arraycopy", "(Ljava/lang/Object;ILjava/lang/Object;II)V"⟩ ∈ am_T := am_in 491 (by decide +kernel) (by decide +kernel)
theorem w_492 : Cond.static ⟨"java/lang/System", "arraycopy", "(Ljava/lang/Object;ILjava/lang/Object;II)V"⟩ ∈ am_T := am_in 492 (by decide +kernel) (by decide +kernel)
theorem w_493 : Cond.native ⟨"java/lang/System", "arraycopy", "(Ljava/lang/Object;ILjava/lang/Object;II)V"⟩ ∈ am_T := am_in 493 (by decide +kernel) (by decide +kernel)
theorem w_494 : Cond.methodLink "WorkPlans$Search" 87 ⟨"WorkPlans$Floor", "lift", "(I)V"⟩ ∈ am_T := am_in 494 (by decide +kernel) (by decide +kernel)
theorem w_495 : Cond.instanceMethod ⟨"WorkPlans$Floor", "lift", "(I)V"⟩ ∈ am_T := am_in 495 (by decide +kernel) (by decide +kernel)
theorem w_496 : Cond.selects "WorkPlans$Floor" ⟨"WorkPlans$Floor", "lift", "(I)V"⟩ ⟨"WorkPlans$Floor", "lift", "(I)V"⟩ ∈ am_T := am_in 496 (by decide +kernel) (by decide +kernel)
theorem w_497 : Cond.code ⟨"WorkPlans$Floor", "lift", "(I)V"⟩ prog_2_method_4_code 4 none ∈ am_T := am_in 497 (by decide +kernel) (by decide +kernel)
theorem w_498 : Cond.methodLink "WorkPlans" 139 ⟨"WorkPlans$Plan", "take", "([ILWorkPlans$Floor;)V"⟩ ∈ am_T := am_in 498 (by decide +kernel) (by decide +kernel)
theorem w_499 : Cond.instanceMethod ⟨"WorkPlans$Plan", "take", "([ILWorkPlans$Floor;)V"⟩ ∈ am_T := am_in 499 (by decide +kernel) (by decide +kernel)
theorem w_500 : Cond.selects "WorkPlans$Plan" ⟨"WorkPlans$Plan", "take", "([ILWorkPlans$Floor;)V"⟩ ⟨"WorkPlans$Plan", "take", "([ILWorkPlans$Floor;)V"⟩ ∈ am_T := am_in 500 (by decide +kernel) (by decide +kernel)
theorem w_501 : Cond.code ⟨"WorkPlans$Plan", "take", "([ILWorkPlans$Floor;)V"⟩ prog_3_method_4_code 4 none ∈ am_T := am_in 501 (by decide +kernel) (by decide +kernel)
theorem w_502 : Cond.methodLink "WorkPlans$Plan" 48 ⟨"WorkPlans$Floor", "costInOrder", "([II)J"⟩ ∈ am_T := am_in 502 (by decide +kernel) (by decide +kernel)
theorem w_503 : Cond.methodLink "WorkPlans$Plan" 55 ⟨"WorkPlans$Plan", "has", "(I)Z"⟩ ∈ am_T := am_in 503 (by decide +kernel) (by decide +kernel)
theorem w_504 : Cond.instanceMethod ⟨"WorkPlans$Plan", "has", "(I)Z"⟩ ∈ am_T := am_in 504 (by decide +kernel) (by decide +kernel)
theorem w_505 : Cond.selects "WorkPlans$Plan" ⟨"WorkPlans$Plan", "has", "(I)Z"⟩ ⟨"WorkPlans$Plan", "has", "(I)Z"⟩ ∈ am_T := am_in 505 (by decide +kernel) (by decide +kernel)
theorem w_506 : Cond.code ⟨"WorkPlans$Plan", "has", "(I)Z"⟩ prog_3_method_3_code 2 (some FieldType.boolean) ∈ am_T := am_in 506 (by decide +kernel) (by decide +kernel)
theorem w_507 : Cond.methodLink "WorkPlans$Plan" 61 ⟨"java/lang/System", "arraycopy", "(Ljava/lang/Object;ILjava/lang/Object;II)V"⟩ ∈ am_T := am_in 507 (by decide +kernel) (by decide +kernel)
theorem w_508 : Cond.methodLink "WorkPlansLaw" 102 ⟨"WorkPlansLaw", "improve", "(LWorkPlans;I[J)I"⟩ ∈ am_T := am_in 508 (by decide +kernel) (by decide +kernel)
theorem w_509 : Cond.static ⟨"WorkPlansLaw", "improve", "(LWorkPlans;I[J)I"⟩ ∈ am_T := am_in 509 (by decide +kernel) (by decide +kernel)
theorem w_510 : Cond.codeWith ⟨"WorkPlansLaw", "improve", "(LWorkPlans;I[J)I"⟩ method_9_code 4 (some FieldType.int) [(0, 9, 12, 13), (0, 9, 15, 15)] ∈ am_T := am_in 510 (by decide +kernel) (by decide +kernel)
theorem w_511 : Cond.methodLink "WorkPlansLaw" 38 ⟨"WorkPlans", "improve", "(I)I"⟩ ∈ am_T := am_in 511 (by decide +kernel) (by decide +kernel)
theorem w_512 : Cond.instanceMethod ⟨"WorkPlans", "improve", "(I)I"⟩ ∈ am_T := am_in 512 (by decide +kernel) (by decide +kernel)
theorem w_513 : Cond.selects "WorkPlans" ⟨"WorkPlans", "improve", "(I)I"⟩ ⟨"WorkPlans", "improve", "(I)I"⟩ ∈ am_T := am_in 513 (by decide +kernel) (by decide +kernel)
theorem w_514 : Cond.code ⟨"WorkPlans", "improve", "(I)I"⟩ prog_1_method_8_code 6 (some FieldType.int) ∈ am_T := am_in 514 (by decide +kernel) (by decide +kernel)
theorem w_516 : Cond.methodLink "WorkPlans" 153 ⟨"WorkPlans", "demandFreshPlan", "()V"⟩ ∈ am_T := am_in 516 (by decide +kernel) (by decide +kernel)
theorem w_518 : Cond.instanceMethod ⟨"WorkPlans", "demandFreshPlan", "()V"⟩ ∈ am_T := am_in 518 (by decide +kernel) (by decide +kernel)
theorem w_519 : Cond.code ⟨"WorkPlans", "demandFreshPlan", "()V"⟩ prog_1_method_20_code 1 none ∈ am_T := am_in 519 (by decide +kernel) (by decide +kernel)
theorem w_520 : Cond.methodLink "WorkPlans" 223 ⟨"WorkPlans$Plan", "exists", "()Z"⟩ ∈ am_T := am_in 520 (by decide +kernel) (by decide +kernel)
theorem w_521 : Cond.instanceMethod ⟨"WorkPlans$Plan", "exists", "()Z"⟩ ∈ am_T := am_in 521 (by decide +kernel) (by decide +kernel)
theorem w_522 : Cond.selects "WorkPlans$Plan" ⟨"WorkPlans$Plan", "exists", "()Z"⟩ ⟨"WorkPlans$Plan", "exists", "()Z"⟩ ∈ am_T := am_in 522 (by decide +kernel) (by decide +kernel)
theorem w_523 : Cond.code ⟨"WorkPlans$Plan", "exists", "()Z"⟩ prog_3_method_2_code 1 (some FieldType.boolean) ∈ am_T := am_in 523 (by decide +kernel) (by decide +kernel)
theorem w_525 : Cond.methodLink "WorkPlans" 157 ⟨"WorkPlans", "nextPlace", "(I)I"⟩ ∈ am_T := am_in 525 (by decide +kernel) (by decide +kernel)
theorem w_527 : Cond.instanceMethod ⟨"WorkPlans", "nextPlace", "(I)I"⟩ ∈ am_T := am_in 527 (by decide +kernel) (by decide +kernel)
theorem w_528 : Cond.code ⟨"WorkPlans", "nextPlace", "(I)I"⟩ prog_1_method_21_code 2 (some FieldType.int) ∈ am_T := am_in 528 (by decide +kernel) (by decide +kernel)
theorem w_529 : Cond.constantLong "WorkPlans" 230 6364136223846793005 ∈ am_T := am_in 529 (by decide +kernel) (by decide +kernel)
theorem w_530 : Cond.constantLong "WorkPlans" 232 1442695040888963407 ∈ am_T := am_in 530 (by decide +kernel) (by decide +kernel)
theorem w_531 : Cond.methodLink "WorkPlans" 160 ⟨"WorkPlans$Plan", "changeIfLess", "(IILWorkPlans$Floor;)Z"⟩ ∈ am_T := am_in 531 (by decide +kernel) (by decide +kernel)
theorem w_532 : Cond.instanceMethod ⟨"WorkPlans$Plan", "changeIfLess", "(IILWorkPlans$Floor;)Z"⟩ ∈ am_T := am_in 532 (by decide +kernel) (by decide +kernel)
theorem w_533 : Cond.selects "WorkPlans$Plan" ⟨"WorkPlans$Plan", "changeIfLess", "(IILWorkPlans$Floor;)Z"⟩ ⟨"WorkPlans$Plan", "changeIfLess", "(IILWorkPlans$Floor;)Z"⟩ ∈ am_T := am_in 533 (by decide +kernel) (by decide +kernel)
theorem w_534 : Cond.code ⟨"WorkPlans$Plan", "changeIfLess", "(IILWorkPlans$Floor;)Z"⟩ prog_3_method_5_code 6 (some FieldType.boolean) ∈ am_T := am_in 534 (by decide +kernel) (by decide +kernel)
theorem w_535 : Cond.methodLink "WorkPlans$Plan" 67 ⟨"WorkPlans$Plan", "swap", "(II)V"⟩ ∈ am_T := am_in 535 (by decide +kernel) (by decide +kernel)
theorem w_537 : Cond.instanceMethod ⟨"WorkPlans$Plan", "swap", "(II)V"⟩ ∈ am_T := am_in 537 (by decide +kernel) (by decide +kernel)
theorem w_538 : Cond.code ⟨"WorkPlans$Plan", "swap", "(II)V"⟩ prog_3_method_9_code 4 none ∈ am_T := am_in 538 (by decide +kernel) (by decide +kernel)
theorem w_539 : Cond.methodLink "WorkPlansLaw" 105 ⟨"WorkPlansLaw", "at", "(LWorkPlans;II[J)I"⟩ ∈ am_T := am_in 539 (by decide +kernel) (by decide +kernel)
theorem w_540 : Cond.static ⟨"WorkPlansLaw", "at", "(LWorkPlans;II[J)I"⟩ ∈ am_T := am_in 540 (by decide +kernel) (by decide +kernel)
theorem w_541 : Cond.codeWith ⟨"WorkPlansLaw", "at", "(LWorkPlans;II[J)I"⟩ method_10_code 5 (some FieldType.int) [(0, 10, 13, 21), (0, 10, 17, 15)] ∈ am_T := am_in 541 (by decide +kernel) (by decide +kernel)
theorem w_542 : Cond.methodLink "WorkPlansLaw" 41 ⟨"WorkPlans", "at", "(II)I"⟩ ∈ am_T := am_in 542 (by decide +kernel) (by decide +kernel)
theorem w_543 : Cond.instanceMethod ⟨"WorkPlans", "at", "(II)I"⟩ ∈ am_T := am_in 543 (by decide +kernel) (by decide +kernel)
theorem w_544 : Cond.selects "WorkPlans" ⟨"WorkPlans", "at", "(II)I"⟩ ⟨"WorkPlans", "at", "(II)I"⟩ ∈ am_T := am_in 544 (by decide +kernel) (by decide +kernel)
theorem w_545 : Cond.code ⟨"WorkPlans", "at", "(II)I"⟩ prog_1_method_9_code 3 (some FieldType.int) ∈ am_T := am_in 545 (by decide +kernel) (by decide +kernel)
theorem w_547 : Cond.methodLink "WorkPlans" 169 ⟨"WorkPlans", "demandPlan", "()V"⟩ ∈ am_T := am_in 547 (by decide +kernel) (by decide +kernel)
theorem w_549 : Cond.instanceMethod ⟨"WorkPlans", "demandPlan", "()V"⟩ ∈ am_T := am_in 549 (by decide +kernel) (by decide +kernel)
theorem w_550 : Cond.code ⟨"WorkPlans", "demandPlan", "()V"⟩ prog_1_method_19_code 1 none ∈ am_T := am_in 550 (by decide +kernel) (by decide +kernel)
theorem w_552 : Cond.methodLink "WorkPlans" 172 ⟨"WorkPlans$Plan", "has", "(I)Z"⟩ ∈ am_T := am_in 552 (by decide +kernel) (by decide +kernel)
theorem w_553 : Cond.methodLink "WorkPlansLaw" 108 ⟨"WorkPlansLaw", "order", "(LWorkPlans;I[J)I"⟩ ∈ am_T := am_in 553 (by decide +kernel) (by decide +kernel)
theorem w_554 : Cond.static ⟨"WorkPlansLaw", "order", "(LWorkPlans;I[J)I"⟩ ∈ am_T := am_in 554 (by decide +kernel) (by decide +kernel)
theorem w_555 : Cond.codeWith ⟨"WorkPlansLaw", "order", "(LWorkPlans;I[J)I"⟩ method_11_code 4 (some FieldType.int) [(0, 9, 12, 15), (0, 9, 15, 21)] ∈ am_T := am_in 555 (by decide +kernel) (by decide +kernel)
theorem w_556 : Cond.methodLink "WorkPlansLaw" 44 ⟨"WorkPlans", "order", "(I)I"⟩ ∈ am_T := am_in 556 (by decide +kernel) (by decide +kernel)
theorem w_557 : Cond.instanceMethod ⟨"WorkPlans", "order", "(I)I"⟩ ∈ am_T := am_in 557 (by decide +kernel) (by decide +kernel)
theorem w_558 : Cond.selects "WorkPlans" ⟨"WorkPlans", "order", "(I)I"⟩ ⟨"WorkPlans", "order", "(I)I"⟩ ∈ am_T := am_in 558 (by decide +kernel) (by decide +kernel)
theorem w_559 : Cond.code ⟨"WorkPlans", "order", "(I)I"⟩ prog_1_method_10_code 2 (some FieldType.int) ∈ am_T := am_in 559 (by decide +kernel) (by decide +kernel)
theorem w_561 : Cond.methodLink "WorkPlansLaw" 111 ⟨"WorkPlansLaw", "about", "(LWorkPlans;I[J)I"⟩ ∈ am_T := am_in 561 (by decide +kernel) (by decide +kernel)
theorem w_562 : Cond.static ⟨"WorkPlansLaw", "about", "(LWorkPlans;I[J)I"⟩ ∈ am_T := am_in 562 (by decide +kernel) (by decide +kernel)
theorem w_563 : Cond.codeWith ⟨"WorkPlansLaw", "about", "(LWorkPlans;I[J)I"⟩ method_12_code 4 (some FieldType.int) [(0, 8, 11, 21), (0, 8, 14, 15)] ∈ am_T := am_in 563 (by decide +kernel) (by decide +kernel)
theorem w_564 : Cond.methodLink "WorkPlansLaw" 47 ⟨"WorkPlans", "about", "(I)J"⟩ ∈ am_T := am_in 564 (by decide +kernel) (by decide +kernel)
theorem w_565 : Cond.instanceMethod ⟨"WorkPlans", "about", "(I)J"⟩ ∈ am_T := am_in 565 (by decide +kernel) (by decide +kernel)
theorem w_566 : Cond.selects "WorkPlans" ⟨"WorkPlans", "about", "(I)J"⟩ ⟨"WorkPlans", "about", "(I)J"⟩ ∈ am_T := am_in 566 (by decide +kernel) (by decide +kernel)
theorem w_567 : Cond.code ⟨"WorkPlans", "about", "(I)J"⟩ prog_1_method_11_code 2 (some FieldType.long) ∈ am_T := am_in 567 (by decide +kernel) (by decide +kernel)
theorem w_569 : Cond.methodLink "WorkPlansLaw" 114 ⟨"WorkPlansLaw", "alone", "(LWorkPlans;I[J)I"⟩ ∈ am_T := am_in 569 (by decide +kernel) (by decide +kernel)
theorem w_570 : Cond.static ⟨"WorkPlansLaw", "alone", "(LWorkPlans;I[J)I"⟩ ∈ am_T := am_in 570 (by decide +kernel) (by decide +kernel)
theorem w_571 : Cond.codeWith ⟨"WorkPlansLaw", "alone", "(LWorkPlans;I[J)I"⟩ method_13_code 4 (some FieldType.int) [(0, 8, 11, 21), (0, 8, 14, 15)] ∈ am_T := am_in 571 (by decide +kernel) (by decide +kernel)
theorem w_572 : Cond.methodLink "WorkPlansLaw" 51 ⟨"WorkPlans", "alone", "(I)J"⟩ ∈ am_T := am_in 572 (by decide +kernel) (by decide +kernel)
theorem w_573 : Cond.instanceMethod ⟨"WorkPlans", "alone", "(I)J"⟩ ∈ am_T := am_in 573 (by decide +kernel) (by decide +kernel)
theorem w_574 : Cond.selects "WorkPlans" ⟨"WorkPlans", "alone", "(I)J"⟩ ⟨"WorkPlans", "alone", "(I)J"⟩ ∈ am_T := am_in 574 (by decide +kernel) (by decide +kernel)
theorem w_575 : Cond.code ⟨"WorkPlans", "alone", "(I)J"⟩ prog_1_method_12_code 2 (some FieldType.long) ∈ am_T := am_in 575 (by decide +kernel) (by decide +kernel)
theorem w_576 : Cond.methodLink "WorkPlans" 191 ⟨"WorkPlans$Shop", "fits", "(I)Z"⟩ ∈ am_T := am_in 576 (by decide +kernel) (by decide +kernel)
theorem w_578 : Cond.methodLink "WorkPlans" 196 ⟨"WorkPlans$Floor", "costAlone", "(I)J"⟩ ∈ am_T := am_in 578 (by decide +kernel) (by decide +kernel)
theorem w_579 : Cond.methodLink "WorkPlansLaw" 117 ⟨"WorkPlansLaw", "promise", "(LWorkPlans;I[J)I"⟩ ∈ am_T := am_in 579 (by decide +kernel) (by decide +kernel)
theorem w_580 : Cond.static ⟨"WorkPlansLaw", "promise", "(LWorkPlans;I[J)I"⟩ ∈ am_T := am_in 580 (by decide +kernel) (by decide +kernel)
theorem w_581 : Cond.codeWith ⟨"WorkPlansLaw", "promise", "(LWorkPlans;I[J)I"⟩ method_14_code 4 (some FieldType.int) [(0, 9, 12, 21), (0, 9, 15, 15)] ∈ am_T := am_in 581 (by decide +kernel) (by decide +kernel)
theorem w_582 : Cond.methodLink "WorkPlansLaw" 54 ⟨"WorkPlans", "promise", "(I)I"⟩ ∈ am_T := am_in 582 (by decide +kernel) (by decide +kernel)
theorem w_583 : Cond.instanceMethod ⟨"WorkPlans", "promise", "(I)I"⟩ ∈ am_T := am_in 583 (by decide +kernel) (by decide +kernel)
theorem w_584 : Cond.selects "WorkPlans" ⟨"WorkPlans", "promise", "(I)I"⟩ ⟨"WorkPlans", "promise", "(I)I"⟩ ∈ am_T := am_in 584 (by decide +kernel) (by decide +kernel)
theorem w_585 : Cond.code ⟨"WorkPlans", "promise", "(I)I"⟩ prog_1_method_13_code 2 (some FieldType.int) ∈ am_T := am_in 585 (by decide +kernel) (by decide +kernel)
theorem w_586 : Cond.methodLink "WorkPlans" 200 ⟨"WorkPlans$Plan", "layAllBut", "(ILWorkPlans$Floor;)V"⟩ ∈ am_T := am_in 586 (by decide +kernel) (by decide +kernel)
theorem w_587 : Cond.instanceMethod ⟨"WorkPlans$Plan", "layAllBut", "(ILWorkPlans$Floor;)V"⟩ ∈ am_T := am_in 587 (by decide +kernel) (by decide +kernel)
theorem w_588 : Cond.selects "WorkPlans$Plan" ⟨"WorkPlans$Plan", "layAllBut", "(ILWorkPlans$Floor;)V"⟩ ⟨"WorkPlans$Plan", "layAllBut", "(ILWorkPlans$Floor;)V"⟩ ∈ am_T := am_in 588 (by decide +kernel) (by decide +kernel)
theorem w_589 : Cond.code ⟨"WorkPlans$Plan", "layAllBut", "(ILWorkPlans$Floor;)V"⟩ prog_3_method_6_code 6 none ∈ am_T := am_in 589 (by decide +kernel) (by decide +kernel)
theorem w_590 : Cond.methodLink "WorkPlans$Plan" 71 ⟨"WorkPlans$Floor", "clear", "()V"⟩ ∈ am_T := am_in 590 (by decide +kernel) (by decide +kernel)
theorem w_591 : Cond.methodLink "WorkPlans$Plan" 80 ⟨"WorkPlans$Floor", "put", "(III)V"⟩ ∈ am_T := am_in 591 (by decide +kernel) (by decide +kernel)
theorem w_592 : Cond.methodLink "WorkPlans" 204 ⟨"WorkPlans$Floor", "place", "(I)I"⟩ ∈ am_T := am_in 592 (by decide +kernel) (by decide +kernel)
theorem w_593 : Cond.methodLink "WorkPlansLaw" 120 ⟨"WorkPlansLaw", "clash", "(LWorkPlans;I[J)I"⟩ ∈ am_T := am_in 593 (by decide +kernel) (by decide +kernel)
theorem w_594 : Cond.static ⟨"WorkPlansLaw", "clash", "(LWorkPlans;I[J)I"⟩ ∈ am_T := am_in 594 (by decide +kernel) (by decide +kernel)
theorem w_595 : Cond.codeWith ⟨"WorkPlansLaw", "clash", "(LWorkPlans;I[J)I"⟩ method_15_code 4 (some FieldType.int) [(0, 9, 12, 13), (0, 9, 15, 15)] ∈ am_T := am_in 595 (by decide +kernel) (by decide +kernel)
theorem w_596 : Cond.methodLink "WorkPlansLaw" 57 ⟨"WorkPlans", "clash", "(I)I"⟩ ∈ am_T := am_in 596 (by decide +kernel) (by decide +kernel)
theorem w_597 : Cond.instanceMethod ⟨"WorkPlans", "clash", "(I)I"⟩ ∈ am_T := am_in 597 (by decide +kernel) (by decide +kernel)
theorem w_598 : Cond.selects "WorkPlans" ⟨"WorkPlans", "clash", "(I)I"⟩ ⟨"WorkPlans", "clash", "(I)I"⟩ ∈ am_T := am_in 598 (by decide +kernel) (by decide +kernel)
theorem w_599 : Cond.code ⟨"WorkPlans", "clash", "(I)I"⟩ prog_1_method_14_code 5 (some FieldType.int) ∈ am_T := am_in 599 (by decide +kernel) (by decide +kernel)
theorem w_602 : Cond.methodLink "WorkPlans" 211 ⟨"WorkPlans$Floor", "doClash", "(II)Z"⟩ ∈ am_T := am_in 602 (by decide +kernel) (by decide +kernel)
theorem w_603 : Cond.instanceMethod ⟨"WorkPlans$Floor", "doClash", "(II)Z"⟩ ∈ am_T := am_in 603 (by decide +kernel) (by decide +kernel)
theorem w_604 : Cond.selects "WorkPlans$Floor" ⟨"WorkPlans$Floor", "doClash", "(II)Z"⟩ ⟨"WorkPlans$Floor", "doClash", "(II)Z"⟩ ∈ am_T := am_in 604 (by decide +kernel) (by decide +kernel)
theorem w_605 : Cond.code ⟨"WorkPlans$Floor", "doClash", "(II)Z"⟩ prog_2_method_8_code 3 (some FieldType.boolean) ∈ am_T := am_in 605 (by decide +kernel) (by decide +kernel)
theorem w_606 : Cond.methodLink "WorkPlans$Floor" 77 ⟨"WorkPlans$Floor", "costAlone", "(I)J"⟩ ∈ am_T := am_in 606 (by decide +kernel) (by decide +kernel)
theorem w_607 : Cond.methodLink "WorkPlans$Floor" 81 ⟨"WorkPlans$Floor", "costOfTwo", "(II)J"⟩ ∈ am_T := am_in 607 (by decide +kernel) (by decide +kernel)
theorem w_609 : Cond.instanceMethod ⟨"WorkPlans$Floor", "costOfTwo", "(II)J"⟩ ∈ am_T := am_in 609 (by decide +kernel) (by decide +kernel)
theorem w_610 : Cond.code ⟨"WorkPlans$Floor", "costOfTwo", "(II)J"⟩ prog_2_method_9_code 5 (some FieldType.long) ∈ am_T := am_in 610 (by decide +kernel) (by decide +kernel)
theorem w_611 : Cond.methodLink "WorkPlansLaw" 123 ⟨"WorkPlansLaw", "check", "(LWorkPlans;[J)I"⟩ ∈ am_T := am_in 611 (by decide +kernel) (by decide +kernel)
theorem w_612 : Cond.static ⟨"WorkPlansLaw", "check", "(LWorkPlans;[J)I"⟩ ∈ am_T := am_in 612 (by decide +kernel) (by decide +kernel)
theorem w_613 : Cond.codeWith ⟨"WorkPlansLaw", "check", "(LWorkPlans;[J)I"⟩ method_16_code 3 (some FieldType.int) [(0, 8, 11, 15)] ∈ am_T := am_in 613 (by decide +kernel) (by decide +kernel)
theorem w_614 : Cond.methodLink "WorkPlansLaw" 60 ⟨"WorkPlans", "check", "()I"⟩ ∈ am_T := am_in 614 (by decide +kernel) (by decide +kernel)
theorem w_615 : Cond.instanceMethod ⟨"WorkPlans", "check", "()I"⟩ ∈ am_T := am_in 615 (by decide +kernel) (by decide +kernel)
theorem w_616 : Cond.selects "WorkPlans" ⟨"WorkPlans", "check", "()I"⟩ ⟨"WorkPlans", "check", "()I"⟩ ∈ am_T := am_in 616 (by decide +kernel) (by decide +kernel)
theorem w_617 : Cond.code ⟨"WorkPlans", "check", "()I"⟩ prog_1_method_15_code 3 (some FieldType.int) ∈ am_T := am_in 617 (by decide +kernel) (by decide +kernel)
theorem w_618 : Cond.methodLink "WorkPlans" 215 ⟨"WorkPlans$Plan", "breaks", "(II)Z"⟩ ∈ am_T := am_in 618 (by decide +kernel) (by decide +kernel)
theorem w_619 : Cond.instanceMethod ⟨"WorkPlans$Plan", "breaks", "(II)Z"⟩ ∈ am_T := am_in 619 (by decide +kernel) (by decide +kernel)
theorem w_620 : Cond.selects "WorkPlans$Plan" ⟨"WorkPlans$Plan", "breaks", "(II)Z"⟩ ⟨"WorkPlans$Plan", "breaks", "(II)Z"⟩ ∈ am_T := am_in 620 (by decide +kernel) (by decide +kernel)
theorem w_621 : Cond.code ⟨"WorkPlans$Plan", "breaks", "(II)Z"⟩ prog_3_method_7_code 3 (some FieldType.boolean) ∈ am_T := am_in 621 (by decide +kernel) (by decide +kernel)
theorem w_622 : Cond.methodLink "WorkPlans$Plan" 84 ⟨"WorkPlans$Plan", "beginsTooEarly", "(I)Z"⟩ ∈ am_T := am_in 622 (by decide +kernel) (by decide +kernel)
theorem w_624 : Cond.instanceMethod ⟨"WorkPlans$Plan", "beginsTooEarly", "(I)Z"⟩ ∈ am_T := am_in 624 (by decide +kernel) (by decide +kernel)
theorem w_625 : Cond.code ⟨"WorkPlans$Plan", "beginsTooEarly", "(I)Z"⟩ prog_3_method_11_code 3 (some FieldType.boolean) ∈ am_T := am_in 625 (by decide +kernel) (by decide +kernel)
theorem w_626 : Cond.methodLink "WorkPlans$Plan" 97 ⟨"WorkPlans$Plan", "stepEnd", "(I)I"⟩ ∈ am_T := am_in 626 (by decide +kernel) (by decide +kernel)
theorem w_628 : Cond.instanceMethod ⟨"WorkPlans$Plan", "stepEnd", "(I)I"⟩ ∈ am_T := am_in 628 (by decide +kernel) (by decide +kernel)
theorem w_629 : Cond.code ⟨"WorkPlans$Plan", "stepEnd", "(I)I"⟩ prog_3_method_10_code 2 (some FieldType.int) ∈ am_T := am_in 629 (by decide +kernel) (by decide +kernel)
theorem w_630 : Cond.methodLink "WorkPlans$Plan" 87 ⟨"WorkPlans$Plan", "sharesWithStep", "(I)Z"⟩ ∈ am_T := am_in 630 (by decide +kernel) (by decide +kernel)
theorem w_632 : Cond.instanceMethod ⟨"WorkPlans$Plan", "sharesWithStep", "(I)Z"⟩ ∈ am_T := am_in 632 (by decide +kernel) (by decide +kernel)
theorem w_633 : Cond.code ⟨"WorkPlans$Plan", "sharesWithStep", "(I)Z"⟩ prog_3_method_12_code 3 (some FieldType.boolean) ∈ am_T := am_in 633 (by decide +kernel) (by decide +kernel)
theorem w_635 : Cond.methodLink "WorkPlans$Plan" 90 ⟨"WorkPlans$Plan", "sharesWithSpan", "(I)Z"⟩ ∈ am_T := am_in 635 (by decide +kernel) (by decide +kernel)
theorem w_637 : Cond.instanceMethod ⟨"WorkPlans$Plan", "sharesWithSpan", "(I)Z"⟩ ∈ am_T := am_in 637 (by decide +kernel) (by decide +kernel)
theorem w_638 : Cond.code ⟨"WorkPlans$Plan", "sharesWithSpan", "(I)Z"⟩ prog_3_method_13_code 5 (some FieldType.boolean) ∈ am_T := am_in 638 (by decide +kernel) (by decide +kernel)
theorem w_639 : Cond.methodLink "WorkPlans" 218 ⟨"WorkPlans$Plan", "endOf", "(I)I"⟩ ∈ am_T := am_in 639 (by decide +kernel) (by decide +kernel)
theorem w_640 : Cond.instanceMethod ⟨"WorkPlans$Plan", "endOf", "(I)I"⟩ ∈ am_T := am_in 640 (by decide +kernel) (by decide +kernel)
theorem w_641 : Cond.selects "WorkPlans$Plan" ⟨"WorkPlans$Plan", "endOf", "(I)I"⟩ ⟨"WorkPlans$Plan", "endOf", "(I)I"⟩ ∈ am_T := am_in 641 (by decide +kernel) (by decide +kernel)
theorem w_642 : Cond.code ⟨"WorkPlans$Plan", "endOf", "(I)I"⟩ prog_3_method_8_code 3 (some FieldType.int) ∈ am_T := am_in 642 (by decide +kernel) (by decide +kernel)
theorem w_643 : Cond.methodLink "WorkPlans$Plan" 93 ⟨"WorkPlans$Shop", "lastStep", "(I)I"⟩ ∈ am_T := am_in 643 (by decide +kernel) (by decide +kernel)
theorem w_644 : Cond.classLink "WorkPlansLaw" 73 "WorkPlansModel" ∈ am_T := am_in 644 (by decide +kernel) (by decide +kernel)
theorem w_645 : Cond.instantiable "WorkPlansModel" 34 ∈ am_T := am_in 645 (by decide +kernel) (by decide +kernel)
theorem w_646 : Cond.methodLink "WorkPlansLaw" 75 ⟨"WorkPlansModel", "<init>", "(I)V"⟩ ∈ am_T := am_in 646 (by decide +kernel) (by decide +kernel)
theorem w_647 : Cond.instanceMethod ⟨"WorkPlansModel", "<init>", "(I)V"⟩ ∈ am_T := am_in 647 (by decide +kernel) (by decide +kernel)
theorem w_648 : Cond.code ⟨"WorkPlansModel", "<init>", "(I)V"⟩ prog_7_method_1_code 3 none ∈ am_T := am_in 648 (by decide +kernel) (by decide +kernel)
theorem w_649 : Cond.methodLink "WorkPlansModel" 1 ⟨"java/lang/Object", "<init>", "()V"⟩ ∈ am_T := am_in 649 (by decide +kernel) (by decide +kernel)
theorem w_650 : Cond.fieldLink "WorkPlansModel" 81 "WorkPlansModel" "code" "I" ∈ am_T := am_in 650 (by decide +kernel) (by decide +kernel)
theorem w_651 : Cond.fieldLink "WorkPlansModel" 89 "WorkPlansModel" "machines" "I" ∈ am_T := am_in 651 (by decide +kernel) (by decide +kernel)
theorem w_652 : Cond.fieldLink "WorkPlansModel" 7 "WorkPlansModel" "kindOf" "[I" ∈ am_T := am_in 652 (by decide +kernel) (by decide +kernel)
theorem w_653 : Cond.fieldLink "WorkPlansModel" 13 "WorkPlansModel" "spans" "[I" ∈ am_T := am_in 653 (by decide +kernel) (by decide +kernel)
theorem w_654 : Cond.fieldLink "WorkPlansModel" 16 "WorkPlansModel" "outFrom" "[I" ∈ am_T := am_in 654 (by decide +kernel) (by decide +kernel)
theorem w_655 : Cond.fieldLink "WorkPlansModel" 19 "WorkPlansModel" "outTo" "[I" ∈ am_T := am_in 655 (by decide +kernel) (by decide +kernel)
theorem w_656 : Cond.fieldLink "WorkPlansModel" 96 "WorkPlansModel" "jobs" "I" ∈ am_T := am_in 656 (by decide +kernel) (by decide +kernel)
theorem w_657 : Cond.fieldLink "WorkPlansModel" 22 "WorkPlansModel" "dues" "[I" ∈ am_T := am_in 657 (by decide +kernel) (by decide +kernel)
theorem w_658 : Cond.fieldLink "WorkPlansModel" 25 "WorkPlansModel" "weights" "[I" ∈ am_T := am_in 658 (by decide +kernel) (by decide +kernel)
theorem w_659 : Cond.fieldLink "WorkPlansModel" 28 "WorkPlansModel" "stepsOf" "[I" ∈ am_T := am_in 659 (by decide +kernel) (by decide +kernel)
theorem w_660 : Cond.fieldLink "WorkPlansModel" 31 "WorkPlansModel" "stepAt" "[I" ∈ am_T := am_in 660 (by decide +kernel) (by decide +kernel)
theorem w_661 : Cond.fieldLink "WorkPlansModel" 99 "WorkPlansModel" "steps" "I" ∈ am_T := am_in 661 (by decide +kernel) (by decide +kernel)
theorem w_662 : Cond.fieldLink "WorkPlansModel" 34 "WorkPlansModel" "jobOf" "[I" ∈ am_T := am_in 662 (by decide +kernel) (by decide +kernel)
theorem w_663 : Cond.fieldLink "WorkPlansModel" 37 "WorkPlansModel" "kinds" "[I" ∈ am_T := am_in 663 (by decide +kernel) (by decide +kernel)
theorem w_664 : Cond.fieldLink "WorkPlansModel" 40 "WorkPlansModel" "hours" "[I" ∈ am_T := am_in 664 (by decide +kernel) (by decide +kernel)
theorem w_665 : Cond.fieldLink "WorkPlansModel" 43 "WorkPlansModel" "waits" "[I" ∈ am_T := am_in 665 (by decide +kernel) (by decide +kernel)
theorem w_666 : Cond.fieldLink "WorkPlansModel" 77 "WorkPlansModel" "x" "J" ∈ am_T := am_in 666 (by decide +kernel) (by decide +kernel)
theorem w_667 : Cond.fieldLink "WorkPlansModel" 46 "WorkPlansModel" "hour" "[I" ∈ am_T := am_in 667 (by decide +kernel) (by decide +kernel)
theorem w_668 : Cond.fieldLink "WorkPlansModel" 49 "WorkPlansModel" "machine" "[I" ∈ am_T := am_in 668 (by decide +kernel) (by decide +kernel)
theorem w_669 : Cond.fieldLink "WorkPlansModel" 144 "WorkPlansModel" "planned" "Z" ∈ am_T := am_in 669 (by decide +kernel) (by decide +kernel)
theorem w_670 : Cond.fieldLink "WorkPlansModel" 92 "WorkPlansModel" "fresh" "Z" ∈ am_T := am_in 670 (by decide +kernel) (by decide +kernel)
theorem w_671 : Cond.fieldLink "WorkPlansModel" 135 "WorkPlansModel" "planJobs" "I" ∈ am_T := am_in 671 (by decide +kernel) (by decide +kernel)
theorem w_672 : Cond.fieldLink "WorkPlansModel" 52 "WorkPlansModel" "plan" "[I" ∈ am_T := am_in 672 (by decide +kernel) (by decide +kernel)
theorem w_673 : Cond.fieldLink "WorkPlansModel" 55 "WorkPlansModel" "planHour" "[I" ∈ am_T := am_in 673 (by decide +kernel) (by decide +kernel)
theorem w_674 : Cond.fieldLink "WorkPlansModel" 58 "WorkPlansModel" "planMachine" "[I" ∈ am_T := am_in 674 (by decide +kernel) (by decide +kernel)
theorem w_675 : Cond.fieldLink "WorkPlansModel" 61 "WorkPlansModel" "wasHour" "[I" ∈ am_T := am_in 675 (by decide +kernel) (by decide +kernel)
theorem w_676 : Cond.fieldLink "WorkPlansModel" 64 "WorkPlansModel" "wasMachine" "[I" ∈ am_T := am_in 676 (by decide +kernel) (by decide +kernel)
theorem w_677 : Cond.fieldLink "WorkPlansModel" 129 "WorkPlansModel" "cost" "J" ∈ am_T := am_in 677 (by decide +kernel) (by decide +kernel)
theorem w_678 : Cond.fieldLink "WorkPlansModel" 138 "WorkPlansModel" "bound" "J" ∈ am_T := am_in 678 (by decide +kernel) (by decide +kernel)
theorem w_679 : Cond.fieldLink "WorkPlansModel" 153 "WorkPlansModel" "nodes" "I" ∈ am_T := am_in 679 (by decide +kernel) (by decide +kernel)
theorem w_680 : Cond.fieldLink "WorkPlansModel" 132 "WorkPlansModel" "changed" "I" ∈ am_T := am_in 680 (by decide +kernel) (by decide +kernel)
theorem w_681 : Cond.fieldLink "WorkPlansModel" 67 "WorkPlansModel" "row" "[I" ∈ am_T := am_in 681 (by decide +kernel) (by decide +kernel)
theorem w_682 : Cond.fieldLink "WorkPlansModel" 70 "WorkPlansModel" "tried" "[I" ∈ am_T := am_in 682 (by decide +kernel) (by decide +kernel)
theorem w_683 : Cond.fieldLink "WorkPlansModel" 73 "WorkPlansModel" "used" "[Z" ∈ am_T := am_in 683 (by decide +kernel) (by decide +kernel)
theorem w_684 : Cond.lays "WorkPlansModel" "WorkPlansModel" "code" "I" ∈ am_T := am_in 684 (by decide +kernel) (by decide +kernel)
theorem w_686 : Cond.lays "WorkPlansModel" "WorkPlansModel" "machines" "I" ∈ am_T := am_in 686 (by decide +kernel) (by decide +kernel)
theorem w_696 : Cond.lays "WorkPlansModel" "WorkPlansModel" "jobs" "I" ∈ am_T := am_in 696 (by decide +kernel) (by decide +kernel)
theorem w_706 : Cond.lays "WorkPlansModel" "WorkPlansModel" "steps" "I" ∈ am_T := am_in 706 (by decide +kernel) (by decide +kernel)
theorem w_716 : Cond.lays "WorkPlansModel" "WorkPlansModel" "x" "J" ∈ am_T := am_in 716 (by decide +kernel) (by decide +kernel)
theorem w_722 : Cond.lays "WorkPlansModel" "WorkPlansModel" "planned" "Z" ∈ am_T := am_in 722 (by decide +kernel) (by decide +kernel)
theorem w_724 : Cond.lays "WorkPlansModel" "WorkPlansModel" "fresh" "Z" ∈ am_T := am_in 724 (by decide +kernel) (by decide +kernel)
theorem w_726 : Cond.lays "WorkPlansModel" "WorkPlansModel" "planJobs" "I" ∈ am_T := am_in 726 (by decide +kernel) (by decide +kernel)
theorem w_738 : Cond.lays "WorkPlansModel" "WorkPlansModel" "cost" "J" ∈ am_T := am_in 738 (by decide +kernel) (by decide +kernel)
theorem w_740 : Cond.lays "WorkPlansModel" "WorkPlansModel" "bound" "J" ∈ am_T := am_in 740 (by decide +kernel) (by decide +kernel)
theorem w_742 : Cond.lays "WorkPlansModel" "WorkPlansModel" "nodes" "I" ∈ am_T := am_in 742 (by decide +kernel) (by decide +kernel)
theorem w_744 : Cond.lays "WorkPlansModel" "WorkPlansModel" "changed" "I" ∈ am_T := am_in 744 (by decide +kernel) (by decide +kernel)
theorem w_752 : Cond.superclass "WorkPlansModel" "java/lang/Object" ∈ am_T := am_in 752 (by decide +kernel) (by decide +kernel)
theorem w_753 : Cond.methodLink "WorkPlansLaw" 80 ⟨"WorkPlansModel", "thrown", "()I"⟩ ∈ am_T := am_in 753 (by decide +kernel) (by decide +kernel)
theorem w_754 : Cond.instanceMethod ⟨"WorkPlansModel", "thrown", "()I"⟩ ∈ am_T := am_in 754 (by decide +kernel) (by decide +kernel)
theorem w_755 : Cond.selects "WorkPlansModel" ⟨"WorkPlansModel", "thrown", "()I"⟩ ⟨"WorkPlansModel", "thrown", "()I"⟩ ∈ am_T := am_in 755 (by decide +kernel) (by decide +kernel)
theorem w_756 : Cond.code ⟨"WorkPlansModel", "thrown", "()I"⟩ prog_7_method_2_code 1 (some FieldType.int) ∈ am_T := am_in 756 (by decide +kernel) (by decide +kernel)
theorem w_757 : Cond.methodLink "WorkPlansLaw" 79 ⟨"WorkPlansModel", "machine", "(I)I"⟩ ∈ am_T := am_in 757 (by decide +kernel) (by decide +kernel)
theorem w_758 : Cond.instanceMethod ⟨"WorkPlansModel", "machine", "(I)I"⟩ ∈ am_T := am_in 758 (by decide +kernel) (by decide +kernel)
theorem w_759 : Cond.selects "WorkPlansModel" ⟨"WorkPlansModel", "machine", "(I)I"⟩ ⟨"WorkPlansModel", "machine", "(I)I"⟩ ∈ am_T := am_in 759 (by decide +kernel) (by decide +kernel)
theorem w_760 : Cond.code ⟨"WorkPlansModel", "machine", "(I)I"⟩ prog_7_method_4_code 2 (some FieldType.int) ∈ am_T := am_in 760 (by decide +kernel) (by decide +kernel)
theorem w_761 : Cond.methodLink "WorkPlansModel" 85 ⟨"WorkPlansModel", "in", "(III)Z"⟩ ∈ am_T := am_in 761 (by decide +kernel) (by decide +kernel)
theorem w_762 : Cond.static ⟨"WorkPlansModel", "in", "(III)Z"⟩ ∈ am_T := am_in 762 (by decide +kernel) (by decide +kernel)
theorem w_763 : Cond.code ⟨"WorkPlansModel", "in", "(III)Z"⟩ prog_7_method_3_code 3 (some FieldType.boolean) ∈ am_T := am_in 763 (by decide +kernel) (by decide +kernel)
theorem w_764 : Cond.methodLink "WorkPlansLaw" 86 ⟨"WorkPlansModel", "out", "(III)I"⟩ ∈ am_T := am_in 764 (by decide +kernel) (by decide +kernel)
theorem w_765 : Cond.instanceMethod ⟨"WorkPlansModel", "out", "(III)I"⟩ ∈ am_T := am_in 765 (by decide +kernel) (by decide +kernel)
theorem w_766 : Cond.selects "WorkPlansModel" ⟨"WorkPlansModel", "out", "(III)I"⟩ ⟨"WorkPlansModel", "out", "(III)I"⟩ ∈ am_T := am_in 766 (by decide +kernel) (by decide +kernel)
theorem w_767 : Cond.code ⟨"WorkPlansModel", "out", "(III)I"⟩ prog_7_method_5_code 4 (some FieldType.int) ∈ am_T := am_in 767 (by decide +kernel) (by decide +kernel)
theorem w_768 : Cond.methodLink "WorkPlansLaw" 90 ⟨"WorkPlansModel", "job", "(II)I"⟩ ∈ am_T := am_in 768 (by decide +kernel) (by decide +kernel)
theorem w_769 : Cond.instanceMethod ⟨"WorkPlansModel", "job", "(II)I"⟩ ∈ am_T := am_in 769 (by decide +kernel) (by decide +kernel)
theorem w_770 : Cond.selects "WorkPlansModel" ⟨"WorkPlansModel", "job", "(II)I"⟩ ⟨"WorkPlansModel", "job", "(II)I"⟩ ∈ am_T := am_in 770 (by decide +kernel) (by decide +kernel)
theorem w_771 : Cond.code ⟨"WorkPlansModel", "job", "(II)I"⟩ prog_7_method_6_code 3 (some FieldType.int) ∈ am_T := am_in 771 (by decide +kernel) (by decide +kernel)
theorem w_772 : Cond.methodLink "WorkPlansLaw" 94 ⟨"WorkPlansModel", "due", "(II)V"⟩ ∈ am_T := am_in 772 (by decide +kernel) (by decide +kernel)
theorem w_773 : Cond.instanceMethod ⟨"WorkPlansModel", "due", "(II)V"⟩ ∈ am_T := am_in 773 (by decide +kernel) (by decide +kernel)
theorem w_774 : Cond.selects "WorkPlansModel" ⟨"WorkPlansModel", "due", "(II)V"⟩ ⟨"WorkPlansModel", "due", "(II)V"⟩ ∈ am_T := am_in 774 (by decide +kernel) (by decide +kernel)
theorem w_775 : Cond.code ⟨"WorkPlansModel", "due", "(II)V"⟩ prog_7_method_7_code 3 none ∈ am_T := am_in 775 (by decide +kernel) (by decide +kernel)
theorem w_776 : Cond.methodLink "WorkPlansLaw" 98 ⟨"WorkPlansModel", "step", "(IIII)I"⟩ ∈ am_T := am_in 776 (by decide +kernel) (by decide +kernel)
theorem w_777 : Cond.instanceMethod ⟨"WorkPlansModel", "step", "(IIII)I"⟩ ∈ am_T := am_in 777 (by decide +kernel) (by decide +kernel)
theorem w_778 : Cond.selects "WorkPlansModel" ⟨"WorkPlansModel", "step", "(IIII)I"⟩ ⟨"WorkPlansModel", "step", "(IIII)I"⟩ ∈ am_T := am_in 778 (by decide +kernel) (by decide +kernel)
theorem w_779 : Cond.code ⟨"WorkPlansModel", "step", "(IIII)I"⟩ prog_7_method_8_code 5 (some FieldType.int) ∈ am_T := am_in 779 (by decide +kernel) (by decide +kernel)
theorem w_780 : Cond.methodLink "WorkPlansLaw" 101 ⟨"WorkPlansModel", "run", "(I)I"⟩ ∈ am_T := am_in 780 (by decide +kernel) (by decide +kernel)
theorem w_781 : Cond.instanceMethod ⟨"WorkPlansModel", "run", "(I)I"⟩ ∈ am_T := am_in 781 (by decide +kernel) (by decide +kernel)
theorem w_782 : Cond.selects "WorkPlansModel" ⟨"WorkPlansModel", "run", "(I)I"⟩ ⟨"WorkPlansModel", "run", "(I)I"⟩ ∈ am_T := am_in 782 (by decide +kernel) (by decide +kernel)
theorem w_783 : Cond.code ⟨"WorkPlansModel", "run", "(I)I"⟩ prog_7_method_24_code 4 (some FieldType.int) ∈ am_T := am_in 783 (by decide +kernel) (by decide +kernel)
theorem w_784 : Cond.methodLink "WorkPlansModel" 159 ⟨"WorkPlansModel", "allFit", "()Z"⟩ ∈ am_T := am_in 784 (by decide +kernel) (by decide +kernel)
theorem w_786 : Cond.instanceMethod ⟨"WorkPlansModel", "allFit", "()Z"⟩ ∈ am_T := am_in 786 (by decide +kernel) (by decide +kernel)
theorem w_787 : Cond.code ⟨"WorkPlansModel", "allFit", "()Z"⟩ prog_7_method_16_code 3 (some FieldType.boolean) ∈ am_T := am_in 787 (by decide +kernel) (by decide +kernel)
theorem w_788 : Cond.methodLink "WorkPlansModel" 121 ⟨"WorkPlansModel", "fits", "(I)Z"⟩ ∈ am_T := am_in 788 (by decide +kernel) (by decide +kernel)
theorem w_790 : Cond.instanceMethod ⟨"WorkPlansModel", "fits", "(I)Z"⟩ ∈ am_T := am_in 790 (by decide +kernel) (by decide +kernel)
theorem w_791 : Cond.code ⟨"WorkPlansModel", "fits", "(I)Z"⟩ prog_7_method_15_code 6 (some FieldType.boolean) ∈ am_T := am_in 791 (by decide +kernel) (by decide +kernel)
theorem w_792 : Cond.methodLink "WorkPlansModel" 163 ⟨"WorkPlansModel", "keepWas", "()V"⟩ ∈ am_T := am_in 792 (by decide +kernel) (by decide +kernel)
theorem w_794 : Cond.instanceMethod ⟨"WorkPlansModel", "keepWas", "()V"⟩ ∈ am_T := am_in 794 (by decide +kernel) (by decide +kernel)
theorem w_795 : Cond.code ⟨"WorkPlansModel", "keepWas", "()V"⟩ prog_7_method_18_code 2 none ∈ am_T := am_in 795 (by decide +kernel) (by decide +kernel)
theorem w_796 : Cond.methodLink "WorkPlansModel" 166 ⟨"WorkPlansModel", "search", "(I)I"⟩ ∈ am_T := am_in 796 (by decide +kernel) (by decide +kernel)
theorem w_798 : Cond.instanceMethod ⟨"WorkPlansModel", "search", "(I)I"⟩ ∈ am_T := am_in 798 (by decide +kernel) (by decide +kernel)
theorem w_799 : Cond.code ⟨"WorkPlansModel", "search", "(I)I"⟩ prog_7_method_23_code 8 (some FieldType.int) ∈ am_T := am_in 799 (by decide +kernel) (by decide +kernel)
theorem w_800 : Cond.methodLink "WorkPlansModel" 147 ⟨"WorkPlansModel", "layByDue", "()V"⟩ ∈ am_T := am_in 800 (by decide +kernel) (by decide +kernel)
theorem w_802 : Cond.instanceMethod ⟨"WorkPlansModel", "layByDue", "()V"⟩ ∈ am_T := am_in 802 (by decide +kernel) (by decide +kernel)
theorem w_803 : Cond.code ⟨"WorkPlansModel", "layByDue", "()V"⟩ prog_7_method_20_code 4 none ∈ am_T := am_in 803 (by decide +kernel) (by decide +kernel)
theorem w_804 : Cond.methodLink "WorkPlansModel" 125 ⟨"WorkPlansModel", "costOfRow", "(I)J"⟩ ∈ am_T := am_in 804 (by decide +kernel) (by decide +kernel)
theorem w_806 : Cond.instanceMethod ⟨"WorkPlansModel", "costOfRow", "(I)J"⟩ ∈ am_T := am_in 806 (by decide +kernel) (by decide +kernel)
theorem w_807 : Cond.code ⟨"WorkPlansModel", "costOfRow", "(I)J"⟩ prog_7_method_14_code 5 (some FieldType.long) ∈ am_T := am_in 807 (by decide +kernel) (by decide +kernel)
theorem w_808 : Cond.methodLink "WorkPlansModel" 110 ⟨"WorkPlansModel", "clearBoard", "()V"⟩ ∈ am_T := am_in 808 (by decide +kernel) (by decide +kernel)
theorem w_810 : Cond.instanceMethod ⟨"WorkPlansModel", "clearBoard", "()V"⟩ ∈ am_T := am_in 810 (by decide +kernel) (by decide +kernel)
theorem w_811 : Cond.code ⟨"WorkPlansModel", "clearBoard", "()V"⟩ prog_7_method_9_code 2 none ∈ am_T := am_in 811 (by decide +kernel) (by decide +kernel)
theorem w_812 : Cond.methodLink "WorkPlansModel" 113 ⟨"WorkPlansModel", "place", "(I)I"⟩ ∈ am_T := am_in 812 (by decide +kernel) (by decide +kernel)
theorem w_814 : Cond.instanceMethod ⟨"WorkPlansModel", "place", "(I)I"⟩ ∈ am_T := am_in 814 (by decide +kernel) (by decide +kernel)
theorem w_815 : Cond.code ⟨"WorkPlansModel", "place", "(I)I"⟩ prog_7_method_12_code 10 (some FieldType.int) ∈ am_T := am_in 815 (by decide +kernel) (by decide +kernel)
theorem w_816 : Cond.methodLink "WorkPlansModel" 106 ⟨"WorkPlansModel", "freeFrom", "(III)I"⟩ ∈ am_T := am_in 816 (by decide +kernel) (by decide +kernel)
theorem w_818 : Cond.instanceMethod ⟨"WorkPlansModel", "freeFrom", "(III)I"⟩ ∈ am_T := am_in 818 (by decide +kernel) (by decide +kernel)
theorem w_819 : Cond.code ⟨"WorkPlansModel", "freeFrom", "(III)I"⟩ prog_7_method_11_code 7 (some FieldType.int) ∈ am_T := am_in 819 (by decide +kernel) (by decide +kernel)
theorem w_820 : Cond.methodLink "WorkPlansModel" 102 ⟨"WorkPlansModel", "meets", "(IIII)Z"⟩ ∈ am_T := am_in 820 (by decide +kernel) (by decide +kernel)
theorem w_821 : Cond.static ⟨"WorkPlansModel", "meets", "(IIII)Z"⟩ ∈ am_T := am_in 821 (by decide +kernel) (by decide +kernel)
theorem w_822 : Cond.code ⟨"WorkPlansModel", "meets", "(IIII)Z"⟩ prog_7_method_10_code 4 (some FieldType.boolean) ∈ am_T := am_in 822 (by decide +kernel) (by decide +kernel)
theorem w_823 : Cond.methodLink "WorkPlansModel" 117 ⟨"WorkPlansModel", "costOf", "(II)J"⟩ ∈ am_T := am_in 823 (by decide +kernel) (by decide +kernel)
theorem w_825 : Cond.instanceMethod ⟨"WorkPlansModel", "costOf", "(II)J"⟩ ∈ am_T := am_in 825 (by decide +kernel) (by decide +kernel)
theorem w_826 : Cond.code ⟨"WorkPlansModel", "costOf", "(II)J"⟩ prog_7_method_13_code 3 (some FieldType.long) ∈ am_T := am_in 826 (by decide +kernel) (by decide +kernel)
theorem w_827 : Cond.methodLink "WorkPlansModel" 150 ⟨"WorkPlansModel", "toPlan", "()V"⟩ ∈ am_T := am_in 827 (by decide +kernel) (by decide +kernel)
theorem w_829 : Cond.instanceMethod ⟨"WorkPlansModel", "toPlan", "()V"⟩ ∈ am_T := am_in 829 (by decide +kernel) (by decide +kernel)
theorem w_830 : Cond.code ⟨"WorkPlansModel", "toPlan", "()V"⟩ prog_7_method_21_code 2 none ∈ am_T := am_in 830 (by decide +kernel) (by decide +kernel)
theorem w_831 : Cond.methodLink "WorkPlansModel" 156 ⟨"WorkPlansModel", "least", "(I)J"⟩ ∈ am_T := am_in 831 (by decide +kernel) (by decide +kernel)
theorem w_833 : Cond.instanceMethod ⟨"WorkPlansModel", "least", "(I)J"⟩ ∈ am_T := am_in 833 (by decide +kernel) (by decide +kernel)
theorem w_834 : Cond.code ⟨"WorkPlansModel", "least", "(I)J"⟩ prog_7_method_22_code 7 (some FieldType.long) ∈ am_T := am_in 834 (by decide +kernel) (by decide +kernel)
theorem w_835 : Cond.methodLink "WorkPlansModel" 141 ⟨"WorkPlansModel", "aloneOf", "(I)J"⟩ ∈ am_T := am_in 835 (by decide +kernel) (by decide +kernel)
theorem w_837 : Cond.instanceMethod ⟨"WorkPlansModel", "aloneOf", "(I)J"⟩ ∈ am_T := am_in 837 (by decide +kernel) (by decide +kernel)
theorem w_838 : Cond.code ⟨"WorkPlansModel", "aloneOf", "(I)J"⟩ prog_7_method_17_code 2 (some FieldType.long) ∈ am_T := am_in 838 (by decide +kernel) (by decide +kernel)
theorem w_839 : Cond.methodLink "WorkPlansModel" 169 ⟨"WorkPlansModel", "become", "()V"⟩ ∈ am_T := am_in 839 (by decide +kernel) (by decide +kernel)
theorem w_841 : Cond.instanceMethod ⟨"WorkPlansModel", "become", "()V"⟩ ∈ am_T := am_in 841 (by decide +kernel) (by decide +kernel)
theorem w_842 : Cond.code ⟨"WorkPlansModel", "become", "()V"⟩ prog_7_method_19_code 2 none ∈ am_T := am_in 842 (by decide +kernel) (by decide +kernel)
theorem w_843 : Cond.methodLink "WorkPlansLaw" 104 ⟨"WorkPlansModel", "improve", "(I)I"⟩ ∈ am_T := am_in 843 (by decide +kernel) (by decide +kernel)
theorem w_844 : Cond.instanceMethod ⟨"WorkPlansModel", "improve", "(I)I"⟩ ∈ am_T := am_in 844 (by decide +kernel) (by decide +kernel)
theorem w_845 : Cond.selects "WorkPlansModel" ⟨"WorkPlansModel", "improve", "(I)I"⟩ ⟨"WorkPlansModel", "improve", "(I)I"⟩ ∈ am_T := am_in 845 (by decide +kernel) (by decide +kernel)
theorem w_846 : Cond.code ⟨"WorkPlansModel", "improve", "(I)I"⟩ prog_7_method_27_code 10 (some FieldType.int) ∈ am_T := am_in 846 (by decide +kernel) (by decide +kernel)
theorem w_847 : Cond.methodLink "WorkPlansModel" 176 ⟨"WorkPlansModel", "draw", "()I"⟩ ∈ am_T := am_in 847 (by decide +kernel) (by decide +kernel)
theorem w_849 : Cond.instanceMethod ⟨"WorkPlansModel", "draw", "()I"⟩ ∈ am_T := am_in 849 (by decide +kernel) (by decide +kernel)
theorem w_850 : Cond.code ⟨"WorkPlansModel", "draw", "()I"⟩ prog_7_method_25_code 1 (some FieldType.int) ∈ am_T := am_in 850 (by decide +kernel) (by decide +kernel)
theorem w_851 : Cond.constantLong "WorkPlansModel" 172 6364136223846793005 ∈ am_T := am_in 851 (by decide +kernel) (by decide +kernel)
theorem w_852 : Cond.constantLong "WorkPlansModel" 174 1442695040888963407 ∈ am_T := am_in 852 (by decide +kernel) (by decide +kernel)
theorem w_853 : Cond.methodLink "WorkPlansModel" 180 ⟨"WorkPlansModel", "swap", "(II)V"⟩ ∈ am_T := am_in 853 (by decide +kernel) (by decide +kernel)
theorem w_855 : Cond.instanceMethod ⟨"WorkPlansModel", "swap", "(II)V"⟩ ∈ am_T := am_in 855 (by decide +kernel) (by decide +kernel)
theorem w_856 : Cond.code ⟨"WorkPlansModel", "swap", "(II)V"⟩ prog_7_method_26_code 4 none ∈ am_T := am_in 856 (by decide +kernel) (by decide +kernel)
theorem w_857 : Cond.methodLink "WorkPlansLaw" 107 ⟨"WorkPlansModel", "at", "(II)I"⟩ ∈ am_T := am_in 857 (by decide +kernel) (by decide +kernel)
theorem w_858 : Cond.instanceMethod ⟨"WorkPlansModel", "at", "(II)I"⟩ ∈ am_T := am_in 858 (by decide +kernel) (by decide +kernel)
theorem w_859 : Cond.selects "WorkPlansModel" ⟨"WorkPlansModel", "at", "(II)I"⟩ ⟨"WorkPlansModel", "at", "(II)I"⟩ ∈ am_T := am_in 859 (by decide +kernel) (by decide +kernel)
theorem w_860 : Cond.code ⟨"WorkPlansModel", "at", "(II)I"⟩ prog_7_method_28_code 3 (some FieldType.int) ∈ am_T := am_in 860 (by decide +kernel) (by decide +kernel)
theorem w_861 : Cond.methodLink "WorkPlansLaw" 110 ⟨"WorkPlansModel", "order", "(I)I"⟩ ∈ am_T := am_in 861 (by decide +kernel) (by decide +kernel)
theorem w_862 : Cond.instanceMethod ⟨"WorkPlansModel", "order", "(I)I"⟩ ∈ am_T := am_in 862 (by decide +kernel) (by decide +kernel)
theorem w_863 : Cond.selects "WorkPlansModel" ⟨"WorkPlansModel", "order", "(I)I"⟩ ⟨"WorkPlansModel", "order", "(I)I"⟩ ∈ am_T := am_in 863 (by decide +kernel) (by decide +kernel)
theorem w_864 : Cond.code ⟨"WorkPlansModel", "order", "(I)I"⟩ prog_7_method_29_code 2 (some FieldType.int) ∈ am_T := am_in 864 (by decide +kernel) (by decide +kernel)
theorem w_865 : Cond.methodLink "WorkPlansLaw" 113 ⟨"WorkPlansModel", "about", "(I)J"⟩ ∈ am_T := am_in 865 (by decide +kernel) (by decide +kernel)
theorem w_866 : Cond.instanceMethod ⟨"WorkPlansModel", "about", "(I)J"⟩ ∈ am_T := am_in 866 (by decide +kernel) (by decide +kernel)
theorem w_867 : Cond.selects "WorkPlansModel" ⟨"WorkPlansModel", "about", "(I)J"⟩ ⟨"WorkPlansModel", "about", "(I)J"⟩ ∈ am_T := am_in 867 (by decide +kernel) (by decide +kernel)
theorem w_868 : Cond.code ⟨"WorkPlansModel", "about", "(I)J"⟩ prog_7_method_30_code 2 (some FieldType.long) ∈ am_T := am_in 868 (by decide +kernel) (by decide +kernel)
theorem w_869 : Cond.methodLink "WorkPlansLaw" 116 ⟨"WorkPlansModel", "alone", "(I)J"⟩ ∈ am_T := am_in 869 (by decide +kernel) (by decide +kernel)
theorem w_870 : Cond.instanceMethod ⟨"WorkPlansModel", "alone", "(I)J"⟩ ∈ am_T := am_in 870 (by decide +kernel) (by decide +kernel)
theorem w_871 : Cond.selects "WorkPlansModel" ⟨"WorkPlansModel", "alone", "(I)J"⟩ ⟨"WorkPlansModel", "alone", "(I)J"⟩ ∈ am_T := am_in 871 (by decide +kernel) (by decide +kernel)
theorem w_872 : Cond.code ⟨"WorkPlansModel", "alone", "(I)J"⟩ prog_7_method_31_code 2 (some FieldType.long) ∈ am_T := am_in 872 (by decide +kernel) (by decide +kernel)
theorem w_873 : Cond.methodLink "WorkPlansLaw" 119 ⟨"WorkPlansModel", "promise", "(I)I"⟩ ∈ am_T := am_in 873 (by decide +kernel) (by decide +kernel)
theorem w_874 : Cond.instanceMethod ⟨"WorkPlansModel", "promise", "(I)I"⟩ ∈ am_T := am_in 874 (by decide +kernel) (by decide +kernel)
theorem w_875 : Cond.selects "WorkPlansModel" ⟨"WorkPlansModel", "promise", "(I)I"⟩ ⟨"WorkPlansModel", "promise", "(I)I"⟩ ∈ am_T := am_in 875 (by decide +kernel) (by decide +kernel)
theorem w_876 : Cond.code ⟨"WorkPlansModel", "promise", "(I)I"⟩ prog_7_method_32_code 4 (some FieldType.int) ∈ am_T := am_in 876 (by decide +kernel) (by decide +kernel)
theorem w_877 : Cond.methodLink "WorkPlansLaw" 122 ⟨"WorkPlansModel", "clash", "(I)I"⟩ ∈ am_T := am_in 877 (by decide +kernel) (by decide +kernel)
theorem w_878 : Cond.instanceMethod ⟨"WorkPlansModel", "clash", "(I)I"⟩ ∈ am_T := am_in 878 (by decide +kernel) (by decide +kernel)
theorem w_879 : Cond.selects "WorkPlansModel" ⟨"WorkPlansModel", "clash", "(I)I"⟩ ⟨"WorkPlansModel", "clash", "(I)I"⟩ ∈ am_T := am_in 879 (by decide +kernel) (by decide +kernel)
theorem w_880 : Cond.code ⟨"WorkPlansModel", "clash", "(I)I"⟩ prog_7_method_34_code 5 (some FieldType.int) ∈ am_T := am_in 880 (by decide +kernel) (by decide +kernel)
theorem w_881 : Cond.methodLink "WorkPlansModel" 184 ⟨"WorkPlansModel", "canBoth", "(II)Z"⟩ ∈ am_T := am_in 881 (by decide +kernel) (by decide +kernel)
theorem w_883 : Cond.instanceMethod ⟨"WorkPlansModel", "canBoth", "(II)Z"⟩ ∈ am_T := am_in 883 (by decide +kernel) (by decide +kernel)
theorem w_884 : Cond.code ⟨"WorkPlansModel", "canBoth", "(II)Z"⟩ prog_7_method_33_code 3 (some FieldType.boolean) ∈ am_T := am_in 884 (by decide +kernel) (by decide +kernel)
theorem w_885 : Cond.methodLink "WorkPlansLaw" 126 ⟨"WorkPlansModel", "check", "()I"⟩ ∈ am_T := am_in 885 (by decide +kernel) (by decide +kernel)
theorem w_886 : Cond.instanceMethod ⟨"WorkPlansModel", "check", "()I"⟩ ∈ am_T := am_in 886 (by decide +kernel) (by decide +kernel)
theorem w_887 : Cond.selects "WorkPlansModel" ⟨"WorkPlansModel", "check", "()I"⟩ ⟨"WorkPlansModel", "check", "()I"⟩ ∈ am_T := am_in 887 (by decide +kernel) (by decide +kernel)
theorem w_888 : Cond.code ⟨"WorkPlansModel", "check", "()I"⟩ prog_7_method_38_code 3 (some FieldType.int) ∈ am_T := am_in 888 (by decide +kernel) (by decide +kernel)
theorem w_889 : Cond.methodLink "WorkPlansModel" 191 ⟨"WorkPlansModel", "breaks", "(II)Z"⟩ ∈ am_T := am_in 889 (by decide +kernel) (by decide +kernel)
theorem w_891 : Cond.instanceMethod ⟨"WorkPlansModel", "breaks", "(II)Z"⟩ ∈ am_T := am_in 891 (by decide +kernel) (by decide +kernel)
theorem w_892 : Cond.code ⟨"WorkPlansModel", "breaks", "(II)Z"⟩ prog_7_method_36_code 8 (some FieldType.boolean) ∈ am_T := am_in 892 (by decide +kernel) (by decide +kernel)
theorem w_893 : Cond.methodLink "WorkPlansModel" 188 ⟨"WorkPlansModel", "before", "(I)I"⟩ ∈ am_T := am_in 893 (by decide +kernel) (by decide +kernel)
theorem w_895 : Cond.instanceMethod ⟨"WorkPlansModel", "before", "(I)I"⟩ ∈ am_T := am_in 895 (by decide +kernel) (by decide +kernel)
theorem w_896 : Cond.code ⟨"WorkPlansModel", "before", "(I)I"⟩ prog_7_method_35_code 4 (some FieldType.int) ∈ am_T := am_in 896 (by decide +kernel) (by decide +kernel)
theorem w_897 : Cond.methodLink "WorkPlansModel" 194 ⟨"WorkPlansModel", "isLate", "(I)Z"⟩ ∈ am_T := am_in 897 (by decide +kernel) (by decide +kernel)
theorem w_899 : Cond.instanceMethod ⟨"WorkPlansModel", "isLate", "(I)Z"⟩ ∈ am_T := am_in 899 (by decide +kernel) (by decide +kernel)
theorem w_900 : Cond.code ⟨"WorkPlansModel", "isLate", "(I)Z"⟩ prog_7_method_37_code 3 (some FieldType.boolean) ∈ am_T := am_in 900 (by decide +kernel) (by decide +kernel)
end
section
/-! decode rows of WorkPlans$Shop -/
theorem d_S_init_0 : decode prog_5_method_1_code 0 = .ok (.aload_n 0, 1) := by decide +kernel
theorem d_S_init_1 : decode prog_5_method_1_code 1 = .ok (.invokespecial 3, 3) := by decide +kernel
theorem d_S_init_4 : decode prog_5_method_1_code 4 = .ok (.aload_n 0, 1) := by decide +kernel
theorem d_S_init_5 : decode prog_5_method_1_code 5 = .ok (.iconst 0, 1) := by decide +kernel
theorem d_S_init_6 : decode prog_5_method_1_code 6 = .ok (.putfield 9, 3) := by decide +kernel
theorem d_S_init_9 : decode prog_5_method_1_code 9 = .ok (.aload_n 0, 1) := by decide +kernel
theorem d_S_init_10 : decode prog_5_method_1_code 10 = .ok (.bipush 6, 2) := by decide +kernel
theorem d_S_init_12 : decode prog_5_method_1_code 12 = .ok (.newarray .int, 2) := by decide +kernel
theorem d_S_init_14 : decode prog_5_method_1_code 14 = .ok (.putfield 15, 3) := by decide +kernel
theorem d_S_init_17 : decode prog_5_method_1_code 17 = .ok (.aload_n 0, 1) := by decide +kernel
theorem d_S_init_18 : decode prog_5_method_1_code 18 = .ok (.bipush 6, 2) := by decide +kernel
theorem d_S_init_20 : decode prog_5_method_1_code 20 = .ok (.newarray .int, 2) := by decide +kernel
theorem d_S_init_22 : decode prog_5_method_1_code 22 = .ok (.putfield 19, 3) := by decide +kernel
theorem d_S_init_25 : decode prog_5_method_1_code 25 = .ok (.aload_n 0, 1) := by decide +kernel
theorem d_S_init_26 : decode prog_5_method_1_code 26 = .ok (.bipush 48, 2) := by decide +kernel
theorem d_S_init_28 : decode prog_5_method_1_code 28 = .ok (.newarray .int, 2) := by decide +kernel
theorem d_S_init_30 : decode prog_5_method_1_code 30 = .ok (.putfield 22, 3) := by decide +kernel
theorem d_S_init_33 : decode prog_5_method_1_code 33 = .ok (.aload_n 0, 1) := by decide +kernel
theorem d_S_init_34 : decode prog_5_method_1_code 34 = .ok (.bipush 48, 2) := by decide +kernel
theorem d_S_init_36 : decode prog_5_method_1_code 36 = .ok (.newarray .int, 2) := by decide +kernel
theorem d_S_init_38 : decode prog_5_method_1_code 38 = .ok (.putfield 25, 3) := by decide +kernel
theorem d_S_init_41 : decode prog_5_method_1_code 41 = .ok (.aload_n 0, 1) := by decide +kernel
theorem d_S_init_42 : decode prog_5_method_1_code 42 = .ok (.iconst 0, 1) := by decide +kernel
theorem d_S_init_43 : decode prog_5_method_1_code 43 = .ok (.putfield 28, 3) := by decide +kernel
theorem d_S_init_46 : decode prog_5_method_1_code 46 = .ok (.aload_n 0, 1) := by decide +kernel
theorem d_S_init_47 : decode prog_5_method_1_code 47 = .ok (.bipush 6, 2) := by decide +kernel
theorem d_S_init_49 : decode prog_5_method_1_code 49 = .ok (.newarray .int, 2) := by decide +kernel
theorem d_S_init_51 : decode prog_5_method_1_code 51 = .ok (.putfield 31, 3) := by decide +kernel
theorem d_S_init_54 : decode prog_5_method_1_code 54 = .ok (.aload_n 0, 1) := by decide +kernel
theorem d_S_init_55 : decode prog_5_method_1_code 55 = .ok (.bipush 6, 2) := by decide +kernel
theorem d_S_init_57 : decode prog_5_method_1_code 57 = .ok (.newarray .int, 2) := by decide +kernel
theorem d_S_init_59 : decode prog_5_method_1_code 59 = .ok (.putfield 34, 3) := by decide +kernel
theorem d_S_init_62 : decode prog_5_method_1_code 62 = .ok (.aload_n 0, 1) := by decide +kernel
theorem d_S_init_63 : decode prog_5_method_1_code 63 = .ok (.bipush 6, 2) := by decide +kernel
theorem d_S_init_65 : decode prog_5_method_1_code 65 = .ok (.newarray .int, 2) := by decide +kernel
theorem d_S_init_67 : decode prog_5_method_1_code 67 = .ok (.putfield 37, 3) := by decide +kernel
theorem d_S_init_70 : decode prog_5_method_1_code 70 = .ok (.aload_n 0, 1) := by decide +kernel
theorem d_S_init_71 : decode prog_5_method_1_code 71 = .ok (.bipush 24, 2) := by decide +kernel
theorem d_S_init_73 : decode prog_5_method_1_code 73 = .ok (.newarray .int, 2) := by decide +kernel
theorem d_S_init_75 : decode prog_5_method_1_code 75 = .ok (.putfield 40, 3) := by decide +kernel
theorem d_S_init_78 : decode prog_5_method_1_code 78 = .ok (.aload_n 0, 1) := by decide +kernel
theorem d_S_init_79 : decode prog_5_method_1_code 79 = .ok (.iconst 0, 1) := by decide +kernel
theorem d_S_init_80 : decode prog_5_method_1_code 80 = .ok (.putfield 43, 3) := by decide +kernel
theorem d_S_init_83 : decode prog_5_method_1_code 83 = .ok (.aload_n 0, 1) := by decide +kernel
theorem d_S_init_84 : decode prog_5_method_1_code 84 = .ok (.bipush 24, 2) := by decide +kernel
theorem d_S_init_86 : decode prog_5_method_1_code 86 = .ok (.newarray .int, 2) := by decide +kernel
theorem d_S_init_88 : decode prog_5_method_1_code 88 = .ok (.putfield 46, 3) := by decide +kernel
theorem d_S_init_91 : decode prog_5_method_1_code 91 = .ok (.aload_n 0, 1) := by decide +kernel
theorem d_S_init_92 : decode prog_5_method_1_code 92 = .ok (.bipush 24, 2) := by decide +kernel
theorem d_S_init_94 : decode prog_5_method_1_code 94 = .ok (.newarray .int, 2) := by decide +kernel
theorem d_S_init_96 : decode prog_5_method_1_code 96 = .ok (.putfield 49, 3) := by decide +kernel
theorem d_S_init_99 : decode prog_5_method_1_code 99 = .ok (.aload_n 0, 1) := by decide +kernel
theorem d_S_init_100 : decode prog_5_method_1_code 100 = .ok (.bipush 24, 2) := by decide +kernel
theorem d_S_init_102 : decode prog_5_method_1_code 102 = .ok (.newarray .int, 2) := by decide +kernel
theorem d_S_init_104 : decode prog_5_method_1_code 104 = .ok (.putfield 52, 3) := by decide +kernel
theorem d_S_init_107 : decode prog_5_method_1_code 107 = .ok (.aload_n 0, 1) := by decide +kernel
theorem d_S_init_108 : decode prog_5_method_1_code 108 = .ok (.bipush 24, 2) := by decide +kernel
theorem d_S_init_110 : decode prog_5_method_1_code 110 = .ok (.newarray .int, 2) := by decide +kernel
theorem d_S_init_112 : decode prog_5_method_1_code 112 = .ok (.putfield 55, 3) := by decide +kernel
theorem d_S_init_115 : decode prog_5_method_1_code 115 = .ok (.return_, 1) := by decide +kernel
theorem d_S_addMachine_0 : decode prog_5_method_2_code 0 = .ok (.aload_n 0, 1) := by decide +kernel
theorem d_S_addMachine_1 : decode prog_5_method_2_code 1 = .ok (.getfield 9, 3) := by decide +kernel
theorem d_S_addMachine_4 : decode prog_5_method_2_code 4 = .ok (.istore_n 2, 1) := by decide +kernel
theorem d_S_addMachine_5 : decode prog_5_method_2_code 5 = .ok (.aload_n 0, 1) := by decide +kernel
theorem d_S_addMachine_6 : decode prog_5_method_2_code 6 = .ok (.getfield 15, 3) := by decide +kernel
theorem d_S_addMachine_9 : decode prog_5_method_2_code 9 = .ok (.iload_n 2, 1) := by decide +kernel
theorem d_S_addMachine_10 : decode prog_5_method_2_code 10 = .ok (.iload_n 1, 1) := by decide +kernel
theorem d_S_addMachine_11 : decode prog_5_method_2_code 11 = .ok (.iastore, 1) := by decide +kernel
theorem d_S_addMachine_12 : decode prog_5_method_2_code 12 = .ok (.aload_n 0, 1) := by decide +kernel
theorem d_S_addMachine_13 : decode prog_5_method_2_code 13 = .ok (.dup, 1) := by decide +kernel
theorem d_S_addMachine_14 : decode prog_5_method_2_code 14 = .ok (.getfield 9, 3) := by decide +kernel
theorem d_S_addMachine_17 : decode prog_5_method_2_code 17 = .ok (.iconst 1, 1) := by decide +kernel
theorem d_S_addMachine_18 : decode prog_5_method_2_code 18 = .ok (.iadd, 1) := by decide +kernel
theorem d_S_addMachine_19 : decode prog_5_method_2_code 19 = .ok (.putfield 9, 3) := by decide +kernel
theorem d_S_addMachine_22 : decode prog_5_method_2_code 22 = .ok (.iload_n 2, 1) := by decide +kernel
theorem d_S_addMachine_23 : decode prog_5_method_2_code 23 = .ok (.ireturn, 1) := by decide +kernel
theorem d_S_addSpan_0 : decode prog_5_method_3_code 0 = .ok (.iload_n 1, 1) := by decide +kernel
theorem d_S_addSpan_1 : decode prog_5_method_3_code 1 = .ok (.bipush 8, 2) := by decide +kernel
theorem d_S_addSpan_3 : decode prog_5_method_3_code 3 = .ok (.imul, 1) := by decide +kernel
theorem d_S_addSpan_4 : decode prog_5_method_3_code 4 = .ok (.aload_n 0, 1) := by decide +kernel
theorem d_S_addSpan_5 : decode prog_5_method_3_code 5 = .ok (.getfield 19, 3) := by decide +kernel
theorem d_S_addSpan_8 : decode prog_5_method_3_code 8 = .ok (.iload_n 1, 1) := by decide +kernel
theorem d_S_addSpan_9 : decode prog_5_method_3_code 9 = .ok (.iaload, 1) := by decide +kernel
theorem d_S_addSpan_10 : decode prog_5_method_3_code 10 = .ok (.iadd, 1) := by decide +kernel
theorem d_S_addSpan_11 : decode prog_5_method_3_code 11 = .ok (.istore 4, 2) := by decide +kernel
theorem d_S_addSpan_13 : decode prog_5_method_3_code 13 = .ok (.aload_n 0, 1) := by decide +kernel
theorem d_S_addSpan_14 : decode prog_5_method_3_code 14 = .ok (.getfield 22, 3) := by decide +kernel
theorem d_S_addSpan_17 : decode prog_5_method_3_code 17 = .ok (.iload 4, 2) := by decide +kernel
theorem d_S_addSpan_19 : decode prog_5_method_3_code 19 = .ok (.iload_n 2, 1) := by decide +kernel
theorem d_S_addSpan_20 : decode prog_5_method_3_code 20 = .ok (.iastore, 1) := by decide +kernel
theorem d_S_addSpan_21 : decode prog_5_method_3_code 21 = .ok (.aload_n 0, 1) := by decide +kernel
theorem d_S_addSpan_22 : decode prog_5_method_3_code 22 = .ok (.getfield 25, 3) := by decide +kernel
theorem d_S_addSpan_25 : decode prog_5_method_3_code 25 = .ok (.iload 4, 2) := by decide +kernel
theorem d_S_addSpan_27 : decode prog_5_method_3_code 27 = .ok (.iload_n 3, 1) := by decide +kernel
theorem d_S_addSpan_28 : decode prog_5_method_3_code 28 = .ok (.iastore, 1) := by decide +kernel
theorem d_S_addSpan_29 : decode prog_5_method_3_code 29 = .ok (.aload_n 0, 1) := by decide +kernel
theorem d_S_addSpan_30 : decode prog_5_method_3_code 30 = .ok (.getfield 19, 3) := by decide +kernel
theorem d_S_addSpan_33 : decode prog_5_method_3_code 33 = .ok (.iload_n 1, 1) := by decide +kernel
theorem d_S_addSpan_34 : decode prog_5_method_3_code 34 = .ok (.dup2, 1) := by decide +kernel
theorem d_S_addSpan_35 : decode prog_5_method_3_code 35 = .ok (.iaload, 1) := by decide +kernel
theorem d_S_addSpan_36 : decode prog_5_method_3_code 36 = .ok (.iconst 1, 1) := by decide +kernel
theorem d_S_addSpan_37 : decode prog_5_method_3_code 37 = .ok (.iadd, 1) := by decide +kernel
theorem d_S_addSpan_38 : decode prog_5_method_3_code 38 = .ok (.iastore, 1) := by decide +kernel
theorem d_S_addSpan_39 : decode prog_5_method_3_code 39 = .ok (.aload_n 0, 1) := by decide +kernel
theorem d_S_addSpan_40 : decode prog_5_method_3_code 40 = .ok (.getfield 19, 3) := by decide +kernel
theorem d_S_addSpan_43 : decode prog_5_method_3_code 43 = .ok (.iload_n 1, 1) := by decide +kernel
theorem d_S_addSpan_44 : decode prog_5_method_3_code 44 = .ok (.iaload, 1) := by decide +kernel
theorem d_S_addSpan_45 : decode prog_5_method_3_code 45 = .ok (.ireturn, 1) := by decide +kernel
theorem d_S_addJob_0 : decode prog_5_method_4_code 0 = .ok (.aload_n 0, 1) := by decide +kernel
theorem d_S_addJob_1 : decode prog_5_method_4_code 1 = .ok (.getfield 28, 3) := by decide +kernel
theorem d_S_addJob_4 : decode prog_5_method_4_code 4 = .ok (.istore_n 3, 1) := by decide +kernel
theorem d_S_addJob_5 : decode prog_5_method_4_code 5 = .ok (.aload_n 0, 1) := by decide +kernel
theorem d_S_addJob_6 : decode prog_5_method_4_code 6 = .ok (.getfield 31, 3) := by decide +kernel
theorem d_S_addJob_9 : decode prog_5_method_4_code 9 = .ok (.iload_n 3, 1) := by decide +kernel
theorem d_S_addJob_10 : decode prog_5_method_4_code 10 = .ok (.iload_n 1, 1) := by decide +kernel
theorem d_S_addJob_11 : decode prog_5_method_4_code 11 = .ok (.iastore, 1) := by decide +kernel
theorem d_S_addJob_12 : decode prog_5_method_4_code 12 = .ok (.aload_n 0, 1) := by decide +kernel
theorem d_S_addJob_13 : decode prog_5_method_4_code 13 = .ok (.getfield 34, 3) := by decide +kernel
theorem d_S_addJob_16 : decode prog_5_method_4_code 16 = .ok (.iload_n 3, 1) := by decide +kernel
theorem d_S_addJob_17 : decode prog_5_method_4_code 17 = .ok (.iload_n 2, 1) := by decide +kernel
theorem d_S_addJob_18 : decode prog_5_method_4_code 18 = .ok (.iastore, 1) := by decide +kernel
theorem d_S_addJob_19 : decode prog_5_method_4_code 19 = .ok (.aload_n 0, 1) := by decide +kernel
theorem d_S_addJob_20 : decode prog_5_method_4_code 20 = .ok (.dup, 1) := by decide +kernel
theorem d_S_addJob_21 : decode prog_5_method_4_code 21 = .ok (.getfield 28, 3) := by decide +kernel
theorem d_S_addJob_24 : decode prog_5_method_4_code 24 = .ok (.iconst 1, 1) := by decide +kernel
theorem d_S_addJob_25 : decode prog_5_method_4_code 25 = .ok (.iadd, 1) := by decide +kernel
theorem d_S_addJob_26 : decode prog_5_method_4_code 26 = .ok (.putfield 28, 3) := by decide +kernel
theorem d_S_addJob_29 : decode prog_5_method_4_code 29 = .ok (.iload_n 3, 1) := by decide +kernel
theorem d_S_addJob_30 : decode prog_5_method_4_code 30 = .ok (.ireturn, 1) := by decide +kernel
theorem d_S_addStep_0 : decode prog_5_method_5_code 0 = .ok (.aload_n 0, 1) := by decide +kernel
theorem d_S_addStep_1 : decode prog_5_method_5_code 1 = .ok (.getfield 43, 3) := by decide +kernel
theorem d_S_addStep_4 : decode prog_5_method_5_code 4 = .ok (.istore 5, 2) := by decide +kernel
theorem d_S_addStep_6 : decode prog_5_method_5_code 6 = .ok (.aload_n 0, 1) := by decide +kernel
theorem d_S_addStep_7 : decode prog_5_method_5_code 7 = .ok (.getfield 46, 3) := by decide +kernel
theorem d_S_addStep_10 : decode prog_5_method_5_code 10 = .ok (.iload 5, 2) := by decide +kernel
theorem d_S_addStep_12 : decode prog_5_method_5_code 12 = .ok (.iload_n 2, 1) := by decide +kernel
theorem d_S_addStep_13 : decode prog_5_method_5_code 13 = .ok (.iastore, 1) := by decide +kernel
theorem d_S_addStep_14 : decode prog_5_method_5_code 14 = .ok (.aload_n 0, 1) := by decide +kernel
theorem d_S_addStep_15 : decode prog_5_method_5_code 15 = .ok (.getfield 49, 3) := by decide +kernel
theorem d_S_addStep_18 : decode prog_5_method_5_code 18 = .ok (.iload 5, 2) := by decide +kernel
theorem d_S_addStep_20 : decode prog_5_method_5_code 20 = .ok (.iload_n 3, 1) := by decide +kernel
theorem d_S_addStep_21 : decode prog_5_method_5_code 21 = .ok (.iastore, 1) := by decide +kernel
theorem d_S_addStep_22 : decode prog_5_method_5_code 22 = .ok (.aload_n 0, 1) := by decide +kernel
theorem d_S_addStep_23 : decode prog_5_method_5_code 23 = .ok (.getfield 52, 3) := by decide +kernel
theorem d_S_addStep_26 : decode prog_5_method_5_code 26 = .ok (.iload 5, 2) := by decide +kernel
theorem d_S_addStep_28 : decode prog_5_method_5_code 28 = .ok (.iload 4, 2) := by decide +kernel
theorem d_S_addStep_30 : decode prog_5_method_5_code 30 = .ok (.iastore, 1) := by decide +kernel
theorem d_S_addStep_31 : decode prog_5_method_5_code 31 = .ok (.aload_n 0, 1) := by decide +kernel
theorem d_S_addStep_32 : decode prog_5_method_5_code 32 = .ok (.getfield 55, 3) := by decide +kernel
theorem d_S_addStep_35 : decode prog_5_method_5_code 35 = .ok (.iload 5, 2) := by decide +kernel
theorem d_S_addStep_37 : decode prog_5_method_5_code 37 = .ok (.aload_n 0, 1) := by decide +kernel
theorem d_S_addStep_38 : decode prog_5_method_5_code 38 = .ok (.iload_n 1, 1) := by decide +kernel
theorem d_S_addStep_39 : decode prog_5_method_5_code 39 = .ok (.invokevirtual 58, 3) := by decide +kernel
theorem d_S_addStep_42 : decode prog_5_method_5_code 42 = .ok (.iastore, 1) := by decide +kernel
theorem d_S_addStep_43 : decode prog_5_method_5_code 43 = .ok (.aload_n 0, 1) := by decide +kernel
theorem d_S_addStep_44 : decode prog_5_method_5_code 44 = .ok (.getfield 40, 3) := by decide +kernel
theorem d_S_addStep_47 : decode prog_5_method_5_code 47 = .ok (.iload_n 1, 1) := by decide +kernel
theorem d_S_addStep_48 : decode prog_5_method_5_code 48 = .ok (.iconst 4, 1) := by decide +kernel
theorem d_S_addStep_49 : decode prog_5_method_5_code 49 = .ok (.imul, 1) := by decide +kernel
theorem d_S_addStep_50 : decode prog_5_method_5_code 50 = .ok (.aload_n 0, 1) := by decide +kernel
theorem d_S_addStep_51 : decode prog_5_method_5_code 51 = .ok (.getfield 37, 3) := by decide +kernel
theorem d_S_addStep_54 : decode prog_5_method_5_code 54 = .ok (.iload_n 1, 1) := by decide +kernel
theorem d_S_addStep_55 : decode prog_5_method_5_code 55 = .ok (.iaload, 1) := by decide +kernel
theorem d_S_addStep_56 : decode prog_5_method_5_code 56 = .ok (.iadd, 1) := by decide +kernel
theorem d_S_addStep_57 : decode prog_5_method_5_code 57 = .ok (.iload 5, 2) := by decide +kernel
theorem d_S_addStep_59 : decode prog_5_method_5_code 59 = .ok (.iastore, 1) := by decide +kernel
theorem d_S_addStep_60 : decode prog_5_method_5_code 60 = .ok (.aload_n 0, 1) := by decide +kernel
theorem d_S_addStep_61 : decode prog_5_method_5_code 61 = .ok (.getfield 37, 3) := by decide +kernel
theorem d_S_addStep_64 : decode prog_5_method_5_code 64 = .ok (.iload_n 1, 1) := by decide +kernel
theorem d_S_addStep_65 : decode prog_5_method_5_code 65 = .ok (.dup2, 1) := by decide +kernel
theorem d_S_addStep_66 : decode prog_5_method_5_code 66 = .ok (.iaload, 1) := by decide +kernel
theorem d_S_addStep_67 : decode prog_5_method_5_code 67 = .ok (.iconst 1, 1) := by decide +kernel
theorem d_S_addStep_68 : decode prog_5_method_5_code 68 = .ok (.iadd, 1) := by decide +kernel
theorem d_S_addStep_69 : decode prog_5_method_5_code 69 = .ok (.iastore, 1) := by decide +kernel
theorem d_S_addStep_70 : decode prog_5_method_5_code 70 = .ok (.aload_n 0, 1) := by decide +kernel
theorem d_S_addStep_71 : decode prog_5_method_5_code 71 = .ok (.dup, 1) := by decide +kernel
theorem d_S_addStep_72 : decode prog_5_method_5_code 72 = .ok (.getfield 43, 3) := by decide +kernel
theorem d_S_addStep_75 : decode prog_5_method_5_code 75 = .ok (.iconst 1, 1) := by decide +kernel
theorem d_S_addStep_76 : decode prog_5_method_5_code 76 = .ok (.iadd, 1) := by decide +kernel
theorem d_S_addStep_77 : decode prog_5_method_5_code 77 = .ok (.putfield 43, 3) := by decide +kernel
theorem d_S_addStep_80 : decode prog_5_method_5_code 80 = .ok (.iload 5, 2) := by decide +kernel
theorem d_S_addStep_82 : decode prog_5_method_5_code 82 = .ok (.ireturn, 1) := by decide +kernel
theorem d_S_lastStep_0 : decode prog_5_method_6_code 0 = .ok (.aload_n 0, 1) := by decide +kernel
theorem d_S_lastStep_1 : decode prog_5_method_6_code 1 = .ok (.getfield 37, 3) := by decide +kernel
theorem d_S_lastStep_4 : decode prog_5_method_6_code 4 = .ok (.iload_n 1, 1) := by decide +kernel
theorem d_S_lastStep_5 : decode prog_5_method_6_code 5 = .ok (.iaload, 1) := by decide +kernel
theorem d_S_lastStep_6 : decode prog_5_method_6_code 6 = .ok (.ifCond .le 23, 3) := by decide +kernel
theorem d_S_lastStep_9 : decode prog_5_method_6_code 9 = .ok (.aload_n 0, 1) := by decide +kernel
theorem d_S_lastStep_10 : decode prog_5_method_6_code 10 = .ok (.getfield 40, 3) := by decide +kernel
theorem d_S_lastStep_13 : decode prog_5_method_6_code 13 = .ok (.iload_n 1, 1) := by decide +kernel
theorem d_S_lastStep_14 : decode prog_5_method_6_code 14 = .ok (.iconst 4, 1) := by decide +kernel
theorem d_S_lastStep_15 : decode prog_5_method_6_code 15 = .ok (.imul, 1) := by decide +kernel
theorem d_S_lastStep_16 : decode prog_5_method_6_code 16 = .ok (.aload_n 0, 1) := by decide +kernel
theorem d_S_lastStep_17 : decode prog_5_method_6_code 17 = .ok (.getfield 37, 3) := by decide +kernel
theorem d_S_lastStep_20 : decode prog_5_method_6_code 20 = .ok (.iload_n 1, 1) := by decide +kernel
theorem d_S_lastStep_21 : decode prog_5_method_6_code 21 = .ok (.iaload, 1) := by decide +kernel
theorem d_S_lastStep_22 : decode prog_5_method_6_code 22 = .ok (.iadd, 1) := by decide +kernel
theorem d_S_lastStep_23 : decode prog_5_method_6_code 23 = .ok (.iconst 1, 1) := by decide +kernel
theorem d_S_lastStep_24 : decode prog_5_method_6_code 24 = .ok (.isub, 1) := by decide +kernel
theorem d_S_lastStep_25 : decode prog_5_method_6_code 25 = .ok (.iaload, 1) := by decide +kernel
theorem d_S_lastStep_26 : decode prog_5_method_6_code 26 = .ok (.goto 4, 3) := by decide +kernel
theorem d_S_lastStep_29 : decode prog_5_method_6_code 29 = .ok (.iconst (-1), 1) := by decide +kernel
theorem d_S_lastStep_30 : decode prog_5_method_6_code 30 = .ok (.ireturn, 1) := by decide +kernel
theorem d_S_allFit_0 : decode prog_5_method_8_code 0 = .ok (.iconst 0, 1) := by decide +kernel
theorem d_S_allFit_1 : decode prog_5_method_8_code 1 = .ok (.istore_n 1, 1) := by decide +kernel
theorem d_S_allFit_2 : decode prog_5_method_8_code 2 = .ok (.iload_n 1, 1) := by decide +kernel
theorem d_S_allFit_3 : decode prog_5_method_8_code 3 = .ok (.aload_n 0, 1) := by decide +kernel
theorem d_S_allFit_4 : decode prog_5_method_8_code 4 = .ok (.getfield 28, 3) := by decide +kernel
theorem d_S_allFit_7 : decode prog_5_method_8_code 7 = .ok (.if_icmp .ge 19, 3) := by decide +kernel
theorem d_S_allFit_10 : decode prog_5_method_8_code 10 = .ok (.aload_n 0, 1) := by decide +kernel
theorem d_S_allFit_11 : decode prog_5_method_8_code 11 = .ok (.iload_n 1, 1) := by decide +kernel
theorem d_S_allFit_12 : decode prog_5_method_8_code 12 = .ok (.invokevirtual 66, 3) := by decide +kernel
theorem d_S_allFit_15 : decode prog_5_method_8_code 15 = .ok (.ifCond .ne 5, 3) := by decide +kernel
theorem d_S_allFit_18 : decode prog_5_method_8_code 18 = .ok (.iconst 0, 1) := by decide +kernel
theorem d_S_allFit_19 : decode prog_5_method_8_code 19 = .ok (.ireturn, 1) := by decide +kernel
theorem d_S_allFit_20 : decode prog_5_method_8_code 20 = .ok (.iinc 1 1, 3) := by decide +kernel
theorem d_S_allFit_23 : decode prog_5_method_8_code 23 = .ok (.goto (-21), 3) := by decide +kernel
theorem d_S_allFit_26 : decode prog_5_method_8_code 26 = .ok (.iconst 1, 1) := by decide +kernel
theorem d_S_allFit_27 : decode prog_5_method_8_code 27 = .ok (.ireturn, 1) := by decide +kernel
theorem d_S_fits_0 : decode prog_5_method_7_code 0 = .ok (.iconst 0, 1) := by decide +kernel
theorem d_S_fits_1 : decode prog_5_method_7_code 1 = .ok (.istore_n 2, 1) := by decide +kernel
theorem d_S_fits_2 : decode prog_5_method_7_code 2 = .ok (.iload_n 2, 1) := by decide +kernel
theorem d_S_fits_3 : decode prog_5_method_7_code 3 = .ok (.aload_n 0, 1) := by decide +kernel
theorem d_S_fits_4 : decode prog_5_method_7_code 4 = .ok (.getfield 37, 3) := by decide +kernel
theorem d_S_fits_7 : decode prog_5_method_7_code 7 = .ok (.iload_n 1, 1) := by decide +kernel
theorem d_S_fits_8 : decode prog_5_method_7_code 8 = .ok (.iaload, 1) := by decide +kernel
theorem d_S_fits_9 : decode prog_5_method_7_code 9 = .ok (.if_icmp .ge 33, 3) := by decide +kernel
theorem d_S_fits_12 : decode prog_5_method_7_code 12 = .ok (.aload_n 0, 1) := by decide +kernel
theorem d_S_fits_13 : decode prog_5_method_7_code 13 = .ok (.aload_n 0, 1) := by decide +kernel
theorem d_S_fits_14 : decode prog_5_method_7_code 14 = .ok (.getfield 46, 3) := by decide +kernel
theorem d_S_fits_17 : decode prog_5_method_7_code 17 = .ok (.aload_n 0, 1) := by decide +kernel
theorem d_S_fits_18 : decode prog_5_method_7_code 18 = .ok (.getfield 40, 3) := by decide +kernel
theorem d_S_fits_21 : decode prog_5_method_7_code 21 = .ok (.iload_n 1, 1) := by decide +kernel
theorem d_S_fits_22 : decode prog_5_method_7_code 22 = .ok (.iconst 4, 1) := by decide +kernel
theorem d_S_fits_23 : decode prog_5_method_7_code 23 = .ok (.imul, 1) := by decide +kernel
theorem d_S_fits_24 : decode prog_5_method_7_code 24 = .ok (.iload_n 2, 1) := by decide +kernel
theorem d_S_fits_25 : decode prog_5_method_7_code 25 = .ok (.iadd, 1) := by decide +kernel
theorem d_S_fits_26 : decode prog_5_method_7_code 26 = .ok (.iaload, 1) := by decide +kernel
theorem d_S_fits_27 : decode prog_5_method_7_code 27 = .ok (.iaload, 1) := by decide +kernel
theorem d_S_fits_28 : decode prog_5_method_7_code 28 = .ok (.invokevirtual 62, 3) := by decide +kernel
theorem d_S_fits_31 : decode prog_5_method_7_code 31 = .ok (.ifCond .ne 5, 3) := by decide +kernel
theorem d_S_fits_34 : decode prog_5_method_7_code 34 = .ok (.iconst 0, 1) := by decide +kernel
theorem d_S_fits_35 : decode prog_5_method_7_code 35 = .ok (.ireturn, 1) := by decide +kernel
theorem d_S_fits_36 : decode prog_5_method_7_code 36 = .ok (.iinc 2 1, 3) := by decide +kernel
theorem d_S_fits_39 : decode prog_5_method_7_code 39 = .ok (.goto (-37), 3) := by decide +kernel
theorem d_S_fits_42 : decode prog_5_method_7_code 42 = .ok (.iconst 1, 1) := by decide +kernel
theorem d_S_fits_43 : decode prog_5_method_7_code 43 = .ok (.ireturn, 1) := by decide +kernel
theorem d_S_hasMachine_0 : decode prog_5_method_10_code 0 = .ok (.iconst 0, 1) := by decide +kernel
theorem d_S_hasMachine_1 : decode prog_5_method_10_code 1 = .ok (.istore_n 2, 1) := by decide +kernel
theorem d_S_hasMachine_2 : decode prog_5_method_10_code 2 = .ok (.iload_n 2, 1) := by decide +kernel
theorem d_S_hasMachine_3 : decode prog_5_method_10_code 3 = .ok (.aload_n 0, 1) := by decide +kernel
theorem d_S_hasMachine_4 : decode prog_5_method_10_code 4 = .ok (.getfield 9, 3) := by decide +kernel
theorem d_S_hasMachine_7 : decode prog_5_method_10_code 7 = .ok (.if_icmp .ge 21, 3) := by decide +kernel
theorem d_S_hasMachine_10 : decode prog_5_method_10_code 10 = .ok (.aload_n 0, 1) := by decide +kernel
theorem d_S_hasMachine_11 : decode prog_5_method_10_code 11 = .ok (.getfield 15, 3) := by decide +kernel
theorem d_S_hasMachine_14 : decode prog_5_method_10_code 14 = .ok (.iload_n 2, 1) := by decide +kernel
theorem d_S_hasMachine_15 : decode prog_5_method_10_code 15 = .ok (.iaload, 1) := by decide +kernel
theorem d_S_hasMachine_16 : decode prog_5_method_10_code 16 = .ok (.iload_n 1, 1) := by decide +kernel
theorem d_S_hasMachine_17 : decode prog_5_method_10_code 17 = .ok (.if_icmp .ne 5, 3) := by decide +kernel
theorem d_S_hasMachine_20 : decode prog_5_method_10_code 20 = .ok (.iconst 1, 1) := by decide +kernel
theorem d_S_hasMachine_21 : decode prog_5_method_10_code 21 = .ok (.ireturn, 1) := by decide +kernel
theorem d_S_hasMachine_22 : decode prog_5_method_10_code 22 = .ok (.iinc 2 1, 3) := by decide +kernel
theorem d_S_hasMachine_25 : decode prog_5_method_10_code 25 = .ok (.goto (-23), 3) := by decide +kernel
theorem d_S_hasMachine_28 : decode prog_5_method_10_code 28 = .ok (.iconst 0, 1) := by decide +kernel
theorem d_S_hasMachine_29 : decode prog_5_method_10_code 29 = .ok (.ireturn, 1) := by decide +kernel
theorem d_S_costOf_0 : decode prog_5_method_9_code 0 = .ok (.iload_n 2, 1) := by decide +kernel
theorem d_S_costOf_1 : decode prog_5_method_9_code 1 = .ok (.i2l, 1) := by decide +kernel
theorem d_S_costOf_2 : decode prog_5_method_9_code 2 = .ok (.aload_n 0, 1) := by decide +kernel
theorem d_S_costOf_3 : decode prog_5_method_9_code 3 = .ok (.getfield 31, 3) := by decide +kernel
theorem d_S_costOf_6 : decode prog_5_method_9_code 6 = .ok (.iload_n 1, 1) := by decide +kernel
theorem d_S_costOf_7 : decode prog_5_method_9_code 7 = .ok (.iaload, 1) := by decide +kernel
theorem d_S_costOf_8 : decode prog_5_method_9_code 8 = .ok (.i2l, 1) := by decide +kernel
theorem d_S_costOf_9 : decode prog_5_method_9_code 9 = .ok (.lsub, 1) := by decide +kernel
theorem d_S_costOf_10 : decode prog_5_method_9_code 10 = .ok (.lstore_n 3, 1) := by decide +kernel
theorem d_S_costOf_11 : decode prog_5_method_9_code 11 = .ok (.lload_n 3, 1) := by decide +kernel
theorem d_S_costOf_12 : decode prog_5_method_9_code 12 = .ok (.lconst 0, 1) := by decide +kernel
theorem d_S_costOf_13 : decode prog_5_method_9_code 13 = .ok (.lcmp, 1) := by decide +kernel
theorem d_S_costOf_14 : decode prog_5_method_9_code 14 = .ok (.ifCond .le 15, 3) := by decide +kernel
theorem d_S_costOf_17 : decode prog_5_method_9_code 17 = .ok (.lload_n 3, 1) := by decide +kernel
theorem d_S_costOf_18 : decode prog_5_method_9_code 18 = .ok (.aload_n 0, 1) := by decide +kernel
theorem d_S_costOf_19 : decode prog_5_method_9_code 19 = .ok (.getfield 34, 3) := by decide +kernel
theorem d_S_costOf_22 : decode prog_5_method_9_code 22 = .ok (.iload_n 1, 1) := by decide +kernel
theorem d_S_costOf_23 : decode prog_5_method_9_code 23 = .ok (.iaload, 1) := by decide +kernel
theorem d_S_costOf_24 : decode prog_5_method_9_code 24 = .ok (.i2l, 1) := by decide +kernel
theorem d_S_costOf_25 : decode prog_5_method_9_code 25 = .ok (.lmul, 1) := by decide +kernel
theorem d_S_costOf_26 : decode prog_5_method_9_code 26 = .ok (.goto 4, 3) := by decide +kernel
theorem d_S_costOf_29 : decode prog_5_method_9_code 29 = .ok (.lconst 0, 1) := by decide +kernel
theorem d_S_costOf_30 : decode prog_5_method_9_code 30 = .ok (.lreturn, 1) := by decide +kernel
end
section
/-! decode rows of WorkPlans$Floor -/
theorem d_F_init_0 : decode prog_2_method_1_code 0 = .ok (.aload_n 0, 1) := by decide +kernel
theorem d_F_init_1 : decode prog_2_method_1_code 1 = .ok (.invokespecial 3, 3) := by decide +kernel
theorem d_F_init_4 : decode prog_2_method_1_code 4 = .ok (.aload_n 0, 1) := by decide +kernel
theorem d_F_init_5 : decode prog_2_method_1_code 5 = .ok (.bipush 24, 2) := by decide +kernel
theorem d_F_init_7 : decode prog_2_method_1_code 7 = .ok (.newarray .int, 2) := by decide +kernel
theorem d_F_init_9 : decode prog_2_method_1_code 9 = .ok (.putfield 9, 3) := by decide +kernel
theorem d_F_init_12 : decode prog_2_method_1_code 12 = .ok (.aload_n 0, 1) := by decide +kernel
theorem d_F_init_13 : decode prog_2_method_1_code 13 = .ok (.bipush 24, 2) := by decide +kernel
theorem d_F_init_15 : decode prog_2_method_1_code 15 = .ok (.newarray .int, 2) := by decide +kernel
theorem d_F_init_17 : decode prog_2_method_1_code 17 = .ok (.putfield 15, 3) := by decide +kernel
theorem d_F_init_20 : decode prog_2_method_1_code 20 = .ok (.aload_n 0, 1) := by decide +kernel
theorem d_F_init_21 : decode prog_2_method_1_code 21 = .ok (.bipush 6, 2) := by decide +kernel
theorem d_F_init_23 : decode prog_2_method_1_code 23 = .ok (.newarray .int, 2) := by decide +kernel
theorem d_F_init_25 : decode prog_2_method_1_code 25 = .ok (.putfield 18, 3) := by decide +kernel
theorem d_F_init_28 : decode prog_2_method_1_code 28 = .ok (.aload_n 0, 1) := by decide +kernel
theorem d_F_init_29 : decode prog_2_method_1_code 29 = .ok (.sipush 192, 3) := by decide +kernel
theorem d_F_init_32 : decode prog_2_method_1_code 32 = .ok (.newarray .int, 2) := by decide +kernel
theorem d_F_init_34 : decode prog_2_method_1_code 34 = .ok (.putfield 21, 3) := by decide +kernel
theorem d_F_init_37 : decode prog_2_method_1_code 37 = .ok (.aload_n 0, 1) := by decide +kernel
theorem d_F_init_38 : decode prog_2_method_1_code 38 = .ok (.sipush 192, 3) := by decide +kernel
theorem d_F_init_41 : decode prog_2_method_1_code 41 = .ok (.newarray .int, 2) := by decide +kernel
theorem d_F_init_43 : decode prog_2_method_1_code 43 = .ok (.putfield 24, 3) := by decide +kernel
theorem d_F_init_46 : decode prog_2_method_1_code 46 = .ok (.aload_n 0, 1) := by decide +kernel
theorem d_F_init_47 : decode prog_2_method_1_code 47 = .ok (.aload_n 1, 1) := by decide +kernel
theorem d_F_init_48 : decode prog_2_method_1_code 48 = .ok (.putfield 27, 3) := by decide +kernel
theorem d_F_init_51 : decode prog_2_method_1_code 51 = .ok (.return_, 1) := by decide +kernel
theorem d_F_costAlone_0 : decode prog_2_method_7_code 0 = .ok (.aload_n 0, 1) := by decide +kernel
theorem d_F_costAlone_1 : decode prog_2_method_7_code 1 = .ok (.invokevirtual 66, 3) := by decide +kernel
theorem d_F_costAlone_4 : decode prog_2_method_7_code 4 = .ok (.aload_n 0, 1) := by decide +kernel
theorem d_F_costAlone_5 : decode prog_2_method_7_code 5 = .ok (.getfield 27, 3) := by decide +kernel
theorem d_F_costAlone_8 : decode prog_2_method_7_code 8 = .ok (.iload_n 1, 1) := by decide +kernel
theorem d_F_costAlone_9 : decode prog_2_method_7_code 9 = .ok (.aload_n 0, 1) := by decide +kernel
theorem d_F_costAlone_10 : decode prog_2_method_7_code 10 = .ok (.iload_n 1, 1) := by decide +kernel
theorem d_F_costAlone_11 : decode prog_2_method_7_code 11 = .ok (.invokevirtual 69, 3) := by decide +kernel
theorem d_F_costAlone_14 : decode prog_2_method_7_code 14 = .ok (.invokevirtual 73, 3) := by decide +kernel
theorem d_F_costAlone_17 : decode prog_2_method_7_code 17 = .ok (.lreturn, 1) := by decide +kernel
theorem d_F_clear_0 : decode prog_2_method_2_code 0 = .ok (.iconst 0, 1) := by decide +kernel
theorem d_F_clear_1 : decode prog_2_method_2_code 1 = .ok (.istore_n 1, 1) := by decide +kernel
theorem d_F_clear_2 : decode prog_2_method_2_code 2 = .ok (.iload_n 1, 1) := by decide +kernel
theorem d_F_clear_3 : decode prog_2_method_2_code 3 = .ok (.aload_n 0, 1) := by decide +kernel
theorem d_F_clear_4 : decode prog_2_method_2_code 4 = .ok (.getfield 27, 3) := by decide +kernel
theorem d_F_clear_7 : decode prog_2_method_2_code 7 = .ok (.getfield 31, 3) := by decide +kernel
theorem d_F_clear_10 : decode prog_2_method_2_code 10 = .ok (.if_icmp .ge 67, 3) := by decide +kernel
theorem d_F_clear_13 : decode prog_2_method_2_code 13 = .ok (.aload_n 0, 1) := by decide +kernel
theorem d_F_clear_14 : decode prog_2_method_2_code 14 = .ok (.getfield 18, 3) := by decide +kernel
theorem d_F_clear_17 : decode prog_2_method_2_code 17 = .ok (.iload_n 1, 1) := by decide +kernel
theorem d_F_clear_18 : decode prog_2_method_2_code 18 = .ok (.iconst 0, 1) := by decide +kernel
theorem d_F_clear_19 : decode prog_2_method_2_code 19 = .ok (.iastore, 1) := by decide +kernel
theorem d_F_clear_20 : decode prog_2_method_2_code 20 = .ok (.iconst 0, 1) := by decide +kernel
theorem d_F_clear_21 : decode prog_2_method_2_code 21 = .ok (.istore_n 2, 1) := by decide +kernel
theorem d_F_clear_22 : decode prog_2_method_2_code 22 = .ok (.iload_n 2, 1) := by decide +kernel
theorem d_F_clear_23 : decode prog_2_method_2_code 23 = .ok (.aload_n 0, 1) := by decide +kernel
theorem d_F_clear_24 : decode prog_2_method_2_code 24 = .ok (.getfield 27, 3) := by decide +kernel
theorem d_F_clear_27 : decode prog_2_method_2_code 27 = .ok (.getfield 37, 3) := by decide +kernel
theorem d_F_clear_30 : decode prog_2_method_2_code 30 = .ok (.iload_n 1, 1) := by decide +kernel
theorem d_F_clear_31 : decode prog_2_method_2_code 31 = .ok (.iaload, 1) := by decide +kernel
theorem d_F_clear_32 : decode prog_2_method_2_code 32 = .ok (.if_icmp .ge 39, 3) := by decide +kernel
theorem d_F_clear_35 : decode prog_2_method_2_code 35 = .ok (.iload_n 1, 1) := by decide +kernel
theorem d_F_clear_36 : decode prog_2_method_2_code 36 = .ok (.bipush 8, 2) := by decide +kernel
theorem d_F_clear_38 : decode prog_2_method_2_code 38 = .ok (.imul, 1) := by decide +kernel
theorem d_F_clear_39 : decode prog_2_method_2_code 39 = .ok (.iload_n 2, 1) := by decide +kernel
theorem d_F_clear_40 : decode prog_2_method_2_code 40 = .ok (.iadd, 1) := by decide +kernel
theorem d_F_clear_41 : decode prog_2_method_2_code 41 = .ok (.istore_n 3, 1) := by decide +kernel
theorem d_F_clear_42 : decode prog_2_method_2_code 42 = .ok (.aload_n 0, 1) := by decide +kernel
theorem d_F_clear_43 : decode prog_2_method_2_code 43 = .ok (.iload_n 1, 1) := by decide +kernel
theorem d_F_clear_44 : decode prog_2_method_2_code 44 = .ok (.aload_n 0, 1) := by decide +kernel
theorem d_F_clear_45 : decode prog_2_method_2_code 45 = .ok (.getfield 27, 3) := by decide +kernel
theorem d_F_clear_48 : decode prog_2_method_2_code 48 = .ok (.getfield 40, 3) := by decide +kernel
theorem d_F_clear_51 : decode prog_2_method_2_code 51 = .ok (.iload_n 3, 1) := by decide +kernel
theorem d_F_clear_52 : decode prog_2_method_2_code 52 = .ok (.iaload, 1) := by decide +kernel
theorem d_F_clear_53 : decode prog_2_method_2_code 53 = .ok (.aload_n 0, 1) := by decide +kernel
theorem d_F_clear_54 : decode prog_2_method_2_code 54 = .ok (.getfield 27, 3) := by decide +kernel
theorem d_F_clear_57 : decode prog_2_method_2_code 57 = .ok (.getfield 43, 3) := by decide +kernel
theorem d_F_clear_60 : decode prog_2_method_2_code 60 = .ok (.iload_n 3, 1) := by decide +kernel
theorem d_F_clear_61 : decode prog_2_method_2_code 61 = .ok (.iaload, 1) := by decide +kernel
theorem d_F_clear_62 : decode prog_2_method_2_code 62 = .ok (.invokevirtual 46, 3) := by decide +kernel
theorem d_F_clear_65 : decode prog_2_method_2_code 65 = .ok (.iinc 2 1, 3) := by decide +kernel
theorem d_F_clear_68 : decode prog_2_method_2_code 68 = .ok (.goto (-46), 3) := by decide +kernel
theorem d_F_clear_71 : decode prog_2_method_2_code 71 = .ok (.iinc 1 1, 3) := by decide +kernel
theorem d_F_clear_74 : decode prog_2_method_2_code 74 = .ok (.goto (-72), 3) := by decide +kernel
theorem d_F_clear_77 : decode prog_2_method_2_code 77 = .ok (.return_, 1) := by decide +kernel
theorem d_F_addBusy_0 : decode prog_2_method_12_code 0 = .ok (.aload_n 0, 1) := by decide +kernel
theorem d_F_addBusy_1 : decode prog_2_method_12_code 1 = .ok (.getfield 18, 3) := by decide +kernel
theorem d_F_addBusy_4 : decode prog_2_method_12_code 4 = .ok (.iload_n 1, 1) := by decide +kernel
theorem d_F_addBusy_5 : decode prog_2_method_12_code 5 = .ok (.iaload, 1) := by decide +kernel
theorem d_F_addBusy_6 : decode prog_2_method_12_code 6 = .ok (.bipush 32, 2) := by decide +kernel
theorem d_F_addBusy_8 : decode prog_2_method_12_code 8 = .ok (.if_icmp .ge 42, 3) := by decide +kernel
theorem d_F_addBusy_11 : decode prog_2_method_12_code 11 = .ok (.iload_n 1, 1) := by decide +kernel
theorem d_F_addBusy_12 : decode prog_2_method_12_code 12 = .ok (.bipush 32, 2) := by decide +kernel
theorem d_F_addBusy_14 : decode prog_2_method_12_code 14 = .ok (.imul, 1) := by decide +kernel
theorem d_F_addBusy_15 : decode prog_2_method_12_code 15 = .ok (.aload_n 0, 1) := by decide +kernel
theorem d_F_addBusy_16 : decode prog_2_method_12_code 16 = .ok (.getfield 18, 3) := by decide +kernel
theorem d_F_addBusy_19 : decode prog_2_method_12_code 19 = .ok (.iload_n 1, 1) := by decide +kernel
theorem d_F_addBusy_20 : decode prog_2_method_12_code 20 = .ok (.iaload, 1) := by decide +kernel
theorem d_F_addBusy_21 : decode prog_2_method_12_code 21 = .ok (.iadd, 1) := by decide +kernel
theorem d_F_addBusy_22 : decode prog_2_method_12_code 22 = .ok (.istore 4, 2) := by decide +kernel
theorem d_F_addBusy_24 : decode prog_2_method_12_code 24 = .ok (.aload_n 0, 1) := by decide +kernel
theorem d_F_addBusy_25 : decode prog_2_method_12_code 25 = .ok (.getfield 21, 3) := by decide +kernel
theorem d_F_addBusy_28 : decode prog_2_method_12_code 28 = .ok (.iload 4, 2) := by decide +kernel
theorem d_F_addBusy_30 : decode prog_2_method_12_code 30 = .ok (.iload_n 2, 1) := by decide +kernel
theorem d_F_addBusy_31 : decode prog_2_method_12_code 31 = .ok (.iastore, 1) := by decide +kernel
theorem d_F_addBusy_32 : decode prog_2_method_12_code 32 = .ok (.aload_n 0, 1) := by decide +kernel
theorem d_F_addBusy_33 : decode prog_2_method_12_code 33 = .ok (.getfield 24, 3) := by decide +kernel
theorem d_F_addBusy_36 : decode prog_2_method_12_code 36 = .ok (.iload 4, 2) := by decide +kernel
theorem d_F_addBusy_38 : decode prog_2_method_12_code 38 = .ok (.iload_n 3, 1) := by decide +kernel
theorem d_F_addBusy_39 : decode prog_2_method_12_code 39 = .ok (.iastore, 1) := by decide +kernel
theorem d_F_addBusy_40 : decode prog_2_method_12_code 40 = .ok (.aload_n 0, 1) := by decide +kernel
theorem d_F_addBusy_41 : decode prog_2_method_12_code 41 = .ok (.getfield 18, 3) := by decide +kernel
theorem d_F_addBusy_44 : decode prog_2_method_12_code 44 = .ok (.iload_n 1, 1) := by decide +kernel
theorem d_F_addBusy_45 : decode prog_2_method_12_code 45 = .ok (.dup2, 1) := by decide +kernel
theorem d_F_addBusy_46 : decode prog_2_method_12_code 46 = .ok (.iaload, 1) := by decide +kernel
theorem d_F_addBusy_47 : decode prog_2_method_12_code 47 = .ok (.iconst 1, 1) := by decide +kernel
theorem d_F_addBusy_48 : decode prog_2_method_12_code 48 = .ok (.iadd, 1) := by decide +kernel
theorem d_F_addBusy_49 : decode prog_2_method_12_code 49 = .ok (.iastore, 1) := by decide +kernel
theorem d_F_addBusy_50 : decode prog_2_method_12_code 50 = .ok (.return_, 1) := by decide +kernel
theorem d_F_place_0 : decode prog_2_method_3_code 0 = .ok (.iconst 0, 1) := by decide +kernel
theorem d_F_place_1 : decode prog_2_method_3_code 1 = .ok (.istore_n 2, 1) := by decide +kernel
theorem d_F_place_2 : decode prog_2_method_3_code 2 = .ok (.iconst 0, 1) := by decide +kernel
theorem d_F_place_3 : decode prog_2_method_3_code 3 = .ok (.istore_n 3, 1) := by decide +kernel
theorem d_F_place_4 : decode prog_2_method_3_code 4 = .ok (.iconst 0, 1) := by decide +kernel
theorem d_F_place_5 : decode prog_2_method_3_code 5 = .ok (.istore 4, 2) := by decide +kernel
theorem d_F_place_7 : decode prog_2_method_3_code 7 = .ok (.iload 4, 2) := by decide +kernel
theorem d_F_place_9 : decode prog_2_method_3_code 9 = .ok (.aload_n 0, 1) := by decide +kernel
theorem d_F_place_10 : decode prog_2_method_3_code 10 = .ok (.getfield 27, 3) := by decide +kernel
theorem d_F_place_13 : decode prog_2_method_3_code 13 = .ok (.getfield 50, 3) := by decide +kernel
theorem d_F_place_16 : decode prog_2_method_3_code 16 = .ok (.iload_n 1, 1) := by decide +kernel
theorem d_F_place_17 : decode prog_2_method_3_code 17 = .ok (.iaload, 1) := by decide +kernel
theorem d_F_place_18 : decode prog_2_method_3_code 18 = .ok (.if_icmp .ge 57, 3) := by decide +kernel
theorem d_F_place_21 : decode prog_2_method_3_code 21 = .ok (.aload_n 0, 1) := by decide +kernel
theorem d_F_place_22 : decode prog_2_method_3_code 22 = .ok (.getfield 27, 3) := by decide +kernel
theorem d_F_place_25 : decode prog_2_method_3_code 25 = .ok (.getfield 53, 3) := by decide +kernel
theorem d_F_place_28 : decode prog_2_method_3_code 28 = .ok (.iload_n 1, 1) := by decide +kernel
theorem d_F_place_29 : decode prog_2_method_3_code 29 = .ok (.iconst 4, 1) := by decide +kernel
theorem d_F_place_30 : decode prog_2_method_3_code 30 = .ok (.imul, 1) := by decide +kernel
theorem d_F_place_31 : decode prog_2_method_3_code 31 = .ok (.iload 4, 2) := by decide +kernel
theorem d_F_place_33 : decode prog_2_method_3_code 33 = .ok (.iadd, 1) := by decide +kernel
theorem d_F_place_34 : decode prog_2_method_3_code 34 = .ok (.iaload, 1) := by decide +kernel
theorem d_F_place_35 : decode prog_2_method_3_code 35 = .ok (.istore 5, 2) := by decide +kernel
theorem d_F_place_37 : decode prog_2_method_3_code 37 = .ok (.aload_n 0, 1) := by decide +kernel
theorem d_F_place_38 : decode prog_2_method_3_code 38 = .ok (.iload 5, 2) := by decide +kernel
theorem d_F_place_40 : decode prog_2_method_3_code 40 = .ok (.iload_n 3, 1) := by decide +kernel
theorem d_F_place_41 : decode prog_2_method_3_code 41 = .ok (.invokevirtual 56, 3) := by decide +kernel
theorem d_F_place_44 : decode prog_2_method_3_code 44 = .ok (.aload_n 0, 1) := by decide +kernel
theorem d_F_place_45 : decode prog_2_method_3_code 45 = .ok (.getfield 27, 3) := by decide +kernel
theorem d_F_place_48 : decode prog_2_method_3_code 48 = .ok (.getfield 60, 3) := by decide +kernel
theorem d_F_place_51 : decode prog_2_method_3_code 51 = .ok (.iload 5, 2) := by decide +kernel
theorem d_F_place_53 : decode prog_2_method_3_code 53 = .ok (.iaload, 1) := by decide +kernel
theorem d_F_place_54 : decode prog_2_method_3_code 54 = .ok (.iadd, 1) := by decide +kernel
theorem d_F_place_55 : decode prog_2_method_3_code 55 = .ok (.istore_n 2, 1) := by decide +kernel
theorem d_F_place_56 : decode prog_2_method_3_code 56 = .ok (.iload_n 2, 1) := by decide +kernel
theorem d_F_place_57 : decode prog_2_method_3_code 57 = .ok (.aload_n 0, 1) := by decide +kernel
theorem d_F_place_58 : decode prog_2_method_3_code 58 = .ok (.getfield 27, 3) := by decide +kernel
theorem d_F_place_61 : decode prog_2_method_3_code 61 = .ok (.getfield 63, 3) := by decide +kernel
theorem d_F_place_64 : decode prog_2_method_3_code 64 = .ok (.iload 5, 2) := by decide +kernel
theorem d_F_place_66 : decode prog_2_method_3_code 66 = .ok (.iaload, 1) := by decide +kernel
theorem d_F_place_67 : decode prog_2_method_3_code 67 = .ok (.iadd, 1) := by decide +kernel
theorem d_F_place_68 : decode prog_2_method_3_code 68 = .ok (.istore_n 3, 1) := by decide +kernel
theorem d_F_place_69 : decode prog_2_method_3_code 69 = .ok (.iinc 4 1, 3) := by decide +kernel
theorem d_F_place_72 : decode prog_2_method_3_code 72 = .ok (.goto (-65), 3) := by decide +kernel
theorem d_F_place_75 : decode prog_2_method_3_code 75 = .ok (.iload_n 2, 1) := by decide +kernel
theorem d_F_place_76 : decode prog_2_method_3_code 76 = .ok (.ireturn, 1) := by decide +kernel
theorem d_F_placeStep_0 : decode prog_2_method_10_code 0 = .ok (.iload_n 2, 1) := by decide +kernel
theorem d_F_placeStep_1 : decode prog_2_method_10_code 1 = .ok (.istore_n 3, 1) := by decide +kernel
theorem d_F_placeStep_2 : decode prog_2_method_10_code 2 = .ok (.iconst (-1), 1) := by decide +kernel
theorem d_F_placeStep_3 : decode prog_2_method_10_code 3 = .ok (.istore 4, 2) := by decide +kernel
theorem d_F_placeStep_5 : decode prog_2_method_10_code 5 = .ok (.iconst 0, 1) := by decide +kernel
theorem d_F_placeStep_6 : decode prog_2_method_10_code 6 = .ok (.istore 5, 2) := by decide +kernel
theorem d_F_placeStep_8 : decode prog_2_method_10_code 8 = .ok (.iload 5, 2) := by decide +kernel
theorem d_F_placeStep_10 : decode prog_2_method_10_code 10 = .ok (.aload_n 0, 1) := by decide +kernel
theorem d_F_placeStep_11 : decode prog_2_method_10_code 11 = .ok (.getfield 27, 3) := by decide +kernel
theorem d_F_placeStep_14 : decode prog_2_method_10_code 14 = .ok (.getfield 31, 3) := by decide +kernel
theorem d_F_placeStep_17 : decode prog_2_method_10_code 17 = .ok (.if_icmp .ge 68, 3) := by decide +kernel
theorem d_F_placeStep_20 : decode prog_2_method_10_code 20 = .ok (.aload_n 0, 1) := by decide +kernel
theorem d_F_placeStep_21 : decode prog_2_method_10_code 21 = .ok (.getfield 27, 3) := by decide +kernel
theorem d_F_placeStep_24 : decode prog_2_method_10_code 24 = .ok (.getfield 84, 3) := by decide +kernel
theorem d_F_placeStep_27 : decode prog_2_method_10_code 27 = .ok (.iload 5, 2) := by decide +kernel
theorem d_F_placeStep_29 : decode prog_2_method_10_code 29 = .ok (.iaload, 1) := by decide +kernel
theorem d_F_placeStep_30 : decode prog_2_method_10_code 30 = .ok (.aload_n 0, 1) := by decide +kernel
theorem d_F_placeStep_31 : decode prog_2_method_10_code 31 = .ok (.getfield 27, 3) := by decide +kernel
theorem d_F_placeStep_34 : decode prog_2_method_10_code 34 = .ok (.getfield 87, 3) := by decide +kernel
theorem d_F_placeStep_37 : decode prog_2_method_10_code 37 = .ok (.iload_n 1, 1) := by decide +kernel
theorem d_F_placeStep_38 : decode prog_2_method_10_code 38 = .ok (.iaload, 1) := by decide +kernel
theorem d_F_placeStep_39 : decode prog_2_method_10_code 39 = .ok (.if_icmp .ne 40, 3) := by decide +kernel
theorem d_F_placeStep_42 : decode prog_2_method_10_code 42 = .ok (.aload_n 0, 1) := by decide +kernel
theorem d_F_placeStep_43 : decode prog_2_method_10_code 43 = .ok (.iload 5, 2) := by decide +kernel
theorem d_F_placeStep_45 : decode prog_2_method_10_code 45 = .ok (.iload_n 2, 1) := by decide +kernel
theorem d_F_placeStep_46 : decode prog_2_method_10_code 46 = .ok (.aload_n 0, 1) := by decide +kernel
theorem d_F_placeStep_47 : decode prog_2_method_10_code 47 = .ok (.getfield 27, 3) := by decide +kernel
theorem d_F_placeStep_50 : decode prog_2_method_10_code 50 = .ok (.getfield 60, 3) := by decide +kernel
theorem d_F_placeStep_53 : decode prog_2_method_10_code 53 = .ok (.iload_n 1, 1) := by decide +kernel
theorem d_F_placeStep_54 : decode prog_2_method_10_code 54 = .ok (.iaload, 1) := by decide +kernel
theorem d_F_placeStep_55 : decode prog_2_method_10_code 55 = .ok (.invokevirtual 90, 3) := by decide +kernel
theorem d_F_placeStep_58 : decode prog_2_method_10_code 58 = .ok (.istore 6, 2) := by decide +kernel
theorem d_F_placeStep_60 : decode prog_2_method_10_code 60 = .ok (.iload 4, 2) := by decide +kernel
theorem d_F_placeStep_62 : decode prog_2_method_10_code 62 = .ok (.iconst (-1), 1) := by decide +kernel
theorem d_F_placeStep_63 : decode prog_2_method_10_code 63 = .ok (.if_icmp .eq 9, 3) := by decide +kernel
theorem d_F_placeStep_66 : decode prog_2_method_10_code 66 = .ok (.iload 6, 2) := by decide +kernel
theorem d_F_placeStep_68 : decode prog_2_method_10_code 68 = .ok (.iload_n 3, 1) := by decide +kernel
theorem d_F_placeStep_69 : decode prog_2_method_10_code 69 = .ok (.if_icmp .ge 10, 3) := by decide +kernel
theorem d_F_placeStep_72 : decode prog_2_method_10_code 72 = .ok (.iload 6, 2) := by decide +kernel
theorem d_F_placeStep_74 : decode prog_2_method_10_code 74 = .ok (.istore_n 3, 1) := by decide +kernel
theorem d_F_placeStep_75 : decode prog_2_method_10_code 75 = .ok (.iload 5, 2) := by decide +kernel
theorem d_F_placeStep_77 : decode prog_2_method_10_code 77 = .ok (.istore 4, 2) := by decide +kernel
theorem d_F_placeStep_79 : decode prog_2_method_10_code 79 = .ok (.iinc 5 1, 3) := by decide +kernel
theorem d_F_placeStep_82 : decode prog_2_method_10_code 82 = .ok (.goto (-74), 3) := by decide +kernel
theorem d_F_placeStep_85 : decode prog_2_method_10_code 85 = .ok (.aload_n 0, 1) := by decide +kernel
theorem d_F_placeStep_86 : decode prog_2_method_10_code 86 = .ok (.iload_n 1, 1) := by decide +kernel
theorem d_F_placeStep_87 : decode prog_2_method_10_code 87 = .ok (.iload 4, 2) := by decide +kernel
theorem d_F_placeStep_89 : decode prog_2_method_10_code 89 = .ok (.iload_n 3, 1) := by decide +kernel
theorem d_F_placeStep_90 : decode prog_2_method_10_code 90 = .ok (.invokevirtual 94, 3) := by decide +kernel
theorem d_F_placeStep_93 : decode prog_2_method_10_code 93 = .ok (.iload_n 3, 1) := by decide +kernel
theorem d_F_placeStep_94 : decode prog_2_method_10_code 94 = .ok (.ireturn, 1) := by decide +kernel
theorem d_F_firstBegin_0 : decode prog_2_method_11_code 0 = .ok (.iload_n 2, 1) := by decide +kernel
theorem d_F_firstBegin_1 : decode prog_2_method_11_code 1 = .ok (.istore 4, 2) := by decide +kernel
theorem d_F_firstBegin_3 : decode prog_2_method_11_code 3 = .ok (.iload_n 1, 1) := by decide +kernel
theorem d_F_firstBegin_4 : decode prog_2_method_11_code 4 = .ok (.bipush 32, 2) := by decide +kernel
theorem d_F_firstBegin_6 : decode prog_2_method_11_code 6 = .ok (.imul, 1) := by decide +kernel
theorem d_F_firstBegin_7 : decode prog_2_method_11_code 7 = .ok (.istore 5, 2) := by decide +kernel
theorem d_F_firstBegin_9 : decode prog_2_method_11_code 9 = .ok (.iconst 1, 1) := by decide +kernel
theorem d_F_firstBegin_10 : decode prog_2_method_11_code 10 = .ok (.istore 6, 2) := by decide +kernel
theorem d_F_firstBegin_12 : decode prog_2_method_11_code 12 = .ok (.iconst 0, 1) := by decide +kernel
theorem d_F_firstBegin_13 : decode prog_2_method_11_code 13 = .ok (.istore 7, 2) := by decide +kernel
theorem d_F_firstBegin_15 : decode prog_2_method_11_code 15 = .ok (.iload 7, 2) := by decide +kernel
theorem d_F_firstBegin_17 : decode prog_2_method_11_code 17 = .ok (.bipush 32, 2) := by decide +kernel
theorem d_F_firstBegin_19 : decode prog_2_method_11_code 19 = .ok (.if_icmp .gt 79, 3) := by decide +kernel
theorem d_F_firstBegin_22 : decode prog_2_method_11_code 22 = .ok (.iload 6, 2) := by decide +kernel
theorem d_F_firstBegin_24 : decode prog_2_method_11_code 24 = .ok (.ifCond .eq 74, 3) := by decide +kernel
theorem d_F_firstBegin_27 : decode prog_2_method_11_code 27 = .ok (.iconst 0, 1) := by decide +kernel
theorem d_F_firstBegin_28 : decode prog_2_method_11_code 28 = .ok (.istore 6, 2) := by decide +kernel
theorem d_F_firstBegin_30 : decode prog_2_method_11_code 30 = .ok (.iload 5, 2) := by decide +kernel
theorem d_F_firstBegin_32 : decode prog_2_method_11_code 32 = .ok (.istore 8, 2) := by decide +kernel
theorem d_F_firstBegin_34 : decode prog_2_method_11_code 34 = .ok (.iload 8, 2) := by decide +kernel
theorem d_F_firstBegin_36 : decode prog_2_method_11_code 36 = .ok (.iload 5, 2) := by decide +kernel
theorem d_F_firstBegin_38 : decode prog_2_method_11_code 38 = .ok (.aload_n 0, 1) := by decide +kernel
theorem d_F_firstBegin_39 : decode prog_2_method_11_code 39 = .ok (.getfield 18, 3) := by decide +kernel
theorem d_F_firstBegin_42 : decode prog_2_method_11_code 42 = .ok (.iload_n 1, 1) := by decide +kernel
theorem d_F_firstBegin_43 : decode prog_2_method_11_code 43 = .ok (.iaload, 1) := by decide +kernel
theorem d_F_firstBegin_44 : decode prog_2_method_11_code 44 = .ok (.iadd, 1) := by decide +kernel
theorem d_F_firstBegin_45 : decode prog_2_method_11_code 45 = .ok (.if_icmp .ge 47, 3) := by decide +kernel
theorem d_F_firstBegin_48 : decode prog_2_method_11_code 48 = .ok (.iload 4, 2) := by decide +kernel
theorem d_F_firstBegin_50 : decode prog_2_method_11_code 50 = .ok (.iload 4, 2) := by decide +kernel
theorem d_F_firstBegin_52 : decode prog_2_method_11_code 52 = .ok (.iload_n 3, 1) := by decide +kernel
theorem d_F_firstBegin_53 : decode prog_2_method_11_code 53 = .ok (.iadd, 1) := by decide +kernel
theorem d_F_firstBegin_54 : decode prog_2_method_11_code 54 = .ok (.aload_n 0, 1) := by decide +kernel
theorem d_F_firstBegin_55 : decode prog_2_method_11_code 55 = .ok (.getfield 21, 3) := by decide +kernel
theorem d_F_firstBegin_58 : decode prog_2_method_11_code 58 = .ok (.iload 8, 2) := by decide +kernel
theorem d_F_firstBegin_60 : decode prog_2_method_11_code 60 = .ok (.iaload, 1) := by decide +kernel
theorem d_F_firstBegin_61 : decode prog_2_method_11_code 61 = .ok (.aload_n 0, 1) := by decide +kernel
theorem d_F_firstBegin_62 : decode prog_2_method_11_code 62 = .ok (.getfield 24, 3) := by decide +kernel
theorem d_F_firstBegin_65 : decode prog_2_method_11_code 65 = .ok (.iload 8, 2) := by decide +kernel
theorem d_F_firstBegin_67 : decode prog_2_method_11_code 67 = .ok (.iaload, 1) := by decide +kernel
theorem d_F_firstBegin_68 : decode prog_2_method_11_code 68 = .ok (.invokestatic 97, 3) := by decide +kernel
theorem d_F_firstBegin_71 : decode prog_2_method_11_code 71 = .ok (.ifCond .eq 15, 3) := by decide +kernel
theorem d_F_firstBegin_74 : decode prog_2_method_11_code 74 = .ok (.aload_n 0, 1) := by decide +kernel
theorem d_F_firstBegin_75 : decode prog_2_method_11_code 75 = .ok (.getfield 24, 3) := by decide +kernel
theorem d_F_firstBegin_78 : decode prog_2_method_11_code 78 = .ok (.iload 8, 2) := by decide +kernel
theorem d_F_firstBegin_80 : decode prog_2_method_11_code 80 = .ok (.iaload, 1) := by decide +kernel
theorem d_F_firstBegin_81 : decode prog_2_method_11_code 81 = .ok (.istore 4, 2) := by decide +kernel
theorem d_F_firstBegin_83 : decode prog_2_method_11_code 83 = .ok (.iconst 1, 1) := by decide +kernel
theorem d_F_firstBegin_84 : decode prog_2_method_11_code 84 = .ok (.istore 6, 2) := by decide +kernel
theorem d_F_firstBegin_86 : decode prog_2_method_11_code 86 = .ok (.iinc 8 1, 3) := by decide +kernel
theorem d_F_firstBegin_89 : decode prog_2_method_11_code 89 = .ok (.goto (-55), 3) := by decide +kernel
theorem d_F_firstBegin_92 : decode prog_2_method_11_code 92 = .ok (.iinc 7 1, 3) := by decide +kernel
theorem d_F_firstBegin_95 : decode prog_2_method_11_code 95 = .ok (.goto (-80), 3) := by decide +kernel
theorem d_F_firstBegin_98 : decode prog_2_method_11_code 98 = .ok (.iload 4, 2) := by decide +kernel
theorem d_F_firstBegin_100 : decode prog_2_method_11_code 100 = .ok (.ireturn, 1) := by decide +kernel
theorem d_F_put_0 : decode prog_2_method_5_code 0 = .ok (.aload_n 0, 1) := by decide +kernel
theorem d_F_put_1 : decode prog_2_method_5_code 1 = .ok (.getfield 9, 3) := by decide +kernel
theorem d_F_put_4 : decode prog_2_method_5_code 4 = .ok (.iload_n 1, 1) := by decide +kernel
theorem d_F_put_5 : decode prog_2_method_5_code 5 = .ok (.iload_n 3, 1) := by decide +kernel
theorem d_F_put_6 : decode prog_2_method_5_code 6 = .ok (.iastore, 1) := by decide +kernel
theorem d_F_put_7 : decode prog_2_method_5_code 7 = .ok (.aload_n 0, 1) := by decide +kernel
theorem d_F_put_8 : decode prog_2_method_5_code 8 = .ok (.getfield 15, 3) := by decide +kernel
theorem d_F_put_11 : decode prog_2_method_5_code 11 = .ok (.iload_n 1, 1) := by decide +kernel
theorem d_F_put_12 : decode prog_2_method_5_code 12 = .ok (.iload_n 2, 1) := by decide +kernel
theorem d_F_put_13 : decode prog_2_method_5_code 13 = .ok (.iastore, 1) := by decide +kernel
theorem d_F_put_14 : decode prog_2_method_5_code 14 = .ok (.iload_n 2, 1) := by decide +kernel
theorem d_F_put_15 : decode prog_2_method_5_code 15 = .ok (.iconst (-1), 1) := by decide +kernel
theorem d_F_put_16 : decode prog_2_method_5_code 16 = .ok (.if_icmp .eq 20, 3) := by decide +kernel
theorem d_F_put_19 : decode prog_2_method_5_code 19 = .ok (.aload_n 0, 1) := by decide +kernel
theorem d_F_put_20 : decode prog_2_method_5_code 20 = .ok (.iload_n 2, 1) := by decide +kernel
theorem d_F_put_21 : decode prog_2_method_5_code 21 = .ok (.iload_n 3, 1) := by decide +kernel
theorem d_F_put_22 : decode prog_2_method_5_code 22 = .ok (.iload_n 3, 1) := by decide +kernel
theorem d_F_put_23 : decode prog_2_method_5_code 23 = .ok (.aload_n 0, 1) := by decide +kernel
theorem d_F_put_24 : decode prog_2_method_5_code 24 = .ok (.getfield 27, 3) := by decide +kernel
theorem d_F_put_27 : decode prog_2_method_5_code 27 = .ok (.getfield 60, 3) := by decide +kernel
theorem d_F_put_30 : decode prog_2_method_5_code 30 = .ok (.iload_n 1, 1) := by decide +kernel
theorem d_F_put_31 : decode prog_2_method_5_code 31 = .ok (.iaload, 1) := by decide +kernel
theorem d_F_put_32 : decode prog_2_method_5_code 32 = .ok (.iadd, 1) := by decide +kernel
theorem d_F_put_33 : decode prog_2_method_5_code 33 = .ok (.invokevirtual 46, 3) := by decide +kernel
theorem d_F_put_36 : decode prog_2_method_5_code 36 = .ok (.return_, 1) := by decide +kernel
theorem d_F_costInOrder_0 : decode prog_2_method_6_code 0 = .ok (.aload_n 0, 1) := by decide +kernel
theorem d_F_costInOrder_1 : decode prog_2_method_6_code 1 = .ok (.invokevirtual 66, 3) := by decide +kernel
theorem d_F_costInOrder_4 : decode prog_2_method_6_code 4 = .ok (.lconst 0, 1) := by decide +kernel
theorem d_F_costInOrder_5 : decode prog_2_method_6_code 5 = .ok (.lstore_n 3, 1) := by decide +kernel
theorem d_F_costInOrder_6 : decode prog_2_method_6_code 6 = .ok (.iconst 0, 1) := by decide +kernel
theorem d_F_costInOrder_7 : decode prog_2_method_6_code 7 = .ok (.istore 5, 2) := by decide +kernel
theorem d_F_costInOrder_9 : decode prog_2_method_6_code 9 = .ok (.iload 5, 2) := by decide +kernel
theorem d_F_costInOrder_11 : decode prog_2_method_6_code 11 = .ok (.iload_n 2, 1) := by decide +kernel
theorem d_F_costInOrder_12 : decode prog_2_method_6_code 12 = .ok (.if_icmp .ge 31, 3) := by decide +kernel
theorem d_F_costInOrder_15 : decode prog_2_method_6_code 15 = .ok (.lload_n 3, 1) := by decide +kernel
theorem d_F_costInOrder_16 : decode prog_2_method_6_code 16 = .ok (.aload_n 0, 1) := by decide +kernel
theorem d_F_costInOrder_17 : decode prog_2_method_6_code 17 = .ok (.getfield 27, 3) := by decide +kernel
theorem d_F_costInOrder_20 : decode prog_2_method_6_code 20 = .ok (.aload_n 1, 1) := by decide +kernel
theorem d_F_costInOrder_21 : decode prog_2_method_6_code 21 = .ok (.iload 5, 2) := by decide +kernel
theorem d_F_costInOrder_23 : decode prog_2_method_6_code 23 = .ok (.iaload, 1) := by decide +kernel
theorem d_F_costInOrder_24 : decode prog_2_method_6_code 24 = .ok (.aload_n 0, 1) := by decide +kernel
theorem d_F_costInOrder_25 : decode prog_2_method_6_code 25 = .ok (.aload_n 1, 1) := by decide +kernel
theorem d_F_costInOrder_26 : decode prog_2_method_6_code 26 = .ok (.iload 5, 2) := by decide +kernel
theorem d_F_costInOrder_28 : decode prog_2_method_6_code 28 = .ok (.iaload, 1) := by decide +kernel
theorem d_F_costInOrder_29 : decode prog_2_method_6_code 29 = .ok (.invokevirtual 69, 3) := by decide +kernel
theorem d_F_costInOrder_32 : decode prog_2_method_6_code 32 = .ok (.invokevirtual 73, 3) := by decide +kernel
theorem d_F_costInOrder_35 : decode prog_2_method_6_code 35 = .ok (.ladd, 1) := by decide +kernel
theorem d_F_costInOrder_36 : decode prog_2_method_6_code 36 = .ok (.lstore_n 3, 1) := by decide +kernel
theorem d_F_costInOrder_37 : decode prog_2_method_6_code 37 = .ok (.iinc 5 1, 3) := by decide +kernel
theorem d_F_costInOrder_40 : decode prog_2_method_6_code 40 = .ok (.goto (-31), 3) := by decide +kernel
theorem d_F_costInOrder_43 : decode prog_2_method_6_code 43 = .ok (.lload_n 3, 1) := by decide +kernel
theorem d_F_costInOrder_44 : decode prog_2_method_6_code 44 = .ok (.lreturn, 1) := by decide +kernel
theorem d_F_lift_0 : decode prog_2_method_4_code 0 = .ok (.iconst 0, 1) := by decide +kernel
theorem d_F_lift_1 : decode prog_2_method_4_code 1 = .ok (.istore_n 2, 1) := by decide +kernel
theorem d_F_lift_2 : decode prog_2_method_4_code 2 = .ok (.iload_n 2, 1) := by decide +kernel
theorem d_F_lift_3 : decode prog_2_method_4_code 3 = .ok (.aload_n 0, 1) := by decide +kernel
theorem d_F_lift_4 : decode prog_2_method_4_code 4 = .ok (.getfield 27, 3) := by decide +kernel
theorem d_F_lift_7 : decode prog_2_method_4_code 7 = .ok (.getfield 50, 3) := by decide +kernel
theorem d_F_lift_10 : decode prog_2_method_4_code 10 = .ok (.iload_n 1, 1) := by decide +kernel
theorem d_F_lift_11 : decode prog_2_method_4_code 11 = .ok (.iaload, 1) := by decide +kernel
theorem d_F_lift_12 : decode prog_2_method_4_code 12 = .ok (.if_icmp .ge 52, 3) := by decide +kernel
theorem d_F_lift_15 : decode prog_2_method_4_code 15 = .ok (.aload_n 0, 1) := by decide +kernel
theorem d_F_lift_16 : decode prog_2_method_4_code 16 = .ok (.getfield 15, 3) := by decide +kernel
theorem d_F_lift_19 : decode prog_2_method_4_code 19 = .ok (.aload_n 0, 1) := by decide +kernel
theorem d_F_lift_20 : decode prog_2_method_4_code 20 = .ok (.getfield 27, 3) := by decide +kernel
theorem d_F_lift_23 : decode prog_2_method_4_code 23 = .ok (.getfield 53, 3) := by decide +kernel
theorem d_F_lift_26 : decode prog_2_method_4_code 26 = .ok (.iload_n 1, 1) := by decide +kernel
theorem d_F_lift_27 : decode prog_2_method_4_code 27 = .ok (.iconst 4, 1) := by decide +kernel
theorem d_F_lift_28 : decode prog_2_method_4_code 28 = .ok (.imul, 1) := by decide +kernel
theorem d_F_lift_29 : decode prog_2_method_4_code 29 = .ok (.iload_n 2, 1) := by decide +kernel
theorem d_F_lift_30 : decode prog_2_method_4_code 30 = .ok (.iadd, 1) := by decide +kernel
theorem d_F_lift_31 : decode prog_2_method_4_code 31 = .ok (.iaload, 1) := by decide +kernel
theorem d_F_lift_32 : decode prog_2_method_4_code 32 = .ok (.iaload, 1) := by decide +kernel
theorem d_F_lift_33 : decode prog_2_method_4_code 33 = .ok (.istore_n 3, 1) := by decide +kernel
theorem d_F_lift_34 : decode prog_2_method_4_code 34 = .ok (.iload_n 3, 1) := by decide +kernel
theorem d_F_lift_35 : decode prog_2_method_4_code 35 = .ok (.iconst (-1), 1) := by decide +kernel
theorem d_F_lift_36 : decode prog_2_method_4_code 36 = .ok (.if_icmp .eq 22, 3) := by decide +kernel
theorem d_F_lift_39 : decode prog_2_method_4_code 39 = .ok (.aload_n 0, 1) := by decide +kernel
theorem d_F_lift_40 : decode prog_2_method_4_code 40 = .ok (.getfield 18, 3) := by decide +kernel
theorem d_F_lift_43 : decode prog_2_method_4_code 43 = .ok (.iload_n 3, 1) := by decide +kernel
theorem d_F_lift_44 : decode prog_2_method_4_code 44 = .ok (.iaload, 1) := by decide +kernel
theorem d_F_lift_45 : decode prog_2_method_4_code 45 = .ok (.ifCond .le 13, 3) := by decide +kernel
theorem d_F_lift_48 : decode prog_2_method_4_code 48 = .ok (.aload_n 0, 1) := by decide +kernel
theorem d_F_lift_49 : decode prog_2_method_4_code 49 = .ok (.getfield 18, 3) := by decide +kernel
theorem d_F_lift_52 : decode prog_2_method_4_code 52 = .ok (.iload_n 3, 1) := by decide +kernel
theorem d_F_lift_53 : decode prog_2_method_4_code 53 = .ok (.dup2, 1) := by decide +kernel
theorem d_F_lift_54 : decode prog_2_method_4_code 54 = .ok (.iaload, 1) := by decide +kernel
theorem d_F_lift_55 : decode prog_2_method_4_code 55 = .ok (.iconst 1, 1) := by decide +kernel
theorem d_F_lift_56 : decode prog_2_method_4_code 56 = .ok (.isub, 1) := by decide +kernel
theorem d_F_lift_57 : decode prog_2_method_4_code 57 = .ok (.iastore, 1) := by decide +kernel
theorem d_F_lift_58 : decode prog_2_method_4_code 58 = .ok (.iinc 2 1, 3) := by decide +kernel
theorem d_F_lift_61 : decode prog_2_method_4_code 61 = .ok (.goto (-59), 3) := by decide +kernel
theorem d_F_lift_64 : decode prog_2_method_4_code 64 = .ok (.return_, 1) := by decide +kernel
theorem d_F_doClash_0 : decode prog_2_method_8_code 0 = .ok (.aload_n 0, 1) := by decide +kernel
theorem d_F_doClash_1 : decode prog_2_method_8_code 1 = .ok (.iload_n 1, 1) := by decide +kernel
theorem d_F_doClash_2 : decode prog_2_method_8_code 2 = .ok (.invokevirtual 77, 3) := by decide +kernel
theorem d_F_doClash_5 : decode prog_2_method_8_code 5 = .ok (.lconst 0, 1) := by decide +kernel
theorem d_F_doClash_6 : decode prog_2_method_8_code 6 = .ok (.lcmp, 1) := by decide +kernel
theorem d_F_doClash_7 : decode prog_2_method_8_code 7 = .ok (.ifCond .ne 39, 3) := by decide +kernel
theorem d_F_doClash_10 : decode prog_2_method_8_code 10 = .ok (.aload_n 0, 1) := by decide +kernel
theorem d_F_doClash_11 : decode prog_2_method_8_code 11 = .ok (.iload_n 2, 1) := by decide +kernel
theorem d_F_doClash_12 : decode prog_2_method_8_code 12 = .ok (.invokevirtual 77, 3) := by decide +kernel
theorem d_F_doClash_15 : decode prog_2_method_8_code 15 = .ok (.lconst 0, 1) := by decide +kernel
theorem d_F_doClash_16 : decode prog_2_method_8_code 16 = .ok (.lcmp, 1) := by decide +kernel
theorem d_F_doClash_17 : decode prog_2_method_8_code 17 = .ok (.ifCond .ne 29, 3) := by decide +kernel
theorem d_F_doClash_20 : decode prog_2_method_8_code 20 = .ok (.aload_n 0, 1) := by decide +kernel
theorem d_F_doClash_21 : decode prog_2_method_8_code 21 = .ok (.iload_n 1, 1) := by decide +kernel
theorem d_F_doClash_22 : decode prog_2_method_8_code 22 = .ok (.iload_n 2, 1) := by decide +kernel
theorem d_F_doClash_23 : decode prog_2_method_8_code 23 = .ok (.invokevirtual 81, 3) := by decide +kernel
theorem d_F_doClash_26 : decode prog_2_method_8_code 26 = .ok (.lconst 0, 1) := by decide +kernel
theorem d_F_doClash_27 : decode prog_2_method_8_code 27 = .ok (.lcmp, 1) := by decide +kernel
theorem d_F_doClash_28 : decode prog_2_method_8_code 28 = .ok (.ifCond .le 18, 3) := by decide +kernel
theorem d_F_doClash_31 : decode prog_2_method_8_code 31 = .ok (.aload_n 0, 1) := by decide +kernel
theorem d_F_doClash_32 : decode prog_2_method_8_code 32 = .ok (.iload_n 2, 1) := by decide +kernel
theorem d_F_doClash_33 : decode prog_2_method_8_code 33 = .ok (.iload_n 1, 1) := by decide +kernel
theorem d_F_doClash_34 : decode prog_2_method_8_code 34 = .ok (.invokevirtual 81, 3) := by decide +kernel
theorem d_F_doClash_37 : decode prog_2_method_8_code 37 = .ok (.lconst 0, 1) := by decide +kernel
theorem d_F_doClash_38 : decode prog_2_method_8_code 38 = .ok (.lcmp, 1) := by decide +kernel
theorem d_F_doClash_39 : decode prog_2_method_8_code 39 = .ok (.ifCond .le 7, 3) := by decide +kernel
theorem d_F_doClash_42 : decode prog_2_method_8_code 42 = .ok (.iconst 1, 1) := by decide +kernel
theorem d_F_doClash_43 : decode prog_2_method_8_code 43 = .ok (.goto 4, 3) := by decide +kernel
theorem d_F_doClash_46 : decode prog_2_method_8_code 46 = .ok (.iconst 0, 1) := by decide +kernel
theorem d_F_doClash_47 : decode prog_2_method_8_code 47 = .ok (.ireturn, 1) := by decide +kernel
theorem d_F_costOfTwo_0 : decode prog_2_method_9_code 0 = .ok (.aload_n 0, 1) := by decide +kernel
theorem d_F_costOfTwo_1 : decode prog_2_method_9_code 1 = .ok (.invokevirtual 66, 3) := by decide +kernel
theorem d_F_costOfTwo_4 : decode prog_2_method_9_code 4 = .ok (.aload_n 0, 1) := by decide +kernel
theorem d_F_costOfTwo_5 : decode prog_2_method_9_code 5 = .ok (.getfield 27, 3) := by decide +kernel
theorem d_F_costOfTwo_8 : decode prog_2_method_9_code 8 = .ok (.iload_n 1, 1) := by decide +kernel
theorem d_F_costOfTwo_9 : decode prog_2_method_9_code 9 = .ok (.aload_n 0, 1) := by decide +kernel
theorem d_F_costOfTwo_10 : decode prog_2_method_9_code 10 = .ok (.iload_n 1, 1) := by decide +kernel
theorem d_F_costOfTwo_11 : decode prog_2_method_9_code 11 = .ok (.invokevirtual 69, 3) := by decide +kernel
theorem d_F_costOfTwo_14 : decode prog_2_method_9_code 14 = .ok (.invokevirtual 73, 3) := by decide +kernel
theorem d_F_costOfTwo_17 : decode prog_2_method_9_code 17 = .ok (.lstore_n 3, 1) := by decide +kernel
theorem d_F_costOfTwo_18 : decode prog_2_method_9_code 18 = .ok (.lload_n 3, 1) := by decide +kernel
theorem d_F_costOfTwo_19 : decode prog_2_method_9_code 19 = .ok (.aload_n 0, 1) := by decide +kernel
theorem d_F_costOfTwo_20 : decode prog_2_method_9_code 20 = .ok (.getfield 27, 3) := by decide +kernel
theorem d_F_costOfTwo_23 : decode prog_2_method_9_code 23 = .ok (.iload_n 2, 1) := by decide +kernel
theorem d_F_costOfTwo_24 : decode prog_2_method_9_code 24 = .ok (.aload_n 0, 1) := by decide +kernel
theorem d_F_costOfTwo_25 : decode prog_2_method_9_code 25 = .ok (.iload_n 2, 1) := by decide +kernel
theorem d_F_costOfTwo_26 : decode prog_2_method_9_code 26 = .ok (.invokevirtual 69, 3) := by decide +kernel
theorem d_F_costOfTwo_29 : decode prog_2_method_9_code 29 = .ok (.invokevirtual 73, 3) := by decide +kernel
theorem d_F_costOfTwo_32 : decode prog_2_method_9_code 32 = .ok (.ladd, 1) := by decide +kernel
theorem d_F_costOfTwo_33 : decode prog_2_method_9_code 33 = .ok (.lreturn, 1) := by decide +kernel
end
section
/-! decode rows of WorkPlans$Search -/
theorem d_R_init_0 : decode prog_4_method_1_code 0 = .ok (.aload_n 0, 1) := by decide +kernel
theorem d_R_init_1 : decode prog_4_method_1_code 1 = .ok (.invokespecial 3, 3) := by decide +kernel
theorem d_R_init_4 : decode prog_4_method_1_code 4 = .ok (.aload_n 0, 1) := by decide +kernel
theorem d_R_init_5 : decode prog_4_method_1_code 5 = .ok (.bipush 6, 2) := by decide +kernel
theorem d_R_init_7 : decode prog_4_method_1_code 7 = .ok (.newarray .long, 2) := by decide +kernel
theorem d_R_init_9 : decode prog_4_method_1_code 9 = .ok (.putfield 9, 3) := by decide +kernel
theorem d_R_init_12 : decode prog_4_method_1_code 12 = .ok (.aload_n 0, 1) := by decide +kernel
theorem d_R_init_13 : decode prog_4_method_1_code 13 = .ok (.bipush 6, 2) := by decide +kernel
theorem d_R_init_15 : decode prog_4_method_1_code 15 = .ok (.newarray .int, 2) := by decide +kernel
theorem d_R_init_17 : decode prog_4_method_1_code 17 = .ok (.putfield 15, 3) := by decide +kernel
theorem d_R_init_20 : decode prog_4_method_1_code 20 = .ok (.aload_n 0, 1) := by decide +kernel
theorem d_R_init_21 : decode prog_4_method_1_code 21 = .ok (.bipush 6, 2) := by decide +kernel
theorem d_R_init_23 : decode prog_4_method_1_code 23 = .ok (.newarray .boolean, 2) := by decide +kernel
theorem d_R_init_25 : decode prog_4_method_1_code 25 = .ok (.putfield 19, 3) := by decide +kernel
theorem d_R_init_28 : decode prog_4_method_1_code 28 = .ok (.aload_n 0, 1) := by decide +kernel
theorem d_R_init_29 : decode prog_4_method_1_code 29 = .ok (.bipush 6, 2) := by decide +kernel
theorem d_R_init_31 : decode prog_4_method_1_code 31 = .ok (.newarray .int, 2) := by decide +kernel
theorem d_R_init_33 : decode prog_4_method_1_code 33 = .ok (.putfield 23, 3) := by decide +kernel
theorem d_R_init_36 : decode prog_4_method_1_code 36 = .ok (.aload_n 0, 1) := by decide +kernel
theorem d_R_init_37 : decode prog_4_method_1_code 37 = .ok (.lconst 0, 1) := by decide +kernel
theorem d_R_init_38 : decode prog_4_method_1_code 38 = .ok (.putfield 26, 3) := by decide +kernel
theorem d_R_init_41 : decode prog_4_method_1_code 41 = .ok (.aload_n 0, 1) := by decide +kernel
theorem d_R_init_42 : decode prog_4_method_1_code 42 = .ok (.iconst 0, 1) := by decide +kernel
theorem d_R_init_43 : decode prog_4_method_1_code 43 = .ok (.putfield 30, 3) := by decide +kernel
theorem d_R_init_46 : decode prog_4_method_1_code 46 = .ok (.aload_n 0, 1) := by decide +kernel
theorem d_R_init_47 : decode prog_4_method_1_code 47 = .ok (.lconst 0, 1) := by decide +kernel
theorem d_R_init_48 : decode prog_4_method_1_code 48 = .ok (.putfield 34, 3) := by decide +kernel
theorem d_R_init_51 : decode prog_4_method_1_code 51 = .ok (.aload_n 0, 1) := by decide +kernel
theorem d_R_init_52 : decode prog_4_method_1_code 52 = .ok (.iconst 0, 1) := by decide +kernel
theorem d_R_init_53 : decode prog_4_method_1_code 53 = .ok (.putfield 37, 3) := by decide +kernel
theorem d_R_init_56 : decode prog_4_method_1_code 56 = .ok (.aload_n 0, 1) := by decide +kernel
theorem d_R_init_57 : decode prog_4_method_1_code 57 = .ok (.aload_n 1, 1) := by decide +kernel
theorem d_R_init_58 : decode prog_4_method_1_code 58 = .ok (.putfield 40, 3) := by decide +kernel
theorem d_R_init_61 : decode prog_4_method_1_code 61 = .ok (.aload_n 0, 1) := by decide +kernel
theorem d_R_init_62 : decode prog_4_method_1_code 62 = .ok (.aload_n 2, 1) := by decide +kernel
theorem d_R_init_63 : decode prog_4_method_1_code 63 = .ok (.putfield 44, 3) := by decide +kernel
theorem d_R_init_66 : decode prog_4_method_1_code 66 = .ok (.return_, 1) := by decide +kernel
theorem d_R_findBest_0 : decode prog_4_method_2_code 0 = .ok (.aload_n 0, 1) := by decide +kernel
theorem d_R_findBest_1 : decode prog_4_method_2_code 1 = .ok (.iload_n 1, 1) := by decide +kernel
theorem d_R_findBest_2 : decode prog_4_method_2_code 2 = .ok (.putfield 30, 3) := by decide +kernel
theorem d_R_findBest_5 : decode prog_4_method_2_code 5 = .ok (.aload_n 0, 1) := by decide +kernel
theorem d_R_findBest_6 : decode prog_4_method_2_code 6 = .ok (.iconst 0, 1) := by decide +kernel
theorem d_R_findBest_7 : decode prog_4_method_2_code 7 = .ok (.putfield 37, 3) := by decide +kernel
theorem d_R_findBest_10 : decode prog_4_method_2_code 10 = .ok (.aload_n 0, 1) := by decide +kernel
theorem d_R_findBest_11 : decode prog_4_method_2_code 11 = .ok (.lconst 0, 1) := by decide +kernel
theorem d_R_findBest_12 : decode prog_4_method_2_code 12 = .ok (.putfield 34, 3) := by decide +kernel
theorem d_R_findBest_15 : decode prog_4_method_2_code 15 = .ok (.iconst 0, 1) := by decide +kernel
theorem d_R_findBest_16 : decode prog_4_method_2_code 16 = .ok (.istore_n 2, 1) := by decide +kernel
theorem d_R_findBest_17 : decode prog_4_method_2_code 17 = .ok (.iload_n 2, 1) := by decide +kernel
theorem d_R_findBest_18 : decode prog_4_method_2_code 18 = .ok (.aload_n 0, 1) := by decide +kernel
theorem d_R_findBest_19 : decode prog_4_method_2_code 19 = .ok (.getfield 40, 3) := by decide +kernel
theorem d_R_findBest_22 : decode prog_4_method_2_code 22 = .ok (.getfield 48, 3) := by decide +kernel
theorem d_R_findBest_25 : decode prog_4_method_2_code 25 = .ok (.if_icmp .ge 38, 3) := by decide +kernel
theorem d_R_findBest_28 : decode prog_4_method_2_code 28 = .ok (.aload_n 0, 1) := by decide +kernel
theorem d_R_findBest_29 : decode prog_4_method_2_code 29 = .ok (.getfield 9, 3) := by decide +kernel
theorem d_R_findBest_32 : decode prog_4_method_2_code 32 = .ok (.iload_n 2, 1) := by decide +kernel
theorem d_R_findBest_33 : decode prog_4_method_2_code 33 = .ok (.aload_n 0, 1) := by decide +kernel
theorem d_R_findBest_34 : decode prog_4_method_2_code 34 = .ok (.getfield 44, 3) := by decide +kernel
theorem d_R_findBest_37 : decode prog_4_method_2_code 37 = .ok (.iload_n 2, 1) := by decide +kernel
theorem d_R_findBest_38 : decode prog_4_method_2_code 38 = .ok (.invokevirtual 53, 3) := by decide +kernel
theorem d_R_findBest_41 : decode prog_4_method_2_code 41 = .ok (.lastore, 1) := by decide +kernel
theorem d_R_findBest_42 : decode prog_4_method_2_code 42 = .ok (.aload_n 0, 1) := by decide +kernel
theorem d_R_findBest_43 : decode prog_4_method_2_code 43 = .ok (.dup, 1) := by decide +kernel
theorem d_R_findBest_44 : decode prog_4_method_2_code 44 = .ok (.getfield 34, 3) := by decide +kernel
theorem d_R_findBest_47 : decode prog_4_method_2_code 47 = .ok (.aload_n 0, 1) := by decide +kernel
theorem d_R_findBest_48 : decode prog_4_method_2_code 48 = .ok (.getfield 9, 3) := by decide +kernel
theorem d_R_findBest_51 : decode prog_4_method_2_code 51 = .ok (.iload_n 2, 1) := by decide +kernel
theorem d_R_findBest_52 : decode prog_4_method_2_code 52 = .ok (.laload, 1) := by decide +kernel
theorem d_R_findBest_53 : decode prog_4_method_2_code 53 = .ok (.ladd, 1) := by decide +kernel
theorem d_R_findBest_54 : decode prog_4_method_2_code 54 = .ok (.putfield 34, 3) := by decide +kernel
theorem d_R_findBest_57 : decode prog_4_method_2_code 57 = .ok (.iinc 2 1, 3) := by decide +kernel
theorem d_R_findBest_60 : decode prog_4_method_2_code 60 = .ok (.goto (-43), 3) := by decide +kernel
theorem d_R_findBest_63 : decode prog_4_method_2_code 63 = .ok (.aload_n 0, 1) := by decide +kernel
theorem d_R_findBest_64 : decode prog_4_method_2_code 64 = .ok (.invokevirtual 59, 3) := by decide +kernel
theorem d_R_findBest_67 : decode prog_4_method_2_code 67 = .ok (.aload_n 0, 1) := by decide +kernel
theorem d_R_findBest_68 : decode prog_4_method_2_code 68 = .ok (.aload_n 0, 1) := by decide +kernel
theorem d_R_findBest_69 : decode prog_4_method_2_code 69 = .ok (.getfield 44, 3) := by decide +kernel
theorem d_R_findBest_72 : decode prog_4_method_2_code 72 = .ok (.aload_n 0, 1) := by decide +kernel
theorem d_R_findBest_73 : decode prog_4_method_2_code 73 = .ok (.getfield 23, 3) := by decide +kernel
theorem d_R_findBest_76 : decode prog_4_method_2_code 76 = .ok (.aload_n 0, 1) := by decide +kernel
theorem d_R_findBest_77 : decode prog_4_method_2_code 77 = .ok (.getfield 40, 3) := by decide +kernel
theorem d_R_findBest_80 : decode prog_4_method_2_code 80 = .ok (.getfield 48, 3) := by decide +kernel
theorem d_R_findBest_83 : decode prog_4_method_2_code 83 = .ok (.invokevirtual 62, 3) := by decide +kernel
theorem d_R_findBest_86 : decode prog_4_method_2_code 86 = .ok (.putfield 26, 3) := by decide +kernel
theorem d_R_findBest_89 : decode prog_4_method_2_code 89 = .ok (.aload_n 0, 1) := by decide +kernel
theorem d_R_findBest_90 : decode prog_4_method_2_code 90 = .ok (.getfield 44, 3) := by decide +kernel
theorem d_R_findBest_93 : decode prog_4_method_2_code 93 = .ok (.invokevirtual 66, 3) := by decide +kernel
theorem d_R_findBest_96 : decode prog_4_method_2_code 96 = .ok (.aload_n 0, 1) := by decide +kernel
theorem d_R_findBest_97 : decode prog_4_method_2_code 97 = .ok (.iconst 0, 1) := by decide +kernel
theorem d_R_findBest_98 : decode prog_4_method_2_code 98 = .ok (.lconst 0, 1) := by decide +kernel
theorem d_R_findBest_99 : decode prog_4_method_2_code 99 = .ok (.aload_n 0, 1) := by decide +kernel
theorem d_R_findBest_100 : decode prog_4_method_2_code 100 = .ok (.getfield 34, 3) := by decide +kernel
theorem d_R_findBest_103 : decode prog_4_method_2_code 103 = .ok (.invokevirtual 69, 3) := by decide +kernel
theorem d_R_findBest_106 : decode prog_4_method_2_code 106 = .ok (.ireturn, 1) := by decide +kernel
theorem d_R_orderByDue_0 : decode prog_4_method_3_code 0 = .ok (.iconst 0, 1) := by decide +kernel
theorem d_R_orderByDue_1 : decode prog_4_method_3_code 1 = .ok (.istore_n 1, 1) := by decide +kernel
theorem d_R_orderByDue_2 : decode prog_4_method_3_code 2 = .ok (.iload_n 1, 1) := by decide +kernel
theorem d_R_orderByDue_3 : decode prog_4_method_3_code 3 = .ok (.aload_n 0, 1) := by decide +kernel
theorem d_R_orderByDue_4 : decode prog_4_method_3_code 4 = .ok (.getfield 40, 3) := by decide +kernel
theorem d_R_orderByDue_7 : decode prog_4_method_3_code 7 = .ok (.getfield 48, 3) := by decide +kernel
theorem d_R_orderByDue_10 : decode prog_4_method_3_code 10 = .ok (.if_icmp .ge 70, 3) := by decide +kernel
theorem d_R_orderByDue_13 : decode prog_4_method_3_code 13 = .ok (.iload_n 1, 1) := by decide +kernel
theorem d_R_orderByDue_14 : decode prog_4_method_3_code 14 = .ok (.istore_n 2, 1) := by decide +kernel
theorem d_R_orderByDue_15 : decode prog_4_method_3_code 15 = .ok (.iload_n 2, 1) := by decide +kernel
theorem d_R_orderByDue_16 : decode prog_4_method_3_code 16 = .ok (.ifCond .le 51, 3) := by decide +kernel
theorem d_R_orderByDue_19 : decode prog_4_method_3_code 19 = .ok (.aload_n 0, 1) := by decide +kernel
theorem d_R_orderByDue_20 : decode prog_4_method_3_code 20 = .ok (.getfield 40, 3) := by decide +kernel
theorem d_R_orderByDue_23 : decode prog_4_method_3_code 23 = .ok (.getfield 73, 3) := by decide +kernel
theorem d_R_orderByDue_26 : decode prog_4_method_3_code 26 = .ok (.aload_n 0, 1) := by decide +kernel
theorem d_R_orderByDue_27 : decode prog_4_method_3_code 27 = .ok (.getfield 23, 3) := by decide +kernel
theorem d_R_orderByDue_30 : decode prog_4_method_3_code 30 = .ok (.iload_n 2, 1) := by decide +kernel
theorem d_R_orderByDue_31 : decode prog_4_method_3_code 31 = .ok (.iconst 1, 1) := by decide +kernel
theorem d_R_orderByDue_32 : decode prog_4_method_3_code 32 = .ok (.isub, 1) := by decide +kernel
theorem d_R_orderByDue_33 : decode prog_4_method_3_code 33 = .ok (.iaload, 1) := by decide +kernel
theorem d_R_orderByDue_34 : decode prog_4_method_3_code 34 = .ok (.iaload, 1) := by decide +kernel
theorem d_R_orderByDue_35 : decode prog_4_method_3_code 35 = .ok (.aload_n 0, 1) := by decide +kernel
theorem d_R_orderByDue_36 : decode prog_4_method_3_code 36 = .ok (.getfield 40, 3) := by decide +kernel
theorem d_R_orderByDue_39 : decode prog_4_method_3_code 39 = .ok (.getfield 73, 3) := by decide +kernel
theorem d_R_orderByDue_42 : decode prog_4_method_3_code 42 = .ok (.iload_n 1, 1) := by decide +kernel
theorem d_R_orderByDue_43 : decode prog_4_method_3_code 43 = .ok (.iaload, 1) := by decide +kernel
theorem d_R_orderByDue_44 : decode prog_4_method_3_code 44 = .ok (.if_icmp .le 23, 3) := by decide +kernel
theorem d_R_orderByDue_47 : decode prog_4_method_3_code 47 = .ok (.aload_n 0, 1) := by decide +kernel
theorem d_R_orderByDue_48 : decode prog_4_method_3_code 48 = .ok (.getfield 23, 3) := by decide +kernel
theorem d_R_orderByDue_51 : decode prog_4_method_3_code 51 = .ok (.iload_n 2, 1) := by decide +kernel
theorem d_R_orderByDue_52 : decode prog_4_method_3_code 52 = .ok (.aload_n 0, 1) := by decide +kernel
theorem d_R_orderByDue_53 : decode prog_4_method_3_code 53 = .ok (.getfield 23, 3) := by decide +kernel
theorem d_R_orderByDue_56 : decode prog_4_method_3_code 56 = .ok (.iload_n 2, 1) := by decide +kernel
theorem d_R_orderByDue_57 : decode prog_4_method_3_code 57 = .ok (.iconst 1, 1) := by decide +kernel
theorem d_R_orderByDue_58 : decode prog_4_method_3_code 58 = .ok (.isub, 1) := by decide +kernel
theorem d_R_orderByDue_59 : decode prog_4_method_3_code 59 = .ok (.iaload, 1) := by decide +kernel
theorem d_R_orderByDue_60 : decode prog_4_method_3_code 60 = .ok (.iastore, 1) := by decide +kernel
theorem d_R_orderByDue_61 : decode prog_4_method_3_code 61 = .ok (.iinc 2 (-1), 3) := by decide +kernel
theorem d_R_orderByDue_64 : decode prog_4_method_3_code 64 = .ok (.goto (-49), 3) := by decide +kernel
theorem d_R_orderByDue_67 : decode prog_4_method_3_code 67 = .ok (.aload_n 0, 1) := by decide +kernel
theorem d_R_orderByDue_68 : decode prog_4_method_3_code 68 = .ok (.getfield 23, 3) := by decide +kernel
theorem d_R_orderByDue_71 : decode prog_4_method_3_code 71 = .ok (.iload_n 2, 1) := by decide +kernel
theorem d_R_orderByDue_72 : decode prog_4_method_3_code 72 = .ok (.iload_n 1, 1) := by decide +kernel
theorem d_R_orderByDue_73 : decode prog_4_method_3_code 73 = .ok (.iastore, 1) := by decide +kernel
theorem d_R_orderByDue_74 : decode prog_4_method_3_code 74 = .ok (.iinc 1 1, 3) := by decide +kernel
theorem d_R_orderByDue_77 : decode prog_4_method_3_code 77 = .ok (.goto (-75), 3) := by decide +kernel
theorem d_R_orderByDue_80 : decode prog_4_method_3_code 80 = .ok (.return_, 1) := by decide +kernel
theorem d_R_goOn_0 : decode prog_4_method_4_code 0 = .ok (.iconst 0, 1) := by decide +kernel
theorem d_R_goOn_1 : decode prog_4_method_4_code 1 = .ok (.istore 6, 2) := by decide +kernel
theorem d_R_goOn_3 : decode prog_4_method_4_code 3 = .ok (.iload 6, 2) := by decide +kernel
theorem d_R_goOn_5 : decode prog_4_method_4_code 5 = .ok (.aload_n 0, 1) := by decide +kernel
theorem d_R_goOn_6 : decode prog_4_method_4_code 6 = .ok (.getfield 40, 3) := by decide +kernel
theorem d_R_goOn_9 : decode prog_4_method_4_code 9 = .ok (.getfield 48, 3) := by decide +kernel
theorem d_R_goOn_12 : decode prog_4_method_4_code 12 = .ok (.if_icmp .ge 117, 3) := by decide +kernel
theorem d_R_goOn_15 : decode prog_4_method_4_code 15 = .ok (.iload_n 1, 1) := by decide +kernel
theorem d_R_goOn_16 : decode prog_4_method_4_code 16 = .ok (.aload_n 0, 1) := by decide +kernel
theorem d_R_goOn_17 : decode prog_4_method_4_code 17 = .ok (.getfield 40, 3) := by decide +kernel
theorem d_R_goOn_20 : decode prog_4_method_4_code 20 = .ok (.getfield 48, 3) := by decide +kernel
theorem d_R_goOn_23 : decode prog_4_method_4_code 23 = .ok (.if_icmp .ge 106, 3) := by decide +kernel
theorem d_R_goOn_26 : decode prog_4_method_4_code 26 = .ok (.aload_n 0, 1) := by decide +kernel
theorem d_R_goOn_27 : decode prog_4_method_4_code 27 = .ok (.getfield 19, 3) := by decide +kernel
theorem d_R_goOn_30 : decode prog_4_method_4_code 30 = .ok (.iload 6, 2) := by decide +kernel
theorem d_R_goOn_32 : decode prog_4_method_4_code 32 = .ok (.baload, 1) := by decide +kernel
theorem d_R_goOn_33 : decode prog_4_method_4_code 33 = .ok (.ifCond .eq 6, 3) := by decide +kernel
theorem d_R_goOn_36 : decode prog_4_method_4_code 36 = .ok (.goto 87, 3) := by decide +kernel
theorem d_R_goOn_39 : decode prog_4_method_4_code 39 = .ok (.aload_n 0, 1) := by decide +kernel
theorem d_R_goOn_40 : decode prog_4_method_4_code 40 = .ok (.getfield 37, 3) := by decide +kernel
theorem d_R_goOn_43 : decode prog_4_method_4_code 43 = .ok (.aload_n 0, 1) := by decide +kernel
theorem d_R_goOn_44 : decode prog_4_method_4_code 44 = .ok (.getfield 30, 3) := by decide +kernel
theorem d_R_goOn_47 : decode prog_4_method_4_code 47 = .ok (.if_icmp .lt 5, 3) := by decide +kernel
theorem d_R_goOn_50 : decode prog_4_method_4_code 50 = .ok (.iconst 0, 1) := by decide +kernel
theorem d_R_goOn_51 : decode prog_4_method_4_code 51 = .ok (.ireturn, 1) := by decide +kernel
theorem d_R_goOn_52 : decode prog_4_method_4_code 52 = .ok (.aload_n 0, 1) := by decide +kernel
theorem d_R_goOn_53 : decode prog_4_method_4_code 53 = .ok (.dup, 1) := by decide +kernel
theorem d_R_goOn_54 : decode prog_4_method_4_code 54 = .ok (.getfield 37, 3) := by decide +kernel
theorem d_R_goOn_57 : decode prog_4_method_4_code 57 = .ok (.iconst 1, 1) := by decide +kernel
theorem d_R_goOn_58 : decode prog_4_method_4_code 58 = .ok (.iadd, 1) := by decide +kernel
theorem d_R_goOn_59 : decode prog_4_method_4_code 59 = .ok (.putfield 37, 3) := by decide +kernel
theorem d_R_goOn_62 : decode prog_4_method_4_code 62 = .ok (.aload_n 0, 1) := by decide +kernel
theorem d_R_goOn_63 : decode prog_4_method_4_code 63 = .ok (.getfield 15, 3) := by decide +kernel
theorem d_R_goOn_66 : decode prog_4_method_4_code 66 = .ok (.iload_n 1, 1) := by decide +kernel
theorem d_R_goOn_67 : decode prog_4_method_4_code 67 = .ok (.iload 6, 2) := by decide +kernel
theorem d_R_goOn_69 : decode prog_4_method_4_code 69 = .ok (.iastore, 1) := by decide +kernel
theorem d_R_goOn_70 : decode prog_4_method_4_code 70 = .ok (.lload_n 2, 1) := by decide +kernel
theorem d_R_goOn_71 : decode prog_4_method_4_code 71 = .ok (.aload_n 0, 1) := by decide +kernel
theorem d_R_goOn_72 : decode prog_4_method_4_code 72 = .ok (.getfield 40, 3) := by decide +kernel
theorem d_R_goOn_75 : decode prog_4_method_4_code 75 = .ok (.iload 6, 2) := by decide +kernel
theorem d_R_goOn_77 : decode prog_4_method_4_code 77 = .ok (.aload_n 0, 1) := by decide +kernel
theorem d_R_goOn_78 : decode prog_4_method_4_code 78 = .ok (.getfield 44, 3) := by decide +kernel
theorem d_R_goOn_81 : decode prog_4_method_4_code 81 = .ok (.iload 6, 2) := by decide +kernel
theorem d_R_goOn_83 : decode prog_4_method_4_code 83 = .ok (.invokevirtual 76, 3) := by decide +kernel
theorem d_R_goOn_86 : decode prog_4_method_4_code 86 = .ok (.invokevirtual 80, 3) := by decide +kernel
theorem d_R_goOn_89 : decode prog_4_method_4_code 89 = .ok (.ladd, 1) := by decide +kernel
theorem d_R_goOn_90 : decode prog_4_method_4_code 90 = .ok (.lstore 7, 2) := by decide +kernel
theorem d_R_goOn_92 : decode prog_4_method_4_code 92 = .ok (.aload_n 0, 1) := by decide +kernel
theorem d_R_goOn_93 : decode prog_4_method_4_code 93 = .ok (.iload_n 1, 1) := by decide +kernel
theorem d_R_goOn_94 : decode prog_4_method_4_code 94 = .ok (.lload 7, 2) := by decide +kernel
theorem d_R_goOn_96 : decode prog_4_method_4_code 96 = .ok (.lload 4, 2) := by decide +kernel
theorem d_R_goOn_98 : decode prog_4_method_4_code 98 = .ok (.aload_n 0, 1) := by decide +kernel
theorem d_R_goOn_99 : decode prog_4_method_4_code 99 = .ok (.getfield 9, 3) := by decide +kernel
theorem d_R_goOn_102 : decode prog_4_method_4_code 102 = .ok (.iload 6, 2) := by decide +kernel
theorem d_R_goOn_104 : decode prog_4_method_4_code 104 = .ok (.laload, 1) := by decide +kernel
theorem d_R_goOn_105 : decode prog_4_method_4_code 105 = .ok (.lsub, 1) := by decide +kernel
theorem d_R_goOn_106 : decode prog_4_method_4_code 106 = .ok (.invokevirtual 84, 3) := by decide +kernel
theorem d_R_goOn_109 : decode prog_4_method_4_code 109 = .ok (.ifCond .ne 5, 3) := by decide +kernel
theorem d_R_goOn_112 : decode prog_4_method_4_code 112 = .ok (.iconst 0, 1) := by decide +kernel
theorem d_R_goOn_113 : decode prog_4_method_4_code 113 = .ok (.ireturn, 1) := by decide +kernel
theorem d_R_goOn_114 : decode prog_4_method_4_code 114 = .ok (.aload_n 0, 1) := by decide +kernel
theorem d_R_goOn_115 : decode prog_4_method_4_code 115 = .ok (.getfield 44, 3) := by decide +kernel
theorem d_R_goOn_118 : decode prog_4_method_4_code 118 = .ok (.iload 6, 2) := by decide +kernel
theorem d_R_goOn_120 : decode prog_4_method_4_code 120 = .ok (.invokevirtual 87, 3) := by decide +kernel
theorem d_R_goOn_123 : decode prog_4_method_4_code 123 = .ok (.iinc 6 1, 3) := by decide +kernel
theorem d_R_goOn_126 : decode prog_4_method_4_code 126 = .ok (.goto (-123), 3) := by decide +kernel
theorem d_R_goOn_129 : decode prog_4_method_4_code 129 = .ok (.iconst 1, 1) := by decide +kernel
theorem d_R_goOn_130 : decode prog_4_method_4_code 130 = .ok (.ireturn, 1) := by decide +kernel
theorem d_R_follow_0 : decode prog_4_method_5_code 0 = .ok (.lload_n 2, 1) := by decide +kernel
theorem d_R_follow_1 : decode prog_4_method_5_code 1 = .ok (.lload 4, 2) := by decide +kernel
theorem d_R_follow_3 : decode prog_4_method_5_code 3 = .ok (.ladd, 1) := by decide +kernel
theorem d_R_follow_4 : decode prog_4_method_5_code 4 = .ok (.aload_n 0, 1) := by decide +kernel
theorem d_R_follow_5 : decode prog_4_method_5_code 5 = .ok (.getfield 26, 3) := by decide +kernel
theorem d_R_follow_8 : decode prog_4_method_5_code 8 = .ok (.lcmp, 1) := by decide +kernel
theorem d_R_follow_9 : decode prog_4_method_5_code 9 = .ok (.ifCond .lt 5, 3) := by decide +kernel
theorem d_R_follow_12 : decode prog_4_method_5_code 12 = .ok (.iconst 1, 1) := by decide +kernel
theorem d_R_follow_13 : decode prog_4_method_5_code 13 = .ok (.ireturn, 1) := by decide +kernel
theorem d_R_follow_14 : decode prog_4_method_5_code 14 = .ok (.iload_n 1, 1) := by decide +kernel
theorem d_R_follow_15 : decode prog_4_method_5_code 15 = .ok (.iconst 1, 1) := by decide +kernel
theorem d_R_follow_16 : decode prog_4_method_5_code 16 = .ok (.iadd, 1) := by decide +kernel
theorem d_R_follow_17 : decode prog_4_method_5_code 17 = .ok (.aload_n 0, 1) := by decide +kernel
theorem d_R_follow_18 : decode prog_4_method_5_code 18 = .ok (.getfield 40, 3) := by decide +kernel
theorem d_R_follow_21 : decode prog_4_method_5_code 21 = .ok (.getfield 48, 3) := by decide +kernel
theorem d_R_follow_24 : decode prog_4_method_5_code 24 = .ok (.if_icmp .lt 25, 3) := by decide +kernel
theorem d_R_follow_27 : decode prog_4_method_5_code 27 = .ok (.aload_n 0, 1) := by decide +kernel
theorem d_R_follow_28 : decode prog_4_method_5_code 28 = .ok (.lload_n 2, 1) := by decide +kernel
theorem d_R_follow_29 : decode prog_4_method_5_code 29 = .ok (.putfield 26, 3) := by decide +kernel
theorem d_R_follow_32 : decode prog_4_method_5_code 32 = .ok (.aload_n 0, 1) := by decide +kernel
theorem d_R_follow_33 : decode prog_4_method_5_code 33 = .ok (.getfield 15, 3) := by decide +kernel
theorem d_R_follow_36 : decode prog_4_method_5_code 36 = .ok (.iconst 0, 1) := by decide +kernel
theorem d_R_follow_37 : decode prog_4_method_5_code 37 = .ok (.aload_n 0, 1) := by decide +kernel
theorem d_R_follow_38 : decode prog_4_method_5_code 38 = .ok (.getfield 23, 3) := by decide +kernel
theorem d_R_follow_41 : decode prog_4_method_5_code 41 = .ok (.iconst 0, 1) := by decide +kernel
theorem d_R_follow_42 : decode prog_4_method_5_code 42 = .ok (.bipush 6, 2) := by decide +kernel
theorem d_R_follow_44 : decode prog_4_method_5_code 44 = .ok (.invokestatic 91, 3) := by decide +kernel
theorem d_R_follow_47 : decode prog_4_method_5_code 47 = .ok (.iconst 1, 1) := by decide +kernel
theorem d_R_follow_48 : decode prog_4_method_5_code 48 = .ok (.ireturn, 1) := by decide +kernel
theorem d_R_follow_49 : decode prog_4_method_5_code 49 = .ok (.aload_n 0, 1) := by decide +kernel
theorem d_R_follow_50 : decode prog_4_method_5_code 50 = .ok (.getfield 15, 3) := by decide +kernel
theorem d_R_follow_53 : decode prog_4_method_5_code 53 = .ok (.iload_n 1, 1) := by decide +kernel
theorem d_R_follow_54 : decode prog_4_method_5_code 54 = .ok (.iaload, 1) := by decide +kernel
theorem d_R_follow_55 : decode prog_4_method_5_code 55 = .ok (.istore 6, 2) := by decide +kernel
theorem d_R_follow_57 : decode prog_4_method_5_code 57 = .ok (.aload_n 0, 1) := by decide +kernel
theorem d_R_follow_58 : decode prog_4_method_5_code 58 = .ok (.getfield 19, 3) := by decide +kernel
theorem d_R_follow_61 : decode prog_4_method_5_code 61 = .ok (.iload 6, 2) := by decide +kernel
theorem d_R_follow_63 : decode prog_4_method_5_code 63 = .ok (.iconst 1, 1) := by decide +kernel
theorem d_R_follow_64 : decode prog_4_method_5_code 64 = .ok (.bastore, 1) := by decide +kernel
theorem d_R_follow_65 : decode prog_4_method_5_code 65 = .ok (.aload_n 0, 1) := by decide +kernel
theorem d_R_follow_66 : decode prog_4_method_5_code 66 = .ok (.iload_n 1, 1) := by decide +kernel
theorem d_R_follow_67 : decode prog_4_method_5_code 67 = .ok (.iconst 1, 1) := by decide +kernel
theorem d_R_follow_68 : decode prog_4_method_5_code 68 = .ok (.iadd, 1) := by decide +kernel
theorem d_R_follow_69 : decode prog_4_method_5_code 69 = .ok (.lload_n 2, 1) := by decide +kernel
theorem d_R_follow_70 : decode prog_4_method_5_code 70 = .ok (.lload 4, 2) := by decide +kernel
theorem d_R_follow_72 : decode prog_4_method_5_code 72 = .ok (.invokevirtual 69, 3) := by decide +kernel
theorem d_R_follow_75 : decode prog_4_method_5_code 75 = .ok (.istore 7, 2) := by decide +kernel
theorem d_R_follow_77 : decode prog_4_method_5_code 77 = .ok (.aload_n 0, 1) := by decide +kernel
theorem d_R_follow_78 : decode prog_4_method_5_code 78 = .ok (.getfield 19, 3) := by decide +kernel
theorem d_R_follow_81 : decode prog_4_method_5_code 81 = .ok (.iload 6, 2) := by decide +kernel
theorem d_R_follow_83 : decode prog_4_method_5_code 83 = .ok (.iconst 0, 1) := by decide +kernel
theorem d_R_follow_84 : decode prog_4_method_5_code 84 = .ok (.bastore, 1) := by decide +kernel
theorem d_R_follow_85 : decode prog_4_method_5_code 85 = .ok (.iload 7, 2) := by decide +kernel
theorem d_R_follow_87 : decode prog_4_method_5_code 87 = .ok (.ireturn, 1) := by decide +kernel
end
section
/-! decode rows of WorkPlans$Plan -/
theorem d_P_init_0 : decode prog_3_method_1_code 0 = .ok (.aload_n 0, 1) := by decide +kernel
theorem d_P_init_1 : decode prog_3_method_1_code 1 = .ok (.invokespecial 3, 3) := by decide +kernel
theorem d_P_init_4 : decode prog_3_method_1_code 4 = .ok (.aload_n 0, 1) := by decide +kernel
theorem d_P_init_5 : decode prog_3_method_1_code 5 = .ok (.bipush 6, 2) := by decide +kernel
theorem d_P_init_7 : decode prog_3_method_1_code 7 = .ok (.newarray .int, 2) := by decide +kernel
theorem d_P_init_9 : decode prog_3_method_1_code 9 = .ok (.putfield 9, 3) := by decide +kernel
theorem d_P_init_12 : decode prog_3_method_1_code 12 = .ok (.aload_n 0, 1) := by decide +kernel
theorem d_P_init_13 : decode prog_3_method_1_code 13 = .ok (.bipush 24, 2) := by decide +kernel
theorem d_P_init_15 : decode prog_3_method_1_code 15 = .ok (.newarray .int, 2) := by decide +kernel
theorem d_P_init_17 : decode prog_3_method_1_code 17 = .ok (.putfield 15, 3) := by decide +kernel
theorem d_P_init_20 : decode prog_3_method_1_code 20 = .ok (.aload_n 0, 1) := by decide +kernel
theorem d_P_init_21 : decode prog_3_method_1_code 21 = .ok (.bipush 24, 2) := by decide +kernel
theorem d_P_init_23 : decode prog_3_method_1_code 23 = .ok (.newarray .int, 2) := by decide +kernel
theorem d_P_init_25 : decode prog_3_method_1_code 25 = .ok (.putfield 18, 3) := by decide +kernel
theorem d_P_init_28 : decode prog_3_method_1_code 28 = .ok (.aload_n 0, 1) := by decide +kernel
theorem d_P_init_29 : decode prog_3_method_1_code 29 = .ok (.iconst 0, 1) := by decide +kernel
theorem d_P_init_30 : decode prog_3_method_1_code 30 = .ok (.putfield 21, 3) := by decide +kernel
theorem d_P_init_33 : decode prog_3_method_1_code 33 = .ok (.aload_n 0, 1) := by decide +kernel
theorem d_P_init_34 : decode prog_3_method_1_code 34 = .ok (.iconst 0, 1) := by decide +kernel
theorem d_P_init_35 : decode prog_3_method_1_code 35 = .ok (.putfield 25, 3) := by decide +kernel
theorem d_P_init_38 : decode prog_3_method_1_code 38 = .ok (.aload_n 0, 1) := by decide +kernel
theorem d_P_init_39 : decode prog_3_method_1_code 39 = .ok (.lconst 0, 1) := by decide +kernel
theorem d_P_init_40 : decode prog_3_method_1_code 40 = .ok (.putfield 28, 3) := by decide +kernel
theorem d_P_init_43 : decode prog_3_method_1_code 43 = .ok (.aload_n 0, 1) := by decide +kernel
theorem d_P_init_44 : decode prog_3_method_1_code 44 = .ok (.lconst 0, 1) := by decide +kernel
theorem d_P_init_45 : decode prog_3_method_1_code 45 = .ok (.putfield 32, 3) := by decide +kernel
theorem d_P_init_48 : decode prog_3_method_1_code 48 = .ok (.aload_n 0, 1) := by decide +kernel
theorem d_P_init_49 : decode prog_3_method_1_code 49 = .ok (.iconst 0, 1) := by decide +kernel
theorem d_P_init_50 : decode prog_3_method_1_code 50 = .ok (.putfield 35, 3) := by decide +kernel
theorem d_P_init_53 : decode prog_3_method_1_code 53 = .ok (.aload_n 0, 1) := by decide +kernel
theorem d_P_init_54 : decode prog_3_method_1_code 54 = .ok (.iconst 0, 1) := by decide +kernel
theorem d_P_init_55 : decode prog_3_method_1_code 55 = .ok (.putfield 38, 3) := by decide +kernel
theorem d_P_init_58 : decode prog_3_method_1_code 58 = .ok (.aload_n 0, 1) := by decide +kernel
theorem d_P_init_59 : decode prog_3_method_1_code 59 = .ok (.aload_n 1, 1) := by decide +kernel
theorem d_P_init_60 : decode prog_3_method_1_code 60 = .ok (.putfield 41, 3) := by decide +kernel
theorem d_P_init_63 : decode prog_3_method_1_code 63 = .ok (.return_, 1) := by decide +kernel
theorem d_P_take_0 : decode prog_3_method_4_code 0 = .ok (.aload_n 0, 1) := by decide +kernel
theorem d_P_take_1 : decode prog_3_method_4_code 1 = .ok (.aload_n 2, 1) := by decide +kernel
theorem d_P_take_2 : decode prog_3_method_4_code 2 = .ok (.aload_n 1, 1) := by decide +kernel
theorem d_P_take_3 : decode prog_3_method_4_code 3 = .ok (.aload_n 0, 1) := by decide +kernel
theorem d_P_take_4 : decode prog_3_method_4_code 4 = .ok (.getfield 41, 3) := by decide +kernel
theorem d_P_take_7 : decode prog_3_method_4_code 7 = .ok (.getfield 45, 3) := by decide +kernel
theorem d_P_take_10 : decode prog_3_method_4_code 10 = .ok (.invokevirtual 48, 3) := by decide +kernel
theorem d_P_take_13 : decode prog_3_method_4_code 13 = .ok (.putfield 28, 3) := by decide +kernel
theorem d_P_take_16 : decode prog_3_method_4_code 16 = .ok (.aload_n 0, 1) := by decide +kernel
theorem d_P_take_17 : decode prog_3_method_4_code 17 = .ok (.iconst 0, 1) := by decide +kernel
theorem d_P_take_18 : decode prog_3_method_4_code 18 = .ok (.putfield 38, 3) := by decide +kernel
theorem d_P_take_21 : decode prog_3_method_4_code 21 = .ok (.iconst 0, 1) := by decide +kernel
theorem d_P_take_22 : decode prog_3_method_4_code 22 = .ok (.istore_n 3, 1) := by decide +kernel
theorem d_P_take_23 : decode prog_3_method_4_code 23 = .ok (.iload_n 3, 1) := by decide +kernel
theorem d_P_take_24 : decode prog_3_method_4_code 24 = .ok (.aload_n 0, 1) := by decide +kernel
theorem d_P_take_25 : decode prog_3_method_4_code 25 = .ok (.getfield 41, 3) := by decide +kernel
theorem d_P_take_28 : decode prog_3_method_4_code 28 = .ok (.getfield 54, 3) := by decide +kernel
theorem d_P_take_31 : decode prog_3_method_4_code 31 = .ok (.if_icmp .ge 81, 3) := by decide +kernel
theorem d_P_take_34 : decode prog_3_method_4_code 34 = .ok (.aload_n 0, 1) := by decide +kernel
theorem d_P_take_35 : decode prog_3_method_4_code 35 = .ok (.iload_n 3, 1) := by decide +kernel
theorem d_P_take_36 : decode prog_3_method_4_code 36 = .ok (.invokevirtual 55, 3) := by decide +kernel
theorem d_P_take_39 : decode prog_3_method_4_code 39 = .ok (.ifCond .eq 33, 3) := by decide +kernel
theorem d_P_take_42 : decode prog_3_method_4_code 42 = .ok (.aload_n 0, 1) := by decide +kernel
theorem d_P_take_43 : decode prog_3_method_4_code 43 = .ok (.getfield 15, 3) := by decide +kernel
theorem d_P_take_46 : decode prog_3_method_4_code 46 = .ok (.iload_n 3, 1) := by decide +kernel
theorem d_P_take_47 : decode prog_3_method_4_code 47 = .ok (.iaload, 1) := by decide +kernel
theorem d_P_take_48 : decode prog_3_method_4_code 48 = .ok (.aload_n 2, 1) := by decide +kernel
theorem d_P_take_49 : decode prog_3_method_4_code 49 = .ok (.getfield 59, 3) := by decide +kernel
theorem d_P_take_52 : decode prog_3_method_4_code 52 = .ok (.iload_n 3, 1) := by decide +kernel
theorem d_P_take_53 : decode prog_3_method_4_code 53 = .ok (.iaload, 1) := by decide +kernel
theorem d_P_take_54 : decode prog_3_method_4_code 54 = .ok (.if_icmp .ne 18, 3) := by decide +kernel
theorem d_P_take_57 : decode prog_3_method_4_code 57 = .ok (.aload_n 0, 1) := by decide +kernel
theorem d_P_take_58 : decode prog_3_method_4_code 58 = .ok (.getfield 18, 3) := by decide +kernel
theorem d_P_take_61 : decode prog_3_method_4_code 61 = .ok (.iload_n 3, 1) := by decide +kernel
theorem d_P_take_62 : decode prog_3_method_4_code 62 = .ok (.iaload, 1) := by decide +kernel
theorem d_P_take_63 : decode prog_3_method_4_code 63 = .ok (.aload_n 2, 1) := by decide +kernel
theorem d_P_take_64 : decode prog_3_method_4_code 64 = .ok (.getfield 60, 3) := by decide +kernel
theorem d_P_take_67 : decode prog_3_method_4_code 67 = .ok (.iload_n 3, 1) := by decide +kernel
theorem d_P_take_68 : decode prog_3_method_4_code 68 = .ok (.iaload, 1) := by decide +kernel
theorem d_P_take_69 : decode prog_3_method_4_code 69 = .ok (.if_icmp .eq 13, 3) := by decide +kernel
theorem d_P_take_72 : decode prog_3_method_4_code 72 = .ok (.aload_n 0, 1) := by decide +kernel
theorem d_P_take_73 : decode prog_3_method_4_code 73 = .ok (.dup, 1) := by decide +kernel
theorem d_P_take_74 : decode prog_3_method_4_code 74 = .ok (.getfield 38, 3) := by decide +kernel
theorem d_P_take_77 : decode prog_3_method_4_code 77 = .ok (.iconst 1, 1) := by decide +kernel
theorem d_P_take_78 : decode prog_3_method_4_code 78 = .ok (.iadd, 1) := by decide +kernel
theorem d_P_take_79 : decode prog_3_method_4_code 79 = .ok (.putfield 38, 3) := by decide +kernel
theorem d_P_take_82 : decode prog_3_method_4_code 82 = .ok (.aload_n 0, 1) := by decide +kernel
theorem d_P_take_83 : decode prog_3_method_4_code 83 = .ok (.getfield 15, 3) := by decide +kernel
theorem d_P_take_86 : decode prog_3_method_4_code 86 = .ok (.iload_n 3, 1) := by decide +kernel
theorem d_P_take_87 : decode prog_3_method_4_code 87 = .ok (.aload_n 2, 1) := by decide +kernel
theorem d_P_take_88 : decode prog_3_method_4_code 88 = .ok (.getfield 59, 3) := by decide +kernel
theorem d_P_take_91 : decode prog_3_method_4_code 91 = .ok (.iload_n 3, 1) := by decide +kernel
theorem d_P_take_92 : decode prog_3_method_4_code 92 = .ok (.iaload, 1) := by decide +kernel
theorem d_P_take_93 : decode prog_3_method_4_code 93 = .ok (.iastore, 1) := by decide +kernel
theorem d_P_take_94 : decode prog_3_method_4_code 94 = .ok (.aload_n 0, 1) := by decide +kernel
theorem d_P_take_95 : decode prog_3_method_4_code 95 = .ok (.getfield 18, 3) := by decide +kernel
theorem d_P_take_98 : decode prog_3_method_4_code 98 = .ok (.iload_n 3, 1) := by decide +kernel
theorem d_P_take_99 : decode prog_3_method_4_code 99 = .ok (.aload_n 2, 1) := by decide +kernel
theorem d_P_take_100 : decode prog_3_method_4_code 100 = .ok (.getfield 60, 3) := by decide +kernel
theorem d_P_take_103 : decode prog_3_method_4_code 103 = .ok (.iload_n 3, 1) := by decide +kernel
theorem d_P_take_104 : decode prog_3_method_4_code 104 = .ok (.iaload, 1) := by decide +kernel
theorem d_P_take_105 : decode prog_3_method_4_code 105 = .ok (.iastore, 1) := by decide +kernel
theorem d_P_take_106 : decode prog_3_method_4_code 106 = .ok (.iinc 3 1, 3) := by decide +kernel
theorem d_P_take_109 : decode prog_3_method_4_code 109 = .ok (.goto (-86), 3) := by decide +kernel
theorem d_P_take_112 : decode prog_3_method_4_code 112 = .ok (.aload_n 1, 1) := by decide +kernel
theorem d_P_take_113 : decode prog_3_method_4_code 113 = .ok (.iconst 0, 1) := by decide +kernel
theorem d_P_take_114 : decode prog_3_method_4_code 114 = .ok (.aload_n 0, 1) := by decide +kernel
theorem d_P_take_115 : decode prog_3_method_4_code 115 = .ok (.getfield 9, 3) := by decide +kernel
theorem d_P_take_118 : decode prog_3_method_4_code 118 = .ok (.iconst 0, 1) := by decide +kernel
theorem d_P_take_119 : decode prog_3_method_4_code 119 = .ok (.bipush 6, 2) := by decide +kernel
theorem d_P_take_121 : decode prog_3_method_4_code 121 = .ok (.invokestatic 61, 3) := by decide +kernel
theorem d_P_take_124 : decode prog_3_method_4_code 124 = .ok (.aload_n 0, 1) := by decide +kernel
theorem d_P_take_125 : decode prog_3_method_4_code 125 = .ok (.aload_n 0, 1) := by decide +kernel
theorem d_P_take_126 : decode prog_3_method_4_code 126 = .ok (.getfield 41, 3) := by decide +kernel
theorem d_P_take_129 : decode prog_3_method_4_code 129 = .ok (.getfield 45, 3) := by decide +kernel
theorem d_P_take_132 : decode prog_3_method_4_code 132 = .ok (.putfield 21, 3) := by decide +kernel
theorem d_P_take_135 : decode prog_3_method_4_code 135 = .ok (.aload_n 0, 1) := by decide +kernel
theorem d_P_take_136 : decode prog_3_method_4_code 136 = .ok (.aload_n 0, 1) := by decide +kernel
theorem d_P_take_137 : decode prog_3_method_4_code 137 = .ok (.getfield 41, 3) := by decide +kernel
theorem d_P_take_140 : decode prog_3_method_4_code 140 = .ok (.getfield 54, 3) := by decide +kernel
theorem d_P_take_143 : decode prog_3_method_4_code 143 = .ok (.putfield 25, 3) := by decide +kernel
theorem d_P_take_146 : decode prog_3_method_4_code 146 = .ok (.return_, 1) := by decide +kernel
theorem d_P_has_0 : decode prog_3_method_3_code 0 = .ok (.iload_n 1, 1) := by decide +kernel
theorem d_P_has_1 : decode prog_3_method_3_code 1 = .ok (.ifCond .lt 15, 3) := by decide +kernel
theorem d_P_has_4 : decode prog_3_method_3_code 4 = .ok (.iload_n 1, 1) := by decide +kernel
theorem d_P_has_5 : decode prog_3_method_3_code 5 = .ok (.aload_n 0, 1) := by decide +kernel
theorem d_P_has_6 : decode prog_3_method_3_code 6 = .ok (.getfield 25, 3) := by decide +kernel
theorem d_P_has_9 : decode prog_3_method_3_code 9 = .ok (.if_icmp .ge 7, 3) := by decide +kernel
theorem d_P_has_12 : decode prog_3_method_3_code 12 = .ok (.iconst 1, 1) := by decide +kernel
theorem d_P_has_13 : decode prog_3_method_3_code 13 = .ok (.goto 4, 3) := by decide +kernel
theorem d_P_has_16 : decode prog_3_method_3_code 16 = .ok (.iconst 0, 1) := by decide +kernel
theorem d_P_has_17 : decode prog_3_method_3_code 17 = .ok (.ireturn, 1) := by decide +kernel
theorem d_P_exists_0 : decode prog_3_method_2_code 0 = .ok (.aload_n 0, 1) := by decide +kernel
theorem d_P_exists_1 : decode prog_3_method_2_code 1 = .ok (.getfield 21, 3) := by decide +kernel
theorem d_P_exists_4 : decode prog_3_method_2_code 4 = .ok (.ifCond .le 7, 3) := by decide +kernel
theorem d_P_exists_7 : decode prog_3_method_2_code 7 = .ok (.iconst 1, 1) := by decide +kernel
theorem d_P_exists_8 : decode prog_3_method_2_code 8 = .ok (.goto 4, 3) := by decide +kernel
theorem d_P_exists_11 : decode prog_3_method_2_code 11 = .ok (.iconst 0, 1) := by decide +kernel
theorem d_P_exists_12 : decode prog_3_method_2_code 12 = .ok (.ireturn, 1) := by decide +kernel
theorem d_P_changeIfLess_0 : decode prog_3_method_5_code 0 = .ok (.aload_n 0, 1) := by decide +kernel
theorem d_P_changeIfLess_1 : decode prog_3_method_5_code 1 = .ok (.iload_n 1, 1) := by decide +kernel
theorem d_P_changeIfLess_2 : decode prog_3_method_5_code 2 = .ok (.iload_n 2, 1) := by decide +kernel
theorem d_P_changeIfLess_3 : decode prog_3_method_5_code 3 = .ok (.invokevirtual 67, 3) := by decide +kernel
theorem d_P_changeIfLess_6 : decode prog_3_method_5_code 6 = .ok (.aload_n 3, 1) := by decide +kernel
theorem d_P_changeIfLess_7 : decode prog_3_method_5_code 7 = .ok (.aload_n 0, 1) := by decide +kernel
theorem d_P_changeIfLess_8 : decode prog_3_method_5_code 8 = .ok (.getfield 9, 3) := by decide +kernel
theorem d_P_changeIfLess_11 : decode prog_3_method_5_code 11 = .ok (.aload_n 0, 1) := by decide +kernel
theorem d_P_changeIfLess_12 : decode prog_3_method_5_code 12 = .ok (.getfield 21, 3) := by decide +kernel
theorem d_P_changeIfLess_15 : decode prog_3_method_5_code 15 = .ok (.invokevirtual 48, 3) := by decide +kernel
theorem d_P_changeIfLess_18 : decode prog_3_method_5_code 18 = .ok (.lstore 4, 2) := by decide +kernel
theorem d_P_changeIfLess_20 : decode prog_3_method_5_code 20 = .ok (.lload 4, 2) := by decide +kernel
theorem d_P_changeIfLess_22 : decode prog_3_method_5_code 22 = .ok (.aload_n 0, 1) := by decide +kernel
theorem d_P_changeIfLess_23 : decode prog_3_method_5_code 23 = .ok (.getfield 28, 3) := by decide +kernel
theorem d_P_changeIfLess_26 : decode prog_3_method_5_code 26 = .ok (.lcmp, 1) := by decide +kernel
theorem d_P_changeIfLess_27 : decode prog_3_method_5_code 27 = .ok (.ifCond .ge 11, 3) := by decide +kernel
theorem d_P_changeIfLess_30 : decode prog_3_method_5_code 30 = .ok (.aload_n 0, 1) := by decide +kernel
theorem d_P_changeIfLess_31 : decode prog_3_method_5_code 31 = .ok (.lload 4, 2) := by decide +kernel
theorem d_P_changeIfLess_33 : decode prog_3_method_5_code 33 = .ok (.putfield 28, 3) := by decide +kernel
theorem d_P_changeIfLess_36 : decode prog_3_method_5_code 36 = .ok (.iconst 1, 1) := by decide +kernel
theorem d_P_changeIfLess_37 : decode prog_3_method_5_code 37 = .ok (.ireturn, 1) := by decide +kernel
theorem d_P_changeIfLess_38 : decode prog_3_method_5_code 38 = .ok (.aload_n 0, 1) := by decide +kernel
theorem d_P_changeIfLess_39 : decode prog_3_method_5_code 39 = .ok (.iload_n 1, 1) := by decide +kernel
theorem d_P_changeIfLess_40 : decode prog_3_method_5_code 40 = .ok (.iload_n 2, 1) := by decide +kernel
theorem d_P_changeIfLess_41 : decode prog_3_method_5_code 41 = .ok (.invokevirtual 67, 3) := by decide +kernel
theorem d_P_changeIfLess_44 : decode prog_3_method_5_code 44 = .ok (.iconst 0, 1) := by decide +kernel
theorem d_P_changeIfLess_45 : decode prog_3_method_5_code 45 = .ok (.ireturn, 1) := by decide +kernel
theorem d_P_swap_0 : decode prog_3_method_9_code 0 = .ok (.aload_n 0, 1) := by decide +kernel
theorem d_P_swap_1 : decode prog_3_method_9_code 1 = .ok (.getfield 9, 3) := by decide +kernel
theorem d_P_swap_4 : decode prog_3_method_9_code 4 = .ok (.iload_n 1, 1) := by decide +kernel
theorem d_P_swap_5 : decode prog_3_method_9_code 5 = .ok (.iaload, 1) := by decide +kernel
theorem d_P_swap_6 : decode prog_3_method_9_code 6 = .ok (.istore_n 3, 1) := by decide +kernel
theorem d_P_swap_7 : decode prog_3_method_9_code 7 = .ok (.aload_n 0, 1) := by decide +kernel
theorem d_P_swap_8 : decode prog_3_method_9_code 8 = .ok (.getfield 9, 3) := by decide +kernel
theorem d_P_swap_11 : decode prog_3_method_9_code 11 = .ok (.iload_n 1, 1) := by decide +kernel
theorem d_P_swap_12 : decode prog_3_method_9_code 12 = .ok (.aload_n 0, 1) := by decide +kernel
theorem d_P_swap_13 : decode prog_3_method_9_code 13 = .ok (.getfield 9, 3) := by decide +kernel
theorem d_P_swap_16 : decode prog_3_method_9_code 16 = .ok (.iload_n 2, 1) := by decide +kernel
theorem d_P_swap_17 : decode prog_3_method_9_code 17 = .ok (.iaload, 1) := by decide +kernel
theorem d_P_swap_18 : decode prog_3_method_9_code 18 = .ok (.iastore, 1) := by decide +kernel
theorem d_P_swap_19 : decode prog_3_method_9_code 19 = .ok (.aload_n 0, 1) := by decide +kernel
theorem d_P_swap_20 : decode prog_3_method_9_code 20 = .ok (.getfield 9, 3) := by decide +kernel
theorem d_P_swap_23 : decode prog_3_method_9_code 23 = .ok (.iload_n 2, 1) := by decide +kernel
theorem d_P_swap_24 : decode prog_3_method_9_code 24 = .ok (.iload_n 3, 1) := by decide +kernel
theorem d_P_swap_25 : decode prog_3_method_9_code 25 = .ok (.iastore, 1) := by decide +kernel
theorem d_P_swap_26 : decode prog_3_method_9_code 26 = .ok (.return_, 1) := by decide +kernel
theorem d_P_layAllBut_0 : decode prog_3_method_6_code 0 = .ok (.aload_n 2, 1) := by decide +kernel
theorem d_P_layAllBut_1 : decode prog_3_method_6_code 1 = .ok (.invokevirtual 71, 3) := by decide +kernel
theorem d_P_layAllBut_4 : decode prog_3_method_6_code 4 = .ok (.iconst 0, 1) := by decide +kernel
theorem d_P_layAllBut_5 : decode prog_3_method_6_code 5 = .ok (.istore_n 3, 1) := by decide +kernel
theorem d_P_layAllBut_6 : decode prog_3_method_6_code 6 = .ok (.iload_n 3, 1) := by decide +kernel
theorem d_P_layAllBut_7 : decode prog_3_method_6_code 7 = .ok (.aload_n 0, 1) := by decide +kernel
theorem d_P_layAllBut_8 : decode prog_3_method_6_code 8 = .ok (.getfield 21, 3) := by decide +kernel
theorem d_P_layAllBut_11 : decode prog_3_method_6_code 11 = .ok (.if_icmp .ge 73, 3) := by decide +kernel
theorem d_P_layAllBut_14 : decode prog_3_method_6_code 14 = .ok (.iconst 0, 1) := by decide +kernel
theorem d_P_layAllBut_15 : decode prog_3_method_6_code 15 = .ok (.istore 4, 2) := by decide +kernel
theorem d_P_layAllBut_17 : decode prog_3_method_6_code 17 = .ok (.iload_n 3, 1) := by decide +kernel
theorem d_P_layAllBut_18 : decode prog_3_method_6_code 18 = .ok (.iload_n 1, 1) := by decide +kernel
theorem d_P_layAllBut_19 : decode prog_3_method_6_code 19 = .ok (.if_icmp .eq 59, 3) := by decide +kernel
theorem d_P_layAllBut_22 : decode prog_3_method_6_code 22 = .ok (.iload 4, 2) := by decide +kernel
theorem d_P_layAllBut_24 : decode prog_3_method_6_code 24 = .ok (.aload_n 0, 1) := by decide +kernel
theorem d_P_layAllBut_25 : decode prog_3_method_6_code 25 = .ok (.getfield 41, 3) := by decide +kernel
theorem d_P_layAllBut_28 : decode prog_3_method_6_code 28 = .ok (.getfield 74, 3) := by decide +kernel
theorem d_P_layAllBut_31 : decode prog_3_method_6_code 31 = .ok (.iload_n 3, 1) := by decide +kernel
theorem d_P_layAllBut_32 : decode prog_3_method_6_code 32 = .ok (.iaload, 1) := by decide +kernel
theorem d_P_layAllBut_33 : decode prog_3_method_6_code 33 = .ok (.if_icmp .ge 45, 3) := by decide +kernel
theorem d_P_layAllBut_36 : decode prog_3_method_6_code 36 = .ok (.aload_n 0, 1) := by decide +kernel
theorem d_P_layAllBut_37 : decode prog_3_method_6_code 37 = .ok (.getfield 41, 3) := by decide +kernel
theorem d_P_layAllBut_40 : decode prog_3_method_6_code 40 = .ok (.getfield 77, 3) := by decide +kernel
theorem d_P_layAllBut_43 : decode prog_3_method_6_code 43 = .ok (.iload_n 3, 1) := by decide +kernel
theorem d_P_layAllBut_44 : decode prog_3_method_6_code 44 = .ok (.iconst 4, 1) := by decide +kernel
theorem d_P_layAllBut_45 : decode prog_3_method_6_code 45 = .ok (.imul, 1) := by decide +kernel
theorem d_P_layAllBut_46 : decode prog_3_method_6_code 46 = .ok (.iload 4, 2) := by decide +kernel
theorem d_P_layAllBut_48 : decode prog_3_method_6_code 48 = .ok (.iadd, 1) := by decide +kernel
theorem d_P_layAllBut_49 : decode prog_3_method_6_code 49 = .ok (.iaload, 1) := by decide +kernel
theorem d_P_layAllBut_50 : decode prog_3_method_6_code 50 = .ok (.istore 5, 2) := by decide +kernel
theorem d_P_layAllBut_52 : decode prog_3_method_6_code 52 = .ok (.aload_n 2, 1) := by decide +kernel
theorem d_P_layAllBut_53 : decode prog_3_method_6_code 53 = .ok (.iload 5, 2) := by decide +kernel
theorem d_P_layAllBut_55 : decode prog_3_method_6_code 55 = .ok (.aload_n 0, 1) := by decide +kernel
theorem d_P_layAllBut_56 : decode prog_3_method_6_code 56 = .ok (.getfield 18, 3) := by decide +kernel
theorem d_P_layAllBut_59 : decode prog_3_method_6_code 59 = .ok (.iload 5, 2) := by decide +kernel
theorem d_P_layAllBut_61 : decode prog_3_method_6_code 61 = .ok (.iaload, 1) := by decide +kernel
theorem d_P_layAllBut_62 : decode prog_3_method_6_code 62 = .ok (.aload_n 0, 1) := by decide +kernel
theorem d_P_layAllBut_63 : decode prog_3_method_6_code 63 = .ok (.getfield 15, 3) := by decide +kernel
theorem d_P_layAllBut_66 : decode prog_3_method_6_code 66 = .ok (.iload 5, 2) := by decide +kernel
theorem d_P_layAllBut_68 : decode prog_3_method_6_code 68 = .ok (.iaload, 1) := by decide +kernel
theorem d_P_layAllBut_69 : decode prog_3_method_6_code 69 = .ok (.invokevirtual 80, 3) := by decide +kernel
theorem d_P_layAllBut_72 : decode prog_3_method_6_code 72 = .ok (.iinc 4 1, 3) := by decide +kernel
theorem d_P_layAllBut_75 : decode prog_3_method_6_code 75 = .ok (.goto (-58), 3) := by decide +kernel
theorem d_P_layAllBut_78 : decode prog_3_method_6_code 78 = .ok (.iinc 3 1, 3) := by decide +kernel
theorem d_P_layAllBut_81 : decode prog_3_method_6_code 81 = .ok (.goto (-75), 3) := by decide +kernel
theorem d_P_layAllBut_84 : decode prog_3_method_6_code 84 = .ok (.return_, 1) := by decide +kernel
theorem d_P_breaks_0 : decode prog_3_method_7_code 0 = .ok (.iload_n 1, 1) := by decide +kernel
theorem d_P_breaks_1 : decode prog_3_method_7_code 1 = .ok (.tableswitch 63 1 4 #[31, 45, 51, 57], 31) := by decide +kernel
theorem d_P_breaks_32 : decode prog_3_method_7_code 32 = .ok (.aload_n 0, 1) := by decide +kernel
theorem d_P_breaks_33 : decode prog_3_method_7_code 33 = .ok (.iload_n 2, 1) := by decide +kernel
theorem d_P_breaks_34 : decode prog_3_method_7_code 34 = .ok (.invokevirtual 55, 3) := by decide +kernel
theorem d_P_breaks_37 : decode prog_3_method_7_code 37 = .ok (.ifCond .ne 7, 3) := by decide +kernel
theorem d_P_breaks_40 : decode prog_3_method_7_code 40 = .ok (.iconst 1, 1) := by decide +kernel
theorem d_P_breaks_41 : decode prog_3_method_7_code 41 = .ok (.goto 4, 3) := by decide +kernel
theorem d_P_breaks_44 : decode prog_3_method_7_code 44 = .ok (.iconst 0, 1) := by decide +kernel
theorem d_P_breaks_45 : decode prog_3_method_7_code 45 = .ok (.ireturn, 1) := by decide +kernel
theorem d_P_breaks_46 : decode prog_3_method_7_code 46 = .ok (.aload_n 0, 1) := by decide +kernel
theorem d_P_breaks_47 : decode prog_3_method_7_code 47 = .ok (.iload_n 2, 1) := by decide +kernel
theorem d_P_breaks_48 : decode prog_3_method_7_code 48 = .ok (.invokevirtual 84, 3) := by decide +kernel
theorem d_P_breaks_51 : decode prog_3_method_7_code 51 = .ok (.ireturn, 1) := by decide +kernel
theorem d_P_breaks_52 : decode prog_3_method_7_code 52 = .ok (.aload_n 0, 1) := by decide +kernel
theorem d_P_breaks_53 : decode prog_3_method_7_code 53 = .ok (.iload_n 2, 1) := by decide +kernel
theorem d_P_breaks_54 : decode prog_3_method_7_code 54 = .ok (.invokevirtual 87, 3) := by decide +kernel
theorem d_P_breaks_57 : decode prog_3_method_7_code 57 = .ok (.ireturn, 1) := by decide +kernel
theorem d_P_breaks_58 : decode prog_3_method_7_code 58 = .ok (.aload_n 0, 1) := by decide +kernel
theorem d_P_breaks_59 : decode prog_3_method_7_code 59 = .ok (.iload_n 2, 1) := by decide +kernel
theorem d_P_breaks_60 : decode prog_3_method_7_code 60 = .ok (.invokevirtual 90, 3) := by decide +kernel
theorem d_P_breaks_63 : decode prog_3_method_7_code 63 = .ok (.ireturn, 1) := by decide +kernel
theorem d_P_breaks_64 : decode prog_3_method_7_code 64 = .ok (.iconst 0, 1) := by decide +kernel
theorem d_P_breaks_65 : decode prog_3_method_7_code 65 = .ok (.ireturn, 1) := by decide +kernel
theorem d_P_beginsTooEarly_0 : decode prog_3_method_11_code 0 = .ok (.aload_n 0, 1) := by decide +kernel
theorem d_P_beginsTooEarly_1 : decode prog_3_method_11_code 1 = .ok (.getfield 41, 3) := by decide +kernel
theorem d_P_beginsTooEarly_4 : decode prog_3_method_11_code 4 = .ok (.getfield 103, 3) := by decide +kernel
theorem d_P_beginsTooEarly_7 : decode prog_3_method_11_code 7 = .ok (.iload_n 1, 1) := by decide +kernel
theorem d_P_beginsTooEarly_8 : decode prog_3_method_11_code 8 = .ok (.iaload, 1) := by decide +kernel
theorem d_P_beginsTooEarly_9 : decode prog_3_method_11_code 9 = .ok (.istore_n 2, 1) := by decide +kernel
theorem d_P_beginsTooEarly_10 : decode prog_3_method_11_code 10 = .ok (.iload_n 2, 1) := by decide +kernel
theorem d_P_beginsTooEarly_11 : decode prog_3_method_11_code 11 = .ok (.iconst (-1), 1) := by decide +kernel
theorem d_P_beginsTooEarly_12 : decode prog_3_method_11_code 12 = .ok (.if_icmp .eq 31, 3) := by decide +kernel
theorem d_P_beginsTooEarly_15 : decode prog_3_method_11_code 15 = .ok (.aload_n 0, 1) := by decide +kernel
theorem d_P_beginsTooEarly_16 : decode prog_3_method_11_code 16 = .ok (.getfield 15, 3) := by decide +kernel
theorem d_P_beginsTooEarly_19 : decode prog_3_method_11_code 19 = .ok (.iload_n 1, 1) := by decide +kernel
theorem d_P_beginsTooEarly_20 : decode prog_3_method_11_code 20 = .ok (.iaload, 1) := by decide +kernel
theorem d_P_beginsTooEarly_21 : decode prog_3_method_11_code 21 = .ok (.aload_n 0, 1) := by decide +kernel
theorem d_P_beginsTooEarly_22 : decode prog_3_method_11_code 22 = .ok (.iload_n 2, 1) := by decide +kernel
theorem d_P_beginsTooEarly_23 : decode prog_3_method_11_code 23 = .ok (.invokevirtual 97, 3) := by decide +kernel
theorem d_P_beginsTooEarly_26 : decode prog_3_method_11_code 26 = .ok (.aload_n 0, 1) := by decide +kernel
theorem d_P_beginsTooEarly_27 : decode prog_3_method_11_code 27 = .ok (.getfield 41, 3) := by decide +kernel
theorem d_P_beginsTooEarly_30 : decode prog_3_method_11_code 30 = .ok (.getfield 106, 3) := by decide +kernel
theorem d_P_beginsTooEarly_33 : decode prog_3_method_11_code 33 = .ok (.iload_n 2, 1) := by decide +kernel
theorem d_P_beginsTooEarly_34 : decode prog_3_method_11_code 34 = .ok (.iaload, 1) := by decide +kernel
theorem d_P_beginsTooEarly_35 : decode prog_3_method_11_code 35 = .ok (.iadd, 1) := by decide +kernel
theorem d_P_beginsTooEarly_36 : decode prog_3_method_11_code 36 = .ok (.if_icmp .ge 7, 3) := by decide +kernel
theorem d_P_beginsTooEarly_39 : decode prog_3_method_11_code 39 = .ok (.iconst 1, 1) := by decide +kernel
theorem d_P_beginsTooEarly_40 : decode prog_3_method_11_code 40 = .ok (.goto 4, 3) := by decide +kernel
theorem d_P_beginsTooEarly_43 : decode prog_3_method_11_code 43 = .ok (.iconst 0, 1) := by decide +kernel
theorem d_P_beginsTooEarly_44 : decode prog_3_method_11_code 44 = .ok (.ireturn, 1) := by decide +kernel
theorem d_P_stepEnd_0 : decode prog_3_method_10_code 0 = .ok (.aload_n 0, 1) := by decide +kernel
theorem d_P_stepEnd_1 : decode prog_3_method_10_code 1 = .ok (.getfield 15, 3) := by decide +kernel
theorem d_P_stepEnd_4 : decode prog_3_method_10_code 4 = .ok (.iload_n 1, 1) := by decide +kernel
theorem d_P_stepEnd_5 : decode prog_3_method_10_code 5 = .ok (.iaload, 1) := by decide +kernel
theorem d_P_stepEnd_6 : decode prog_3_method_10_code 6 = .ok (.aload_n 0, 1) := by decide +kernel
theorem d_P_stepEnd_7 : decode prog_3_method_10_code 7 = .ok (.getfield 41, 3) := by decide +kernel
theorem d_P_stepEnd_10 : decode prog_3_method_10_code 10 = .ok (.getfield 100, 3) := by decide +kernel
theorem d_P_stepEnd_13 : decode prog_3_method_10_code 13 = .ok (.iload_n 1, 1) := by decide +kernel
theorem d_P_stepEnd_14 : decode prog_3_method_10_code 14 = .ok (.iaload, 1) := by decide +kernel
theorem d_P_stepEnd_15 : decode prog_3_method_10_code 15 = .ok (.iadd, 1) := by decide +kernel
theorem d_P_stepEnd_16 : decode prog_3_method_10_code 16 = .ok (.ireturn, 1) := by decide +kernel
theorem d_P_sharesWithStep_0 : decode prog_3_method_12_code 0 = .ok (.iconst 0, 1) := by decide +kernel
theorem d_P_sharesWithStep_1 : decode prog_3_method_12_code 1 = .ok (.istore_n 2, 1) := by decide +kernel
theorem d_P_sharesWithStep_2 : decode prog_3_method_12_code 2 = .ok (.iload_n 2, 1) := by decide +kernel
theorem d_P_sharesWithStep_3 : decode prog_3_method_12_code 3 = .ok (.iload_n 1, 1) := by decide +kernel
theorem d_P_sharesWithStep_4 : decode prog_3_method_12_code 4 = .ok (.if_icmp .ge 54, 3) := by decide +kernel
theorem d_P_sharesWithStep_7 : decode prog_3_method_12_code 7 = .ok (.aload_n 0, 1) := by decide +kernel
theorem d_P_sharesWithStep_8 : decode prog_3_method_12_code 8 = .ok (.getfield 18, 3) := by decide +kernel
theorem d_P_sharesWithStep_11 : decode prog_3_method_12_code 11 = .ok (.iload_n 2, 1) := by decide +kernel
theorem d_P_sharesWithStep_12 : decode prog_3_method_12_code 12 = .ok (.iaload, 1) := by decide +kernel
theorem d_P_sharesWithStep_13 : decode prog_3_method_12_code 13 = .ok (.aload_n 0, 1) := by decide +kernel
theorem d_P_sharesWithStep_14 : decode prog_3_method_12_code 14 = .ok (.getfield 18, 3) := by decide +kernel
theorem d_P_sharesWithStep_17 : decode prog_3_method_12_code 17 = .ok (.iload_n 1, 1) := by decide +kernel
theorem d_P_sharesWithStep_18 : decode prog_3_method_12_code 18 = .ok (.iaload, 1) := by decide +kernel
theorem d_P_sharesWithStep_19 : decode prog_3_method_12_code 19 = .ok (.if_icmp .ne 33, 3) := by decide +kernel
theorem d_P_sharesWithStep_22 : decode prog_3_method_12_code 22 = .ok (.aload_n 0, 1) := by decide +kernel
theorem d_P_sharesWithStep_23 : decode prog_3_method_12_code 23 = .ok (.getfield 15, 3) := by decide +kernel
theorem d_P_sharesWithStep_26 : decode prog_3_method_12_code 26 = .ok (.iload_n 1, 1) := by decide +kernel
theorem d_P_sharesWithStep_27 : decode prog_3_method_12_code 27 = .ok (.iaload, 1) := by decide +kernel
theorem d_P_sharesWithStep_28 : decode prog_3_method_12_code 28 = .ok (.aload_n 0, 1) := by decide +kernel
theorem d_P_sharesWithStep_29 : decode prog_3_method_12_code 29 = .ok (.iload_n 1, 1) := by decide +kernel
theorem d_P_sharesWithStep_30 : decode prog_3_method_12_code 30 = .ok (.invokevirtual 97, 3) := by decide +kernel
theorem d_P_sharesWithStep_33 : decode prog_3_method_12_code 33 = .ok (.aload_n 0, 1) := by decide +kernel
theorem d_P_sharesWithStep_34 : decode prog_3_method_12_code 34 = .ok (.getfield 15, 3) := by decide +kernel
theorem d_P_sharesWithStep_37 : decode prog_3_method_12_code 37 = .ok (.iload_n 2, 1) := by decide +kernel
theorem d_P_sharesWithStep_38 : decode prog_3_method_12_code 38 = .ok (.iaload, 1) := by decide +kernel
theorem d_P_sharesWithStep_39 : decode prog_3_method_12_code 39 = .ok (.aload_n 0, 1) := by decide +kernel
theorem d_P_sharesWithStep_40 : decode prog_3_method_12_code 40 = .ok (.iload_n 2, 1) := by decide +kernel
theorem d_P_sharesWithStep_41 : decode prog_3_method_12_code 41 = .ok (.invokevirtual 97, 3) := by decide +kernel
theorem d_P_sharesWithStep_44 : decode prog_3_method_12_code 44 = .ok (.invokestatic 109, 3) := by decide +kernel
theorem d_P_sharesWithStep_47 : decode prog_3_method_12_code 47 = .ok (.ifCond .eq 5, 3) := by decide +kernel
theorem d_P_sharesWithStep_50 : decode prog_3_method_12_code 50 = .ok (.iconst 1, 1) := by decide +kernel
theorem d_P_sharesWithStep_51 : decode prog_3_method_12_code 51 = .ok (.ireturn, 1) := by decide +kernel
theorem d_P_sharesWithStep_52 : decode prog_3_method_12_code 52 = .ok (.iinc 2 1, 3) := by decide +kernel
theorem d_P_sharesWithStep_55 : decode prog_3_method_12_code 55 = .ok (.goto (-53), 3) := by decide +kernel
theorem d_P_sharesWithStep_58 : decode prog_3_method_12_code 58 = .ok (.iconst 0, 1) := by decide +kernel
theorem d_P_sharesWithStep_59 : decode prog_3_method_12_code 59 = .ok (.ireturn, 1) := by decide +kernel
theorem d_P_sharesWithSpan_0 : decode prog_3_method_13_code 0 = .ok (.aload_n 0, 1) := by decide +kernel
theorem d_P_sharesWithSpan_1 : decode prog_3_method_13_code 1 = .ok (.getfield 18, 3) := by decide +kernel
theorem d_P_sharesWithSpan_4 : decode prog_3_method_13_code 4 = .ok (.iload_n 1, 1) := by decide +kernel
theorem d_P_sharesWithSpan_5 : decode prog_3_method_13_code 5 = .ok (.iaload, 1) := by decide +kernel
theorem d_P_sharesWithSpan_6 : decode prog_3_method_13_code 6 = .ok (.istore_n 2, 1) := by decide +kernel
theorem d_P_sharesWithSpan_7 : decode prog_3_method_13_code 7 = .ok (.iload_n 2, 1) := by decide +kernel
theorem d_P_sharesWithSpan_8 : decode prog_3_method_13_code 8 = .ok (.iconst (-1), 1) := by decide +kernel
theorem d_P_sharesWithSpan_9 : decode prog_3_method_13_code 9 = .ok (.if_icmp .ne 5, 3) := by decide +kernel
theorem d_P_sharesWithSpan_12 : decode prog_3_method_13_code 12 = .ok (.iconst 0, 1) := by decide +kernel
theorem d_P_sharesWithSpan_13 : decode prog_3_method_13_code 13 = .ok (.ireturn, 1) := by decide +kernel
theorem d_P_sharesWithSpan_14 : decode prog_3_method_13_code 14 = .ok (.iconst 0, 1) := by decide +kernel
theorem d_P_sharesWithSpan_15 : decode prog_3_method_13_code 15 = .ok (.istore_n 3, 1) := by decide +kernel
theorem d_P_sharesWithSpan_16 : decode prog_3_method_13_code 16 = .ok (.iload_n 3, 1) := by decide +kernel
theorem d_P_sharesWithSpan_17 : decode prog_3_method_13_code 17 = .ok (.aload_n 0, 1) := by decide +kernel
theorem d_P_sharesWithSpan_18 : decode prog_3_method_13_code 18 = .ok (.getfield 41, 3) := by decide +kernel
theorem d_P_sharesWithSpan_21 : decode prog_3_method_13_code 21 = .ok (.getfield 113, 3) := by decide +kernel
theorem d_P_sharesWithSpan_24 : decode prog_3_method_13_code 24 = .ok (.iload_n 2, 1) := by decide +kernel
theorem d_P_sharesWithSpan_25 : decode prog_3_method_13_code 25 = .ok (.iaload, 1) := by decide +kernel
theorem d_P_sharesWithSpan_26 : decode prog_3_method_13_code 26 = .ok (.if_icmp .ge 56, 3) := by decide +kernel
theorem d_P_sharesWithSpan_29 : decode prog_3_method_13_code 29 = .ok (.iload_n 2, 1) := by decide +kernel
theorem d_P_sharesWithSpan_30 : decode prog_3_method_13_code 30 = .ok (.bipush 8, 2) := by decide +kernel
theorem d_P_sharesWithSpan_32 : decode prog_3_method_13_code 32 = .ok (.imul, 1) := by decide +kernel
theorem d_P_sharesWithSpan_33 : decode prog_3_method_13_code 33 = .ok (.iload_n 3, 1) := by decide +kernel
theorem d_P_sharesWithSpan_34 : decode prog_3_method_13_code 34 = .ok (.iadd, 1) := by decide +kernel
theorem d_P_sharesWithSpan_35 : decode prog_3_method_13_code 35 = .ok (.istore 4, 2) := by decide +kernel
theorem d_P_sharesWithSpan_37 : decode prog_3_method_13_code 37 = .ok (.aload_n 0, 1) := by decide +kernel
theorem d_P_sharesWithSpan_38 : decode prog_3_method_13_code 38 = .ok (.getfield 15, 3) := by decide +kernel
theorem d_P_sharesWithSpan_41 : decode prog_3_method_13_code 41 = .ok (.iload_n 1, 1) := by decide +kernel
theorem d_P_sharesWithSpan_42 : decode prog_3_method_13_code 42 = .ok (.iaload, 1) := by decide +kernel
theorem d_P_sharesWithSpan_43 : decode prog_3_method_13_code 43 = .ok (.aload_n 0, 1) := by decide +kernel
theorem d_P_sharesWithSpan_44 : decode prog_3_method_13_code 44 = .ok (.iload_n 1, 1) := by decide +kernel
theorem d_P_sharesWithSpan_45 : decode prog_3_method_13_code 45 = .ok (.invokevirtual 97, 3) := by decide +kernel
theorem d_P_sharesWithSpan_48 : decode prog_3_method_13_code 48 = .ok (.aload_n 0, 1) := by decide +kernel
theorem d_P_sharesWithSpan_49 : decode prog_3_method_13_code 49 = .ok (.getfield 41, 3) := by decide +kernel
theorem d_P_sharesWithSpan_52 : decode prog_3_method_13_code 52 = .ok (.getfield 116, 3) := by decide +kernel
theorem d_P_sharesWithSpan_55 : decode prog_3_method_13_code 55 = .ok (.iload 4, 2) := by decide +kernel
theorem d_P_sharesWithSpan_57 : decode prog_3_method_13_code 57 = .ok (.iaload, 1) := by decide +kernel
theorem d_P_sharesWithSpan_58 : decode prog_3_method_13_code 58 = .ok (.aload_n 0, 1) := by decide +kernel
theorem d_P_sharesWithSpan_59 : decode prog_3_method_13_code 59 = .ok (.getfield 41, 3) := by decide +kernel
theorem d_P_sharesWithSpan_62 : decode prog_3_method_13_code 62 = .ok (.getfield 119, 3) := by decide +kernel
theorem d_P_sharesWithSpan_65 : decode prog_3_method_13_code 65 = .ok (.iload 4, 2) := by decide +kernel
theorem d_P_sharesWithSpan_67 : decode prog_3_method_13_code 67 = .ok (.iaload, 1) := by decide +kernel
theorem d_P_sharesWithSpan_68 : decode prog_3_method_13_code 68 = .ok (.invokestatic 109, 3) := by decide +kernel
theorem d_P_sharesWithSpan_71 : decode prog_3_method_13_code 71 = .ok (.ifCond .eq 5, 3) := by decide +kernel
theorem d_P_sharesWithSpan_74 : decode prog_3_method_13_code 74 = .ok (.iconst 1, 1) := by decide +kernel
theorem d_P_sharesWithSpan_75 : decode prog_3_method_13_code 75 = .ok (.ireturn, 1) := by decide +kernel
theorem d_P_sharesWithSpan_76 : decode prog_3_method_13_code 76 = .ok (.iinc 3 1, 3) := by decide +kernel
theorem d_P_sharesWithSpan_79 : decode prog_3_method_13_code 79 = .ok (.goto (-63), 3) := by decide +kernel
theorem d_P_sharesWithSpan_82 : decode prog_3_method_13_code 82 = .ok (.iconst 0, 1) := by decide +kernel
theorem d_P_sharesWithSpan_83 : decode prog_3_method_13_code 83 = .ok (.ireturn, 1) := by decide +kernel
theorem d_P_endOf_0 : decode prog_3_method_8_code 0 = .ok (.aload_n 0, 1) := by decide +kernel
theorem d_P_endOf_1 : decode prog_3_method_8_code 1 = .ok (.getfield 41, 3) := by decide +kernel
theorem d_P_endOf_4 : decode prog_3_method_8_code 4 = .ok (.iload_n 1, 1) := by decide +kernel
theorem d_P_endOf_5 : decode prog_3_method_8_code 5 = .ok (.invokevirtual 93, 3) := by decide +kernel
theorem d_P_endOf_8 : decode prog_3_method_8_code 8 = .ok (.istore_n 2, 1) := by decide +kernel
theorem d_P_endOf_9 : decode prog_3_method_8_code 9 = .ok (.aload_n 0, 1) := by decide +kernel
theorem d_P_endOf_10 : decode prog_3_method_8_code 10 = .ok (.iload_n 2, 1) := by decide +kernel
theorem d_P_endOf_11 : decode prog_3_method_8_code 11 = .ok (.invokevirtual 55, 3) := by decide +kernel
theorem d_P_endOf_14 : decode prog_3_method_8_code 14 = .ok (.ifCond .eq 11, 3) := by decide +kernel
theorem d_P_endOf_17 : decode prog_3_method_8_code 17 = .ok (.aload_n 0, 1) := by decide +kernel
theorem d_P_endOf_18 : decode prog_3_method_8_code 18 = .ok (.iload_n 2, 1) := by decide +kernel
theorem d_P_endOf_19 : decode prog_3_method_8_code 19 = .ok (.invokevirtual 97, 3) := by decide +kernel
theorem d_P_endOf_22 : decode prog_3_method_8_code 22 = .ok (.goto 4, 3) := by decide +kernel
theorem d_P_endOf_25 : decode prog_3_method_8_code 25 = .ok (.iconst 0, 1) := by decide +kernel
theorem d_P_endOf_26 : decode prog_3_method_8_code 26 = .ok (.ireturn, 1) := by decide +kernel
end
section
/-! decode rows of WorkPlans -/
theorem d_X_init_0 : decode prog_1_method_1_code 0 = .ok (.aload_n 0, 1) := by decide +kernel
theorem d_X_init_1 : decode prog_1_method_1_code 1 = .ok (.invokespecial 3, 3) := by decide +kernel
theorem d_X_init_4 : decode prog_1_method_1_code 4 = .ok (.aload_n 0, 1) := by decide +kernel
theorem d_X_init_5 : decode prog_1_method_1_code 5 = .ok (.new 9, 3) := by decide +kernel
theorem d_X_init_8 : decode prog_1_method_1_code 8 = .ok (.dup, 1) := by decide +kernel
theorem d_X_init_9 : decode prog_1_method_1_code 9 = .ok (.invokespecial 11, 3) := by decide +kernel
theorem d_X_init_12 : decode prog_1_method_1_code 12 = .ok (.putfield 12, 3) := by decide +kernel
theorem d_X_init_15 : decode prog_1_method_1_code 15 = .ok (.aload_n 0, 1) := by decide +kernel
theorem d_X_init_16 : decode prog_1_method_1_code 16 = .ok (.new 16, 3) := by decide +kernel
theorem d_X_init_19 : decode prog_1_method_1_code 19 = .ok (.dup, 1) := by decide +kernel
theorem d_X_init_20 : decode prog_1_method_1_code 20 = .ok (.aload_n 0, 1) := by decide +kernel
theorem d_X_init_21 : decode prog_1_method_1_code 21 = .ok (.getfield 12, 3) := by decide +kernel
theorem d_X_init_24 : decode prog_1_method_1_code 24 = .ok (.invokespecial 18, 3) := by decide +kernel
theorem d_X_init_27 : decode prog_1_method_1_code 27 = .ok (.putfield 21, 3) := by decide +kernel
theorem d_X_init_30 : decode prog_1_method_1_code 30 = .ok (.aload_n 0, 1) := by decide +kernel
theorem d_X_init_31 : decode prog_1_method_1_code 31 = .ok (.new 25, 3) := by decide +kernel
theorem d_X_init_34 : decode prog_1_method_1_code 34 = .ok (.dup, 1) := by decide +kernel
theorem d_X_init_35 : decode prog_1_method_1_code 35 = .ok (.aload_n 0, 1) := by decide +kernel
theorem d_X_init_36 : decode prog_1_method_1_code 36 = .ok (.getfield 12, 3) := by decide +kernel
theorem d_X_init_39 : decode prog_1_method_1_code 39 = .ok (.aload_n 0, 1) := by decide +kernel
theorem d_X_init_40 : decode prog_1_method_1_code 40 = .ok (.getfield 21, 3) := by decide +kernel
theorem d_X_init_43 : decode prog_1_method_1_code 43 = .ok (.invokespecial 27, 3) := by decide +kernel
theorem d_X_init_46 : decode prog_1_method_1_code 46 = .ok (.putfield 30, 3) := by decide +kernel
theorem d_X_init_49 : decode prog_1_method_1_code 49 = .ok (.aload_n 0, 1) := by decide +kernel
theorem d_X_init_50 : decode prog_1_method_1_code 50 = .ok (.new 34, 3) := by decide +kernel
theorem d_X_init_53 : decode prog_1_method_1_code 53 = .ok (.dup, 1) := by decide +kernel
theorem d_X_init_54 : decode prog_1_method_1_code 54 = .ok (.aload_n 0, 1) := by decide +kernel
theorem d_X_init_55 : decode prog_1_method_1_code 55 = .ok (.getfield 12, 3) := by decide +kernel
theorem d_X_init_58 : decode prog_1_method_1_code 58 = .ok (.invokespecial 36, 3) := by decide +kernel
theorem d_X_init_61 : decode prog_1_method_1_code 61 = .ok (.putfield 37, 3) := by decide +kernel
theorem d_X_init_64 : decode prog_1_method_1_code 64 = .ok (.aload_n 0, 1) := by decide +kernel
theorem d_X_init_65 : decode prog_1_method_1_code 65 = .ok (.iload_n 1, 1) := by decide +kernel
theorem d_X_init_66 : decode prog_1_method_1_code 66 = .ok (.i2l, 1) := by decide +kernel
theorem d_X_init_67 : decode prog_1_method_1_code 67 = .ok (.putfield 41, 3) := by decide +kernel
theorem d_X_init_70 : decode prog_1_method_1_code 70 = .ok (.aload_n 0, 1) := by decide +kernel
theorem d_X_init_71 : decode prog_1_method_1_code 71 = .ok (.iconst 0, 1) := by decide +kernel
theorem d_X_init_72 : decode prog_1_method_1_code 72 = .ok (.putfield 45, 3) := by decide +kernel
theorem d_X_init_75 : decode prog_1_method_1_code 75 = .ok (.return_, 1) := by decide +kernel
theorem d_X_machine_0 : decode prog_1_method_2_code 0 = .ok (.iload_n 1, 1) := by decide +kernel
theorem d_X_machine_1 : decode prog_1_method_2_code 1 = .ok (.iconst 0, 1) := by decide +kernel
theorem d_X_machine_2 : decode prog_1_method_2_code 2 = .ok (.iconst 3, 1) := by decide +kernel
theorem d_X_machine_3 : decode prog_1_method_2_code 3 = .ok (.invokestatic 49, 3) := by decide +kernel
theorem d_X_machine_6 : decode prog_1_method_2_code 6 = .ok (.ifCond .ne 13, 3) := by decide +kernel
theorem d_X_machine_9 : decode prog_1_method_2_code 9 = .ok (.new 53, 3) := by decide +kernel
theorem d_X_machine_12 : decode prog_1_method_2_code 12 = .ok (.dup, 1) := by decide +kernel
theorem d_X_machine_13 : decode prog_1_method_2_code 13 = .ok (.ldc 55, 2) := by decide +kernel
theorem d_X_machine_15 : decode prog_1_method_2_code 15 = .ok (.invokespecial 57, 3) := by decide +kernel
theorem d_X_machine_18 : decode prog_1_method_2_code 18 = .ok (.athrow, 1) := by decide +kernel
theorem d_X_machine_19 : decode prog_1_method_2_code 19 = .ok (.aload_n 0, 1) := by decide +kernel
theorem d_X_machine_20 : decode prog_1_method_2_code 20 = .ok (.getfield 12, 3) := by decide +kernel
theorem d_X_machine_23 : decode prog_1_method_2_code 23 = .ok (.getfield 60, 3) := by decide +kernel
theorem d_X_machine_26 : decode prog_1_method_2_code 26 = .ok (.bipush 6, 2) := by decide +kernel
theorem d_X_machine_28 : decode prog_1_method_2_code 28 = .ok (.if_icmp .lt 13, 3) := by decide +kernel
theorem d_X_machine_31 : decode prog_1_method_2_code 31 = .ok (.new 64, 3) := by decide +kernel
theorem d_X_machine_34 : decode prog_1_method_2_code 34 = .ok (.dup, 1) := by decide +kernel
theorem d_X_machine_35 : decode prog_1_method_2_code 35 = .ok (.ldc 66, 2) := by decide +kernel
theorem d_X_machine_37 : decode prog_1_method_2_code 37 = .ok (.invokespecial 68, 3) := by decide +kernel
theorem d_X_machine_40 : decode prog_1_method_2_code 40 = .ok (.athrow, 1) := by decide +kernel
theorem d_X_machine_41 : decode prog_1_method_2_code 41 = .ok (.aload_n 0, 1) := by decide +kernel
theorem d_X_machine_42 : decode prog_1_method_2_code 42 = .ok (.iconst 1, 1) := by decide +kernel
theorem d_X_machine_43 : decode prog_1_method_2_code 43 = .ok (.putfield 45, 3) := by decide +kernel
theorem d_X_machine_46 : decode prog_1_method_2_code 46 = .ok (.aload_n 0, 1) := by decide +kernel
theorem d_X_machine_47 : decode prog_1_method_2_code 47 = .ok (.getfield 12, 3) := by decide +kernel
theorem d_X_machine_50 : decode prog_1_method_2_code 50 = .ok (.iload_n 1, 1) := by decide +kernel
theorem d_X_machine_51 : decode prog_1_method_2_code 51 = .ok (.invokevirtual 69, 3) := by decide +kernel
theorem d_X_machine_54 : decode prog_1_method_2_code 54 = .ok (.ireturn, 1) := by decide +kernel
theorem d_X_isWithin_0 : decode prog_1_method_16_code 0 = .ok (.iload_n 0, 1) := by decide +kernel
theorem d_X_isWithin_1 : decode prog_1_method_16_code 1 = .ok (.iload_n 1, 1) := by decide +kernel
theorem d_X_isWithin_2 : decode prog_1_method_16_code 2 = .ok (.if_icmp .lt 12, 3) := by decide +kernel
theorem d_X_isWithin_5 : decode prog_1_method_16_code 5 = .ok (.iload_n 0, 1) := by decide +kernel
theorem d_X_isWithin_6 : decode prog_1_method_16_code 6 = .ok (.iload_n 2, 1) := by decide +kernel
theorem d_X_isWithin_7 : decode prog_1_method_16_code 7 = .ok (.if_icmp .gt 7, 3) := by decide +kernel
theorem d_X_isWithin_10 : decode prog_1_method_16_code 10 = .ok (.iconst 1, 1) := by decide +kernel
theorem d_X_isWithin_11 : decode prog_1_method_16_code 11 = .ok (.goto 4, 3) := by decide +kernel
theorem d_X_isWithin_14 : decode prog_1_method_16_code 14 = .ok (.iconst 0, 1) := by decide +kernel
theorem d_X_isWithin_15 : decode prog_1_method_16_code 15 = .ok (.ireturn, 1) := by decide +kernel
theorem d_X_out_0 : decode prog_1_method_3_code 0 = .ok (.iload_n 1, 1) := by decide +kernel
theorem d_X_out_1 : decode prog_1_method_3_code 1 = .ok (.iconst 0, 1) := by decide +kernel
theorem d_X_out_2 : decode prog_1_method_3_code 2 = .ok (.aload_n 0, 1) := by decide +kernel
theorem d_X_out_3 : decode prog_1_method_3_code 3 = .ok (.getfield 12, 3) := by decide +kernel
theorem d_X_out_6 : decode prog_1_method_3_code 6 = .ok (.getfield 60, 3) := by decide +kernel
theorem d_X_out_9 : decode prog_1_method_3_code 9 = .ok (.iconst 1, 1) := by decide +kernel
theorem d_X_out_10 : decode prog_1_method_3_code 10 = .ok (.isub, 1) := by decide +kernel
theorem d_X_out_11 : decode prog_1_method_3_code 11 = .ok (.invokestatic 49, 3) := by decide +kernel
theorem d_X_out_14 : decode prog_1_method_3_code 14 = .ok (.ifCond .ne 13, 3) := by decide +kernel
theorem d_X_out_17 : decode prog_1_method_3_code 17 = .ok (.new 73, 3) := by decide +kernel
theorem d_X_out_20 : decode prog_1_method_3_code 20 = .ok (.dup, 1) := by decide +kernel
theorem d_X_out_21 : decode prog_1_method_3_code 21 = .ok (.ldc 75, 2) := by decide +kernel
theorem d_X_out_23 : decode prog_1_method_3_code 23 = .ok (.invokespecial 77, 3) := by decide +kernel
theorem d_X_out_26 : decode prog_1_method_3_code 26 = .ok (.athrow, 1) := by decide +kernel
theorem d_X_out_27 : decode prog_1_method_3_code 27 = .ok (.iload_n 2, 1) := by decide +kernel
theorem d_X_out_28 : decode prog_1_method_3_code 28 = .ok (.iconst 0, 1) := by decide +kernel
theorem d_X_out_29 : decode prog_1_method_3_code 29 = .ok (.sipush 1000, 3) := by decide +kernel
theorem d_X_out_32 : decode prog_1_method_3_code 32 = .ok (.invokestatic 49, 3) := by decide +kernel
theorem d_X_out_35 : decode prog_1_method_3_code 35 = .ok (.ifCond .eq 15, 3) := by decide +kernel
theorem d_X_out_38 : decode prog_1_method_3_code 38 = .ok (.iload_n 3, 1) := by decide +kernel
theorem d_X_out_39 : decode prog_1_method_3_code 39 = .ok (.iload_n 2, 1) := by decide +kernel
theorem d_X_out_40 : decode prog_1_method_3_code 40 = .ok (.if_icmp .le 10, 3) := by decide +kernel
theorem d_X_out_43 : decode prog_1_method_3_code 43 = .ok (.iload_n 3, 1) := by decide +kernel
theorem d_X_out_44 : decode prog_1_method_3_code 44 = .ok (.sipush 2000, 3) := by decide +kernel
theorem d_X_out_47 : decode prog_1_method_3_code 47 = .ok (.if_icmp .le 13, 3) := by decide +kernel
theorem d_X_out_50 : decode prog_1_method_3_code 50 = .ok (.new 53, 3) := by decide +kernel
theorem d_X_out_53 : decode prog_1_method_3_code 53 = .ok (.dup, 1) := by decide +kernel
theorem d_X_out_54 : decode prog_1_method_3_code 54 = .ok (.ldc 78, 2) := by decide +kernel
theorem d_X_out_56 : decode prog_1_method_3_code 56 = .ok (.invokespecial 57, 3) := by decide +kernel
theorem d_X_out_59 : decode prog_1_method_3_code 59 = .ok (.athrow, 1) := by decide +kernel
theorem d_X_out_60 : decode prog_1_method_3_code 60 = .ok (.aload_n 0, 1) := by decide +kernel
theorem d_X_out_61 : decode prog_1_method_3_code 61 = .ok (.getfield 12, 3) := by decide +kernel
theorem d_X_out_64 : decode prog_1_method_3_code 64 = .ok (.getfield 80, 3) := by decide +kernel
theorem d_X_out_67 : decode prog_1_method_3_code 67 = .ok (.iload_n 1, 1) := by decide +kernel
theorem d_X_out_68 : decode prog_1_method_3_code 68 = .ok (.iaload, 1) := by decide +kernel
theorem d_X_out_69 : decode prog_1_method_3_code 69 = .ok (.bipush 8, 2) := by decide +kernel
theorem d_X_out_71 : decode prog_1_method_3_code 71 = .ok (.if_icmp .lt 13, 3) := by decide +kernel
theorem d_X_out_74 : decode prog_1_method_3_code 74 = .ok (.new 64, 3) := by decide +kernel
theorem d_X_out_77 : decode prog_1_method_3_code 77 = .ok (.dup, 1) := by decide +kernel
theorem d_X_out_78 : decode prog_1_method_3_code 78 = .ok (.ldc 84, 2) := by decide +kernel
theorem d_X_out_80 : decode prog_1_method_3_code 80 = .ok (.invokespecial 68, 3) := by decide +kernel
theorem d_X_out_83 : decode prog_1_method_3_code 83 = .ok (.athrow, 1) := by decide +kernel
theorem d_X_out_84 : decode prog_1_method_3_code 84 = .ok (.aload_n 0, 1) := by decide +kernel
theorem d_X_out_85 : decode prog_1_method_3_code 85 = .ok (.iconst 1, 1) := by decide +kernel
theorem d_X_out_86 : decode prog_1_method_3_code 86 = .ok (.putfield 45, 3) := by decide +kernel
theorem d_X_out_89 : decode prog_1_method_3_code 89 = .ok (.aload_n 0, 1) := by decide +kernel
theorem d_X_out_90 : decode prog_1_method_3_code 90 = .ok (.getfield 12, 3) := by decide +kernel
theorem d_X_out_93 : decode prog_1_method_3_code 93 = .ok (.iload_n 1, 1) := by decide +kernel
theorem d_X_out_94 : decode prog_1_method_3_code 94 = .ok (.iload_n 2, 1) := by decide +kernel
theorem d_X_out_95 : decode prog_1_method_3_code 95 = .ok (.iload_n 3, 1) := by decide +kernel
theorem d_X_out_96 : decode prog_1_method_3_code 96 = .ok (.invokevirtual 86, 3) := by decide +kernel
theorem d_X_out_99 : decode prog_1_method_3_code 99 = .ok (.ireturn, 1) := by decide +kernel
theorem d_X_job_0 : decode prog_1_method_4_code 0 = .ok (.iload_n 1, 1) := by decide +kernel
theorem d_X_job_1 : decode prog_1_method_4_code 1 = .ok (.iconst 0, 1) := by decide +kernel
theorem d_X_job_2 : decode prog_1_method_4_code 2 = .ok (.sipush 10000, 3) := by decide +kernel
theorem d_X_job_5 : decode prog_1_method_4_code 5 = .ok (.invokestatic 49, 3) := by decide +kernel
theorem d_X_job_8 : decode prog_1_method_4_code 8 = .ok (.ifCond .eq 13, 3) := by decide +kernel
theorem d_X_job_11 : decode prog_1_method_4_code 11 = .ok (.iload_n 2, 1) := by decide +kernel
theorem d_X_job_12 : decode prog_1_method_4_code 12 = .ok (.iconst 0, 1) := by decide +kernel
theorem d_X_job_13 : decode prog_1_method_4_code 13 = .ok (.bipush 100, 2) := by decide +kernel
theorem d_X_job_15 : decode prog_1_method_4_code 15 = .ok (.invokestatic 49, 3) := by decide +kernel
theorem d_X_job_18 : decode prog_1_method_4_code 18 = .ok (.ifCond .ne 13, 3) := by decide +kernel
theorem d_X_job_21 : decode prog_1_method_4_code 21 = .ok (.new 53, 3) := by decide +kernel
theorem d_X_job_24 : decode prog_1_method_4_code 24 = .ok (.dup, 1) := by decide +kernel
theorem d_X_job_25 : decode prog_1_method_4_code 25 = .ok (.ldc 90, 2) := by decide +kernel
theorem d_X_job_27 : decode prog_1_method_4_code 27 = .ok (.invokespecial 57, 3) := by decide +kernel
theorem d_X_job_30 : decode prog_1_method_4_code 30 = .ok (.athrow, 1) := by decide +kernel
theorem d_X_job_31 : decode prog_1_method_4_code 31 = .ok (.aload_n 0, 1) := by decide +kernel
theorem d_X_job_32 : decode prog_1_method_4_code 32 = .ok (.getfield 12, 3) := by decide +kernel
theorem d_X_job_35 : decode prog_1_method_4_code 35 = .ok (.getfield 92, 3) := by decide +kernel
theorem d_X_job_38 : decode prog_1_method_4_code 38 = .ok (.bipush 6, 2) := by decide +kernel
theorem d_X_job_40 : decode prog_1_method_4_code 40 = .ok (.if_icmp .lt 13, 3) := by decide +kernel
theorem d_X_job_43 : decode prog_1_method_4_code 43 = .ok (.new 64, 3) := by decide +kernel
theorem d_X_job_46 : decode prog_1_method_4_code 46 = .ok (.dup, 1) := by decide +kernel
theorem d_X_job_47 : decode prog_1_method_4_code 47 = .ok (.ldc 95, 2) := by decide +kernel
theorem d_X_job_49 : decode prog_1_method_4_code 49 = .ok (.invokespecial 68, 3) := by decide +kernel
theorem d_X_job_52 : decode prog_1_method_4_code 52 = .ok (.athrow, 1) := by decide +kernel
theorem d_X_job_53 : decode prog_1_method_4_code 53 = .ok (.aload_n 0, 1) := by decide +kernel
theorem d_X_job_54 : decode prog_1_method_4_code 54 = .ok (.iconst 1, 1) := by decide +kernel
theorem d_X_job_55 : decode prog_1_method_4_code 55 = .ok (.putfield 45, 3) := by decide +kernel
theorem d_X_job_58 : decode prog_1_method_4_code 58 = .ok (.aload_n 0, 1) := by decide +kernel
theorem d_X_job_59 : decode prog_1_method_4_code 59 = .ok (.getfield 12, 3) := by decide +kernel
theorem d_X_job_62 : decode prog_1_method_4_code 62 = .ok (.iload_n 1, 1) := by decide +kernel
theorem d_X_job_63 : decode prog_1_method_4_code 63 = .ok (.iload_n 2, 1) := by decide +kernel
theorem d_X_job_64 : decode prog_1_method_4_code 64 = .ok (.invokevirtual 97, 3) := by decide +kernel
theorem d_X_job_67 : decode prog_1_method_4_code 67 = .ok (.ireturn, 1) := by decide +kernel
theorem d_X_due_0 : decode prog_1_method_5_code 0 = .ok (.aload_n 0, 1) := by decide +kernel
theorem d_X_due_1 : decode prog_1_method_5_code 1 = .ok (.iload_n 1, 1) := by decide +kernel
theorem d_X_due_2 : decode prog_1_method_5_code 2 = .ok (.invokevirtual 101, 3) := by decide +kernel
theorem d_X_due_5 : decode prog_1_method_5_code 5 = .ok (.iload_n 2, 1) := by decide +kernel
theorem d_X_due_6 : decode prog_1_method_5_code 6 = .ok (.iconst 0, 1) := by decide +kernel
theorem d_X_due_7 : decode prog_1_method_5_code 7 = .ok (.sipush 10000, 3) := by decide +kernel
theorem d_X_due_10 : decode prog_1_method_5_code 10 = .ok (.invokestatic 49, 3) := by decide +kernel
theorem d_X_due_13 : decode prog_1_method_5_code 13 = .ok (.ifCond .ne 13, 3) := by decide +kernel
theorem d_X_due_16 : decode prog_1_method_5_code 16 = .ok (.new 53, 3) := by decide +kernel
theorem d_X_due_19 : decode prog_1_method_5_code 19 = .ok (.dup, 1) := by decide +kernel
theorem d_X_due_20 : decode prog_1_method_5_code 20 = .ok (.ldc 105, 2) := by decide +kernel
theorem d_X_due_22 : decode prog_1_method_5_code 22 = .ok (.invokespecial 57, 3) := by decide +kernel
theorem d_X_due_25 : decode prog_1_method_5_code 25 = .ok (.athrow, 1) := by decide +kernel
theorem d_X_due_26 : decode prog_1_method_5_code 26 = .ok (.aload_n 0, 1) := by decide +kernel
theorem d_X_due_27 : decode prog_1_method_5_code 27 = .ok (.iconst 1, 1) := by decide +kernel
theorem d_X_due_28 : decode prog_1_method_5_code 28 = .ok (.putfield 45, 3) := by decide +kernel
theorem d_X_due_31 : decode prog_1_method_5_code 31 = .ok (.aload_n 0, 1) := by decide +kernel
theorem d_X_due_32 : decode prog_1_method_5_code 32 = .ok (.getfield 12, 3) := by decide +kernel
theorem d_X_due_35 : decode prog_1_method_5_code 35 = .ok (.getfield 107, 3) := by decide +kernel
theorem d_X_due_38 : decode prog_1_method_5_code 38 = .ok (.iload_n 1, 1) := by decide +kernel
theorem d_X_due_39 : decode prog_1_method_5_code 39 = .ok (.iload_n 2, 1) := by decide +kernel
theorem d_X_due_40 : decode prog_1_method_5_code 40 = .ok (.iastore, 1) := by decide +kernel
theorem d_X_due_41 : decode prog_1_method_5_code 41 = .ok (.return_, 1) := by decide +kernel
theorem d_X_demandJob_0 : decode prog_1_method_18_code 0 = .ok (.iload_n 1, 1) := by decide +kernel
theorem d_X_demandJob_1 : decode prog_1_method_18_code 1 = .ok (.iconst 0, 1) := by decide +kernel
theorem d_X_demandJob_2 : decode prog_1_method_18_code 2 = .ok (.aload_n 0, 1) := by decide +kernel
theorem d_X_demandJob_3 : decode prog_1_method_18_code 3 = .ok (.getfield 12, 3) := by decide +kernel
theorem d_X_demandJob_6 : decode prog_1_method_18_code 6 = .ok (.getfield 92, 3) := by decide +kernel
theorem d_X_demandJob_9 : decode prog_1_method_18_code 9 = .ok (.iconst 1, 1) := by decide +kernel
theorem d_X_demandJob_10 : decode prog_1_method_18_code 10 = .ok (.isub, 1) := by decide +kernel
theorem d_X_demandJob_11 : decode prog_1_method_18_code 11 = .ok (.invokestatic 49, 3) := by decide +kernel
theorem d_X_demandJob_14 : decode prog_1_method_18_code 14 = .ok (.ifCond .ne 13, 3) := by decide +kernel
theorem d_X_demandJob_17 : decode prog_1_method_18_code 17 = .ok (.new 73, 3) := by decide +kernel
theorem d_X_demandJob_20 : decode prog_1_method_18_code 20 = .ok (.dup, 1) := by decide +kernel
theorem d_X_demandJob_21 : decode prog_1_method_18_code 21 = .ok (.ldc 221, 2) := by decide +kernel
theorem d_X_demandJob_23 : decode prog_1_method_18_code 23 = .ok (.invokespecial 77, 3) := by decide +kernel
theorem d_X_demandJob_26 : decode prog_1_method_18_code 26 = .ok (.athrow, 1) := by decide +kernel
theorem d_X_demandJob_27 : decode prog_1_method_18_code 27 = .ok (.return_, 1) := by decide +kernel
theorem d_X_step_0 : decode prog_1_method_6_code 0 = .ok (.aload_n 0, 1) := by decide +kernel
theorem d_X_step_1 : decode prog_1_method_6_code 1 = .ok (.iload_n 1, 1) := by decide +kernel
theorem d_X_step_2 : decode prog_1_method_6_code 2 = .ok (.invokevirtual 101, 3) := by decide +kernel
theorem d_X_step_5 : decode prog_1_method_6_code 5 = .ok (.iload_n 2, 1) := by decide +kernel
theorem d_X_step_6 : decode prog_1_method_6_code 6 = .ok (.iconst 0, 1) := by decide +kernel
theorem d_X_step_7 : decode prog_1_method_6_code 7 = .ok (.iconst 3, 1) := by decide +kernel
theorem d_X_step_8 : decode prog_1_method_6_code 8 = .ok (.invokestatic 49, 3) := by decide +kernel
theorem d_X_step_11 : decode prog_1_method_6_code 11 = .ok (.ifCond .eq 24, 3) := by decide +kernel
theorem d_X_step_14 : decode prog_1_method_6_code 14 = .ok (.iload_n 3, 1) := by decide +kernel
theorem d_X_step_15 : decode prog_1_method_6_code 15 = .ok (.iconst 1, 1) := by decide +kernel
theorem d_X_step_16 : decode prog_1_method_6_code 16 = .ok (.bipush 100, 2) := by decide +kernel
theorem d_X_step_18 : decode prog_1_method_6_code 18 = .ok (.invokestatic 49, 3) := by decide +kernel
theorem d_X_step_21 : decode prog_1_method_6_code 21 = .ok (.ifCond .eq 14, 3) := by decide +kernel
theorem d_X_step_24 : decode prog_1_method_6_code 24 = .ok (.iload 4, 2) := by decide +kernel
theorem d_X_step_26 : decode prog_1_method_6_code 26 = .ok (.iconst 0, 1) := by decide +kernel
theorem d_X_step_27 : decode prog_1_method_6_code 27 = .ok (.bipush 100, 2) := by decide +kernel
theorem d_X_step_29 : decode prog_1_method_6_code 29 = .ok (.invokestatic 49, 3) := by decide +kernel
theorem d_X_step_32 : decode prog_1_method_6_code 32 = .ok (.ifCond .ne 13, 3) := by decide +kernel
theorem d_X_step_35 : decode prog_1_method_6_code 35 = .ok (.new 53, 3) := by decide +kernel
theorem d_X_step_38 : decode prog_1_method_6_code 38 = .ok (.dup, 1) := by decide +kernel
theorem d_X_step_39 : decode prog_1_method_6_code 39 = .ok (.ldc 110, 2) := by decide +kernel
theorem d_X_step_41 : decode prog_1_method_6_code 41 = .ok (.invokespecial 57, 3) := by decide +kernel
theorem d_X_step_44 : decode prog_1_method_6_code 44 = .ok (.athrow, 1) := by decide +kernel
theorem d_X_step_45 : decode prog_1_method_6_code 45 = .ok (.aload_n 0, 1) := by decide +kernel
theorem d_X_step_46 : decode prog_1_method_6_code 46 = .ok (.getfield 12, 3) := by decide +kernel
theorem d_X_step_49 : decode prog_1_method_6_code 49 = .ok (.getfield 112, 3) := by decide +kernel
theorem d_X_step_52 : decode prog_1_method_6_code 52 = .ok (.iload_n 1, 1) := by decide +kernel
theorem d_X_step_53 : decode prog_1_method_6_code 53 = .ok (.iaload, 1) := by decide +kernel
theorem d_X_step_54 : decode prog_1_method_6_code 54 = .ok (.iconst 4, 1) := by decide +kernel
theorem d_X_step_55 : decode prog_1_method_6_code 55 = .ok (.if_icmp .ge 15, 3) := by decide +kernel
theorem d_X_step_58 : decode prog_1_method_6_code 58 = .ok (.aload_n 0, 1) := by decide +kernel
theorem d_X_step_59 : decode prog_1_method_6_code 59 = .ok (.getfield 12, 3) := by decide +kernel
theorem d_X_step_62 : decode prog_1_method_6_code 62 = .ok (.getfield 115, 3) := by decide +kernel
theorem d_X_step_65 : decode prog_1_method_6_code 65 = .ok (.bipush 24, 2) := by decide +kernel
theorem d_X_step_67 : decode prog_1_method_6_code 67 = .ok (.if_icmp .lt 13, 3) := by decide +kernel
theorem d_X_step_70 : decode prog_1_method_6_code 70 = .ok (.new 64, 3) := by decide +kernel
theorem d_X_step_73 : decode prog_1_method_6_code 73 = .ok (.dup, 1) := by decide +kernel
theorem d_X_step_74 : decode prog_1_method_6_code 74 = .ok (.ldc 118, 2) := by decide +kernel
theorem d_X_step_76 : decode prog_1_method_6_code 76 = .ok (.invokespecial 68, 3) := by decide +kernel
theorem d_X_step_79 : decode prog_1_method_6_code 79 = .ok (.athrow, 1) := by decide +kernel
theorem d_X_step_80 : decode prog_1_method_6_code 80 = .ok (.aload_n 0, 1) := by decide +kernel
theorem d_X_step_81 : decode prog_1_method_6_code 81 = .ok (.iconst 1, 1) := by decide +kernel
theorem d_X_step_82 : decode prog_1_method_6_code 82 = .ok (.putfield 45, 3) := by decide +kernel
theorem d_X_step_85 : decode prog_1_method_6_code 85 = .ok (.aload_n 0, 1) := by decide +kernel
theorem d_X_step_86 : decode prog_1_method_6_code 86 = .ok (.getfield 12, 3) := by decide +kernel
theorem d_X_step_89 : decode prog_1_method_6_code 89 = .ok (.iload_n 1, 1) := by decide +kernel
theorem d_X_step_90 : decode prog_1_method_6_code 90 = .ok (.iload_n 2, 1) := by decide +kernel
theorem d_X_step_91 : decode prog_1_method_6_code 91 = .ok (.iload_n 3, 1) := by decide +kernel
theorem d_X_step_92 : decode prog_1_method_6_code 92 = .ok (.iload 4, 2) := by decide +kernel
theorem d_X_step_94 : decode prog_1_method_6_code 94 = .ok (.invokevirtual 120, 3) := by decide +kernel
theorem d_X_step_97 : decode prog_1_method_6_code 97 = .ok (.ireturn, 1) := by decide +kernel
theorem d_X_run_0 : decode prog_1_method_7_code 0 = .ok (.iload_n 1, 1) := by decide +kernel
theorem d_X_run_1 : decode prog_1_method_7_code 1 = .ok (.iconst 1, 1) := by decide +kernel
theorem d_X_run_2 : decode prog_1_method_7_code 2 = .ok (.sipush 2000, 3) := by decide +kernel
theorem d_X_run_5 : decode prog_1_method_7_code 5 = .ok (.invokestatic 49, 3) := by decide +kernel
theorem d_X_run_8 : decode prog_1_method_7_code 8 = .ok (.ifCond .ne 13, 3) := by decide +kernel
theorem d_X_run_11 : decode prog_1_method_7_code 11 = .ok (.new 53, 3) := by decide +kernel
theorem d_X_run_14 : decode prog_1_method_7_code 14 = .ok (.dup, 1) := by decide +kernel
theorem d_X_run_15 : decode prog_1_method_7_code 15 = .ok (.ldc 124, 2) := by decide +kernel
theorem d_X_run_17 : decode prog_1_method_7_code 17 = .ok (.invokespecial 57, 3) := by decide +kernel
theorem d_X_run_20 : decode prog_1_method_7_code 20 = .ok (.athrow, 1) := by decide +kernel
theorem d_X_run_21 : decode prog_1_method_7_code 21 = .ok (.aload_n 0, 1) := by decide +kernel
theorem d_X_run_22 : decode prog_1_method_7_code 22 = .ok (.getfield 12, 3) := by decide +kernel
theorem d_X_run_25 : decode prog_1_method_7_code 25 = .ok (.getfield 92, 3) := by decide +kernel
theorem d_X_run_28 : decode prog_1_method_7_code 28 = .ok (.ifCond .eq 13, 3) := by decide +kernel
theorem d_X_run_31 : decode prog_1_method_7_code 31 = .ok (.aload_n 0, 1) := by decide +kernel
theorem d_X_run_32 : decode prog_1_method_7_code 32 = .ok (.getfield 12, 3) := by decide +kernel
theorem d_X_run_35 : decode prog_1_method_7_code 35 = .ok (.invokevirtual 126, 3) := by decide +kernel
theorem d_X_run_38 : decode prog_1_method_7_code 38 = .ok (.ifCond .ne 13, 3) := by decide +kernel
theorem d_X_run_41 : decode prog_1_method_7_code 41 = .ok (.new 64, 3) := by decide +kernel
theorem d_X_run_44 : decode prog_1_method_7_code 44 = .ok (.dup, 1) := by decide +kernel
theorem d_X_run_45 : decode prog_1_method_7_code 45 = .ok (.ldc 130, 2) := by decide +kernel
theorem d_X_run_47 : decode prog_1_method_7_code 47 = .ok (.invokespecial 68, 3) := by decide +kernel
theorem d_X_run_50 : decode prog_1_method_7_code 50 = .ok (.athrow, 1) := by decide +kernel
theorem d_X_run_51 : decode prog_1_method_7_code 51 = .ok (.aload_n 0, 1) := by decide +kernel
theorem d_X_run_52 : decode prog_1_method_7_code 52 = .ok (.getfield 30, 3) := by decide +kernel
theorem d_X_run_55 : decode prog_1_method_7_code 55 = .ok (.iload_n 1, 1) := by decide +kernel
theorem d_X_run_56 : decode prog_1_method_7_code 56 = .ok (.invokevirtual 132, 3) := by decide +kernel
theorem d_X_run_59 : decode prog_1_method_7_code 59 = .ok (.istore_n 2, 1) := by decide +kernel
theorem d_X_run_60 : decode prog_1_method_7_code 60 = .ok (.aload_n 0, 1) := by decide +kernel
theorem d_X_run_61 : decode prog_1_method_7_code 61 = .ok (.getfield 37, 3) := by decide +kernel
theorem d_X_run_64 : decode prog_1_method_7_code 64 = .ok (.aload_n 0, 1) := by decide +kernel
theorem d_X_run_65 : decode prog_1_method_7_code 65 = .ok (.getfield 30, 3) := by decide +kernel
theorem d_X_run_68 : decode prog_1_method_7_code 68 = .ok (.getfield 136, 3) := by decide +kernel
theorem d_X_run_71 : decode prog_1_method_7_code 71 = .ok (.aload_n 0, 1) := by decide +kernel
theorem d_X_run_72 : decode prog_1_method_7_code 72 = .ok (.getfield 21, 3) := by decide +kernel
theorem d_X_run_75 : decode prog_1_method_7_code 75 = .ok (.invokevirtual 139, 3) := by decide +kernel
theorem d_X_run_78 : decode prog_1_method_7_code 78 = .ok (.aload_n 0, 1) := by decide +kernel
theorem d_X_run_79 : decode prog_1_method_7_code 79 = .ok (.getfield 37, 3) := by decide +kernel
theorem d_X_run_82 : decode prog_1_method_7_code 82 = .ok (.aload_n 0, 1) := by decide +kernel
theorem d_X_run_83 : decode prog_1_method_7_code 83 = .ok (.getfield 30, 3) := by decide +kernel
theorem d_X_run_86 : decode prog_1_method_7_code 86 = .ok (.getfield 143, 3) := by decide +kernel
theorem d_X_run_89 : decode prog_1_method_7_code 89 = .ok (.putfield 146, 3) := by decide +kernel
theorem d_X_run_92 : decode prog_1_method_7_code 92 = .ok (.aload_n 0, 1) := by decide +kernel
theorem d_X_run_93 : decode prog_1_method_7_code 93 = .ok (.getfield 37, 3) := by decide +kernel
theorem d_X_run_96 : decode prog_1_method_7_code 96 = .ok (.aload_n 0, 1) := by decide +kernel
theorem d_X_run_97 : decode prog_1_method_7_code 97 = .ok (.getfield 30, 3) := by decide +kernel
theorem d_X_run_100 : decode prog_1_method_7_code 100 = .ok (.getfield 147, 3) := by decide +kernel
theorem d_X_run_103 : decode prog_1_method_7_code 103 = .ok (.putfield 150, 3) := by decide +kernel
theorem d_X_run_106 : decode prog_1_method_7_code 106 = .ok (.aload_n 0, 1) := by decide +kernel
theorem d_X_run_107 : decode prog_1_method_7_code 107 = .ok (.iconst 0, 1) := by decide +kernel
theorem d_X_run_108 : decode prog_1_method_7_code 108 = .ok (.putfield 45, 3) := by decide +kernel
theorem d_X_run_111 : decode prog_1_method_7_code 111 = .ok (.iload_n 2, 1) := by decide +kernel
theorem d_X_run_112 : decode prog_1_method_7_code 112 = .ok (.ifCond .eq 7, 3) := by decide +kernel
theorem d_X_run_115 : decode prog_1_method_7_code 115 = .ok (.iconst 0, 1) := by decide +kernel
theorem d_X_run_116 : decode prog_1_method_7_code 116 = .ok (.goto 4, 3) := by decide +kernel
theorem d_X_run_119 : decode prog_1_method_7_code 119 = .ok (.iconst 1, 1) := by decide +kernel
theorem d_X_run_120 : decode prog_1_method_7_code 120 = .ok (.ireturn, 1) := by decide +kernel
theorem d_X_shareAnHour_0 : decode prog_1_method_17_code 0 = .ok (.iload_n 0, 1) := by decide +kernel
theorem d_X_shareAnHour_1 : decode prog_1_method_17_code 1 = .ok (.iload_n 3, 1) := by decide +kernel
theorem d_X_shareAnHour_2 : decode prog_1_method_17_code 2 = .ok (.if_icmp .ge 12, 3) := by decide +kernel
theorem d_X_shareAnHour_5 : decode prog_1_method_17_code 5 = .ok (.iload_n 2, 1) := by decide +kernel
theorem d_X_shareAnHour_6 : decode prog_1_method_17_code 6 = .ok (.iload_n 1, 1) := by decide +kernel
theorem d_X_shareAnHour_7 : decode prog_1_method_17_code 7 = .ok (.if_icmp .ge 7, 3) := by decide +kernel
theorem d_X_shareAnHour_10 : decode prog_1_method_17_code 10 = .ok (.iconst 1, 1) := by decide +kernel
theorem d_X_shareAnHour_11 : decode prog_1_method_17_code 11 = .ok (.goto 4, 3) := by decide +kernel
theorem d_X_shareAnHour_14 : decode prog_1_method_17_code 14 = .ok (.iconst 0, 1) := by decide +kernel
theorem d_X_shareAnHour_15 : decode prog_1_method_17_code 15 = .ok (.ireturn, 1) := by decide +kernel
theorem d_X_improve_0 : decode prog_1_method_8_code 0 = .ok (.iload_n 1, 1) := by decide +kernel
theorem d_X_improve_1 : decode prog_1_method_8_code 1 = .ok (.iconst 0, 1) := by decide +kernel
theorem d_X_improve_2 : decode prog_1_method_8_code 2 = .ok (.bipush 100, 2) := by decide +kernel
theorem d_X_improve_4 : decode prog_1_method_8_code 4 = .ok (.invokestatic 49, 3) := by decide +kernel
theorem d_X_improve_7 : decode prog_1_method_8_code 7 = .ok (.ifCond .ne 13, 3) := by decide +kernel
theorem d_X_improve_10 : decode prog_1_method_8_code 10 = .ok (.new 53, 3) := by decide +kernel
theorem d_X_improve_13 : decode prog_1_method_8_code 13 = .ok (.dup, 1) := by decide +kernel
theorem d_X_improve_14 : decode prog_1_method_8_code 14 = .ok (.ldc 151, 2) := by decide +kernel
theorem d_X_improve_16 : decode prog_1_method_8_code 16 = .ok (.invokespecial 57, 3) := by decide +kernel
theorem d_X_improve_19 : decode prog_1_method_8_code 19 = .ok (.athrow, 1) := by decide +kernel
theorem d_X_improve_20 : decode prog_1_method_8_code 20 = .ok (.aload_n 0, 1) := by decide +kernel
theorem d_X_improve_21 : decode prog_1_method_8_code 21 = .ok (.invokevirtual 153, 3) := by decide +kernel
theorem d_X_improve_24 : decode prog_1_method_8_code 24 = .ok (.iconst 0, 1) := by decide +kernel
theorem d_X_improve_25 : decode prog_1_method_8_code 25 = .ok (.istore_n 2, 1) := by decide +kernel
theorem d_X_improve_26 : decode prog_1_method_8_code 26 = .ok (.iconst 0, 1) := by decide +kernel
theorem d_X_improve_27 : decode prog_1_method_8_code 27 = .ok (.istore_n 3, 1) := by decide +kernel
theorem d_X_improve_28 : decode prog_1_method_8_code 28 = .ok (.iload_n 3, 1) := by decide +kernel
theorem d_X_improve_29 : decode prog_1_method_8_code 29 = .ok (.iload_n 1, 1) := by decide +kernel
theorem d_X_improve_30 : decode prog_1_method_8_code 30 = .ok (.if_icmp .ge 56, 3) := by decide +kernel
theorem d_X_improve_33 : decode prog_1_method_8_code 33 = .ok (.aload_n 0, 1) := by decide +kernel
theorem d_X_improve_34 : decode prog_1_method_8_code 34 = .ok (.aload_n 0, 1) := by decide +kernel
theorem d_X_improve_35 : decode prog_1_method_8_code 35 = .ok (.getfield 37, 3) := by decide +kernel
theorem d_X_improve_38 : decode prog_1_method_8_code 38 = .ok (.getfield 156, 3) := by decide +kernel
theorem d_X_improve_41 : decode prog_1_method_8_code 41 = .ok (.invokevirtual 157, 3) := by decide +kernel
theorem d_X_improve_44 : decode prog_1_method_8_code 44 = .ok (.istore 4, 2) := by decide +kernel
theorem d_X_improve_46 : decode prog_1_method_8_code 46 = .ok (.aload_n 0, 1) := by decide +kernel
theorem d_X_improve_47 : decode prog_1_method_8_code 47 = .ok (.aload_n 0, 1) := by decide +kernel
theorem d_X_improve_48 : decode prog_1_method_8_code 48 = .ok (.getfield 37, 3) := by decide +kernel
theorem d_X_improve_51 : decode prog_1_method_8_code 51 = .ok (.getfield 156, 3) := by decide +kernel
theorem d_X_improve_54 : decode prog_1_method_8_code 54 = .ok (.invokevirtual 157, 3) := by decide +kernel
theorem d_X_improve_57 : decode prog_1_method_8_code 57 = .ok (.istore 5, 2) := by decide +kernel
theorem d_X_improve_59 : decode prog_1_method_8_code 59 = .ok (.aload_n 0, 1) := by decide +kernel
theorem d_X_improve_60 : decode prog_1_method_8_code 60 = .ok (.getfield 37, 3) := by decide +kernel
theorem d_X_improve_63 : decode prog_1_method_8_code 63 = .ok (.iload 4, 2) := by decide +kernel
theorem d_X_improve_65 : decode prog_1_method_8_code 65 = .ok (.iload 5, 2) := by decide +kernel
theorem d_X_improve_67 : decode prog_1_method_8_code 67 = .ok (.aload_n 0, 1) := by decide +kernel
theorem d_X_improve_68 : decode prog_1_method_8_code 68 = .ok (.getfield 21, 3) := by decide +kernel
theorem d_X_improve_71 : decode prog_1_method_8_code 71 = .ok (.invokevirtual 160, 3) := by decide +kernel
theorem d_X_improve_74 : decode prog_1_method_8_code 74 = .ok (.ifCond .eq 6, 3) := by decide +kernel
theorem d_X_improve_77 : decode prog_1_method_8_code 77 = .ok (.iinc 2 1, 3) := by decide +kernel
theorem d_X_improve_80 : decode prog_1_method_8_code 80 = .ok (.iinc 3 1, 3) := by decide +kernel
theorem d_X_improve_83 : decode prog_1_method_8_code 83 = .ok (.goto (-55), 3) := by decide +kernel
theorem d_X_improve_86 : decode prog_1_method_8_code 86 = .ok (.aload_n 0, 1) := by decide +kernel
theorem d_X_improve_87 : decode prog_1_method_8_code 87 = .ok (.getfield 37, 3) := by decide +kernel
theorem d_X_improve_90 : decode prog_1_method_8_code 90 = .ok (.aload_n 0, 1) := by decide +kernel
theorem d_X_improve_91 : decode prog_1_method_8_code 91 = .ok (.getfield 37, 3) := by decide +kernel
theorem d_X_improve_94 : decode prog_1_method_8_code 94 = .ok (.getfield 164, 3) := by decide +kernel
theorem d_X_improve_97 : decode prog_1_method_8_code 97 = .ok (.aload_n 0, 1) := by decide +kernel
theorem d_X_improve_98 : decode prog_1_method_8_code 98 = .ok (.getfield 21, 3) := by decide +kernel
theorem d_X_improve_101 : decode prog_1_method_8_code 101 = .ok (.invokevirtual 139, 3) := by decide +kernel
theorem d_X_improve_104 : decode prog_1_method_8_code 104 = .ok (.iload_n 2, 1) := by decide +kernel
theorem d_X_improve_105 : decode prog_1_method_8_code 105 = .ok (.ireturn, 1) := by decide +kernel
theorem d_X_demandFreshPlan_0 : decode prog_1_method_20_code 0 = .ok (.aload_n 0, 1) := by decide +kernel
theorem d_X_demandFreshPlan_1 : decode prog_1_method_20_code 1 = .ok (.getfield 37, 3) := by decide +kernel
theorem d_X_demandFreshPlan_4 : decode prog_1_method_20_code 4 = .ok (.invokevirtual 223, 3) := by decide +kernel
theorem d_X_demandFreshPlan_7 : decode prog_1_method_20_code 7 = .ok (.ifCond .eq 10, 3) := by decide +kernel
theorem d_X_demandFreshPlan_10 : decode prog_1_method_20_code 10 = .ok (.aload_n 0, 1) := by decide +kernel
theorem d_X_demandFreshPlan_11 : decode prog_1_method_20_code 11 = .ok (.getfield 45, 3) := by decide +kernel
theorem d_X_demandFreshPlan_14 : decode prog_1_method_20_code 14 = .ok (.ifCond .eq 13, 3) := by decide +kernel
theorem d_X_demandFreshPlan_17 : decode prog_1_method_20_code 17 = .ok (.new 64, 3) := by decide +kernel
theorem d_X_demandFreshPlan_20 : decode prog_1_method_20_code 20 = .ok (.dup, 1) := by decide +kernel
theorem d_X_demandFreshPlan_21 : decode prog_1_method_20_code 21 = .ok (.ldc 228, 2) := by decide +kernel
theorem d_X_demandFreshPlan_23 : decode prog_1_method_20_code 23 = .ok (.invokespecial 68, 3) := by decide +kernel
theorem d_X_demandFreshPlan_26 : decode prog_1_method_20_code 26 = .ok (.athrow, 1) := by decide +kernel
theorem d_X_demandFreshPlan_27 : decode prog_1_method_20_code 27 = .ok (.return_, 1) := by decide +kernel
theorem d_X_nextPlace_0 : decode prog_1_method_21_code 0 = .ok (.aload_n 0, 1) := by decide +kernel
theorem d_X_nextPlace_1 : decode prog_1_method_21_code 1 = .ok (.aload_n 0, 1) := by decide +kernel
theorem d_X_nextPlace_2 : decode prog_1_method_21_code 2 = .ok (.getfield 41, 3) := by decide +kernel
theorem d_X_nextPlace_5 : decode prog_1_method_21_code 5 = .ok (.ldc2_w 230, 3) := by decide +kernel
theorem d_X_nextPlace_8 : decode prog_1_method_21_code 8 = .ok (.lmul, 1) := by decide +kernel
theorem d_X_nextPlace_9 : decode prog_1_method_21_code 9 = .ok (.ldc2_w 232, 3) := by decide +kernel
theorem d_X_nextPlace_12 : decode prog_1_method_21_code 12 = .ok (.ladd, 1) := by decide +kernel
theorem d_X_nextPlace_13 : decode prog_1_method_21_code 13 = .ok (.putfield 41, 3) := by decide +kernel
theorem d_X_nextPlace_16 : decode prog_1_method_21_code 16 = .ok (.iload_n 1, 1) := by decide +kernel
theorem d_X_nextPlace_17 : decode prog_1_method_21_code 17 = .ok (.ifCond .le 17, 3) := by decide +kernel
theorem d_X_nextPlace_20 : decode prog_1_method_21_code 20 = .ok (.aload_n 0, 1) := by decide +kernel
theorem d_X_nextPlace_21 : decode prog_1_method_21_code 21 = .ok (.getfield 41, 3) := by decide +kernel
theorem d_X_nextPlace_24 : decode prog_1_method_21_code 24 = .ok (.bipush 33, 2) := by decide +kernel
theorem d_X_nextPlace_26 : decode prog_1_method_21_code 26 = .ok (.lushr, 1) := by decide +kernel
theorem d_X_nextPlace_27 : decode prog_1_method_21_code 27 = .ok (.iload_n 1, 1) := by decide +kernel
theorem d_X_nextPlace_28 : decode prog_1_method_21_code 28 = .ok (.i2l, 1) := by decide +kernel
theorem d_X_nextPlace_29 : decode prog_1_method_21_code 29 = .ok (.lrem, 1) := by decide +kernel
theorem d_X_nextPlace_30 : decode prog_1_method_21_code 30 = .ok (.l2i, 1) := by decide +kernel
theorem d_X_nextPlace_31 : decode prog_1_method_21_code 31 = .ok (.goto 4, 3) := by decide +kernel
theorem d_X_nextPlace_34 : decode prog_1_method_21_code 34 = .ok (.iconst 0, 1) := by decide +kernel
theorem d_X_nextPlace_35 : decode prog_1_method_21_code 35 = .ok (.ireturn, 1) := by decide +kernel
theorem d_X_at_0 : decode prog_1_method_9_code 0 = .ok (.iload_n 1, 1) := by decide +kernel
theorem d_X_at_1 : decode prog_1_method_9_code 1 = .ok (.iconst 0, 1) := by decide +kernel
theorem d_X_at_2 : decode prog_1_method_9_code 2 = .ok (.aload_n 0, 1) := by decide +kernel
theorem d_X_at_3 : decode prog_1_method_9_code 3 = .ok (.getfield 12, 3) := by decide +kernel
theorem d_X_at_6 : decode prog_1_method_9_code 6 = .ok (.getfield 115, 3) := by decide +kernel
theorem d_X_at_9 : decode prog_1_method_9_code 9 = .ok (.iconst 1, 1) := by decide +kernel
theorem d_X_at_10 : decode prog_1_method_9_code 10 = .ok (.isub, 1) := by decide +kernel
theorem d_X_at_11 : decode prog_1_method_9_code 11 = .ok (.invokestatic 49, 3) := by decide +kernel
theorem d_X_at_14 : decode prog_1_method_9_code 14 = .ok (.ifCond .eq 12, 3) := by decide +kernel
theorem d_X_at_17 : decode prog_1_method_9_code 17 = .ok (.iload_n 2, 1) := by decide +kernel
theorem d_X_at_18 : decode prog_1_method_9_code 18 = .ok (.iconst 0, 1) := by decide +kernel
theorem d_X_at_19 : decode prog_1_method_9_code 19 = .ok (.iconst 1, 1) := by decide +kernel
theorem d_X_at_20 : decode prog_1_method_9_code 20 = .ok (.invokestatic 49, 3) := by decide +kernel
theorem d_X_at_23 : decode prog_1_method_9_code 23 = .ok (.ifCond .ne 13, 3) := by decide +kernel
theorem d_X_at_26 : decode prog_1_method_9_code 26 = .ok (.new 73, 3) := by decide +kernel
theorem d_X_at_29 : decode prog_1_method_9_code 29 = .ok (.dup, 1) := by decide +kernel
theorem d_X_at_30 : decode prog_1_method_9_code 30 = .ok (.ldc 167, 2) := by decide +kernel
theorem d_X_at_32 : decode prog_1_method_9_code 32 = .ok (.invokespecial 77, 3) := by decide +kernel
theorem d_X_at_35 : decode prog_1_method_9_code 35 = .ok (.athrow, 1) := by decide +kernel
theorem d_X_at_36 : decode prog_1_method_9_code 36 = .ok (.aload_n 0, 1) := by decide +kernel
theorem d_X_at_37 : decode prog_1_method_9_code 37 = .ok (.invokevirtual 169, 3) := by decide +kernel
theorem d_X_at_40 : decode prog_1_method_9_code 40 = .ok (.aload_n 0, 1) := by decide +kernel
theorem d_X_at_41 : decode prog_1_method_9_code 41 = .ok (.getfield 37, 3) := by decide +kernel
theorem d_X_at_44 : decode prog_1_method_9_code 44 = .ok (.iload_n 1, 1) := by decide +kernel
theorem d_X_at_45 : decode prog_1_method_9_code 45 = .ok (.invokevirtual 172, 3) := by decide +kernel
theorem d_X_at_48 : decode prog_1_method_9_code 48 = .ok (.ifCond .ne 5, 3) := by decide +kernel
theorem d_X_at_51 : decode prog_1_method_9_code 51 = .ok (.iconst (-1), 1) := by decide +kernel
theorem d_X_at_52 : decode prog_1_method_9_code 52 = .ok (.ireturn, 1) := by decide +kernel
theorem d_X_at_53 : decode prog_1_method_9_code 53 = .ok (.iload_n 2, 1) := by decide +kernel
theorem d_X_at_54 : decode prog_1_method_9_code 54 = .ok (.ifCond .ne 15, 3) := by decide +kernel
theorem d_X_at_57 : decode prog_1_method_9_code 57 = .ok (.aload_n 0, 1) := by decide +kernel
theorem d_X_at_58 : decode prog_1_method_9_code 58 = .ok (.getfield 37, 3) := by decide +kernel
theorem d_X_at_61 : decode prog_1_method_9_code 61 = .ok (.getfield 175, 3) := by decide +kernel
theorem d_X_at_64 : decode prog_1_method_9_code 64 = .ok (.iload_n 1, 1) := by decide +kernel
theorem d_X_at_65 : decode prog_1_method_9_code 65 = .ok (.iaload, 1) := by decide +kernel
theorem d_X_at_66 : decode prog_1_method_9_code 66 = .ok (.goto 12, 3) := by decide +kernel
theorem d_X_at_69 : decode prog_1_method_9_code 69 = .ok (.aload_n 0, 1) := by decide +kernel
theorem d_X_at_70 : decode prog_1_method_9_code 70 = .ok (.getfield 37, 3) := by decide +kernel
theorem d_X_at_73 : decode prog_1_method_9_code 73 = .ok (.getfield 178, 3) := by decide +kernel
theorem d_X_at_76 : decode prog_1_method_9_code 76 = .ok (.iload_n 1, 1) := by decide +kernel
theorem d_X_at_77 : decode prog_1_method_9_code 77 = .ok (.iaload, 1) := by decide +kernel
theorem d_X_at_78 : decode prog_1_method_9_code 78 = .ok (.ireturn, 1) := by decide +kernel
theorem d_X_demandPlan_0 : decode prog_1_method_19_code 0 = .ok (.aload_n 0, 1) := by decide +kernel
theorem d_X_demandPlan_1 : decode prog_1_method_19_code 1 = .ok (.getfield 37, 3) := by decide +kernel
theorem d_X_demandPlan_4 : decode prog_1_method_19_code 4 = .ok (.invokevirtual 223, 3) := by decide +kernel
theorem d_X_demandPlan_7 : decode prog_1_method_19_code 7 = .ok (.ifCond .ne 13, 3) := by decide +kernel
theorem d_X_demandPlan_10 : decode prog_1_method_19_code 10 = .ok (.new 64, 3) := by decide +kernel
theorem d_X_demandPlan_13 : decode prog_1_method_19_code 13 = .ok (.dup, 1) := by decide +kernel
theorem d_X_demandPlan_14 : decode prog_1_method_19_code 14 = .ok (.ldc 226, 2) := by decide +kernel
theorem d_X_demandPlan_16 : decode prog_1_method_19_code 16 = .ok (.invokespecial 68, 3) := by decide +kernel
theorem d_X_demandPlan_19 : decode prog_1_method_19_code 19 = .ok (.athrow, 1) := by decide +kernel
theorem d_X_demandPlan_20 : decode prog_1_method_19_code 20 = .ok (.return_, 1) := by decide +kernel
theorem d_X_order_0 : decode prog_1_method_10_code 0 = .ok (.aload_n 0, 1) := by decide +kernel
theorem d_X_order_1 : decode prog_1_method_10_code 1 = .ok (.invokevirtual 169, 3) := by decide +kernel
theorem d_X_order_4 : decode prog_1_method_10_code 4 = .ok (.iload_n 1, 1) := by decide +kernel
theorem d_X_order_5 : decode prog_1_method_10_code 5 = .ok (.iconst 0, 1) := by decide +kernel
theorem d_X_order_6 : decode prog_1_method_10_code 6 = .ok (.aload_n 0, 1) := by decide +kernel
theorem d_X_order_7 : decode prog_1_method_10_code 7 = .ok (.getfield 37, 3) := by decide +kernel
theorem d_X_order_10 : decode prog_1_method_10_code 10 = .ok (.getfield 156, 3) := by decide +kernel
theorem d_X_order_13 : decode prog_1_method_10_code 13 = .ok (.iconst 1, 1) := by decide +kernel
theorem d_X_order_14 : decode prog_1_method_10_code 14 = .ok (.isub, 1) := by decide +kernel
theorem d_X_order_15 : decode prog_1_method_10_code 15 = .ok (.invokestatic 49, 3) := by decide +kernel
theorem d_X_order_18 : decode prog_1_method_10_code 18 = .ok (.ifCond .ne 13, 3) := by decide +kernel
theorem d_X_order_21 : decode prog_1_method_10_code 21 = .ok (.new 73, 3) := by decide +kernel
theorem d_X_order_24 : decode prog_1_method_10_code 24 = .ok (.dup, 1) := by decide +kernel
theorem d_X_order_25 : decode prog_1_method_10_code 25 = .ok (.ldc 181, 2) := by decide +kernel
theorem d_X_order_27 : decode prog_1_method_10_code 27 = .ok (.invokespecial 77, 3) := by decide +kernel
theorem d_X_order_30 : decode prog_1_method_10_code 30 = .ok (.athrow, 1) := by decide +kernel
theorem d_X_order_31 : decode prog_1_method_10_code 31 = .ok (.aload_n 0, 1) := by decide +kernel
theorem d_X_order_32 : decode prog_1_method_10_code 32 = .ok (.getfield 37, 3) := by decide +kernel
theorem d_X_order_35 : decode prog_1_method_10_code 35 = .ok (.getfield 164, 3) := by decide +kernel
theorem d_X_order_38 : decode prog_1_method_10_code 38 = .ok (.iload_n 1, 1) := by decide +kernel
theorem d_X_order_39 : decode prog_1_method_10_code 39 = .ok (.iaload, 1) := by decide +kernel
theorem d_X_order_40 : decode prog_1_method_10_code 40 = .ok (.ireturn, 1) := by decide +kernel
theorem d_X_about_0 : decode prog_1_method_11_code 0 = .ok (.iload_n 1, 1) := by decide +kernel
theorem d_X_about_1 : decode prog_1_method_11_code 1 = .ok (.iconst 0, 1) := by decide +kernel
theorem d_X_about_2 : decode prog_1_method_11_code 2 = .ok (.iconst 3, 1) := by decide +kernel
theorem d_X_about_3 : decode prog_1_method_11_code 3 = .ok (.invokestatic 49, 3) := by decide +kernel
theorem d_X_about_6 : decode prog_1_method_11_code 6 = .ok (.ifCond .ne 13, 3) := by decide +kernel
theorem d_X_about_9 : decode prog_1_method_11_code 9 = .ok (.new 73, 3) := by decide +kernel
theorem d_X_about_12 : decode prog_1_method_11_code 12 = .ok (.dup, 1) := by decide +kernel
theorem d_X_about_13 : decode prog_1_method_11_code 13 = .ok (.ldc 183, 2) := by decide +kernel
theorem d_X_about_15 : decode prog_1_method_11_code 15 = .ok (.invokespecial 77, 3) := by decide +kernel
theorem d_X_about_18 : decode prog_1_method_11_code 18 = .ok (.athrow, 1) := by decide +kernel
theorem d_X_about_19 : decode prog_1_method_11_code 19 = .ok (.aload_n 0, 1) := by decide +kernel
theorem d_X_about_20 : decode prog_1_method_11_code 20 = .ok (.invokevirtual 169, 3) := by decide +kernel
theorem d_X_about_23 : decode prog_1_method_11_code 23 = .ok (.iload_n 1, 1) := by decide +kernel
theorem d_X_about_24 : decode prog_1_method_11_code 24 = .ok (.tableswitch 53 0 2 #[28, 36, 44], 28) := by decide +kernel
theorem d_X_about_52 : decode prog_1_method_11_code 52 = .ok (.aload_n 0, 1) := by decide +kernel
theorem d_X_about_53 : decode prog_1_method_11_code 53 = .ok (.getfield 37, 3) := by decide +kernel
theorem d_X_about_56 : decode prog_1_method_11_code 56 = .ok (.getfield 185, 3) := by decide +kernel
theorem d_X_about_59 : decode prog_1_method_11_code 59 = .ok (.lreturn, 1) := by decide +kernel
theorem d_X_about_60 : decode prog_1_method_11_code 60 = .ok (.aload_n 0, 1) := by decide +kernel
theorem d_X_about_61 : decode prog_1_method_11_code 61 = .ok (.getfield 37, 3) := by decide +kernel
theorem d_X_about_64 : decode prog_1_method_11_code 64 = .ok (.getfield 146, 3) := by decide +kernel
theorem d_X_about_67 : decode prog_1_method_11_code 67 = .ok (.lreturn, 1) := by decide +kernel
theorem d_X_about_68 : decode prog_1_method_11_code 68 = .ok (.aload_n 0, 1) := by decide +kernel
theorem d_X_about_69 : decode prog_1_method_11_code 69 = .ok (.getfield 37, 3) := by decide +kernel
theorem d_X_about_72 : decode prog_1_method_11_code 72 = .ok (.getfield 150, 3) := by decide +kernel
theorem d_X_about_75 : decode prog_1_method_11_code 75 = .ok (.i2l, 1) := by decide +kernel
theorem d_X_about_76 : decode prog_1_method_11_code 76 = .ok (.lreturn, 1) := by decide +kernel
theorem d_X_about_77 : decode prog_1_method_11_code 77 = .ok (.aload_n 0, 1) := by decide +kernel
theorem d_X_about_78 : decode prog_1_method_11_code 78 = .ok (.getfield 37, 3) := by decide +kernel
theorem d_X_about_81 : decode prog_1_method_11_code 81 = .ok (.getfield 188, 3) := by decide +kernel
theorem d_X_about_84 : decode prog_1_method_11_code 84 = .ok (.i2l, 1) := by decide +kernel
theorem d_X_about_85 : decode prog_1_method_11_code 85 = .ok (.lreturn, 1) := by decide +kernel
theorem d_X_alone_0 : decode prog_1_method_12_code 0 = .ok (.aload_n 0, 1) := by decide +kernel
theorem d_X_alone_1 : decode prog_1_method_12_code 1 = .ok (.iload_n 1, 1) := by decide +kernel
theorem d_X_alone_2 : decode prog_1_method_12_code 2 = .ok (.invokevirtual 101, 3) := by decide +kernel
theorem d_X_alone_5 : decode prog_1_method_12_code 5 = .ok (.aload_n 0, 1) := by decide +kernel
theorem d_X_alone_6 : decode prog_1_method_12_code 6 = .ok (.getfield 12, 3) := by decide +kernel
theorem d_X_alone_9 : decode prog_1_method_12_code 9 = .ok (.iload_n 1, 1) := by decide +kernel
theorem d_X_alone_10 : decode prog_1_method_12_code 10 = .ok (.invokevirtual 191, 3) := by decide +kernel
theorem d_X_alone_13 : decode prog_1_method_12_code 13 = .ok (.ifCond .ne 13, 3) := by decide +kernel
theorem d_X_alone_16 : decode prog_1_method_12_code 16 = .ok (.new 64, 3) := by decide +kernel
theorem d_X_alone_19 : decode prog_1_method_12_code 19 = .ok (.dup, 1) := by decide +kernel
theorem d_X_alone_20 : decode prog_1_method_12_code 20 = .ok (.ldc 194, 2) := by decide +kernel
theorem d_X_alone_22 : decode prog_1_method_12_code 22 = .ok (.invokespecial 68, 3) := by decide +kernel
theorem d_X_alone_25 : decode prog_1_method_12_code 25 = .ok (.athrow, 1) := by decide +kernel
theorem d_X_alone_26 : decode prog_1_method_12_code 26 = .ok (.aload_n 0, 1) := by decide +kernel
theorem d_X_alone_27 : decode prog_1_method_12_code 27 = .ok (.getfield 21, 3) := by decide +kernel
theorem d_X_alone_30 : decode prog_1_method_12_code 30 = .ok (.iload_n 1, 1) := by decide +kernel
theorem d_X_alone_31 : decode prog_1_method_12_code 31 = .ok (.invokevirtual 196, 3) := by decide +kernel
theorem d_X_alone_34 : decode prog_1_method_12_code 34 = .ok (.lreturn, 1) := by decide +kernel
theorem d_X_promise_0 : decode prog_1_method_13_code 0 = .ok (.aload_n 0, 1) := by decide +kernel
theorem d_X_promise_1 : decode prog_1_method_13_code 1 = .ok (.iload_n 1, 1) := by decide +kernel
theorem d_X_promise_2 : decode prog_1_method_13_code 2 = .ok (.invokevirtual 101, 3) := by decide +kernel
theorem d_X_promise_5 : decode prog_1_method_13_code 5 = .ok (.aload_n 0, 1) := by decide +kernel
theorem d_X_promise_6 : decode prog_1_method_13_code 6 = .ok (.invokevirtual 153, 3) := by decide +kernel
theorem d_X_promise_9 : decode prog_1_method_13_code 9 = .ok (.aload_n 0, 1) := by decide +kernel
theorem d_X_promise_10 : decode prog_1_method_13_code 10 = .ok (.getfield 37, 3) := by decide +kernel
theorem d_X_promise_13 : decode prog_1_method_13_code 13 = .ok (.iload_n 1, 1) := by decide +kernel
theorem d_X_promise_14 : decode prog_1_method_13_code 14 = .ok (.aload_n 0, 1) := by decide +kernel
theorem d_X_promise_15 : decode prog_1_method_13_code 15 = .ok (.getfield 21, 3) := by decide +kernel
theorem d_X_promise_18 : decode prog_1_method_13_code 18 = .ok (.invokevirtual 200, 3) := by decide +kernel
theorem d_X_promise_21 : decode prog_1_method_13_code 21 = .ok (.aload_n 0, 1) := by decide +kernel
theorem d_X_promise_22 : decode prog_1_method_13_code 22 = .ok (.getfield 21, 3) := by decide +kernel
theorem d_X_promise_25 : decode prog_1_method_13_code 25 = .ok (.iload_n 1, 1) := by decide +kernel
theorem d_X_promise_26 : decode prog_1_method_13_code 26 = .ok (.invokevirtual 204, 3) := by decide +kernel
theorem d_X_promise_29 : decode prog_1_method_13_code 29 = .ok (.ireturn, 1) := by decide +kernel
theorem d_X_clash_0 : decode prog_1_method_14_code 0 = .ok (.iload_n 1, 1) := by decide +kernel
theorem d_X_clash_1 : decode prog_1_method_14_code 1 = .ok (.ifCond .ge 13, 3) := by decide +kernel
theorem d_X_clash_4 : decode prog_1_method_14_code 4 = .ok (.new 53, 3) := by decide +kernel
theorem d_X_clash_7 : decode prog_1_method_14_code 7 = .ok (.dup, 1) := by decide +kernel
theorem d_X_clash_8 : decode prog_1_method_14_code 8 = .ok (.ldc 207, 2) := by decide +kernel
theorem d_X_clash_10 : decode prog_1_method_14_code 10 = .ok (.invokespecial 57, 3) := by decide +kernel
theorem d_X_clash_13 : decode prog_1_method_14_code 13 = .ok (.athrow, 1) := by decide +kernel
theorem d_X_clash_14 : decode prog_1_method_14_code 14 = .ok (.aload_n 0, 1) := by decide +kernel
theorem d_X_clash_15 : decode prog_1_method_14_code 15 = .ok (.getfield 12, 3) := by decide +kernel
theorem d_X_clash_18 : decode prog_1_method_14_code 18 = .ok (.invokevirtual 126, 3) := by decide +kernel
theorem d_X_clash_21 : decode prog_1_method_14_code 21 = .ok (.ifCond .ne 13, 3) := by decide +kernel
theorem d_X_clash_24 : decode prog_1_method_14_code 24 = .ok (.new 64, 3) := by decide +kernel
theorem d_X_clash_27 : decode prog_1_method_14_code 27 = .ok (.dup, 1) := by decide +kernel
theorem d_X_clash_28 : decode prog_1_method_14_code 28 = .ok (.ldc 209, 2) := by decide +kernel
theorem d_X_clash_30 : decode prog_1_method_14_code 30 = .ok (.invokespecial 68, 3) := by decide +kernel
theorem d_X_clash_33 : decode prog_1_method_14_code 33 = .ok (.athrow, 1) := by decide +kernel
theorem d_X_clash_34 : decode prog_1_method_14_code 34 = .ok (.iconst 0, 1) := by decide +kernel
theorem d_X_clash_35 : decode prog_1_method_14_code 35 = .ok (.istore_n 2, 1) := by decide +kernel
theorem d_X_clash_36 : decode prog_1_method_14_code 36 = .ok (.iconst 0, 1) := by decide +kernel
theorem d_X_clash_37 : decode prog_1_method_14_code 37 = .ok (.istore_n 3, 1) := by decide +kernel
theorem d_X_clash_38 : decode prog_1_method_14_code 38 = .ok (.iload_n 3, 1) := by decide +kernel
theorem d_X_clash_39 : decode prog_1_method_14_code 39 = .ok (.aload_n 0, 1) := by decide +kernel
theorem d_X_clash_40 : decode prog_1_method_14_code 40 = .ok (.getfield 12, 3) := by decide +kernel
theorem d_X_clash_43 : decode prog_1_method_14_code 43 = .ok (.getfield 92, 3) := by decide +kernel
theorem d_X_clash_46 : decode prog_1_method_14_code 46 = .ok (.if_icmp .ge 61, 3) := by decide +kernel
theorem d_X_clash_49 : decode prog_1_method_14_code 49 = .ok (.iload_n 3, 1) := by decide +kernel
theorem d_X_clash_50 : decode prog_1_method_14_code 50 = .ok (.iconst 1, 1) := by decide +kernel
theorem d_X_clash_51 : decode prog_1_method_14_code 51 = .ok (.iadd, 1) := by decide +kernel
theorem d_X_clash_52 : decode prog_1_method_14_code 52 = .ok (.istore 4, 2) := by decide +kernel
theorem d_X_clash_54 : decode prog_1_method_14_code 54 = .ok (.iload 4, 2) := by decide +kernel
theorem d_X_clash_56 : decode prog_1_method_14_code 56 = .ok (.aload_n 0, 1) := by decide +kernel
theorem d_X_clash_57 : decode prog_1_method_14_code 57 = .ok (.getfield 12, 3) := by decide +kernel
theorem d_X_clash_60 : decode prog_1_method_14_code 60 = .ok (.getfield 92, 3) := by decide +kernel
theorem d_X_clash_63 : decode prog_1_method_14_code 63 = .ok (.if_icmp .ge 38, 3) := by decide +kernel
theorem d_X_clash_66 : decode prog_1_method_14_code 66 = .ok (.aload_n 0, 1) := by decide +kernel
theorem d_X_clash_67 : decode prog_1_method_14_code 67 = .ok (.getfield 21, 3) := by decide +kernel
theorem d_X_clash_70 : decode prog_1_method_14_code 70 = .ok (.iload_n 3, 1) := by decide +kernel
theorem d_X_clash_71 : decode prog_1_method_14_code 71 = .ok (.iload 4, 2) := by decide +kernel
theorem d_X_clash_73 : decode prog_1_method_14_code 73 = .ok (.invokevirtual 211, 3) := by decide +kernel
theorem d_X_clash_76 : decode prog_1_method_14_code 76 = .ok (.ifCond .eq 19, 3) := by decide +kernel
theorem d_X_clash_79 : decode prog_1_method_14_code 79 = .ok (.iload_n 2, 1) := by decide +kernel
theorem d_X_clash_80 : decode prog_1_method_14_code 80 = .ok (.iload_n 1, 1) := by decide +kernel
theorem d_X_clash_81 : decode prog_1_method_14_code 81 = .ok (.if_icmp .ne 11, 3) := by decide +kernel
theorem d_X_clash_84 : decode prog_1_method_14_code 84 = .ok (.bipush 8, 2) := by decide +kernel
theorem d_X_clash_86 : decode prog_1_method_14_code 86 = .ok (.iload_n 3, 1) := by decide +kernel
theorem d_X_clash_87 : decode prog_1_method_14_code 87 = .ok (.imul, 1) := by decide +kernel
theorem d_X_clash_88 : decode prog_1_method_14_code 88 = .ok (.iload 4, 2) := by decide +kernel
theorem d_X_clash_90 : decode prog_1_method_14_code 90 = .ok (.iadd, 1) := by decide +kernel
theorem d_X_clash_91 : decode prog_1_method_14_code 91 = .ok (.ireturn, 1) := by decide +kernel
theorem d_X_clash_92 : decode prog_1_method_14_code 92 = .ok (.iinc 2 1, 3) := by decide +kernel
theorem d_X_clash_95 : decode prog_1_method_14_code 95 = .ok (.iinc 4 1, 3) := by decide +kernel
theorem d_X_clash_98 : decode prog_1_method_14_code 98 = .ok (.goto (-44), 3) := by decide +kernel
theorem d_X_clash_101 : decode prog_1_method_14_code 101 = .ok (.iinc 3 1, 3) := by decide +kernel
theorem d_X_clash_104 : decode prog_1_method_14_code 104 = .ok (.goto (-66), 3) := by decide +kernel
theorem d_X_clash_107 : decode prog_1_method_14_code 107 = .ok (.iconst (-1), 1) := by decide +kernel
theorem d_X_clash_108 : decode prog_1_method_14_code 108 = .ok (.ireturn, 1) := by decide +kernel
theorem d_X_check_0 : decode prog_1_method_15_code 0 = .ok (.aload_n 0, 1) := by decide +kernel
theorem d_X_check_1 : decode prog_1_method_15_code 1 = .ok (.invokevirtual 169, 3) := by decide +kernel
theorem d_X_check_4 : decode prog_1_method_15_code 4 = .ok (.iconst 1, 1) := by decide +kernel
theorem d_X_check_5 : decode prog_1_method_15_code 5 = .ok (.istore_n 1, 1) := by decide +kernel
theorem d_X_check_6 : decode prog_1_method_15_code 6 = .ok (.iload_n 1, 1) := by decide +kernel
theorem d_X_check_7 : decode prog_1_method_15_code 7 = .ok (.iconst 4, 1) := by decide +kernel
theorem d_X_check_8 : decode prog_1_method_15_code 8 = .ok (.if_icmp .gt 47, 3) := by decide +kernel
theorem d_X_check_11 : decode prog_1_method_15_code 11 = .ok (.iconst 0, 1) := by decide +kernel
theorem d_X_check_12 : decode prog_1_method_15_code 12 = .ok (.istore_n 2, 1) := by decide +kernel
theorem d_X_check_13 : decode prog_1_method_15_code 13 = .ok (.iload_n 2, 1) := by decide +kernel
theorem d_X_check_14 : decode prog_1_method_15_code 14 = .ok (.aload_n 0, 1) := by decide +kernel
theorem d_X_check_15 : decode prog_1_method_15_code 15 = .ok (.getfield 12, 3) := by decide +kernel
theorem d_X_check_18 : decode prog_1_method_15_code 18 = .ok (.getfield 115, 3) := by decide +kernel
theorem d_X_check_21 : decode prog_1_method_15_code 21 = .ok (.if_icmp .ge 28, 3) := by decide +kernel
theorem d_X_check_24 : decode prog_1_method_15_code 24 = .ok (.aload_n 0, 1) := by decide +kernel
theorem d_X_check_25 : decode prog_1_method_15_code 25 = .ok (.getfield 37, 3) := by decide +kernel
theorem d_X_check_28 : decode prog_1_method_15_code 28 = .ok (.iload_n 1, 1) := by decide +kernel
theorem d_X_check_29 : decode prog_1_method_15_code 29 = .ok (.iload_n 2, 1) := by decide +kernel
theorem d_X_check_30 : decode prog_1_method_15_code 30 = .ok (.invokevirtual 215, 3) := by decide +kernel
theorem d_X_check_33 : decode prog_1_method_15_code 33 = .ok (.ifCond .eq 10, 3) := by decide +kernel
theorem d_X_check_36 : decode prog_1_method_15_code 36 = .ok (.bipush 100, 2) := by decide +kernel
theorem d_X_check_38 : decode prog_1_method_15_code 38 = .ok (.iload_n 1, 1) := by decide +kernel
theorem d_X_check_39 : decode prog_1_method_15_code 39 = .ok (.imul, 1) := by decide +kernel
theorem d_X_check_40 : decode prog_1_method_15_code 40 = .ok (.iload_n 2, 1) := by decide +kernel
theorem d_X_check_41 : decode prog_1_method_15_code 41 = .ok (.iadd, 1) := by decide +kernel
theorem d_X_check_42 : decode prog_1_method_15_code 42 = .ok (.ireturn, 1) := by decide +kernel
theorem d_X_check_43 : decode prog_1_method_15_code 43 = .ok (.iinc 2 1, 3) := by decide +kernel
theorem d_X_check_46 : decode prog_1_method_15_code 46 = .ok (.goto (-33), 3) := by decide +kernel
theorem d_X_check_49 : decode prog_1_method_15_code 49 = .ok (.iinc 1 1, 3) := by decide +kernel
theorem d_X_check_52 : decode prog_1_method_15_code 52 = .ok (.goto (-46), 3) := by decide +kernel
theorem d_X_check_55 : decode prog_1_method_15_code 55 = .ok (.iconst 0, 1) := by decide +kernel
theorem d_X_check_56 : decode prog_1_method_15_code 56 = .ok (.istore_n 1, 1) := by decide +kernel
theorem d_X_check_57 : decode prog_1_method_15_code 57 = .ok (.iload_n 1, 1) := by decide +kernel
theorem d_X_check_58 : decode prog_1_method_15_code 58 = .ok (.aload_n 0, 1) := by decide +kernel
theorem d_X_check_59 : decode prog_1_method_15_code 59 = .ok (.getfield 12, 3) := by decide +kernel
theorem d_X_check_62 : decode prog_1_method_15_code 62 = .ok (.getfield 92, 3) := by decide +kernel
theorem d_X_check_65 : decode prog_1_method_15_code 65 = .ok (.if_icmp .ge 35, 3) := by decide +kernel
theorem d_X_check_68 : decode prog_1_method_15_code 68 = .ok (.aload_n 0, 1) := by decide +kernel
theorem d_X_check_69 : decode prog_1_method_15_code 69 = .ok (.getfield 37, 3) := by decide +kernel
theorem d_X_check_72 : decode prog_1_method_15_code 72 = .ok (.iload_n 1, 1) := by decide +kernel
theorem d_X_check_73 : decode prog_1_method_15_code 73 = .ok (.invokevirtual 218, 3) := by decide +kernel
theorem d_X_check_76 : decode prog_1_method_15_code 76 = .ok (.aload_n 0, 1) := by decide +kernel
theorem d_X_check_77 : decode prog_1_method_15_code 77 = .ok (.getfield 12, 3) := by decide +kernel
theorem d_X_check_80 : decode prog_1_method_15_code 80 = .ok (.getfield 107, 3) := by decide +kernel
theorem d_X_check_83 : decode prog_1_method_15_code 83 = .ok (.iload_n 1, 1) := by decide +kernel
theorem d_X_check_84 : decode prog_1_method_15_code 84 = .ok (.iaload, 1) := by decide +kernel
theorem d_X_check_85 : decode prog_1_method_15_code 85 = .ok (.if_icmp .le 9, 3) := by decide +kernel
theorem d_X_check_88 : decode prog_1_method_15_code 88 = .ok (.sipush 500, 3) := by decide +kernel
theorem d_X_check_91 : decode prog_1_method_15_code 91 = .ok (.iload_n 1, 1) := by decide +kernel
theorem d_X_check_92 : decode prog_1_method_15_code 92 = .ok (.iadd, 1) := by decide +kernel
theorem d_X_check_93 : decode prog_1_method_15_code 93 = .ok (.ireturn, 1) := by decide +kernel
theorem d_X_check_94 : decode prog_1_method_15_code 94 = .ok (.iinc 1 1, 3) := by decide +kernel
theorem d_X_check_97 : decode prog_1_method_15_code 97 = .ok (.goto (-40), 3) := by decide +kernel
theorem d_X_check_100 : decode prog_1_method_15_code 100 = .ok (.iconst 0, 1) := by decide +kernel
theorem d_X_check_101 : decode prog_1_method_15_code 101 = .ok (.ireturn, 1) := by decide +kernel
end
section
/-! numbers and arrays of natural numbers -/
theorem am_inc (a : Nat) : nI a + Int32.ofInt 1 = nI (a + 1) := by rw [lit1]; exact nI_1 a
def nu (g : Nat → Nat) (k v : Nat) : Nat → Nat := fun j => if j = k then v else g j
theorem nu_eq (g : Nat → Nat) (k v : Nat) : nu g k v k = v := by simp [nu]
theorem nu_ne (g : Nat → Nat) {k j : Nat} (v : Nat) (h : j ≠ k) : nu g k v j = g j := by simp [nu, h]
def am_a (n : Nat) (g : Nat → Nat) : am_E := .inl (0, n, .inl (fun j => nI (g j)))
theorem upd_nu (g : Nat → Nat) (k v : Nat) : upd (fun j => nI (g j)) k (nI v) = fun j => nI (nu g k v j) := by
  funext j
  by_cases h : j = k <;> simp [upd, nu, h]
/-- the method returns v, the cells are then h2 -/
abbrev am_Fn (G : am_G) (z : am_M) (d bc bs : Nat) (As : List Value) (h : am_H) (v : Option Value) (h2 : am_H) : Prop := am_W G z d bc bs (fun o h' => o = .inl v ∧ h' = h2) 0 (lv_args 0 As) [] h
/-- the method throws an object of the class ci, which is the only new cell -/
abbrev am_Tn (G : am_G) (z : am_M) (d bc bs : Nat) (As : List Value) (h : am_H) (ci : Nat) : Prop := am_W G z d bc bs (fun o h' => o = .inr (ci, h.length + 1) ∧ h' = h ++ [.inr (ci, [])]) 0 (lv_args 0 As) [] h
section AMN
variable {G : am_G} {y z : am_M} {d bc bs bc' bs' : Nat} {Q : am_O → am_H → Prop} {pc : Nat} {L : List (Nat × Value)} {st : List Value} {h h2 : am_H} {v : Option Value}
theorem am_iaddN {a b : Nat} (hd : decode y.2.1 pc = .ok (.iadd, 1)) (k : am_W G y d bc bs Q (pc + 1) L (.int (nI (a + b)) :: st) h) : am_W G y d bc bs Q pc L (.int (nI b) :: .int (nI a) :: st) h :=
  am_iadd hd (by rw [nI_add]; exact k)
theorem am_imulN {a b : Nat} (hd : decode y.2.1 pc = .ok (.imul, 1)) (k : am_W G y d bc bs Q (pc + 1) L (.int (nI (a * b)) :: st) h) : am_W G y d bc bs Q pc L (.int (nI b) :: .int (nI a) :: st) h :=
  am_imul hd (by rw [pk_mul]; exact k)
theorem am_isubN {a b : Nat} (hd : decode y.2.1 pc = .ok (.isub, 1)) (hab : b ≤ a) (k : am_W G y d bc bs Q (pc + 1) L (.int (nI (a - b)) :: st) h) : am_W G y d bc bs Q pc L (.int (nI b) :: .int (nI a) :: st) h :=
  am_isub hd (by rw [pk_sub hab]; exact k)
theorem am_icmpN_eq {a b : Nat} {off : Int} {tgt : Nat} (hd : decode y.2.1 pc = .ok (.if_icmp .eq off, 3)) (ht : (pc : Int) + off = (tgt : Int)) (ha : a < 2 ^ 31) (hb : b < 2 ^ 31) (k1 : a = b → am_W G y d bc bs Q tgt L (st) h) (k2 : a ≠ b → am_W G y d bc bs Q (pc + 3) L (st) h) : am_W G y d bc bs Q pc L (.int (nI b) :: .int (nI a) :: st) h :=
  am_icmp_eq hd ht (fun q => k1 ((nI_eq ha hb).mp q)) (fun q => k2 (fun e => q ((nI_eq ha hb).mpr e)))
theorem am_icmpN_ne {a b : Nat} {off : Int} {tgt : Nat} (hd : decode y.2.1 pc = .ok (.if_icmp .ne off, 3)) (ht : (pc : Int) + off = (tgt : Int)) (ha : a < 2 ^ 31) (hb : b < 2 ^ 31) (k1 : a ≠ b → am_W G y d bc bs Q tgt L (st) h) (k2 : a = b → am_W G y d bc bs Q (pc + 3) L (st) h) : am_W G y d bc bs Q pc L (.int (nI b) :: .int (nI a) :: st) h :=
  am_icmp_ne hd ht (fun q => k1 (fun e => q ((nI_eq ha hb).mpr e))) (fun q => k2 ((nI_eq ha hb).mp q))
theorem am_icmpN_lt {a b : Nat} {off : Int} {tgt : Nat} (hd : decode y.2.1 pc = .ok (.if_icmp .lt off, 3)) (ht : (pc : Int) + off = (tgt : Int)) (ha : a < 2 ^ 31) (hb : b < 2 ^ 31) (k1 : a < b → am_W G y d bc bs Q tgt L (st) h) (k2 : b ≤ a → am_W G y d bc bs Q (pc + 3) L (st) h) : am_W G y d bc bs Q pc L (.int (nI b) :: .int (nI a) :: st) h :=
  am_icmp_lt hd ht (fun q => k1 ((nI_ltI ha hb).mp q)) (fun q => k2 (Nat.not_lt.mp fun e => q ((nI_ltI ha hb).mpr e)))
theorem am_icmpN_ge {a b : Nat} {off : Int} {tgt : Nat} (hd : decode y.2.1 pc = .ok (.if_icmp .ge off, 3)) (ht : (pc : Int) + off = (tgt : Int)) (ha : a < 2 ^ 31) (hb : b < 2 ^ 31) (k1 : b ≤ a → am_W G y d bc bs Q tgt L (st) h) (k2 : a < b → am_W G y d bc bs Q (pc + 3) L (st) h) : am_W G y d bc bs Q pc L (.int (nI b) :: .int (nI a) :: st) h :=
  am_icmp_ge hd ht (fun q => k1 ((nI_leI hb ha).mp q)) (fun q => k2 (Nat.not_le.mp fun e => q ((nI_leI hb ha).mpr e)))
theorem am_icmpN_gt {a b : Nat} {off : Int} {tgt : Nat} (hd : decode y.2.1 pc = .ok (.if_icmp .gt off, 3)) (ht : (pc : Int) + off = (tgt : Int)) (ha : a < 2 ^ 31) (hb : b < 2 ^ 31) (k1 : b < a → am_W G y d bc bs Q tgt L (st) h) (k2 : a ≤ b → am_W G y d bc bs Q (pc + 3) L (st) h) : am_W G y d bc bs Q pc L (.int (nI b) :: .int (nI a) :: st) h :=
  am_icmp_gt hd ht (fun q => k1 ((nI_ltI hb ha).mp q)) (fun q => k2 (Nat.not_lt.mp fun e => q ((nI_ltI hb ha).mpr e)))
theorem am_icmpN_le {a b : Nat} {off : Int} {tgt : Nat} (hd : decode y.2.1 pc = .ok (.if_icmp .le off, 3)) (ht : (pc : Int) + off = (tgt : Int)) (ha : a < 2 ^ 31) (hb : b < 2 ^ 31) (k1 : a ≤ b → am_W G y d bc bs Q tgt L (st) h) (k2 : b < a → am_W G y d bc bs Q (pc + 3) L (st) h) : am_W G y d bc bs Q pc L (.int (nI b) :: .int (nI a) :: st) h :=
  am_icmp_le hd ht (fun q => k1 ((nI_leI ha hb).mp q)) (fun q => k2 (Nat.not_le.mp fun e => q ((nI_leI ha hb).mpr e)))
theorem am_ialdA {a n j : Nat} {g : Nat → Nat} (hd : decode y.2.1 pc = .ok (.iaload, 1)) (ha : h[a]? = some (am_a n g)) (hlt : j < n) (hn : n < 2 ^ 31) (k : am_W G y d bc bs Q (pc + 1) L (.int (nI (g j)) :: st) h) : am_W G y d bc bs Q pc L (.int (nI j) :: .ref (a + 1) :: st) h :=
  am_ialdN j hd ha rfl hlt hn k
theorem am_iastA {a n j v : Nat} {g : Nat → Nat} (hd : decode y.2.1 pc = .ok (.iastore, 1)) (ha : h[a]? = some (am_a n g)) (hlt : j < n) (hn : n < 2 ^ 31) (k : am_W G y d bc bs Q (pc + 1) L (st) (h.set a (am_a n (nu g j v)))) : am_W G y d bc bs Q pc L (.int (nI v) :: .int (nI j) :: .ref (a + 1) :: st) h :=
  am_iastN j hd ha rfl hlt hn (by rw [upd_nu]; exact k)
/-- a call by its contract: n values are taken off the stack -/
theorem am_callF (n : Nat) (lk : am_Lk G y z pc L (st.take n).reverse (st.drop n) h) (hpl : plainName z.1.cls = true) (hm : z.2.2.1 ≤ 44) (hfit : (lg_sl (st.take n).reverse).length ≤ z.2.2.1) (hrest : ((st.drop n).map fun v => v.category).sum ≤ 8) (hb1 : bc' ≤ bc) (hb2 : bs' ≤ bs)
    (hk : am_Fn G z d bc' bs' (st.take n).reverse h v h2) (k : am_W G y (d + 1) (bc - bc') (bs - bs') Q (pc + 3) L (v.toList ++ st.drop n) h2) : am_W G y (d + 1) bc bs Q pc L st h := by
  have e : st = (st.take n).reverse.reverse ++ st.drop n := by rw [List.reverse_reverse, List.take_append_drop]
  rw [e]
  refine am_call (As := (st.take n).reverse) (rest := st.drop n) lk hpl hm hfit hrest hb1 hb2 hk (fun w h' q => ?_) (fun q h' hq => by cases hq.1)
  obtain ⟨q1, rfl⟩ := q
  cases q1
  exact k
/-- a call that may end in many ways -/
theorem am_callQ {Q' : am_O → am_H → Prop} (n : Nat) (lk : am_Lk G y z pc L (st.take n).reverse (st.drop n) h) (hpl : plainName z.1.cls = true) (hm : z.2.2.1 ≤ 44) (hfit : (lg_sl (st.take n).reverse).length ≤ z.2.2.1) (hrest : ((st.drop n).map fun v => v.category).sum ≤ 8) (hb1 : bc' ≤ bc) (hb2 : bs' ≤ bs)
    (hk : am_W G z d bc' bs' Q' 0 (lv_args 0 (st.take n).reverse) [] h) (k : ∀ v h', Q' (.inl v) h' → am_W G y (d + 1) (bc - bc') (bs - bs') Q (pc + 3) L (v.toList ++ st.drop n) h') (kt : ∀ q h', Q' (.inr q) h' → am_TW G y (d + 1) (bc - bc') (bs - bs') Q pc L q h') : am_W G y (d + 1) bc bs Q pc L st h := by
  have e : st = (st.take n).reverse.reverse ++ st.drop n := by rw [List.reverse_reverse, List.take_append_drop]
  rw [e]
  exact am_call (As := (st.take n).reverse) (rest := st.drop n) lk hpl hm hfit hrest hb1 hb2 hk k kt
/-- a call that throws -/
theorem am_callT {ci : Nat} (n : Nat) (lk : am_Lk G y z pc L (st.take n).reverse (st.drop n) h) (hpl : plainName z.1.cls = true) (hm : z.2.2.1 ≤ 44) (hfit : (lg_sl (st.take n).reverse).length ≤ z.2.2.1) (hrest : ((st.drop n).map fun v => v.category).sum ≤ 8) (hb1 : bc' ≤ bc) (hb2 : bs' ≤ bs)
    (hk : am_Tn G z d bc' bs' (st.take n).reverse h ci) (k : am_TW G y (d + 1) (bc - bc') (bs - bs') Q pc L (ci, h.length + 1) (h ++ [.inr (ci, [])])) : am_W G y (d + 1) bc bs Q pc L st h := by
  refine am_callQ n lk hpl hm hfit hrest hb1 hb2 hk (fun w h' q => by cases q.1) (fun q h' hq => ?_)
  obtain ⟨q1, rfl⟩ := hq
  cases q1
  exact k
theorem am_recvV {As rest : List Value} {index a ci N : Nat} {T0 : u_T} {fs As' : List Value} (hA : As = .ref (a + 1) :: As') (hd : decode y.2.1 pc = .ok (.invokevirtual index, 3)) (w1 : Cond.methodLink y.1.cls index z.1 ∈ am_T) (w2 : Cond.instanceMethod z.1 ∈ am_T) (w3 : Cond.selects z.1.cls z.1 z.1 ∈ am_T) (w4 : am_cw z ∈ am_T)
    (hcl : am_cl[ci]? = some (z.1.cls, T0, N)) (ha : h[a]? = some (.inr (ci, fs))) (hy : z.1.cls ≠ "java/lang/invoke/MethodHandle" ∧ z.1.cls ≠ "java/lang/invoke/VarHandle") (hn : (parseMethodDescriptor z.1.desc).map (fun d => d.parameters.length) = some As'.length) : am_Lk G y z pc L As rest h := by
  subst hA
  exact am_lkV hd w1 w2 w3 w4 hcl ha hy hn
theorem am_recvI {As rest : List Value} {index a : Nat} {As' : List Value} (hA : As = .ref (a + 1) :: As') (hd : decode y.2.1 pc = .ok (.invokespecial index, 3)) (w1 : Cond.methodLink y.1.cls index z.1 ∈ am_T) (w2 : Cond.instanceMethod z.1 ∈ am_T) (w4 : am_cw z ∈ am_T) (hz1 : z.1.name = "<init>") (hz2 : z.2.2.2 = (none, []))
    (hy : z.1.cls ≠ "java/lang/invoke/MethodHandle" ∧ z.1.cls ≠ "java/lang/invoke/VarHandle") (hn : (parseMethodDescriptor z.1.desc).map (fun d => d.parameters.length) = some As'.length) : am_Lk G y z pc L As rest h := by
  subst hA
  exact am_lkI hd w1 w2 w4 hz1 hz2 hy hn
theorem am_recvIN {As rest : List Value} {index a : Nat} {host : String} {As' : List Value} (hA : As = .ref (a + 1) :: As') (hd : decode y.2.1 pc = .ok (.invokespecial index, 3)) (w1 : Cond.methodLinkNest y.1.cls index z.1 host ∈ am_T2) (w2 : Cond.instanceMethod z.1 ∈ am_T) (w4 : am_cw z ∈ am_T) (hz1 : z.1.name = "<init>") (hz2 : z.2.2.2 = (none, []))
    (hy : z.1.cls ≠ "java/lang/invoke/MethodHandle" ∧ z.1.cls ≠ "java/lang/invoke/VarHandle") (hn : (parseMethodDescriptor z.1.desc).map (fun d => d.parameters.length) = some As'.length) : am_Lk G y z pc L As rest h := by
  subst hA
  exact am_lkIN hd w1 w2 w4 hz1 hz2 hy hn
end AMN
theorem F_X : am_F 0 R_X T_X 6 ty_X := ⟨rfl, in_X, tk_X, nm_X⟩
theorem F_S : am_F 1 R_S T_S 15 ty_S := ⟨rfl, in_S, tk_S, nm_S⟩
theorem F_F : am_F 2 R_F T_F 6 ty_F := ⟨rfl, in_F, tk_F, nm_F⟩
theorem F_R : am_F 3 R_R T_R 10 ty_R := ⟨rfl, in_R, tk_R, nm_R⟩
theorem F_P : am_F 4 R_P T_P 10 ty_P := ⟨rfl, in_P, tk_P, nm_P⟩
theorem F_M : am_F 5 R_M T_M 34 ty_M := ⟨rfl, in_M, tk_M, nm_M⟩
end
section
/-! how many parameters a method takes -/
theorem np_X_init : (parseMethodDescriptor m_X_init.1.desc).map (fun d => d.parameters.length) = some 1 := by decide +kernel
theorem np_S_init : (parseMethodDescriptor m_S_init.1.desc).map (fun d => d.parameters.length) = some 0 := by decide +kernel
theorem np_F_init : (parseMethodDescriptor m_F_init.1.desc).map (fun d => d.parameters.length) = some 1 := by decide +kernel
theorem np_R_init : (parseMethodDescriptor m_R_init.1.desc).map (fun d => d.parameters.length) = some 2 := by decide +kernel
theorem np_P_init : (parseMethodDescriptor m_P_init.1.desc).map (fun d => d.parameters.length) = some 1 := by decide +kernel
theorem np_L_cell : (parseMethodDescriptor m_L_cell.1.desc).map (fun d => d.parameters.length) = some 2 := by decide +kernel
theorem np_L_machine : (parseMethodDescriptor m_L_machine.1.desc).map (fun d => d.parameters.length) = some 3 := by decide +kernel
theorem np_X_machine : (parseMethodDescriptor m_X_machine.1.desc).map (fun d => d.parameters.length) = some 1 := by decide +kernel
theorem np_X_isWithin : (parseMethodDescriptor m_X_isWithin.1.desc).map (fun d => d.parameters.length) = some 3 := by decide +kernel
theorem np_S_addMachine : (parseMethodDescriptor m_S_addMachine.1.desc).map (fun d => d.parameters.length) = some 1 := by decide +kernel
theorem np_L_out : (parseMethodDescriptor m_L_out.1.desc).map (fun d => d.parameters.length) = some 5 := by decide +kernel
theorem np_X_out : (parseMethodDescriptor m_X_out.1.desc).map (fun d => d.parameters.length) = some 3 := by decide +kernel
theorem np_S_addSpan : (parseMethodDescriptor m_S_addSpan.1.desc).map (fun d => d.parameters.length) = some 3 := by decide +kernel
theorem np_L_job : (parseMethodDescriptor m_L_job.1.desc).map (fun d => d.parameters.length) = some 4 := by decide +kernel
theorem np_X_job : (parseMethodDescriptor m_X_job.1.desc).map (fun d => d.parameters.length) = some 2 := by decide +kernel
theorem np_S_addJob : (parseMethodDescriptor m_S_addJob.1.desc).map (fun d => d.parameters.length) = some 2 := by decide +kernel
theorem np_L_due : (parseMethodDescriptor m_L_due.1.desc).map (fun d => d.parameters.length) = some 3 := by decide +kernel
theorem np_X_due : (parseMethodDescriptor m_X_due.1.desc).map (fun d => d.parameters.length) = some 2 := by decide +kernel
theorem np_X_demandJob : (parseMethodDescriptor m_X_demandJob.1.desc).map (fun d => d.parameters.length) = some 1 := by decide +kernel
theorem np_L_step : (parseMethodDescriptor m_L_step.1.desc).map (fun d => d.parameters.length) = some 6 := by decide +kernel
theorem np_X_step : (parseMethodDescriptor m_X_step.1.desc).map (fun d => d.parameters.length) = some 4 := by decide +kernel
theorem np_S_addStep : (parseMethodDescriptor m_S_addStep.1.desc).map (fun d => d.parameters.length) = some 4 := by decide +kernel
theorem np_S_lastStep : (parseMethodDescriptor m_S_lastStep.1.desc).map (fun d => d.parameters.length) = some 1 := by decide +kernel
theorem np_L_run : (parseMethodDescriptor m_L_run.1.desc).map (fun d => d.parameters.length) = some 3 := by decide +kernel
theorem np_X_run : (parseMethodDescriptor m_X_run.1.desc).map (fun d => d.parameters.length) = some 1 := by decide +kernel
theorem np_S_allFit : (parseMethodDescriptor m_S_allFit.1.desc).map (fun d => d.parameters.length) = some 0 := by decide +kernel
theorem np_S_fits : (parseMethodDescriptor m_S_fits.1.desc).map (fun d => d.parameters.length) = some 1 := by decide +kernel
theorem np_S_hasMachine : (parseMethodDescriptor m_S_hasMachine.1.desc).map (fun d => d.parameters.length) = some 1 := by decide +kernel
theorem np_R_findBest : (parseMethodDescriptor m_R_findBest.1.desc).map (fun d => d.parameters.length) = some 1 := by decide +kernel
theorem np_F_costAlone : (parseMethodDescriptor m_F_costAlone.1.desc).map (fun d => d.parameters.length) = some 1 := by decide +kernel
theorem np_F_clear : (parseMethodDescriptor m_F_clear.1.desc).map (fun d => d.parameters.length) = some 0 := by decide +kernel
theorem np_F_addBusy : (parseMethodDescriptor m_F_addBusy.1.desc).map (fun d => d.parameters.length) = some 3 := by decide +kernel
theorem np_F_place : (parseMethodDescriptor m_F_place.1.desc).map (fun d => d.parameters.length) = some 1 := by decide +kernel
theorem np_F_placeStep : (parseMethodDescriptor m_F_placeStep.1.desc).map (fun d => d.parameters.length) = some 2 := by decide +kernel
theorem np_F_firstBegin : (parseMethodDescriptor m_F_firstBegin.1.desc).map (fun d => d.parameters.length) = some 3 := by decide +kernel
theorem np_X_shareAnHour : (parseMethodDescriptor m_X_shareAnHour.1.desc).map (fun d => d.parameters.length) = some 4 := by decide +kernel
theorem np_F_put : (parseMethodDescriptor m_F_put.1.desc).map (fun d => d.parameters.length) = some 3 := by decide +kernel
theorem np_S_costOf : (parseMethodDescriptor m_S_costOf.1.desc).map (fun d => d.parameters.length) = some 2 := by decide +kernel
theorem np_R_orderByDue : (parseMethodDescriptor m_R_orderByDue.1.desc).map (fun d => d.parameters.length) = some 0 := by decide +kernel
theorem np_F_costInOrder : (parseMethodDescriptor m_F_costInOrder.1.desc).map (fun d => d.parameters.length) = some 2 := by decide +kernel
theorem np_R_goOn : (parseMethodDescriptor m_R_goOn.1.desc).map (fun d => d.parameters.length) = some 3 := by decide +kernel
theorem np_R_follow : (parseMethodDescriptor m_R_follow.1.desc).map (fun d => d.parameters.length) = some 3 := by decide +kernel
theorem np_F_lift : (parseMethodDescriptor m_F_lift.1.desc).map (fun d => d.parameters.length) = some 1 := by decide +kernel
theorem np_P_take : (parseMethodDescriptor m_P_take.1.desc).map (fun d => d.parameters.length) = some 2 := by decide +kernel
theorem np_P_has : (parseMethodDescriptor m_P_has.1.desc).map (fun d => d.parameters.length) = some 1 := by decide +kernel
theorem np_L_improve : (parseMethodDescriptor m_L_improve.1.desc).map (fun d => d.parameters.length) = some 3 := by decide +kernel
theorem np_X_improve : (parseMethodDescriptor m_X_improve.1.desc).map (fun d => d.parameters.length) = some 1 := by decide +kernel
theorem np_X_demandFreshPlan : (parseMethodDescriptor m_X_demandFreshPlan.1.desc).map (fun d => d.parameters.length) = some 0 := by decide +kernel
theorem np_P_exists : (parseMethodDescriptor m_P_exists.1.desc).map (fun d => d.parameters.length) = some 0 := by decide +kernel
theorem np_X_nextPlace : (parseMethodDescriptor m_X_nextPlace.1.desc).map (fun d => d.parameters.length) = some 1 := by decide +kernel
theorem np_P_changeIfLess : (parseMethodDescriptor m_P_changeIfLess.1.desc).map (fun d => d.parameters.length) = some 3 := by decide +kernel
theorem np_P_swap : (parseMethodDescriptor m_P_swap.1.desc).map (fun d => d.parameters.length) = some 2 := by decide +kernel
theorem np_L_at : (parseMethodDescriptor m_L_at.1.desc).map (fun d => d.parameters.length) = some 4 := by decide +kernel
theorem np_X_at : (parseMethodDescriptor m_X_at.1.desc).map (fun d => d.parameters.length) = some 2 := by decide +kernel
theorem np_X_demandPlan : (parseMethodDescriptor m_X_demandPlan.1.desc).map (fun d => d.parameters.length) = some 0 := by decide +kernel
theorem np_L_order : (parseMethodDescriptor m_L_order.1.desc).map (fun d => d.parameters.length) = some 3 := by decide +kernel
theorem np_X_order : (parseMethodDescriptor m_X_order.1.desc).map (fun d => d.parameters.length) = some 1 := by decide +kernel
theorem np_L_about : (parseMethodDescriptor m_L_about.1.desc).map (fun d => d.parameters.length) = some 3 := by decide +kernel
theorem np_X_about : (parseMethodDescriptor m_X_about.1.desc).map (fun d => d.parameters.length) = some 1 := by decide +kernel
theorem np_L_alone : (parseMethodDescriptor m_L_alone.1.desc).map (fun d => d.parameters.length) = some 3 := by decide +kernel
theorem np_X_alone : (parseMethodDescriptor m_X_alone.1.desc).map (fun d => d.parameters.length) = some 1 := by decide +kernel
theorem np_L_promise : (parseMethodDescriptor m_L_promise.1.desc).map (fun d => d.parameters.length) = some 3 := by decide +kernel
theorem np_X_promise : (parseMethodDescriptor m_X_promise.1.desc).map (fun d => d.parameters.length) = some 1 := by decide +kernel
theorem np_P_layAllBut : (parseMethodDescriptor m_P_layAllBut.1.desc).map (fun d => d.parameters.length) = some 2 := by decide +kernel
theorem np_L_clash : (parseMethodDescriptor m_L_clash.1.desc).map (fun d => d.parameters.length) = some 3 := by decide +kernel
theorem np_X_clash : (parseMethodDescriptor m_X_clash.1.desc).map (fun d => d.parameters.length) = some 1 := by decide +kernel
theorem np_F_doClash : (parseMethodDescriptor m_F_doClash.1.desc).map (fun d => d.parameters.length) = some 2 := by decide +kernel
theorem np_F_costOfTwo : (parseMethodDescriptor m_F_costOfTwo.1.desc).map (fun d => d.parameters.length) = some 2 := by decide +kernel
theorem np_L_check : (parseMethodDescriptor m_L_check.1.desc).map (fun d => d.parameters.length) = some 2 := by decide +kernel
theorem np_X_check : (parseMethodDescriptor m_X_check.1.desc).map (fun d => d.parameters.length) = some 0 := by decide +kernel
theorem np_P_breaks : (parseMethodDescriptor m_P_breaks.1.desc).map (fun d => d.parameters.length) = some 2 := by decide +kernel
theorem np_P_beginsTooEarly : (parseMethodDescriptor m_P_beginsTooEarly.1.desc).map (fun d => d.parameters.length) = some 1 := by decide +kernel
theorem np_P_stepEnd : (parseMethodDescriptor m_P_stepEnd.1.desc).map (fun d => d.parameters.length) = some 1 := by decide +kernel
theorem np_P_sharesWithStep : (parseMethodDescriptor m_P_sharesWithStep.1.desc).map (fun d => d.parameters.length) = some 1 := by decide +kernel
theorem np_P_sharesWithSpan : (parseMethodDescriptor m_P_sharesWithSpan.1.desc).map (fun d => d.parameters.length) = some 1 := by decide +kernel
theorem np_P_endOf : (parseMethodDescriptor m_P_endOf.1.desc).map (fun d => d.parameters.length) = some 1 := by decide +kernel
theorem np_M_init : (parseMethodDescriptor m_M_init.1.desc).map (fun d => d.parameters.length) = some 1 := by decide +kernel
theorem np_M_thrown : (parseMethodDescriptor m_M_thrown.1.desc).map (fun d => d.parameters.length) = some 0 := by decide +kernel
theorem np_M_machine : (parseMethodDescriptor m_M_machine.1.desc).map (fun d => d.parameters.length) = some 1 := by decide +kernel
theorem np_M_in : (parseMethodDescriptor m_M_in.1.desc).map (fun d => d.parameters.length) = some 3 := by decide +kernel
theorem np_M_out : (parseMethodDescriptor m_M_out.1.desc).map (fun d => d.parameters.length) = some 3 := by decide +kernel
theorem np_M_job : (parseMethodDescriptor m_M_job.1.desc).map (fun d => d.parameters.length) = some 2 := by decide +kernel
theorem np_M_due : (parseMethodDescriptor m_M_due.1.desc).map (fun d => d.parameters.length) = some 2 := by decide +kernel
theorem np_M_step : (parseMethodDescriptor m_M_step.1.desc).map (fun d => d.parameters.length) = some 4 := by decide +kernel
theorem np_M_run : (parseMethodDescriptor m_M_run.1.desc).map (fun d => d.parameters.length) = some 1 := by decide +kernel
theorem np_M_allFit : (parseMethodDescriptor m_M_allFit.1.desc).map (fun d => d.parameters.length) = some 0 := by decide +kernel
theorem np_M_fits : (parseMethodDescriptor m_M_fits.1.desc).map (fun d => d.parameters.length) = some 1 := by decide +kernel
theorem np_M_keepWas : (parseMethodDescriptor m_M_keepWas.1.desc).map (fun d => d.parameters.length) = some 0 := by decide +kernel
theorem np_M_search : (parseMethodDescriptor m_M_search.1.desc).map (fun d => d.parameters.length) = some 1 := by decide +kernel
theorem np_M_layByDue : (parseMethodDescriptor m_M_layByDue.1.desc).map (fun d => d.parameters.length) = some 0 := by decide +kernel
theorem np_M_costOfRow : (parseMethodDescriptor m_M_costOfRow.1.desc).map (fun d => d.parameters.length) = some 1 := by decide +kernel
theorem np_M_clearBoard : (parseMethodDescriptor m_M_clearBoard.1.desc).map (fun d => d.parameters.length) = some 0 := by decide +kernel
theorem np_M_place : (parseMethodDescriptor m_M_place.1.desc).map (fun d => d.parameters.length) = some 1 := by decide +kernel
theorem np_M_freeFrom : (parseMethodDescriptor m_M_freeFrom.1.desc).map (fun d => d.parameters.length) = some 3 := by decide +kernel
theorem np_M_meets : (parseMethodDescriptor m_M_meets.1.desc).map (fun d => d.parameters.length) = some 4 := by decide +kernel
theorem np_M_costOf : (parseMethodDescriptor m_M_costOf.1.desc).map (fun d => d.parameters.length) = some 2 := by decide +kernel
theorem np_M_toPlan : (parseMethodDescriptor m_M_toPlan.1.desc).map (fun d => d.parameters.length) = some 0 := by decide +kernel
theorem np_M_least : (parseMethodDescriptor m_M_least.1.desc).map (fun d => d.parameters.length) = some 1 := by decide +kernel
theorem np_M_aloneOf : (parseMethodDescriptor m_M_aloneOf.1.desc).map (fun d => d.parameters.length) = some 1 := by decide +kernel
theorem np_M_become : (parseMethodDescriptor m_M_become.1.desc).map (fun d => d.parameters.length) = some 0 := by decide +kernel
theorem np_M_improve : (parseMethodDescriptor m_M_improve.1.desc).map (fun d => d.parameters.length) = some 1 := by decide +kernel
theorem np_M_draw : (parseMethodDescriptor m_M_draw.1.desc).map (fun d => d.parameters.length) = some 0 := by decide +kernel
theorem np_M_swap : (parseMethodDescriptor m_M_swap.1.desc).map (fun d => d.parameters.length) = some 2 := by decide +kernel
theorem np_M_at : (parseMethodDescriptor m_M_at.1.desc).map (fun d => d.parameters.length) = some 2 := by decide +kernel
theorem np_M_order : (parseMethodDescriptor m_M_order.1.desc).map (fun d => d.parameters.length) = some 1 := by decide +kernel
theorem np_M_about : (parseMethodDescriptor m_M_about.1.desc).map (fun d => d.parameters.length) = some 1 := by decide +kernel
theorem np_M_alone : (parseMethodDescriptor m_M_alone.1.desc).map (fun d => d.parameters.length) = some 1 := by decide +kernel
theorem np_M_promise : (parseMethodDescriptor m_M_promise.1.desc).map (fun d => d.parameters.length) = some 1 := by decide +kernel
theorem np_M_clash : (parseMethodDescriptor m_M_clash.1.desc).map (fun d => d.parameters.length) = some 1 := by decide +kernel
theorem np_M_canBoth : (parseMethodDescriptor m_M_canBoth.1.desc).map (fun d => d.parameters.length) = some 2 := by decide +kernel
theorem np_M_check : (parseMethodDescriptor m_M_check.1.desc).map (fun d => d.parameters.length) = some 0 := by decide +kernel
theorem np_M_breaks : (parseMethodDescriptor m_M_breaks.1.desc).map (fun d => d.parameters.length) = some 2 := by decide +kernel
theorem np_M_before : (parseMethodDescriptor m_M_before.1.desc).map (fun d => d.parameters.length) = some 1 := by decide +kernel
theorem np_M_isLate : (parseMethodDescriptor m_M_isLate.1.desc).map (fun d => d.parameters.length) = some 1 := by decide +kernel
theorem np_L_law : (parseMethodDescriptor m_L_law.1.desc).map (fun d => d.parameters.length) = some 1 := by decide +kernel
end
section
/-! truth values, longs; the state of the class -/
def zI (b : Bool) : Int32 := if b then 1 else 0
theorem zI_t : zI true = nI 1 := by decide
theorem zI_f : zI false = nI 0 := by decide
theorem zI_n (b : Bool) : narrow .boolean (.int (zI b)) = .int (zI b) := by cases b <;> rfl
theorem l_late {a b : Nat} (ha : a < 2 ^ 31) (hb : b < 2 ^ 31) : lN a - lN b ≤ 0 ↔ a ≤ b := by
  rw [Int64.le_iff_toInt_le, Int64.toInt_sub, lN_toInt ha, lN_toInt hb]
  have h0 : (0 : Int64).toInt = 0 := by decide
  rw [h0, Int.bmod_eq_of_le (by omega) (by omega)]
  omega
def am_l (n : Nat) (g : Nat → Nat) : am_E := .inl (1, n, .inr (.inl (fun j => lN (g j))))
def zu (g : Nat → Bool) (k : Nat) (v : Bool) : Nat → Bool := fun j => if j = k then v else g j
def am_zc (n : Nat) (g : Nat → Bool) : am_E := .inl (2, n, .inl (fun j => zI (g j)))
theorem upd_zu (g : Nat → Bool) (k : Nat) (v : Bool) : upd (fun j => zI (g j)) k (zI v) = fun j => zI (zu g k v j) := by
  funext j
  by_cases h : j = k <;> simp [upd, zu, h]
theorem upd_lu (g : Nat → Nat) (k v : Nat) : vp_updL (fun j => lN (g j)) k (lN v) = fun j => lN (nu g k v j) := by
  funext j
  by_cases h : j = k <;> simp [vp_updL, nu, h]
section AMZ
variable {G : am_G} {y : am_M} {d bc bs : Nat} {Q : am_O → am_H → Prop} {pc : Nat} {L : List (Nat × Value)} {st : List Value} {h : am_H}
theorem am_ifZ_ne {b : Bool} {off : Int} {tgt : Nat} (hd : decode y.2.1 pc = .ok (.ifCond .ne off, 3)) (ht : (pc : Int) + off = (tgt : Int)) (k1 : b = true → am_W G y d bc bs Q tgt L (st) h) (k2 : b = false → am_W G y d bc bs Q (pc + 3) L (st) h) : am_W G y d bc bs Q pc L (.int (zI b) :: st) h :=
  am_if_ne hd ht (fun q => k1 (by cases b <;> first | rfl | exact absurd rfl q)) (fun q => k2 (by cases b <;> first | rfl | exact absurd q (by decide)))
theorem am_ifZ_eq {b : Bool} {off : Int} {tgt : Nat} (hd : decode y.2.1 pc = .ok (.ifCond .eq off, 3)) (ht : (pc : Int) + off = (tgt : Int)) (k1 : b = false → am_W G y d bc bs Q tgt L (st) h) (k2 : b = true → am_W G y d bc bs Q (pc + 3) L (st) h) : am_W G y d bc bs Q pc L (.int (zI b) :: st) h :=
  am_if_eq hd ht (fun q => k1 (by cases b <;> first | rfl | exact absurd q (by decide))) (fun q => k2 (by cases b <;> first | rfl | exact absurd rfl q))
theorem am_ifN_le {a : Nat} {off : Int} {tgt : Nat} (hd : decode y.2.1 pc = .ok (.ifCond .le off, 3)) (ht : (pc : Int) + off = (tgt : Int)) (ha : a < 2 ^ 31) (k1 : a = 0 → am_W G y d bc bs Q tgt L (st) h) (k2 : 0 < a → am_W G y d bc bs Q (pc + 3) L (st) h) : am_W G y d bc bs Q pc L (.int (nI a) :: st) h :=
  am_if_le hd ht (fun q => k1 (by rcases Nat.eq_zero_or_pos a with e | e; exact e; exact absurd q (nI_nle e ha))) (fun q => k2 (by rcases Nat.eq_zero_or_pos a with e | e; exact absurd (by rw [e]; decide) q; exact e))
theorem am_ifN_ne {a : Nat} {off : Int} {tgt : Nat} (hd : decode y.2.1 pc = .ok (.ifCond .ne off, 3)) (ht : (pc : Int) + off = (tgt : Int)) (ha : a < 2 ^ 31) (k1 : 0 < a → am_W G y d bc bs Q tgt L (st) h) (k2 : a = 0 → am_W G y d bc bs Q (pc + 3) L (st) h) : am_W G y d bc bs Q pc L (.int (nI a) :: st) h :=
  am_if_ne hd ht (fun q => k1 (by rcases Nat.eq_zero_or_pos a with e | e; exact absurd (by rw [e]; decide) q; exact e)) (fun q => k2 (by rcases Nat.eq_zero_or_pos a with e | e; exact e; exact absurd q (nI_ne0 e ha)))
theorem am_ifN_eq {a : Nat} {off : Int} {tgt : Nat} (hd : decode y.2.1 pc = .ok (.ifCond .eq off, 3)) (ht : (pc : Int) + off = (tgt : Int)) (ha : a < 2 ^ 31) (k1 : a = 0 → am_W G y d bc bs Q tgt L (st) h) (k2 : 0 < a → am_W G y d bc bs Q (pc + 3) L (st) h) : am_W G y d bc bs Q pc L (.int (nI a) :: st) h :=
  am_if_eq hd ht (fun q => k1 (by rcases Nat.eq_zero_or_pos a with e | e; exact e; exact absurd q (nI_ne0 e ha))) (fun q => k2 (by rcases Nat.eq_zero_or_pos a with e | e; exact absurd (by rw [e]; decide) q; exact e))
theorem am_laldA {a n j : Nat} {g : Nat → Nat} (hd : decode y.2.1 pc = .ok (.laload, 1)) (ha : h[a]? = some (am_l n g)) (hlt : j < n) (hn : n < 2 ^ 31) (k : am_W G y d bc bs Q (pc + 1) L (.long (lN (g j)) :: st) h) : am_W G y d bc bs Q pc L (.int (nI j) :: .ref (a + 1) :: st) h :=
  am_laldN j hd ha rfl hlt hn k
theorem am_lastA {a n j v : Nat} {g : Nat → Nat} (hd : decode y.2.1 pc = .ok (.lastore, 1)) (ha : h[a]? = some (am_l n g)) (hlt : j < n) (hn : n < 2 ^ 31) (k : am_W G y d bc bs Q (pc + 1) L (st) (h.set a (am_l n (nu g j v)))) : am_W G y d bc bs Q pc L (.long (lN v) :: .int (nI j) :: .ref (a + 1) :: st) h :=
  am_lastN j hd ha rfl hlt hn (by rw [upd_lu]; exact k)
theorem am_zaldA {a n j : Nat} {g : Nat → Bool} (hd : decode y.2.1 pc = .ok (.baload, 1)) (ha : h[a]? = some (am_zc n g)) (hlt : j < n) (hn : n < 2 ^ 31) (k : am_W G y d bc bs Q (pc + 1) L (.int (zI (g j)) :: st) h) : am_W G y d bc bs Q pc L (.int (nI j) :: .ref (a + 1) :: st) h :=
  am_zaldN j hd ha rfl hlt hn k
theorem am_zastA {a n j : Nat} {v : Bool} {g : Nat → Bool} (hd : decode y.2.1 pc = .ok (.bastore, 1)) (ha : h[a]? = some (am_zc n g)) (hlt : j < n) (hn : n < 2 ^ 31) (k : am_W G y d bc bs Q (pc + 1) L (st) (h.set a (am_zc n (zu g j v)))) : am_W G y d bc bs Q pc L (.int (zI v) :: .int (nI j) :: .ref (a + 1) :: st) h :=
  am_zastN j hd ha rfl hlt hn (by cases v <;> rfl) (by rw [upd_zu]; exact k)
theorem am_i2lN {a : Nat} (hd : decode y.2.1 pc = .ok (.i2l, 1)) (ha : a < 2 ^ 31) (k : am_W G y d bc bs Q (pc + 1) L (.long (lN a) :: st) h) : am_W G y d bc bs Q pc L (.int (nI a) :: st) h := am_i2l hd (by rw [nI_l ha]; exact k)
theorem am_laddN {a b : Nat} (hd : decode y.2.1 pc = .ok (.ladd, 1)) (k : am_W G y d bc bs Q (pc + 1) L (.long (lN (a + b)) :: st) h) : am_W G y d bc bs Q pc L (.long (lN b) :: .long (lN a) :: st) h := am_ladd hd (by rw [lN_add]; exact k)
theorem am_lmulN {a b : Nat} (hd : decode y.2.1 pc = .ok (.lmul, 1)) (k : am_W G y d bc bs Q (pc + 1) L (.long (lN (a * b)) :: st) h) : am_W G y d bc bs Q pc L (.long (lN b) :: .long (lN a) :: st) h := am_lmul hd (by rw [lN_mul]; exact k)
theorem am_lsubN {a b : Nat} (hd : decode y.2.1 pc = .ok (.lsub, 1)) (hab : b ≤ a) (k : am_W G y d bc bs Q (pc + 1) L (.long (lN (a - b)) :: st) h) : am_W G y d bc bs Q pc L (.long (lN b) :: .long (lN a) :: st) h := am_lsub hd (by rw [lN_sub hab]; exact k)
/-- the same locals in another order, or fewer -/
theorem am_lo {L' : List (Nat × Value)} (hs : L'.map (fun q => L.lookup q.1) = L'.map (fun q => some q.2)) (k : am_W G y d bc bs Q pc L' (st) h) : am_W G y d bc bs Q pc L (st) h :=
  am_loc (Or.inr trivial) (fun q hq => List.map_inj_left.mp hs q hq) k
end AMZ
/-! the shop: machines, kinds, spans .. as the document tells them -/
abbrev sh_T : Type := Nat × (Nat → Nat) × (Nat → Nat) × (Nat → Nat) × (Nat → Nat) × Nat × (Nat → Nat) × (Nat → Nat) × (Nat → Nat) × (Nat → Nat) × Nat × (Nat → Nat) × (Nat → Nat) × (Nat → Nat) × (Nat → Int32)
abbrev sh_mc (s : sh_T) : Nat := s.1
abbrev sh_kd (s : sh_T) : (Nat → Nat) := s.2.1
abbrev sh_sp (s : sh_T) : (Nat → Nat) := s.2.2.1
abbrev sh_sf (s : sh_T) : (Nat → Nat) := s.2.2.2.1
abbrev sh_st (s : sh_T) : (Nat → Nat) := s.2.2.2.2.1
abbrev sh_jb (s : sh_T) : Nat := s.2.2.2.2.2.1
abbrev sh_du (s : sh_T) : (Nat → Nat) := s.2.2.2.2.2.2.1
abbrev sh_we (s : sh_T) : (Nat → Nat) := s.2.2.2.2.2.2.2.1
abbrev sh_so (s : sh_T) : (Nat → Nat) := s.2.2.2.2.2.2.2.2.1
abbrev sh_sa (s : sh_T) : (Nat → Nat) := s.2.2.2.2.2.2.2.2.2.1
abbrev sh_ss (s : sh_T) : Nat := s.2.2.2.2.2.2.2.2.2.2.1
abbrev sh_sk (s : sh_T) : (Nat → Nat) := s.2.2.2.2.2.2.2.2.2.2.2.1
abbrev sh_sh (s : sh_T) : (Nat → Nat) := s.2.2.2.2.2.2.2.2.2.2.2.2.1
abbrev sh_sw (s : sh_T) : (Nat → Nat) := s.2.2.2.2.2.2.2.2.2.2.2.2.2.1
abbrev sh_sb (s : sh_T) : (Nat → Int32) := s.2.2.2.2.2.2.2.2.2.2.2.2.2.2
def sh_c (s : sh_T) : am_H := [.inr (1, [.int (nI (sh_mc s)), .ref 3, .ref 4, .ref 5, .ref 6, .int (nI (sh_jb s)), .ref 7, .ref 8, .ref 9, .ref 10, .int (nI (sh_ss s)), .ref 11, .ref 12, .ref 13, .ref 14]),
  am_a 6 (sh_kd s), am_a 6 (sh_sp s), am_a 48 (sh_sf s), am_a 48 (sh_st s), am_a 6 (sh_du s), am_a 6 (sh_we s), am_a 6 (sh_so s), am_a 24 (sh_sa s), am_a 24 (sh_sk s), am_a 24 (sh_sh s), am_a 24 (sh_sw s), .inl (0, 24, .inl (sh_sb s))]
/-! the floor: begin, machine of a step; busy rows -/
abbrev fl_T : Type := (Nat → Nat) × (Nat → Nat) × (Nat → Nat) × (Nat → Nat) × (Nat → Nat)
abbrev fl_bg (s : fl_T) : (Nat → Nat) := s.1
abbrev fl_ma (s : fl_T) : (Nat → Nat) := s.2.1
abbrev fl_bc (s : fl_T) : (Nat → Nat) := s.2.2.1
abbrev fl_bf (s : fl_T) : (Nat → Nat) := s.2.2.2.1
abbrev fl_bt (s : fl_T) : (Nat → Nat) := s.2.2.2.2
def fl_c (s : fl_T) : am_H := [.inr (2, [.ref 2, .ref 16, .ref 17, .ref 18, .ref 19, .ref 20]), am_a 24 (fl_bg s), am_a 24 (fl_ma s), am_a 6 (fl_bc s), am_a 192 (fl_bf s), am_a 192 (fl_bt s)]
/-! the search -/
abbrev se_T : Type := Nat × Nat × Nat × Nat × (Nat → Nat) × (Nat → Nat) × (Nat → Bool) × (Nat → Nat)
abbrev se_co (s : se_T) : Nat := s.1
abbrev se_li (s : se_T) : Nat := s.2.1
abbrev se_bo (s : se_T) : Nat := s.2.2.1
abbrev se_no (s : se_T) : Nat := s.2.2.2.1
abbrev se_al (s : se_T) : (Nat → Nat) := s.2.2.2.2.1
abbrev se_be (s : se_T) : (Nat → Nat) := s.2.2.2.2.2.1
abbrev se_ib (s : se_T) : (Nat → Bool) := s.2.2.2.2.2.2.1
abbrev se_bs (s : se_T) : (Nat → Nat) := s.2.2.2.2.2.2.2
def se_c (s : se_T) : am_H := [.inr (3, [.ref 2, .ref 15, .ref 22, .ref 23, .ref 24, .ref 25, .long (lN (se_co s)), .int (nI (se_li s)), .long (lN (se_bo s)), .int (nI (se_no s))]), am_l 6 (se_al s), am_a 6 (se_be s), am_zc 6 (se_ib s), am_a 6 (se_bs s)]
/-! the plan -/
abbrev pl_T : Type := Nat × Nat × Nat × Nat × Nat × Nat × (Nat → Nat) × (Nat → Nat) × (Nat → Nat)
abbrev pl_jb (s : pl_T) : Nat := s.1
abbrev pl_ss (s : pl_T) : Nat := s.2.1
abbrev pl_co (s : pl_T) : Nat := s.2.2.1
abbrev pl_bo (s : pl_T) : Nat := s.2.2.2.1
abbrev pl_no (s : pl_T) : Nat := s.2.2.2.2.1
abbrev pl_mv (s : pl_T) : Nat := s.2.2.2.2.2.1
abbrev pl_ja (s : pl_T) : (Nat → Nat) := s.2.2.2.2.2.2.1
abbrev pl_bg (s : pl_T) : (Nat → Nat) := s.2.2.2.2.2.2.2.1
abbrev pl_ma (s : pl_T) : (Nat → Nat) := s.2.2.2.2.2.2.2.2
def pl_c (s : pl_T) : am_H := [.inr (4, [.ref 2, .ref 27, .ref 28, .ref 29, .int (nI (pl_jb s)), .int (nI (pl_ss s)), .long (lN (pl_co s)), .long (lN (pl_bo s)), .int (nI (pl_no s)), .int (nI (pl_mv s))]), am_a 6 (pl_ja s), am_a 24 (pl_bg s), am_a 24 (pl_ma s)]
def x_c (x : Int64) (t : Bool) : am_E := .inr (0, [.ref 2, .ref 15, .ref 21, .ref 26, .long x, .int (zI t)])
/-- all cells: the object, the shop, the floor, the search, the plan, what lies behind -/
def hx (x : Int64) (t : Bool) (S : sh_T) (F : fl_T) (R : se_T) (P : pl_T) (W : am_H) : am_H := x_c x t :: (sh_c S ++ (fl_c F ++ (se_c R ++ (pl_c P ++ W))))
/-- what was told is as the document lets it be -/
def sh_ok (S : sh_T) : Prop := sh_mc S ≤ 6 ∧ sh_jb S ≤ 6 ∧ sh_ss S ≤ 24 ∧ (∀ m, sh_kd S m < 4) ∧ (∀ m, sh_sp S m ≤ 8) ∧ (∀ i, sh_sf S i ≤ 1000) ∧ (∀ i, sh_st S i ≤ 2000) ∧ (∀ j, sh_du S j ≤ 10000) ∧ (∀ j, sh_we S j ≤ 100) ∧ (∀ j, sh_so S j ≤ 4) ∧ (∀ i, sh_sa S i < 24) ∧
  (∀ s, sh_sk S s < 4) ∧ (∀ s, sh_sh S s ≤ 100) ∧ (∀ s, sh_sw S s ≤ 100)
end
section
/-! the shop's methods -/
section CSH
variable {G : am_G} {x : Int64} {t : Bool} {S : sh_T} {F : fl_T} {R : se_T} {P : pl_T} {W : am_H}
def sp_has (kd : Nat → Nat) : Nat → Nat → Bool
  | 0, _ => false
  | n + 1, k => sp_has kd n k || kd n == k
theorem sp_has_iff (kd : Nat → Nat) (k : Nat) : ∀ n, sp_has kd n k = true ↔ ∃ m, m < n ∧ kd m = k
  | 0 => by simp [sp_has]
  | n + 1 => by
    rw [sp_has, Bool.or_eq_true, sp_has_iff kd k n, beq_iff_eq]
    constructor
    · rintro (⟨m, h1, h2⟩ | h)
      · exact ⟨m, by omega, h2⟩
      · exact ⟨n, by omega, h⟩
    · rintro ⟨m, h1, h2⟩
      rcases Nat.lt_or_ge m n with q | q
      · exact Or.inl ⟨m, q, h2⟩
      · have : m = n := by omega
        subst this
        exact Or.inr h2
theorem sp_has_f {kd : Nat → Nat} {k n : Nat} (h : ∀ m, m < n → kd m ≠ k) : sp_has kd n k = false := by
  cases hb : sp_has kd n k with
  | false => rfl
  | true => obtain ⟨m, h1, h2⟩ := (sp_has_iff kd k n).mp hb; exact absurd h2 (h m h1)
theorem sp_has_t {kd : Nat → Nat} {k n m : Nat} (hm : m < n) (h : kd m = k) : sp_has kd n k = true := (sp_has_iff kd k n).mpr ⟨m, hm, h⟩
set_option maxRecDepth 20000 in
theorem c_S_hasMachine_l (hS : sh_ok S) (d bc bs k : Nat) (hk : k < 4) : ∀ (n i : Nat), i ≤ sh_mc S → sh_mc S - i < n → (∀ m, m < i → sh_kd S m ≠ k) →
    am_W G m_S_hasMachine d bc bs (fun o h' => o = .inl (some (.int (zI (sp_has (sh_kd S) (sh_mc S) k)))) ∧ h' = (hx x t S F R P W)) 2 [(0, .ref 2), (1, .int (nI k)), (2, .int (nI i))] [] (hx x t S F R P W) := by
  intro n
  obtain ⟨s1, s2, s3, s4, -⟩ := hS
  induction n with
  | zero => intro i _ h; omega
  | succ n ih =>
    intro i hi hn hno
    have hki := s4 i
    refine am_iload_n d_S_hasMachine_2 rfl rfl ?_
    refine am_aload_n d_S_hasMachine_3 rfl rfl ?_
    refine am_get F_S 0 (by decide) d_S_hasMachine_4 w_28 rfl rfl ?_
    refine am_icmpN_ge (tgt := 28) d_S_hasMachine_7 (by decide) (by omega) (by omega) (fun c7 => ?_) (fun c7 => ?_)
    · refine am_iconst (v := nI 0) d_S_hasMachine_28 (by decide) ?_
      refine am_zret d_S_hasMachine_29 rfl (by decide) ?_
      refine ⟨?_, rfl⟩
      rw [sp_has_f (fun m hm => hno m (by omega)), zI_f]
    · refine am_aload_n d_S_hasMachine_10 rfl rfl ?_
      refine am_get F_S 1 (by decide) d_S_hasMachine_11 w_31 rfl rfl ?_
      refine am_iload_n d_S_hasMachine_14 rfl rfl ?_
      refine am_ialdA d_S_hasMachine_15 rfl (by omega) (by decide) ?_
      refine am_iload_n d_S_hasMachine_16 rfl rfl ?_
      refine am_icmpN_ne (tgt := 22) d_S_hasMachine_17 (by decide) (by omega) (by omega) (fun c17 => ?_) (fun c17 => ?_)
      · refine am_iinc d_S_hasMachine_22 rfl (am_inc _) (by decide) ?_
        refine am_goto (tgt := 2) d_S_hasMachine_25 (by decide) ?_
        refine am_lo (L' := [(0, .ref 2), (1, .int (nI k)), (2, .int (nI (i + 1)))]) rfl ?_
        refine ih (i + 1) (by omega) (by omega) (fun m hm => ?_)
        rcases Nat.lt_or_ge m i with q | q
        · exact hno m q
        · have : m = i := by omega
          subst this
          exact c17
      · refine am_iconst (v := nI 1) d_S_hasMachine_20 (by decide) ?_
        refine am_zret d_S_hasMachine_21 rfl (by decide) ?_
        refine ⟨?_, rfl⟩
        rw [sp_has_t (m := i) (by omega) c17, zI_t]
theorem c_S_hasMachine (hS : sh_ok S) (d bc bs k : Nat) (hk : k < 4) : am_Fn G m_S_hasMachine d bc bs [.ref 2, .int (nI k)] (hx x t S F R P W) (some (.int (zI (sp_has (sh_kd S) (sh_mc S) k)))) (hx x t S F R P W) := by
  refine am_iconst (v := nI 0) d_S_hasMachine_0 (by decide) ?_
  refine am_istore_n d_S_hasMachine_1 rfl (by decide) ?_
  exact am_lo (L' := [(0, .ref 2), (1, .int (nI k)), (2, .int (nI 0))]) rfl (c_S_hasMachine_l hS d bc bs k hk (sh_mc S + 1) 0 (Nat.zero_le _) (by omega) (fun m hm => absurd hm (Nat.not_lt_zero m)))
def sp_fit (S : sh_T) (j : Nat) : Nat → Bool
  | 0 => true
  | n + 1 => sp_fit S j n && sp_has (sh_kd S) (sh_mc S) (sh_sk S (sh_sa S (j * 4 + n)))
theorem sp_fit_f {S : sh_T} {j i : Nat} (h : sp_has (sh_kd S) (sh_mc S) (sh_sk S (sh_sa S (j * 4 + i))) = false) : ∀ n, i < n → sp_fit S j n = false
  | 0, hi => absurd hi (Nat.not_lt_zero i)
  | n + 1, hi => by
    rw [sp_fit]
    rcases Nat.lt_or_ge i n with q | q
    · rw [sp_fit_f h n q]; rfl
    · have : i = n := by omega
      subst this
      rw [h, Bool.and_false]
def sp_fits (S : sh_T) (j : Nat) : Bool := sp_fit S j (sh_so S j)
def sp_all (S : sh_T) : Nat → Bool
  | 0 => true
  | n + 1 => sp_all S n && sp_fits S n
theorem sp_all_f {S : sh_T} {i : Nat} (h : sp_fits S i = false) : ∀ n, i < n → sp_all S n = false
  | 0, hi => absurd hi (Nat.not_lt_zero i)
  | n + 1, hi => by
    rw [sp_all]
    rcases Nat.lt_or_ge i n with q | q
    · rw [sp_all_f h n q]; rfl
    · have : i = n := by omega
      subst this
      rw [h, Bool.and_false]
set_option maxRecDepth 20000 in
theorem c_S_fits_l (hS : sh_ok S) (d bc bs j : Nat) (hj : j < 6) : ∀ (n i : Nat), i ≤ sh_so S j → sh_so S j - i < n → sp_fit S j i = true →
    am_W G m_S_fits (d + 1) bc bs (fun o h' => o = .inl (some (.int (zI (sp_fits S j)))) ∧ h' = (hx x t S F R P W)) 2 [(0, .ref 2), (1, .int (nI j)), (2, .int (nI i))] [] (hx x t S F R P W) := by
  intro n
  obtain ⟨s1, s2, s3, s4, s5, s6, s7, s8, s9, s10, s11, s12, s13, s14⟩ := id hS
  have t10 := s10 j
  induction n with
  | zero => intro i _ h; omega
  | succ n ih =>
    intro i hi hn hf
    have t11 := s11 (j * 4 + i)
    refine am_iload_n d_S_fits_2 rfl rfl ?_
    refine am_aload_n d_S_fits_3 rfl rfl ?_
    refine am_get F_S 8 (by decide) d_S_fits_4 w_51 rfl rfl ?_
    refine am_iload_n d_S_fits_7 rfl rfl ?_
    refine am_ialdA d_S_fits_8 rfl (by omega) (by decide) ?_
    refine am_icmpN_ge (tgt := 42) d_S_fits_9 (by decide) (by omega) (by omega) (fun c9 => ?_) (fun c9 => ?_)
    · refine am_iconst (v := nI 1) d_S_fits_42 (by decide) ?_
      refine am_zret d_S_fits_43 rfl (by decide) ?_
      refine ⟨?_, rfl⟩
      have : i = sh_so S j := by omega
      rw [show sp_fits S j = true from by rw [sp_fits, ← this]; exact hf, zI_t]
    · refine am_aload_n d_S_fits_12 rfl rfl ?_
      refine am_aload_n d_S_fits_13 rfl rfl ?_
      refine am_get F_S 11 (by decide) d_S_fits_14 w_61 rfl rfl ?_
      refine am_aload_n d_S_fits_17 rfl rfl ?_
      refine am_get F_S 9 (by decide) d_S_fits_18 w_55 rfl rfl ?_
      refine am_iload_n d_S_fits_21 rfl rfl ?_
      refine am_iconst (v := nI 4) d_S_fits_22 (by decide) ?_
      refine am_imulN d_S_fits_23 ?_
      refine am_iload_n d_S_fits_24 rfl rfl ?_
      refine am_iaddN d_S_fits_25 ?_
      refine am_ialdA d_S_fits_26 rfl (by omega) (by decide) ?_
      refine am_ialdA d_S_fits_27 rfl (by omega) (by decide) ?_
      refine am_callF 2 (am_recvV (z := m_S_hasMachine) rfl d_S_fits_28 w_428 w_430 ws_2 w_431 F_S.1 rfl (by decide) np_S_hasMachine) (by decide) (by decide) (Nat.le_of_ble_eq_true rfl) (Nat.le_of_ble_eq_true rfl) (Nat.zero_le _) (Nat.zero_le _) (c_S_hasMachine hS d _ _ _ (s12 _)) ?_
      refine am_ifZ_ne (tgt := 36) d_S_fits_31 (by decide) (fun c31 => ?_) (fun c31 => ?_)
      · refine am_iinc d_S_fits_36 rfl (am_inc _) (by decide) ?_
        refine am_goto (tgt := 2) d_S_fits_39 (by decide) ?_
        exact am_lo (L' := [(0, .ref 2), (1, .int (nI j)), (2, .int (nI (i + 1)))]) rfl (ih (i + 1) (by omega) (by omega) (by rw [sp_fit, hf, c31]; rfl))
      · refine am_iconst (v := nI 0) d_S_fits_34 (by decide) ?_
        refine am_zret d_S_fits_35 rfl (by decide) ?_
        refine ⟨?_, rfl⟩
        rw [show sp_fits S j = false from sp_fit_f c31 _ (by omega), zI_f]
theorem c_S_fits (hS : sh_ok S) (d bc bs j : Nat) (hj : j < 6) : am_Fn G m_S_fits (d + 1) bc bs [.ref 2, .int (nI j)] (hx x t S F R P W) (some (.int (zI (sp_fits S j)))) (hx x t S F R P W) := by
  refine am_iconst (v := nI 0) d_S_fits_0 (by decide) ?_
  refine am_istore_n d_S_fits_1 rfl (by decide) ?_
  exact am_lo (L' := [(0, .ref 2), (1, .int (nI j)), (2, .int (nI 0))]) rfl (c_S_fits_l hS d bc bs j hj (sh_so S j + 1) 0 (Nat.zero_le _) (by omega) rfl)
set_option maxRecDepth 20000 in
theorem c_S_allFit_l (hS : sh_ok S) (d bc bs : Nat) : ∀ (n i : Nat), i ≤ sh_jb S → sh_jb S - i < n → sp_all S i = true →
    am_W G m_S_allFit (d + 2) bc bs (fun o h' => o = .inl (some (.int (zI (sp_all S (sh_jb S))))) ∧ h' = (hx x t S F R P W)) 2 [(0, .ref 2), (1, .int (nI i))] [] (hx x t S F R P W) := by
  intro n
  obtain ⟨s1, s2, s3, s4, s5, s6, s7, s8, s9, s10, s11, s12, s13, s14⟩ := id hS
  induction n with
  | zero => intro i _ h; omega
  | succ n ih =>
    intro i hi hn hf
    refine am_iload_n d_S_allFit_2 rfl rfl ?_
    refine am_aload_n d_S_allFit_3 rfl rfl ?_
    refine am_get F_S 5 (by decide) d_S_allFit_4 w_43 rfl rfl ?_
    refine am_icmpN_ge (tgt := 26) d_S_allFit_7 (by decide) (by omega) (by omega) (fun c7 => ?_) (fun c7 => ?_)
    · refine am_iconst (v := nI 1) d_S_allFit_26 (by decide) ?_
      refine am_zret d_S_allFit_27 rfl (by decide) ?_
      refine ⟨?_, rfl⟩
      have : i = sh_jb S := by omega
      rw [show sp_all S (sh_jb S) = true from by rw [← this]; exact hf, zI_t]
    · refine am_aload_n d_S_allFit_10 rfl rfl ?_
      refine am_iload_n d_S_allFit_11 rfl rfl ?_
      refine am_callF 2 (am_recvV (z := m_S_fits) rfl d_S_allFit_12 w_424 w_425 w_426 w_427 F_S.1 rfl (by decide) np_S_fits) (by decide) (by decide) (Nat.le_of_ble_eq_true rfl) (Nat.le_of_ble_eq_true rfl) (Nat.zero_le _) (Nat.zero_le _) (c_S_fits hS d _ _ _ (by omega)) ?_
      refine am_ifZ_ne (tgt := 20) d_S_allFit_15 (by decide) (fun c15 => ?_) (fun c15 => ?_)
      · refine am_iinc d_S_allFit_20 rfl (am_inc _) (by decide) ?_
        refine am_goto (tgt := 2) d_S_allFit_23 (by decide) ?_
        exact am_lo (L' := [(0, .ref 2), (1, .int (nI (i + 1)))]) rfl (ih (i + 1) (by omega) (by omega) (by rw [sp_all, hf, c15]; rfl))
      · refine am_iconst (v := nI 0) d_S_allFit_18 (by decide) ?_
        refine am_zret d_S_allFit_19 rfl (by decide) ?_
        refine ⟨?_, rfl⟩
        rw [show sp_all S (sh_jb S) = false from sp_all_f c15 _ (by omega), zI_f]
theorem c_S_allFit (hS : sh_ok S) (d bc bs : Nat) : am_Fn G m_S_allFit (d + 2) bc bs [.ref 2] (hx x t S F R P W) (some (.int (zI (sp_all S (sh_jb S))))) (hx x t S F R P W) := by
  refine am_iconst (v := nI 0) d_S_allFit_0 (by decide) ?_
  refine am_istore_n d_S_allFit_1 rfl (by decide) ?_
  exact am_lo (L' := [(0, .ref 2), (1, .int (nI 0))]) rfl (c_S_allFit_l hS d bc bs (sh_jb S + 1) 0 (Nat.zero_le _) (by omega) rfl)
/-- the last step of a job, or NONE -/
def sp_last (S : sh_T) (j : Nat) : Int32 := if sh_so S j = 0 then -1 else nI (sh_sa S (j * 4 + sh_so S j - 1))
theorem c_S_lastStep (hS : sh_ok S) (d bc bs j : Nat) (hj : j < 6) : am_Fn G m_S_lastStep d bc bs [.ref 2, .int (nI j)] (hx x t S F R P W) (some (.int (sp_last S j))) (hx x t S F R P W) := by
  obtain ⟨s1, s2, s3, s4, s5, s6, s7, s8, s9, s10, s11, s12, s13, s14⟩ := id hS
  have t10 := s10 j
  refine am_aload_n d_S_lastStep_0 rfl rfl ?_
  refine am_get F_S 8 (by decide) d_S_lastStep_1 w_51 rfl rfl ?_
  refine am_iload_n d_S_lastStep_4 rfl rfl ?_
  refine am_ialdA d_S_lastStep_5 rfl (by omega) (by decide) ?_
  refine am_ifN_le (tgt := 29) d_S_lastStep_6 (by decide) (by omega) (fun c6 => ?_) (fun c6 => ?_)
  · refine am_iconst (v := -1) d_S_lastStep_29 (by decide) ?_
    refine am_iret d_S_lastStep_30 rfl ?_
    refine ⟨?_, rfl⟩
    first | rw [sp_last, if_pos c6] | rw [sp_last, if_neg (by omega)]
  · refine am_aload_n d_S_lastStep_9 rfl rfl ?_
    refine am_get F_S 9 (by decide) d_S_lastStep_10 w_55 rfl rfl ?_
    refine am_iload_n d_S_lastStep_13 rfl rfl ?_
    refine am_iconst (v := nI 4) d_S_lastStep_14 (by decide) ?_
    refine am_imulN d_S_lastStep_15 ?_
    refine am_aload_n d_S_lastStep_16 rfl rfl ?_
    refine am_get F_S 8 (by decide) d_S_lastStep_17 w_51 rfl rfl ?_
    refine am_iload_n d_S_lastStep_20 rfl rfl ?_
    refine am_ialdA d_S_lastStep_21 rfl (by omega) (by decide) ?_
    refine am_iaddN d_S_lastStep_22 ?_
    refine am_iconst (v := nI 1) d_S_lastStep_23 (by decide) ?_
    refine am_isubN d_S_lastStep_24 (by omega) ?_
    refine am_ialdA d_S_lastStep_25 rfl (by omega) (by decide) ?_
    refine am_goto (tgt := 30) d_S_lastStep_26 (by decide) ?_
    refine am_iret d_S_lastStep_30 rfl ?_
    refine ⟨?_, rfl⟩
    first | rw [sp_last, if_pos c6] | rw [sp_last, if_neg (by omega)]
theorem c_S_addMachine (hS : sh_ok S) (d bc bs k : Nat) (hm : sh_mc S < 6) : am_Fn G m_S_addMachine d bc bs [.ref 2, .int (nI k)] (hx x t S F R P W) (some (.int (nI (sh_mc S)))) (hx x t (sh_mc S + 1, nu (sh_kd S) (sh_mc S) k, S.2.2) F R P W) := by
  refine am_aload_n d_S_addMachine_0 rfl rfl ?_
  refine am_get F_S 0 (by decide) d_S_addMachine_1 w_28 rfl rfl ?_
  refine am_istore_n d_S_addMachine_4 rfl (by decide) ?_
  refine am_aload_n d_S_addMachine_5 rfl rfl ?_
  refine am_get F_S 1 (by decide) d_S_addMachine_6 w_31 rfl rfl ?_
  refine am_iload_n d_S_addMachine_9 rfl rfl ?_
  refine am_iload_n d_S_addMachine_10 rfl rfl ?_
  refine am_iastA d_S_addMachine_11 rfl (by omega) (by decide) ?_
  refine am_aload_n d_S_addMachine_12 rfl rfl ?_
  refine am_dup d_S_addMachine_13 rfl ?_
  refine am_get F_S 0 (by decide) d_S_addMachine_14 w_28 rfl rfl ?_
  refine am_iconst (v := nI 1) d_S_addMachine_17 (by decide) ?_
  refine am_iaddN d_S_addMachine_18 ?_
  refine am_put F_S 0 (by decide) d_S_addMachine_19 w_28 rfl rfl (Nat.le_of_ble_eq_true rfl) rfl rfl ?_
  refine am_iload_n d_S_addMachine_22 rfl rfl ?_
  refine am_iret d_S_addMachine_23 rfl ?_
  exact ⟨rfl, rfl⟩
theorem c_S_addSpan (hS : sh_ok S) (d bc bs m a b : Nat) (hm : m < 6) (hs : sh_sp S m < 8) : am_Fn G m_S_addSpan d bc bs [.ref 2, .int (nI m), .int (nI a), .int (nI b)] (hx x t S F R P W) (some (.int (nI (sh_sp S m + 1))))
    (hx x t (sh_mc S, sh_kd S, nu (sh_sp S) m (sh_sp S m + 1), nu (sh_sf S) (m * 8 + sh_sp S m) a, nu (sh_st S) (m * 8 + sh_sp S m) b, S.2.2.2.2.2) F R P W) := by
  refine am_iload_n d_S_addSpan_0 rfl rfl ?_
  refine am_bipush (v := nI 8) d_S_addSpan_1 (by decide) ?_
  refine am_imulN d_S_addSpan_3 ?_
  refine am_aload_n d_S_addSpan_4 rfl rfl ?_
  refine am_get F_S 2 (by decide) d_S_addSpan_5 w_33 rfl rfl ?_
  refine am_iload_n d_S_addSpan_8 rfl rfl ?_
  refine am_ialdA d_S_addSpan_9 rfl (by omega) (by decide) ?_
  refine am_iaddN d_S_addSpan_10 ?_
  refine am_istore d_S_addSpan_11 (by decide) ?_
  refine am_aload_n d_S_addSpan_13 rfl rfl ?_
  refine am_get F_S 3 (by decide) d_S_addSpan_14 w_37 rfl rfl ?_
  refine am_iload d_S_addSpan_17 rfl ?_
  refine am_iload_n d_S_addSpan_19 rfl rfl ?_
  refine am_iastA d_S_addSpan_20 rfl (by omega) (by decide) ?_
  refine am_aload_n d_S_addSpan_21 rfl rfl ?_
  refine am_get F_S 4 (by decide) d_S_addSpan_22 w_40 rfl rfl ?_
  refine am_iload d_S_addSpan_25 rfl ?_
  refine am_iload_n d_S_addSpan_27 rfl rfl ?_
  refine am_iastA d_S_addSpan_28 rfl (by omega) (by decide) ?_
  refine am_aload_n d_S_addSpan_29 rfl rfl ?_
  refine am_get F_S 2 (by decide) d_S_addSpan_30 w_33 rfl rfl ?_
  refine am_iload_n d_S_addSpan_33 rfl rfl ?_
  refine am_dup2 d_S_addSpan_34 rfl rfl ?_
  refine am_ialdA d_S_addSpan_35 rfl (by omega) (by decide) ?_
  refine am_iconst (v := nI 1) d_S_addSpan_36 (by decide) ?_
  refine am_iaddN d_S_addSpan_37 ?_
  refine am_iastA d_S_addSpan_38 rfl (by omega) (by decide) ?_
  refine am_aload_n d_S_addSpan_39 rfl rfl ?_
  refine am_get F_S 2 (by decide) d_S_addSpan_40 w_33 rfl rfl ?_
  refine am_iload_n d_S_addSpan_43 rfl rfl ?_
  refine am_ialdA d_S_addSpan_44 rfl (by omega) (by decide) ?_
  refine am_iret d_S_addSpan_45 rfl ?_
  refine ⟨?_, rfl⟩
  rw [nu_eq]
theorem c_S_addJob (hS : sh_ok S) (d bc bs a b : Nat) (hm : sh_jb S < 6) : am_Fn G m_S_addJob d bc bs [.ref 2, .int (nI a), .int (nI b)] (hx x t S F R P W) (some (.int (nI (sh_jb S))))
    (hx x t (sh_mc S, sh_kd S, sh_sp S, sh_sf S, sh_st S, sh_jb S + 1, nu (sh_du S) (sh_jb S) a, nu (sh_we S) (sh_jb S) b, S.2.2.2.2.2.2.2.2) F R P W) := by
  refine am_aload_n d_S_addJob_0 rfl rfl ?_
  refine am_get F_S 5 (by decide) d_S_addJob_1 w_43 rfl rfl ?_
  refine am_istore_n d_S_addJob_4 rfl (by decide) ?_
  refine am_aload_n d_S_addJob_5 rfl rfl ?_
  refine am_get F_S 6 (by decide) d_S_addJob_6 w_47 rfl rfl ?_
  refine am_iload_n d_S_addJob_9 rfl rfl ?_
  refine am_iload_n d_S_addJob_10 rfl rfl ?_
  refine am_iastA d_S_addJob_11 rfl (by omega) (by decide) ?_
  refine am_aload_n d_S_addJob_12 rfl rfl ?_
  refine am_get F_S 7 (by decide) d_S_addJob_13 w_50 rfl rfl ?_
  refine am_iload_n d_S_addJob_16 rfl rfl ?_
  refine am_iload_n d_S_addJob_17 rfl rfl ?_
  refine am_iastA d_S_addJob_18 rfl (by omega) (by decide) ?_
  refine am_aload_n d_S_addJob_19 rfl rfl ?_
  refine am_dup d_S_addJob_20 rfl ?_
  refine am_get F_S 5 (by decide) d_S_addJob_21 w_43 rfl rfl ?_
  refine am_iconst (v := nI 1) d_S_addJob_24 (by decide) ?_
  refine am_iaddN d_S_addJob_25 ?_
  refine am_put F_S 5 (by decide) d_S_addJob_26 w_43 rfl rfl (Nat.le_of_ble_eq_true rfl) rfl rfl ?_
  refine am_iload_n d_S_addJob_29 rfl rfl ?_
  refine am_iret d_S_addJob_30 rfl ?_
  exact ⟨rfl, rfl⟩
/-- what was told, with a step more -/
def sp_addStep (S : sh_T) (j k h w : Nat) : sh_T := (sh_mc S, sh_kd S, sh_sp S, sh_sf S, sh_st S, sh_jb S, sh_du S, sh_we S, nu (sh_so S) j (sh_so S j + 1), nu (sh_sa S) (j * 4 + sh_so S j) (sh_ss S), sh_ss S + 1, nu (sh_sk S) (sh_ss S) k, nu (sh_sh S) (sh_ss S) h, nu (sh_sw S) (sh_ss S) w, upd (sh_sb S) (sh_ss S) (sp_last S j))
theorem c_S_addStep (hS : sh_ok S) (d bc bs j k h w : Nat) (hj : j < 6) (hs : sh_ss S < 24) (hso : sh_so S j < 4) (hk : k < 4) (hh : h ≤ 100) (hw : w ≤ 100) : am_Fn G m_S_addStep (d + 1) bc bs [.ref 2, .int (nI j), .int (nI k), .int (nI h), .int (nI w)] (hx x t S F R P W) (some (.int (nI (sh_ss S))))
    (hx x t (sp_addStep S j k h w) F R P W) := by
  obtain ⟨s1, s2, s3, s4, s5, s6, s7, s8, s9, s10, s11, s12, s13, s14⟩ := id hS
  have hS1 : sh_ok (sh_mc S, sh_kd S, sh_sp S, sh_sf S, sh_st S, sh_jb S, sh_du S, sh_we S, sh_so S, sh_sa S, sh_ss S, nu (sh_sk S) (sh_ss S) k, nu (sh_sh S) (sh_ss S) h, nu (sh_sw S) (sh_ss S) w, sh_sb S) := by
    refine ⟨s1, s2, s3, s4, s5, s6, s7, s8, s9, s10, s11, fun i => ?_, fun i => ?_, fun i => ?_⟩
    · show nu (sh_sk S) (sh_ss S) k i < 4
      unfold nu; split
      · exact hk
      · exact s12 i
    · show nu (sh_sh S) (sh_ss S) h i ≤ 100
      unfold nu; split
      · exact hh
      · exact s13 i
    · show nu (sh_sw S) (sh_ss S) w i ≤ 100
      unfold nu; split
      · exact hw
      · exact s14 i
  refine am_aload_n d_S_addStep_0 rfl rfl ?_
  refine am_get F_S 10 (by decide) d_S_addStep_1 w_58 rfl rfl ?_
  refine am_istore d_S_addStep_4 (by decide) ?_
  refine am_aload_n d_S_addStep_6 rfl rfl ?_
  refine am_get F_S 11 (by decide) d_S_addStep_7 w_61 rfl rfl ?_
  refine am_iload d_S_addStep_10 rfl ?_
  refine am_iload_n d_S_addStep_12 rfl rfl ?_
  refine am_iastA d_S_addStep_13 rfl (by omega) (by decide) ?_
  refine am_aload_n d_S_addStep_14 rfl rfl ?_
  refine am_get F_S 12 (by decide) d_S_addStep_15 w_63 rfl rfl ?_
  refine am_iload d_S_addStep_18 rfl ?_
  refine am_iload_n d_S_addStep_20 rfl rfl ?_
  refine am_iastA d_S_addStep_21 rfl (by omega) (by decide) ?_
  refine am_aload_n d_S_addStep_22 rfl rfl ?_
  refine am_get F_S 13 (by decide) d_S_addStep_23 w_66 rfl rfl ?_
  refine am_iload d_S_addStep_26 rfl ?_
  refine am_iload d_S_addStep_28 rfl ?_
  refine am_iastA d_S_addStep_30 rfl (by omega) (by decide) ?_
  refine am_aload_n d_S_addStep_31 rfl rfl ?_
  refine am_get F_S 14 (by decide) d_S_addStep_32 w_69 rfl rfl ?_
  refine am_iload d_S_addStep_35 rfl ?_
  refine am_aload_n d_S_addStep_37 rfl rfl ?_
  refine am_iload_n d_S_addStep_38 rfl rfl ?_
  refine am_callF 2 (am_recvV (z := m_S_lastStep) rfl d_S_addStep_39 w_408 w_409 w_410 w_411 F_S.1 rfl (by decide) np_S_lastStep) (by decide) (by decide) (Nat.le_of_ble_eq_true rfl) (Nat.le_of_ble_eq_true rfl) (Nat.zero_le _) (Nat.zero_le _) (c_S_lastStep (S := (sh_mc S, sh_kd S, sh_sp S, sh_sf S, sh_st S, sh_jb S, sh_du S, sh_we S, sh_so S, sh_sa S, sh_ss S, nu (sh_sk S) (sh_ss S) k, nu (sh_sh S) (sh_ss S) h, nu (sh_sw S) (sh_ss S) w, sh_sb S)) hS1 _ _ _ j hj) ?_
  refine am_iastN _ d_S_addStep_42 rfl rfl (by omega) (by decide) ?_
  refine am_aload_n d_S_addStep_43 rfl rfl ?_
  refine am_get F_S 9 (by decide) d_S_addStep_44 w_55 rfl rfl ?_
  refine am_iload_n d_S_addStep_47 rfl rfl ?_
  refine am_iconst (v := nI 4) d_S_addStep_48 (by decide) ?_
  refine am_imulN d_S_addStep_49 ?_
  refine am_aload_n d_S_addStep_50 rfl rfl ?_
  refine am_get F_S 8 (by decide) d_S_addStep_51 w_51 rfl rfl ?_
  refine am_iload_n d_S_addStep_54 rfl rfl ?_
  refine am_ialdA d_S_addStep_55 rfl (by omega) (by decide) ?_
  refine am_iaddN d_S_addStep_56 ?_
  refine am_iload d_S_addStep_57 rfl ?_
  refine am_iastA d_S_addStep_59 rfl (by show j * 4 + sh_so S j < 24; omega) (by decide) ?_
  refine am_aload_n d_S_addStep_60 rfl rfl ?_
  refine am_get F_S 8 (by decide) d_S_addStep_61 w_51 rfl rfl ?_
  refine am_iload_n d_S_addStep_64 rfl rfl ?_
  refine am_dup2 d_S_addStep_65 rfl rfl ?_
  refine am_ialdA d_S_addStep_66 rfl (by omega) (by decide) ?_
  refine am_iconst (v := nI 1) d_S_addStep_67 (by decide) ?_
  refine am_iaddN d_S_addStep_68 ?_
  refine am_iastA d_S_addStep_69 rfl (by omega) (by decide) ?_
  refine am_aload_n d_S_addStep_70 rfl rfl ?_
  refine am_dup d_S_addStep_71 rfl ?_
  refine am_get F_S 10 (by decide) d_S_addStep_72 w_58 rfl rfl ?_
  refine am_iconst (v := nI 1) d_S_addStep_75 (by decide) ?_
  refine am_iaddN d_S_addStep_76 ?_
  refine am_put F_S 10 (by decide) d_S_addStep_77 w_58 rfl rfl (Nat.le_of_ble_eq_true rfl) rfl rfl ?_
  refine am_iload d_S_addStep_80 rfl ?_
  refine am_iret d_S_addStep_82 rfl ?_
  exact ⟨rfl, rfl⟩
theorem c_S_costOf (hS : sh_ok S) (d bc bs j e : Nat) (hj : j < 6) (he : e < 2 ^ 31) : am_Fn G m_S_costOf d bc bs [.ref 2, .int (nI j), .int (nI e)] (hx x t S F R P W) (some (.long (lN ((e - sh_du S j) * sh_we S j)))) (hx x t S F R P W) := by
  obtain ⟨s1, s2, s3, s4, s5, s6, s7, s8, s9, s10, s11, s12, s13, s14⟩ := id hS
  have t8 := s8 j
  have t9 := s9 j
  refine am_iload_n d_S_costOf_0 rfl rfl ?_
  refine am_i2lN d_S_costOf_1 (by omega) ?_
  refine am_aload_n d_S_costOf_2 rfl rfl ?_
  refine am_get F_S 6 (by decide) d_S_costOf_3 w_47 rfl rfl ?_
  refine am_iload_n d_S_costOf_6 rfl rfl ?_
  refine am_ialdA d_S_costOf_7 rfl (by omega) (by decide) ?_
  refine am_i2lN d_S_costOf_8 (by omega) ?_
  refine am_lsub d_S_costOf_9 ?_
  refine am_lstore_n d_S_costOf_10 rfl (by decide) ?_
  refine am_lload_n d_S_costOf_11 rfl rfl ?_
  refine am_lconst (v := 0) d_S_costOf_12 rfl ?_
  refine am_lcmp d_S_costOf_13 ?_
  refine am_if_le (tgt := 29) d_S_costOf_14 (by decide) (fun c14 => ?_) (fun c14 => ?_)
  · refine am_lconst (v := 0) d_S_costOf_29 rfl ?_
    refine am_lret d_S_costOf_30 rfl ?_
    refine ⟨?_, rfl⟩
    first | (have q := (l_late (by omega) (by omega)).mp ((lg_cmp_le _ _).mp c14); rw [Nat.sub_eq_zero_of_le q, Nat.zero_mul]; rfl) | (have q : sh_du S j < e := Nat.not_le.mp fun q => c14 ((lg_cmp_le _ _).mpr ((l_late (by omega) (by omega)).mpr q)); rw [lN_sub (Nat.le_of_lt q), lN_mul])
  · refine am_lload_n d_S_costOf_17 rfl rfl ?_
    refine am_aload_n d_S_costOf_18 rfl rfl ?_
    refine am_get F_S 7 (by decide) d_S_costOf_19 w_50 rfl rfl ?_
    refine am_iload_n d_S_costOf_22 rfl rfl ?_
    refine am_ialdA d_S_costOf_23 rfl (by omega) (by decide) ?_
    refine am_i2lN d_S_costOf_24 (by omega) ?_
    refine am_lmul d_S_costOf_25 ?_
    refine am_goto (tgt := 30) d_S_costOf_26 (by decide) ?_
    refine am_lret d_S_costOf_30 rfl ?_
    refine ⟨?_, rfl⟩
    first | (have q := (l_late (by omega) (by omega)).mp ((lg_cmp_le _ _).mp c14); rw [Nat.sub_eq_zero_of_le q, Nat.zero_mul]; rfl) | (have q : sh_du S j < e := Nat.not_le.mp fun q => c14 ((lg_cmp_le _ _).mpr ((l_late (by omega) (by omega)).mpr q)); rw [lN_sub (Nat.le_of_lt q), lN_mul])
end CSH
end
section
/-! PURE: the first hour that is free of a row of busy times -/
/-- no busy time (fr i, to i), i below c, shares an hour with n hours from h on -/
def mm_ok (fr to : Nat → Nat) (c n h : Nat) : Prop := ∀ i, i < c → ¬ (h < to i ∧ fr i < h + n)
/-- one look along the row -/
def mm_pass (fr to : Nat → Nat) (n : Nat) : Nat → Nat → Nat × Bool
  | 0, h => (h, false)
  | i + 1, h => if (mm_pass fr to n i h).1 < to i ∧ fr i < (mm_pass fr to n i h).1 + n then (to i, true) else mm_pass fr to n i h
theorem mm_pass_ge (fr to : Nat → Nat) (n h : Nat) : ∀ c, h ≤ (mm_pass fr to n c h).1
  | 0 => Nat.le_refl h
  | c + 1 => by
    have := mm_pass_ge fr to n h c
    unfold mm_pass
    split
    · show h ≤ to c
      omega
    · exact this
theorem mm_pass_le (fr to : Nat → Nat) (n h g : Nat) (hg : h ≤ g) : ∀ c, mm_ok fr to c n g → (mm_pass fr to n c h).1 ≤ g
  | 0, _ => hg
  | c + 1, ok => by
    have h1 := mm_pass_le fr to n h g hg c (fun i hi => ok i (by omega))
    have h2 := ok c (by omega)
    unfold mm_pass
    split
    · show to c ≤ g
      omega
    · exact h1
theorem mm_pass_false (fr to : Nat → Nat) (n h : Nat) : ∀ c, (mm_pass fr to n c h).2 = false → (mm_pass fr to n c h).1 = h ∧ mm_ok fr to c n h
  | 0, _ => ⟨rfl, fun i hi => absurd hi (Nat.not_lt_zero i)⟩
  | c + 1, hf => by
    unfold mm_pass at hf ⊢
    split at hf
    · cases hf
    · rename_i hc
      obtain ⟨h1, h2⟩ := mm_pass_false fr to n h c hf
      rw [if_neg hc]
      refine ⟨h1, fun i hi => ?_⟩
      rcases Nat.lt_or_ge i c with q | q
      · exact h2 i q
      · have : i = c := by omega
        subst this
        rw [h1] at hc
        exact hc
/-- how many busy times end behind h -/
def mm_left (to : Nat → Nat) : Nat → Nat → Nat
  | 0, _ => 0
  | c + 1, h => mm_left to c h + if h < to c then 1 else 0
theorem mm_left_mono (to : Nat → Nat) {h g : Nat} (hg : h ≤ g) : ∀ c, mm_left to c g ≤ mm_left to c h
  | 0 => Nat.le_refl 0
  | c + 1 => by
    have := mm_left_mono to hg c
    unfold mm_left
    split <;> split <;> omega
theorem mm_left_le (to : Nat → Nat) (h : Nat) : ∀ c, mm_left to c h ≤ c
  | 0 => Nat.le_refl 0
  | c + 1 => by
    have := mm_left_le to h c
    unfold mm_left
    split <;> omega
theorem mm_left_lt (to : Nat → Nat) {h g i : Nat} (hg : h ≤ g) (hi : h < to i) (gi : to i ≤ g) : ∀ c, i < c → mm_left to c g < mm_left to c h
  | 0, hc => absurd hc (Nat.not_lt_zero i)
  | c + 1, hc => by
    have hm := mm_left_mono to hg c
    unfold mm_left
    rcases Nat.lt_or_ge i c with q | q
    · have := mm_left_lt to hg hi gi c q
      split <;> split <;> omega
    · have : i = c := by omega
      subst this
      rw [if_neg (by omega), if_pos hi]
      omega
theorem mm_pass_true (fr to : Nat → Nat) (n h : Nat) : ∀ c, (mm_pass fr to n c h).2 = true → ∃ i, i < c ∧ h < to i ∧ to i ≤ (mm_pass fr to n c h).1
  | 0, hf => by cases hf
  | c + 1, hf => by
    have hge := mm_pass_ge fr to n h c
    unfold mm_pass at hf ⊢
    split at hf
    · rename_i hc
      rw [if_pos hc]
      exact ⟨c, by omega, by omega, Nat.le_refl _⟩
    · rename_i hc
      rw [if_neg hc]
      obtain ⟨i, h1, h2, h3⟩ := mm_pass_true fr to n h c hf
      exact ⟨i, by omega, h2, h3⟩
theorem mm_pass_falls (fr to : Nat → Nat) (n h c : Nat) (hf : (mm_pass fr to n c h).2 = true) : mm_left to c (mm_pass fr to n c h).1 < mm_left to c h := by
  obtain ⟨i, h1, h2, h3⟩ := mm_pass_true fr to n h c hf
  exact mm_left_lt to (mm_pass_ge fr to n h c) h2 h3 c h1
/-- g is the first hour from h on that is free -/
def mm_first (fr to : Nat → Nat) (c n h g : Nat) : Prop := h ≤ g ∧ mm_ok fr to c n g ∧ ∀ k, h ≤ k → mm_ok fr to c n k → g ≤ k
theorem mm_first_one {fr to : Nat → Nat} {c n h g g' : Nat} (a : mm_first fr to c n h g) (b : mm_first fr to c n h g') : g = g' :=
  Nat.le_antisymm (a.2.2 g' b.1 b.2.1) (b.2.2 g a.1 a.2.1)
theorem mm_pass_bd (fr to : Nat → Nat) (n h B : Nat) (hh : h ≤ B) : ∀ c, (∀ i, i < c → to i ≤ B) → (mm_pass fr to n c h).1 ≤ B
  | 0, _ => hh
  | c + 1, hb => by
    have h1 := mm_pass_bd fr to n h B hh c (fun i hi => hb i (by omega))
    have h2 := hb c (by omega)
    unfold mm_pass
    split
    · exact h2
    · exact h1
/-- look after look, k at the most, while one moves -/
def mm_it (fr to : Nat → Nat) (c n : Nat) : Nat → Nat → Nat
  | 0, h => h
  | k + 1, h => if (mm_pass fr to n c h).2 then mm_it fr to c n k (mm_pass fr to n c h).1 else h
theorem mm_it_bd (fr to : Nat → Nat) (c n B : Nat) (hb : ∀ i, i < c → to i ≤ B) : ∀ k h, h ≤ B → mm_it fr to c n k h ≤ B
  | 0, h, hh => hh
  | k + 1, h, hh => by
    unfold mm_it
    split
    · exact mm_it_bd fr to c n B hb k _ (mm_pass_bd fr to n h B hh c hb)
    · exact hh
/-- with looks enough it is the first free hour -/
theorem mm_it_first (fr to : Nat → Nat) (c n : Nat) : ∀ k h, mm_left to c h < k → mm_first fr to c n h (mm_it fr to c n k h)
  | 0, h, hk => absurd hk (Nat.not_lt_zero _)
  | k + 1, h, hk => by
    unfold mm_it
    cases hm : (mm_pass fr to n c h).2 with
    | false =>
      obtain ⟨-, h2⟩ := mm_pass_false fr to n h c hm
      exact ⟨Nat.le_refl _, h2, fun g hg _ => hg⟩
    | true =>
      have hf := mm_pass_falls fr to n h c hm
      obtain ⟨a1, a2, a3⟩ := mm_it_first fr to c n k (mm_pass fr to n c h).1 (by omega)
      have hge := mm_pass_ge fr to n h c
      exact ⟨Nat.le_trans hge a1, a2, fun g hg ok => a3 g (mm_pass_le fr to n h g hg c ok) ok⟩
end
section
/-! the floor's methods -/
section CFL
variable {G : am_G} {x : Int64} {t : Bool} {S : sh_T} {F : fl_T} {R : se_T} {P : pl_T} {W : am_H}
def sp_in (n l m : Int32) : Bool := decide (¬ n < l) && decide (¬ m < n)
theorem c_X_isWithin {h : am_H} (d bc bs : Nat) (n l m : Int32) : am_Fn G m_X_isWithin d bc bs [.int n, .int l, .int m] h (some (.int (zI (sp_in n l m)))) h := by
  refine am_iload_n d_X_isWithin_0 rfl rfl ?_
  refine am_iload_n d_X_isWithin_1 rfl rfl ?_
  refine am_icmp_lt (tgt := 14) d_X_isWithin_2 (by decide) (fun c2 => ?_) (fun c2 => ?_)
  · refine am_iconst (v := nI 0) d_X_isWithin_14 (by decide) ?_
    refine am_zret d_X_isWithin_15 rfl (by decide) ?_
    refine ⟨?_, rfl⟩
    first | (rw [sp_in, decide_eq_false (by simpa using c2)]; rfl) | (rw [sp_in, decide_eq_true c2, decide_eq_false (by simpa using c7)]; rfl) | (rw [sp_in, decide_eq_true c2, decide_eq_true c7]; rfl)
  · refine am_iload_n d_X_isWithin_5 rfl rfl ?_
    refine am_iload_n d_X_isWithin_6 rfl rfl ?_
    refine am_icmp_gt (tgt := 14) d_X_isWithin_7 (by decide) (fun c7 => ?_) (fun c7 => ?_)
    · refine am_iconst (v := nI 0) d_X_isWithin_14 (by decide) ?_
      refine am_zret d_X_isWithin_15 rfl (by decide) ?_
      refine ⟨?_, rfl⟩
      first | (rw [sp_in, decide_eq_false (by simpa using c2)]; rfl) | (rw [sp_in, decide_eq_true c2, decide_eq_false (by simpa using c7)]; rfl) | (rw [sp_in, decide_eq_true c2, decide_eq_true c7]; rfl)
    · refine am_iconst (v := nI 1) d_X_isWithin_10 (by decide) ?_
      refine am_goto (tgt := 15) d_X_isWithin_11 (by decide) ?_
      refine am_zret d_X_isWithin_15 rfl (by decide) ?_
      refine ⟨?_, rfl⟩
      first | (rw [sp_in, decide_eq_false (by simpa using c2)]; rfl) | (rw [sp_in, decide_eq_true c2, decide_eq_false (by simpa using c7)]; rfl) | (rw [sp_in, decide_eq_true c2, decide_eq_true c7]; rfl)
def sp_meets (a b c e : Nat) : Bool := decide (a < e) && decide (c < b)
theorem c_X_shareAnHour {h : am_H} (d bc bs a b c e : Nat) (ha : a < 2 ^ 31) (hb : b < 2 ^ 31) (hc : c < 2 ^ 31) (he : e < 2 ^ 31) : am_Fn G m_X_shareAnHour d bc bs [.int (nI a), .int (nI b), .int (nI c), .int (nI e)] h (some (.int (zI (sp_meets a b c e)))) h := by
  refine am_iload_n d_X_shareAnHour_0 rfl rfl ?_
  refine am_iload_n d_X_shareAnHour_1 rfl rfl ?_
  refine am_icmpN_ge (tgt := 14) d_X_shareAnHour_2 (by decide) (by omega) (by omega) (fun c2 => ?_) (fun c2 => ?_)
  · refine am_iconst (v := nI 0) d_X_shareAnHour_14 (by decide) ?_
    refine am_zret d_X_shareAnHour_15 rfl (by decide) ?_
    refine ⟨?_, rfl⟩
    first | (rw [sp_meets, decide_eq_false (by omega)]; rfl) | (rw [sp_meets, decide_eq_true c2, decide_eq_false (by omega)]; rfl) | (rw [sp_meets, decide_eq_true (by omega), decide_eq_true (by omega)]; rfl)
  · refine am_iload_n d_X_shareAnHour_5 rfl rfl ?_
    refine am_iload_n d_X_shareAnHour_6 rfl rfl ?_
    refine am_icmpN_ge (tgt := 14) d_X_shareAnHour_7 (by decide) (by omega) (by omega) (fun c7 => ?_) (fun c7 => ?_)
    · refine am_iconst (v := nI 0) d_X_shareAnHour_14 (by decide) ?_
      refine am_zret d_X_shareAnHour_15 rfl (by decide) ?_
      refine ⟨?_, rfl⟩
      first | (rw [sp_meets, decide_eq_false (by omega)]; rfl) | (rw [sp_meets, decide_eq_true c2, decide_eq_false (by omega)]; rfl) | (rw [sp_meets, decide_eq_true (by omega), decide_eq_true (by omega)]; rfl)
    · refine am_iconst (v := nI 1) d_X_shareAnHour_10 (by decide) ?_
      refine am_goto (tgt := 15) d_X_shareAnHour_11 (by decide) ?_
      refine am_zret d_X_shareAnHour_15 rfl (by decide) ?_
      refine ⟨?_, rfl⟩
      first | (rw [sp_meets, decide_eq_false (by omega)]; rfl) | (rw [sp_meets, decide_eq_true c2, decide_eq_false (by omega)]; rfl) | (rw [sp_meets, decide_eq_true (by omega), decide_eq_true (by omega)]; rfl)
/-- a busy time more of a machine -/
def fl_add (f : fl_T) (m a b : Nat) : fl_T := if fl_bc f m < 32 then (fl_bg f, fl_ma f, nu (fl_bc f) m (fl_bc f m + 1), nu (fl_bf f) (m * 32 + fl_bc f m) a, nu (fl_bt f) (m * 32 + fl_bc f m) b) else f
theorem c_F_addBusy (d bc bs m a b : Nat) (hm : m < 6) (hc : fl_bc F m < 2 ^ 31) : am_Fn G m_F_addBusy d bc bs [.ref 15, .int (nI m), .int (nI a), .int (nI b)] (hx x t S F R P W) none (hx x t S (fl_add F m a b) R P W) := by
  refine am_aload_n d_F_addBusy_0 rfl rfl ?_
  refine am_get F_F 3 (by decide) d_F_addBusy_1 w_114 rfl rfl ?_
  refine am_iload_n d_F_addBusy_4 rfl rfl ?_
  refine am_ialdA d_F_addBusy_5 rfl (by omega) (by decide) ?_
  refine am_bipush (v := nI 32) d_F_addBusy_6 (by decide) ?_
  refine am_icmpN_ge (tgt := 50) d_F_addBusy_8 (by decide) (by omega) (by omega) (fun c8 => ?_) (fun c8 => ?_)
  · refine am_vret d_F_addBusy_50 rfl ?_
    refine ⟨rfl, ?_⟩
    first | (rw [fl_add, if_neg (by omega)]; done) | (rw [fl_add, if_pos (by omega)]; rfl)
  · refine am_iload_n d_F_addBusy_11 rfl rfl ?_
    refine am_bipush (v := nI 32) d_F_addBusy_12 (by decide) ?_
    refine am_imulN d_F_addBusy_14 ?_
    refine am_aload_n d_F_addBusy_15 rfl rfl ?_
    refine am_get F_F 3 (by decide) d_F_addBusy_16 w_114 rfl rfl ?_
    refine am_iload_n d_F_addBusy_19 rfl rfl ?_
    refine am_ialdA d_F_addBusy_20 rfl (by omega) (by decide) ?_
    refine am_iaddN d_F_addBusy_21 ?_
    refine am_istore d_F_addBusy_22 (by decide) ?_
    refine am_aload_n d_F_addBusy_24 rfl rfl ?_
    refine am_get F_F 4 (by decide) d_F_addBusy_25 w_115 rfl rfl ?_
    refine am_iload d_F_addBusy_28 rfl ?_
    refine am_iload_n d_F_addBusy_30 rfl rfl ?_
    refine am_iastA d_F_addBusy_31 rfl (by omega) (by decide) ?_
    refine am_aload_n d_F_addBusy_32 rfl rfl ?_
    refine am_get F_F 5 (by decide) d_F_addBusy_33 w_116 rfl rfl ?_
    refine am_iload d_F_addBusy_36 rfl ?_
    refine am_iload_n d_F_addBusy_38 rfl rfl ?_
    refine am_iastA d_F_addBusy_39 rfl (by omega) (by decide) ?_
    refine am_aload_n d_F_addBusy_40 rfl rfl ?_
    refine am_get F_F 3 (by decide) d_F_addBusy_41 w_114 rfl rfl ?_
    refine am_iload_n d_F_addBusy_44 rfl rfl ?_
    refine am_dup2 d_F_addBusy_45 rfl rfl ?_
    refine am_ialdA d_F_addBusy_46 rfl (by omega) (by decide) ?_
    refine am_iconst (v := nI 1) d_F_addBusy_47 (by decide) ?_
    refine am_iaddN d_F_addBusy_48 ?_
    refine am_iastA d_F_addBusy_49 rfl (by omega) (by decide) ?_
    refine am_vret d_F_addBusy_50 rfl ?_
    refine ⟨rfl, ?_⟩
    first | (rw [fl_add, if_neg (by omega)]; done) | (rw [fl_add, if_pos (by omega)]; rfl)
/-- a machine's row of busy times -/
def fl_fr (f : fl_T) (m : Nat) : Nat → Nat := fun i => fl_bf f (m * 32 + i)
def fl_to (f : fl_T) (m : Nat) : Nat → Nat := fun i => fl_bt f (m * 32 + i)
def fl_first (f : fl_T) (m r n : Nat) : Nat := mm_it (fl_fr f m) (fl_to f m) (fl_bc f m) n 33 r
/-- the floor's numbers are small -/
def fl_sm (N : Nat) (f : fl_T) (B : Nat) : Prop := (∀ m, m < N → fl_bc f m ≤ 32) ∧ (∀ m i, m < N → i < fl_bc f m → fl_bf f (m * 32 + i) ≤ B ∧ fl_bt f (m * 32 + i) ≤ B)
set_option maxRecDepth 20000 in
theorem c_F_firstBegin_i {Q : am_O → am_H → Prop} {N : Nat} (hN : N ≤ 6) (d bc bs m r n k h B : Nat) (hm : m < N) (hF : fl_sm N F B) (hB : B ≤ 1000000) (hn : n ≤ 100) (hh : h ≤ B) (hk : k ≤ 32)
    (hend : am_W G m_F_firstBegin (d + 1) bc bs Q 15 [(0, .ref 15), (1, .int (nI m)), (2, .int (nI r)), (3, .int (nI n)), (4, .int (nI (mm_pass (fl_fr F m) (fl_to F m) n (fl_bc F m) h).1)), (5, .int (nI (m * 32))), (6, .int (zI (mm_pass (fl_fr F m) (fl_to F m) n (fl_bc F m) h).2)), (7, .int (nI (k + 1)))] [] (hx x t S F R P W)) :
    ∀ (g j : Nat), j ≤ fl_bc F m → fl_bc F m - j < g → am_W G m_F_firstBegin (d + 1) bc bs Q 34 [(0, .ref 15), (1, .int (nI m)), (2, .int (nI r)), (3, .int (nI n)), (4, .int (nI (mm_pass (fl_fr F m) (fl_to F m) n j h).1)), (5, .int (nI (m * 32))), (6, .int (zI (mm_pass (fl_fr F m) (fl_to F m) n j h).2)), (7, .int (nI k)), (8, .int (nI (m * 32 + j)))] [] (hx x t S F R P W) := by
  intro g
  have hc := hF.1 m hm
  induction g with
  | zero => intro j _ h; omega
  | succ g ih =>
    intro j hj hg
    have hp : (mm_pass (fl_fr F m) (fl_to F m) n j h).1 ≤ B := mm_pass_bd _ _ _ _ _ hh j (fun i hi => (hF.2 m i hm (by omega)).2)
    have hp2 : j < fl_bc F m → fl_bf F (m * 32 + j) ≤ B ∧ fl_bt F (m * 32 + j) ≤ B := fun q => hF.2 m j hm q
    refine am_iload d_F_firstBegin_34 rfl ?_
    refine am_iload d_F_firstBegin_36 rfl ?_
    refine am_aload_n d_F_firstBegin_38 rfl rfl ?_
    refine am_get F_F 3 (by decide) d_F_firstBegin_39 w_114 rfl rfl ?_
    refine am_iload_n d_F_firstBegin_42 rfl rfl ?_
    refine am_ialdA d_F_firstBegin_43 rfl (by omega) (by decide) ?_
    refine am_iaddN d_F_firstBegin_44 ?_
    refine am_icmpN_ge (tgt := 92) d_F_firstBegin_45 (by decide) (by omega) (by omega) (fun c45 => ?_) (fun c45 => ?_)
    · refine am_iinc d_F_firstBegin_92 rfl (am_inc _) (by decide) ?_
      refine am_goto (tgt := 15) d_F_firstBegin_95 (by decide) ?_
      have e : j = fl_bc F m := by omega
      subst e
      exact am_lo (L' := [(0, .ref 15), (1, .int (nI m)), (2, .int (nI r)), (3, .int (nI n)), (4, .int (nI (mm_pass (fl_fr F m) (fl_to F m) n (fl_bc F m) h).1)), (5, .int (nI (m * 32))), (6, .int (zI (mm_pass (fl_fr F m) (fl_to F m) n (fl_bc F m) h).2)), (7, .int (nI (k + 1)))]) rfl hend
    · refine am_iload d_F_firstBegin_48 rfl ?_
      refine am_iload d_F_firstBegin_50 rfl ?_
      refine am_iload_n d_F_firstBegin_52 rfl rfl ?_
      refine am_iaddN d_F_firstBegin_53 ?_
      refine am_aload_n d_F_firstBegin_54 rfl rfl ?_
      refine am_get F_F 4 (by decide) d_F_firstBegin_55 w_115 rfl rfl ?_
      refine am_iload d_F_firstBegin_58 rfl ?_
      refine am_ialdA d_F_firstBegin_60 rfl (by omega) (by decide) ?_
      refine am_aload_n d_F_firstBegin_61 rfl rfl ?_
      refine am_get F_F 5 (by decide) d_F_firstBegin_62 w_116 rfl rfl ?_
      refine am_iload d_F_firstBegin_65 rfl ?_
      refine am_ialdA d_F_firstBegin_67 rfl (by omega) (by decide) ?_
      refine am_callF 4 (am_lkSN (host := "WorkPlans") (z := m_X_shareAnHour) d_F_firstBegin_68 (by decide +kernel) w_462 w_1 w_463 (by decide) np_X_shareAnHour) (by decide) (by decide) (Nat.le_of_ble_eq_true rfl) (Nat.le_of_ble_eq_true rfl) (Nat.zero_le _) (Nat.zero_le _) (c_X_shareAnHour _ _ _ _ _ _ _ (by omega) (by omega) (by omega) (by omega)) ?_
      refine am_ifZ_eq (tgt := 86) d_F_firstBegin_71 (by decide) (fun c71 => ?_) (fun c71 => ?_)
      · refine am_iinc d_F_firstBegin_86 rfl (am_inc _) (by decide) ?_
        refine am_goto (tgt := 34) d_F_firstBegin_89 (by decide) ?_
        refine am_lo (L' := [(0, .ref 15), (1, .int (nI m)), (2, .int (nI r)), (3, .int (nI n)), (4, .int (nI (mm_pass (fl_fr F m) (fl_to F m) n (j + 1) h).1)), (5, .int (nI (m * 32))), (6, .int (zI (mm_pass (fl_fr F m) (fl_to F m) n (j + 1) h).2)), (7, .int (nI k)), (8, .int (nI (m * 32 + (j + 1))))]) ?_ (ih (j + 1) (by omega) (by omega))
        first | (rw [mm_pass, if_neg (by simpa [sp_meets, fl_fr, fl_to] using c71)]; rfl) | (rw [mm_pass, if_pos (by simpa [sp_meets, fl_fr, fl_to] using c71)]; rfl)
      · refine am_aload_n d_F_firstBegin_74 rfl rfl ?_
        refine am_get F_F 5 (by decide) d_F_firstBegin_75 w_116 rfl rfl ?_
        refine am_iload d_F_firstBegin_78 rfl ?_
        refine am_ialdA d_F_firstBegin_80 rfl (by omega) (by decide) ?_
        refine am_istore d_F_firstBegin_81 (by decide) ?_
        refine am_iconst (v := nI 1) d_F_firstBegin_83 (by decide) ?_
        refine am_istore d_F_firstBegin_84 (by decide) ?_
        refine am_iinc d_F_firstBegin_86 rfl (am_inc _) (by decide) ?_
        refine am_goto (tgt := 34) d_F_firstBegin_89 (by decide) ?_
        refine am_lo (L' := [(0, .ref 15), (1, .int (nI m)), (2, .int (nI r)), (3, .int (nI n)), (4, .int (nI (mm_pass (fl_fr F m) (fl_to F m) n (j + 1) h).1)), (5, .int (nI (m * 32))), (6, .int (zI (mm_pass (fl_fr F m) (fl_to F m) n (j + 1) h).2)), (7, .int (nI k)), (8, .int (nI (m * 32 + (j + 1))))]) ?_ (ih (j + 1) (by omega) (by omega))
        first | (rw [mm_pass, if_neg (by simpa [sp_meets, fl_fr, fl_to] using c71)]; rfl) | (rw [mm_pass, if_pos (by simpa [sp_meets, fl_fr, fl_to] using c71)]; rfl)
set_option maxRecDepth 20000 in
theorem c_F_firstBegin_o {N : Nat} (hN : N ≤ 6) (d bc bs m r n B : Nat) (hm : m < N) (hF : fl_sm N F B) (hB : B ≤ 1000000) (hn : n ≤ 100) (v : Nat) :
    ∀ (g k h : Nat) (b : Bool), h ≤ B → k ≤ 33 → 33 - k < g → (if b then mm_it (fl_fr F m) (fl_to F m) (fl_bc F m) n (33 - k) h else h) = v →
      am_W G m_F_firstBegin (d + 1) bc bs (fun o h' => o = .inl (some (.int (nI v))) ∧ h' = (hx x t S F R P W)) 15 [(0, .ref 15), (1, .int (nI m)), (2, .int (nI r)), (3, .int (nI n)), (4, .int (nI h)), (5, .int (nI (m * 32))), (6, .int (zI b)), (7, .int (nI k))] [] (hx x t S F R P W) := by
  intro g
  have hc := hF.1 m hm
  induction g with
  | zero => intro k h b _ _ hg; omega
  | succ g ih =>
    intro k h b hh hk hg hv
    refine am_iload d_F_firstBegin_15 rfl ?_
    refine am_bipush (v := nI 32) d_F_firstBegin_17 (by decide) ?_
    refine am_icmpN_gt (tgt := 98) d_F_firstBegin_19 (by decide) (by omega) (by omega) (fun c19 => ?_) (fun c19 => ?_)
    · refine am_iload d_F_firstBegin_98 rfl ?_
      refine am_iret d_F_firstBegin_100 rfl ?_
      refine ⟨?_, rfl⟩
      rw [← hv]
      first | (rw [c24]; rfl) | (rw [show 33 - k = 0 by omega]; cases b <;> rfl)
    · refine am_iload d_F_firstBegin_22 rfl ?_
      refine am_ifZ_eq (tgt := 98) d_F_firstBegin_24 (by decide) (fun c24 => ?_) (fun c24 => ?_)
      · refine am_iload d_F_firstBegin_98 rfl ?_
        refine am_iret d_F_firstBegin_100 rfl ?_
        refine ⟨?_, rfl⟩
        rw [← hv]
        first | (rw [c24]; rfl) | (rw [show 33 - k = 0 by omega]; cases b <;> rfl)
      · refine am_iconst (v := nI 0) d_F_firstBegin_27 (by decide) ?_
        refine am_istore d_F_firstBegin_28 (by decide) ?_
        refine am_iload d_F_firstBegin_30 rfl ?_
        refine am_istore d_F_firstBegin_32 (by decide) ?_
        refine am_lo (L' := [(0, .ref 15), (1, .int (nI m)), (2, .int (nI r)), (3, .int (nI n)), (4, .int (nI h)), (5, .int (nI (m * 32))), (6, .int (zI false)), (7, .int (nI k)), (8, .int (nI (m * 32 + 0)))]) rfl (c_F_firstBegin_i hN d bc bs m r n k h B hm hF hB hn hh (by omega) (ih (k + 1) _ _ (mm_pass_bd _ _ _ _ _ hh _ (fun i hi => (hF.2 m i hm hi).2)) (by omega) (by omega) ?_) (fl_bc F m + 1) 0 (Nat.zero_le _) (by omega))
        rw [← hv, c24, if_pos rfl, show 33 - k = (33 - (k + 1)) + 1 by omega, mm_it]
        cases hm : (mm_pass (fl_fr F m) (fl_to F m) n (fl_bc F m) h).2 with
        | true => rfl
        | false => exact (mm_pass_false _ _ _ _ _ hm).1
theorem c_F_firstBegin {N : Nat} (hN : N ≤ 6) (d bc bs m r n B : Nat) (hm : m < N) (hF : fl_sm N F B) (hB : B ≤ 1000000) (hn : n ≤ 100) (hr : r ≤ B) : am_Fn G m_F_firstBegin (d + 1) bc bs [.ref 15, .int (nI m), .int (nI r), .int (nI n)] (hx x t S F R P W) (some (.int (nI (fl_first F m r n)))) (hx x t S F R P W) := by
  refine am_iload_n d_F_firstBegin_0 rfl rfl ?_
  refine am_istore d_F_firstBegin_1 (by decide) ?_
  refine am_iload_n d_F_firstBegin_3 rfl rfl ?_
  refine am_bipush (v := nI 32) d_F_firstBegin_4 (by decide) ?_
  refine am_imulN d_F_firstBegin_6 ?_
  refine am_istore d_F_firstBegin_7 (by decide) ?_
  refine am_iconst (v := nI 1) d_F_firstBegin_9 (by decide) ?_
  refine am_istore d_F_firstBegin_10 (by decide) ?_
  refine am_iconst (v := nI 0) d_F_firstBegin_12 (by decide) ?_
  refine am_istore d_F_firstBegin_13 (by decide) ?_
  refine am_lo (L' := [(0, .ref 15), (1, .int (nI m)), (2, .int (nI r)), (3, .int (nI n)), (4, .int (nI r)), (5, .int (nI (m * 32))), (6, .int (zI true)), (7, .int (nI 0))]) rfl (c_F_firstBegin_o hN d bc bs m r n B hm hF hB hn _ 34 0 r true hr (by omega) (by omega) rfl)
/-- a step is laid on a machine -/
def fl_put (S : sh_T) (f : fl_T) (s m b : Nat) : fl_T := fl_add (nu (fl_bg f) s b, nu (fl_ma f) s m, f.2.2) m b (b + sh_sh S s)
theorem nI_m1 {a : Nat} (h : a < 2 ^ 31) : ¬ nI a = -1 := by
  intro q
  have h1 := nI_toInt h
  rw [q] at h1
  have h2 : (-1 : Int32).toInt = -1 := by decide
  omega
theorem c_F_put (d bc bs s m b : Nat) (hs : s < 24) (hm : m < 6) (hc : fl_bc F m < 2 ^ 31) (hb : b < 2 ^ 30) : am_Fn G m_F_put (d + 1) bc bs [.ref 15, .int (nI s), .int (nI m), .int (nI b)] (hx x t S F R P W) none (hx x t S (fl_put S F s m b) R P W) := by
  refine am_aload_n d_F_put_0 rfl rfl ?_
  refine am_get F_F 1 (by decide) d_F_put_1 w_110 rfl rfl ?_
  refine am_iload_n d_F_put_4 rfl rfl ?_
  refine am_iload_n d_F_put_5 rfl rfl ?_
  refine am_iastA d_F_put_6 rfl (by omega) (by decide) ?_
  refine am_aload_n d_F_put_7 rfl rfl ?_
  refine am_get F_F 2 (by decide) d_F_put_8 w_112 rfl rfl ?_
  refine am_iload_n d_F_put_11 rfl rfl ?_
  refine am_iload_n d_F_put_12 rfl rfl ?_
  refine am_iastA d_F_put_13 rfl (by omega) (by decide) ?_
  refine am_iload_n d_F_put_14 rfl rfl ?_
  refine am_iconst (v := -1) d_F_put_15 (by decide) ?_
  refine am_icmp_eq (tgt := 36) d_F_put_16 (by decide) (fun c16 => ?_) (fun c16 => ?_)
  · refine am_vret d_F_put_36 rfl ?_
    first | exact absurd c16 (nI_m1 (by omega)) | exact ⟨rfl, rfl⟩
  · refine am_aload_n d_F_put_19 rfl rfl ?_
    refine am_iload_n d_F_put_20 rfl rfl ?_
    refine am_iload_n d_F_put_21 rfl rfl ?_
    refine am_iload_n d_F_put_22 rfl rfl ?_
    refine am_aload_n d_F_put_23 rfl rfl ?_
    refine am_get F_F 0 (by decide) d_F_put_24 w_109 rfl rfl ?_
    refine am_get F_S 12 (by decide) d_F_put_27 w_64 rfl rfl ?_
    refine am_iload_n d_F_put_30 rfl rfl ?_
    refine am_ialdA d_F_put_31 rfl (by omega) (by decide) ?_
    refine am_iaddN d_F_put_32 ?_
    refine am_callF 4 (am_recvV (z := m_F_addBusy) rfl d_F_put_33 w_445 w_447 ws_3 w_448 F_F.1 rfl (by decide) np_F_addBusy) (by decide) (by decide) (Nat.le_of_ble_eq_true rfl) (Nat.le_of_ble_eq_true rfl) (Nat.zero_le _) (Nat.zero_le _) (c_F_addBusy (F := (nu (fl_bg F) s b, nu (fl_ma F) s m, F.2.2)) _ _ _ _ _ _ hm hc) ?_
    refine am_vret d_F_put_36 rfl ?_
    first | exact absurd c16 (nI_m1 (by omega)) | exact ⟨rfl, rfl⟩
/-- the machines tried for a step, from the least on: where it begins, on which -/
def fl_try (S : sh_T) (f : fl_T) (s r : Nat) : Nat → Nat × Option Nat
  | 0 => (r, none)
  | m + 1 => if sh_kd S m = sh_sk S s then (if (fl_try S f s r m).2 = none ∨ fl_first f m r (sh_sh S s) < (fl_try S f s r m).1 then (fl_first f m r (sh_sh S s), some m) else fl_try S f s r m) else fl_try S f s r m
def oI (o : Option Nat) : Int32 := match o with
  | none => -1
  | some m => nI m
theorem fl_first_bd {N : Nat} {f : fl_T} {m r n B : Nat} (hm : m < N) (hF : fl_sm N f B) (hr : r ≤ B) : fl_first f m r n ≤ B := mm_it_bd _ _ _ _ B (fun i hi => (hF.2 m i hm hi).2) _ _ hr
theorem fl_try_bd {N : Nat} {S : sh_T} {f : fl_T} {s r B : Nat} (hF : fl_sm N f B) (hr : r ≤ B) : ∀ n, n ≤ N → (fl_try S f s r n).1 ≤ B ∧ (∀ m, (fl_try S f s r n).2 = some m → m < n)
  | 0, _ => ⟨hr, fun m h => by cases h⟩
  | n + 1, hn => by
    obtain ⟨h1, h2⟩ := fl_try_bd (S := S) (s := s) hF hr n (by omega)
    have h3 : fl_first f n r (sh_sh S s) ≤ B := fl_first_bd (by omega) hF hr
    unfold fl_try
    split
    · split
      · exact ⟨h3, fun m h => by cases h; omega⟩
      · exact ⟨h1, fun m h => by have := h2 m h; omega⟩
    · exact ⟨h1, fun m h => by have := h2 m h; omega⟩
theorem fl_try_some {S : sh_T} {f : fl_T} {s r : Nat} : ∀ n, (∃ m, m < n ∧ sh_kd S m = sh_sk S s) → (fl_try S f s r n).2 ≠ none
  | 0, ⟨m, h, _⟩ => absurd h (Nat.not_lt_zero m)
  | n + 1, ⟨m, h1, h2⟩ => by
    unfold fl_try
    split
    · split
      · simp
      · rename_i h; exact fun e => h (Or.inl e)
    · rename_i h
      exact fl_try_some n ⟨m, by rcases Nat.lt_or_ge m n with q | q; exact q; exact absurd (by rw [← h2, show m = n by omega]) h, h2⟩
set_option maxRecDepth 20000 in
theorem c_F_placeStep_l {Q : am_O → am_H → Prop} (hS : sh_ok S) (d bc bs s r B : Nat) (hs : s < 24) (hF : fl_sm (sh_mc S) F B) (hB : B ≤ 1000000) (hr : r ≤ B)
    (hend : am_W G m_F_placeStep (d + 2) bc bs Q 85 [(0, .ref 15), (1, .int (nI s)), (2, .int (nI r)), (3, .int (nI (fl_try S F s r (sh_mc S)).1)), (4, .int (oI (fl_try S F s r (sh_mc S)).2)), (5, .int (nI (sh_mc S)))] [] (hx x t S F R P W)) :
    ∀ (g i : Nat), i ≤ sh_mc S → sh_mc S - i < g → am_W G m_F_placeStep (d + 2) bc bs Q 8 [(0, .ref 15), (1, .int (nI s)), (2, .int (nI r)), (3, .int (nI (fl_try S F s r i).1)), (4, .int (oI (fl_try S F s r i).2)), (5, .int (nI i))] [] (hx x t S F R P W) := by
  intro g
  obtain ⟨s1, s2, s3, s4, s5, s6, s7, s8, s9, s10, s11, s12, s13, s14⟩ := id hS
  have t12 := s12 s
  induction g with
  | zero => intro i _ h; omega
  | succ g ih =>
    intro i hi hg
    obtain ⟨hb1, hb2⟩ := fl_try_bd (S := S) (s := s) hF hr i (by omega)
    have t4 := s4 i
    have hf1 : i < sh_mc S → fl_first F i r (sh_sh S s) ≤ B := fun q => fl_first_bd q hF hr
    refine am_iload d_F_placeStep_8 rfl ?_
    refine am_aload_n d_F_placeStep_10 rfl rfl ?_
    refine am_get F_F 0 (by decide) d_F_placeStep_11 w_109 rfl rfl ?_
    refine am_get F_S 0 (by decide) d_F_placeStep_14 w_29 rfl rfl ?_
    refine am_icmpN_ge (tgt := 85) d_F_placeStep_17 (by decide) (by omega) (by omega) (fun c17 => ?_) (fun c17 => ?_)
    · have e : i = sh_mc S := by omega
      subst e
      exact hend
    · refine am_aload_n d_F_placeStep_20 rfl rfl ?_
      refine am_get F_F 0 (by decide) d_F_placeStep_21 w_109 rfl rfl ?_
      refine am_get F_S 1 (by decide) d_F_placeStep_24 w_32 rfl rfl ?_
      refine am_iload d_F_placeStep_27 rfl ?_
      refine am_ialdA d_F_placeStep_29 rfl (by omega) (by decide) ?_
      refine am_aload_n d_F_placeStep_30 rfl rfl ?_
      refine am_get F_F 0 (by decide) d_F_placeStep_31 w_109 rfl rfl ?_
      refine am_get F_S 11 (by decide) d_F_placeStep_34 w_62 rfl rfl ?_
      refine am_iload_n d_F_placeStep_37 rfl rfl ?_
      refine am_ialdA d_F_placeStep_38 rfl (by omega) (by decide) ?_
      refine am_icmpN_ne (tgt := 79) d_F_placeStep_39 (by decide) (by omega) (by omega) (fun c39 => ?_) (fun c39 => ?_)
      · refine am_iinc d_F_placeStep_79 rfl (am_inc _) (by decide) ?_
        refine am_goto (tgt := 8) d_F_placeStep_82 (by decide) ?_
        refine am_lo (L' := [(0, .ref 15), (1, .int (nI s)), (2, .int (nI r)), (3, .int (nI (fl_try S F s r (i + 1)).1)), (4, .int (oI (fl_try S F s r (i + 1)).2)), (5, .int (nI (i + 1)))]) ?_ (ih (i + 1) (by omega) (by omega))
        first | (rw [fl_try, if_neg c39]; rfl) | (rw [fl_try, if_pos c39, if_pos (Or.inl (by revert c63; cases htr : (fl_try S F s r i).2 with | none => intro _; rfl | some q => intro c; exact absurd c (nI_m1 (by have := hb2 q htr; omega))))]; rfl) | (rw [fl_try, if_pos c39, if_pos (Or.inr c69)]; rfl) | (rw [fl_try, if_pos c39, if_neg (fun c => c.elim (fun e => c63 (by rw [e]; rfl)) (fun e => absurd e (by omega)))]; rfl)
      · refine am_aload_n d_F_placeStep_42 rfl rfl ?_
        refine am_iload d_F_placeStep_43 rfl ?_
        refine am_iload_n d_F_placeStep_45 rfl rfl ?_
        refine am_aload_n d_F_placeStep_46 rfl rfl ?_
        refine am_get F_F 0 (by decide) d_F_placeStep_47 w_109 rfl rfl ?_
        refine am_get F_S 12 (by decide) d_F_placeStep_50 w_64 rfl rfl ?_
        refine am_iload_n d_F_placeStep_53 rfl rfl ?_
        refine am_ialdA d_F_placeStep_54 rfl (by omega) (by decide) ?_
        refine am_callF 4 (am_recvV (z := m_F_firstBegin) rfl d_F_placeStep_55 w_457 w_459 ws_5 w_460 F_F.1 rfl (by decide) np_F_firstBegin) (by decide) (by decide) (Nat.le_of_ble_eq_true rfl) (Nat.le_of_ble_eq_true rfl) (Nat.zero_le _) (Nat.zero_le _) (c_F_firstBegin s1 d _ _ i r _ B (by omega) hF hB (s13 _) hr) ?_
        refine am_istore d_F_placeStep_58 (by decide) ?_
        refine am_iload d_F_placeStep_60 rfl ?_
        refine am_iconst (v := -1) d_F_placeStep_62 (by decide) ?_
        refine am_icmp_eq (tgt := 72) d_F_placeStep_63 (by decide) (fun c63 => ?_) (fun c63 => ?_)
        · refine am_iload d_F_placeStep_72 rfl ?_
          refine am_istore_n d_F_placeStep_74 rfl (by decide) ?_
          refine am_iload d_F_placeStep_75 rfl ?_
          refine am_istore d_F_placeStep_77 (by decide) ?_
          refine am_iinc d_F_placeStep_79 rfl (am_inc _) (by decide) ?_
          refine am_goto (tgt := 8) d_F_placeStep_82 (by decide) ?_
          refine am_lo (L' := [(0, .ref 15), (1, .int (nI s)), (2, .int (nI r)), (3, .int (nI (fl_try S F s r (i + 1)).1)), (4, .int (oI (fl_try S F s r (i + 1)).2)), (5, .int (nI (i + 1)))]) ?_ (ih (i + 1) (by omega) (by omega))
          first | (rw [fl_try, if_neg c39]; rfl) | (rw [fl_try, if_pos c39, if_pos (Or.inl (by revert c63; cases htr : (fl_try S F s r i).2 with | none => intro _; rfl | some q => intro c; exact absurd c (nI_m1 (by have := hb2 q htr; omega))))]; rfl) | (rw [fl_try, if_pos c39, if_pos (Or.inr c69)]; rfl) | (rw [fl_try, if_pos c39, if_neg (fun c => c.elim (fun e => c63 (by rw [e]; rfl)) (fun e => absurd e (by omega)))]; rfl)
        · refine am_iload d_F_placeStep_66 rfl ?_
          refine am_iload_n d_F_placeStep_68 rfl rfl ?_
          refine am_icmpN_ge (tgt := 79) d_F_placeStep_69 (by decide) (by omega) (by omega) (fun c69 => ?_) (fun c69 => ?_)
          · refine am_iinc d_F_placeStep_79 rfl (am_inc _) (by decide) ?_
            refine am_goto (tgt := 8) d_F_placeStep_82 (by decide) ?_
            refine am_lo (L' := [(0, .ref 15), (1, .int (nI s)), (2, .int (nI r)), (3, .int (nI (fl_try S F s r (i + 1)).1)), (4, .int (oI (fl_try S F s r (i + 1)).2)), (5, .int (nI (i + 1)))]) ?_ (ih (i + 1) (by omega) (by omega))
            first | (rw [fl_try, if_neg c39]; rfl) | (rw [fl_try, if_pos c39, if_pos (Or.inl (by revert c63; cases htr : (fl_try S F s r i).2 with | none => intro _; rfl | some q => intro c; exact absurd c (nI_m1 (by have := hb2 q htr; omega))))]; rfl) | (rw [fl_try, if_pos c39, if_pos (Or.inr c69)]; rfl) | (rw [fl_try, if_pos c39, if_neg (fun c => c.elim (fun e => c63 (by rw [e]; rfl)) (fun e => absurd e (by omega)))]; rfl)
          · refine am_iload d_F_placeStep_72 rfl ?_
            refine am_istore_n d_F_placeStep_74 rfl (by decide) ?_
            refine am_iload d_F_placeStep_75 rfl ?_
            refine am_istore d_F_placeStep_77 (by decide) ?_
            refine am_iinc d_F_placeStep_79 rfl (am_inc _) (by decide) ?_
            refine am_goto (tgt := 8) d_F_placeStep_82 (by decide) ?_
            refine am_lo (L' := [(0, .ref 15), (1, .int (nI s)), (2, .int (nI r)), (3, .int (nI (fl_try S F s r (i + 1)).1)), (4, .int (oI (fl_try S F s r (i + 1)).2)), (5, .int (nI (i + 1)))]) ?_ (ih (i + 1) (by omega) (by omega))
            first | (rw [fl_try, if_neg c39]; rfl) | (rw [fl_try, if_pos c39, if_pos (Or.inl (by revert c63; cases htr : (fl_try S F s r i).2 with | none => intro _; rfl | some q => intro c; exact absurd c (nI_m1 (by have := hb2 q htr; omega))))]; rfl) | (rw [fl_try, if_pos c39, if_pos (Or.inr c69)]; rfl) | (rw [fl_try, if_pos c39, if_neg (fun c => c.elim (fun e => c63 (by rw [e]; rfl)) (fun e => absurd e (by omega)))]; rfl)
set_option maxRecDepth 20000 in
theorem c_F_placeStep_e (hS : sh_ok S) (d bc bs s r B m b : Nat) (hs : s < 24) (hF : fl_sm (sh_mc S) F B) (hB : B ≤ 1000000) (hr : r ≤ B) (hm : m < sh_mc S) (hb : b ≤ B) :
    am_W G m_F_placeStep (d + 2) bc bs (fun o h' => o = .inl (some (.int (nI b))) ∧ h' = (hx x t S (fl_put S F s m b) R P W)) 85 [(0, .ref 15), (1, .int (nI s)), (2, .int (nI r)), (3, .int (nI b)), (4, .int (oI (some m))), (5, .int (nI (sh_mc S)))] [] (hx x t S F R P W) := by
  refine am_aload_n d_F_placeStep_85 rfl rfl ?_
  refine am_iload_n d_F_placeStep_86 rfl rfl ?_
  refine am_iload d_F_placeStep_87 rfl ?_
  refine am_iload_n d_F_placeStep_89 rfl rfl ?_
  refine am_callF 4 (am_recvV (z := m_F_put) rfl d_F_placeStep_90 w_464 w_465 w_466 w_467 F_F.1 rfl (by decide) np_F_put) (by decide) (by decide) (Nat.le_of_ble_eq_true rfl) (Nat.le_of_ble_eq_true rfl) (Nat.zero_le _) (Nat.zero_le _) (c_F_put _ _ _ s m b hs (by have := hS.1; omega) (by have := hF.1 m hm; omega) (by omega)) ?_
  refine am_iload_n d_F_placeStep_93 rfl rfl ?_
  refine am_iret d_F_placeStep_94 rfl ?_
  exact ⟨rfl, rfl⟩
theorem c_F_placeStep (hS : sh_ok S) (d bc bs s r B m b : Nat) (hs : s < 24) (hF : fl_sm (sh_mc S) F B) (hB : B ≤ 1000000) (hr : r ≤ B) (hq : fl_try S F s r (sh_mc S) = (b, some m)) : am_Fn G m_F_placeStep (d + 2) bc bs [.ref 15, .int (nI s), .int (nI r)] (hx x t S F R P W) (some (.int (nI b))) (hx x t S (fl_put S F s m b) R P W) := by
  obtain ⟨s1, s2, s3, s4, s5, s6, s7, s8, s9, s10, s11, s12, s13, s14⟩ := id hS
  obtain ⟨hb1, hb2⟩ := fl_try_bd (S := S) (s := s) hF hr (sh_mc S) (Nat.le_refl _)
  rw [hq] at hb1 hb2
  have hb : b ≤ B := hb1
  have hm : m < sh_mc S := hb2 m rfl
  refine am_iload_n d_F_placeStep_0 rfl rfl ?_
  refine am_istore_n d_F_placeStep_1 rfl (by decide) ?_
  refine am_iconst (v := -1) d_F_placeStep_2 (by decide) ?_
  refine am_istore d_F_placeStep_3 (by decide) ?_
  refine am_iconst (v := nI 0) d_F_placeStep_5 (by decide) ?_
  refine am_istore d_F_placeStep_6 (by decide) ?_
  refine am_lo (L' := [(0, .ref 15), (1, .int (nI s)), (2, .int (nI r)), (3, .int (nI r)), (4, .int (oI none)), (5, .int (nI 0))]) rfl (c_F_placeStep_l hS d bc bs s r B hs hF hB hr ?_ (sh_mc S + 1) 0 (Nat.zero_le _) (by omega))
  rw [hq]
  exact c_F_placeStep_e hS d bc bs s r B m b hs hF hB hr hm hb
end CFL
end
section
/-! the floor: placing jobs, clearing, lifting, costs -/
section CFM
variable {G : am_G} {x : Int64} {t : Bool} {S : sh_T} {F : fl_T} {R : se_T} {P : pl_T} {W : am_H}
theorem fl_sm_mono {N : Nat} {f : fl_T} {B B' : Nat} (h : fl_sm N f B) (hb : B ≤ B') : fl_sm N f B' := ⟨h.1, fun m i hm hi => by have := h.2 m i hm hi; omega⟩
theorem fl_sm_add {N : Nat} {f : fl_T} {B m a b : Nat} (h : fl_sm N f B) (hN : N ≤ 6) (hm : m < N) (ha : a ≤ B) (hb : b ≤ B) : fl_sm N (fl_add f m a b) B := by
  unfold fl_add
  split
  · rename_i hc
    refine ⟨fun k hk => ?_, fun k i hk hi => ?_⟩
    · show nu (fl_bc f) m (fl_bc f m + 1) k ≤ 32
      unfold nu
      split
      · omega
      · exact h.1 k hk
    · have hi' : i < nu (fl_bc f) m (fl_bc f m + 1) k := hi
      show nu (fl_bf f) (m * 32 + fl_bc f m) a (k * 32 + i) ≤ B ∧ nu (fl_bt f) (m * 32 + fl_bc f m) b (k * 32 + i) ≤ B
      have hk32 := h.1 k hk
      by_cases e : k * 32 + i = m * 32 + fl_bc f m
      · rw [e, nu_eq, nu_eq]; exact ⟨ha, hb⟩
      · rw [nu_ne _ _ e, nu_ne _ _ e]
        by_cases ek : k = m
        · subst ek
          rw [nu_eq] at hi'
          exact h.2 k i hk (by omega)
        · rw [nu_ne _ _ ek] at hi'
          exact h.2 k i hk hi'
  · exact h
theorem fl_sm_put {N : Nat} {S : sh_T} {f : fl_T} {B s m b : Nat} (h : fl_sm N f B) (hN : N ≤ 6) (hm : m < N) (hb : b ≤ B) (hh : sh_sh S s ≤ 100) : fl_sm N (fl_put S f s m b) (B + 100) :=
  fl_sm_add (fl_sm_mono (B := B) (f := (nu (fl_bg f) s b, nu (fl_ma f) s m, f.2.2)) h (by omega)) hN hm (by omega) (by omega)
/-- a job's steps in turn: the floor, the end, the hour from which the next may begin -/
def fl_stp (S : sh_T) (q : fl_T × Nat × Nat) (s : Nat) : fl_T × Nat × Nat :=
  (fl_put S q.1 s ((fl_try S q.1 s q.2.2 (sh_mc S)).2.getD 0) (fl_try S q.1 s q.2.2 (sh_mc S)).1, (fl_try S q.1 s q.2.2 (sh_mc S)).1 + sh_sh S s, (fl_try S q.1 s q.2.2 (sh_mc S)).1 + sh_sh S s + sh_sw S s)
def fl_pj (S : sh_T) (j : Nat) (f : fl_T) : Nat → fl_T × Nat × Nat
  | 0 => (f, 0, 0)
  | n + 1 => fl_stp S (fl_pj S j f n) (sh_sa S (j * 4 + n))
theorem sp_fit_has {S : sh_T} {j i : Nat} : ∀ {n}, sp_fit S j n = true → i < n → ∃ m, m < sh_mc S ∧ sh_kd S m = sh_sk S (sh_sa S (j * 4 + i))
  | 0, _, hi => absurd hi (Nat.not_lt_zero i)
  | n + 1, h, hi => by
    rw [sp_fit, Bool.and_eq_true] at h
    rcases Nat.lt_or_ge i n with q | q
    · exact sp_fit_has h.1 q
    · have : i = n := by omega
      subst this
      exact (sp_has_iff _ _ _).mp h.2
theorem fl_pj_sm {S : sh_T} {j : Nat} {f : fl_T} {B : Nat} (hS : sh_ok S) (hf : sp_fits S j = true) (hF : fl_sm (sh_mc S) f B) : ∀ n, n ≤ sh_so S j → fl_sm (sh_mc S) (fl_pj S j f n).1 (B + 200 * n) ∧ (fl_pj S j f n).2.1 ≤ B + 200 * n ∧ (fl_pj S j f n).2.2 ≤ B + 200 * n
  | 0, _ => ⟨hF, Nat.zero_le _, Nat.zero_le _⟩
  | n + 1, hn => by
    obtain ⟨h1, h2, h3⟩ := fl_pj_sm hS hf hF n (by omega)
    obtain ⟨s1, s2, s3, s4, s5, s6, s7, s8, s9, s10, s11, s12, s13, s14⟩ := id hS
    obtain ⟨hb1, hb2⟩ := fl_try_bd (S := S) (s := sh_sa S (j * 4 + n)) h1 h3 (sh_mc S) (Nat.le_refl _)
    have hso := fl_try_some (S := S) (f := (fl_pj S j f n).1) (s := sh_sa S (j * 4 + n)) (r := (fl_pj S j f n).2.2) (sh_mc S) (sp_fit_has hf (by omega))
    have t13 := s13 (sh_sa S (j * 4 + n))
    have t14 := s14 (sh_sa S (j * 4 + n))
    cases hq : (fl_try S (fl_pj S j f n).1 (sh_sa S (j * 4 + n)) (fl_pj S j f n).2.2 (sh_mc S)).2 with
    | none => exact absurd hq hso
    | some m =>
      rw [fl_pj]
      unfold fl_stp
      rw [hq]
      refine ⟨fl_sm_mono (fl_sm_put h1 s1 (hb2 m hq) hb1 t13) (by omega), ?_, ?_⟩
      · show _ + _ ≤ _
        omega
      · show _ + _ + _ ≤ _
        omega
set_option maxRecDepth 20000 in
theorem c_F_place_l {Q : am_O → am_H → Prop} (hS : sh_ok S) (d bc bs j B : Nat) (hj : j < 6) (hf : sp_fits S j = true) (hF : fl_sm (sh_mc S) F B) (hB : B ≤ 900000)
    (hend : am_W G m_F_place (d + 3) bc bs Q 75 [(0, .ref 15), (1, .int (nI j)), (2, .int (nI (fl_pj S j F (sh_so S j)).2.1)), (3, .int (nI (fl_pj S j F (sh_so S j)).2.2)), (4, .int (nI (sh_so S j)))] [] (hx x t S (fl_pj S j F (sh_so S j)).1 R P W)) :
    ∀ (g i : Nat), i ≤ sh_so S j → sh_so S j - i < g → am_W G m_F_place (d + 3) bc bs Q 7 [(0, .ref 15), (1, .int (nI j)), (2, .int (nI (fl_pj S j F i).2.1)), (3, .int (nI (fl_pj S j F i).2.2)), (4, .int (nI i))] [] (hx x t S (fl_pj S j F i).1 R P W) := by
  intro g
  obtain ⟨s1, s2, s3, s4, s5, s6, s7, s8, s9, s10, s11, s12, s13, s14⟩ := id hS
  have t10 := s10 j
  induction g with
  | zero => intro i _ h; omega
  | succ g ih =>
    intro i hi hg
    obtain ⟨h1, h2, h3⟩ := fl_pj_sm hS hf hF i hi
    refine am_iload d_F_place_7 rfl ?_
    refine am_aload_n d_F_place_9 rfl rfl ?_
    refine am_get F_F 0 (by decide) d_F_place_10 w_109 rfl rfl ?_
    refine am_get F_S 8 (by decide) d_F_place_13 w_52 rfl rfl ?_
    refine am_iload_n d_F_place_16 rfl rfl ?_
    refine am_ialdA d_F_place_17 rfl (by omega) (by decide) ?_
    refine am_icmpN_ge (tgt := 75) d_F_place_18 (by decide) (by omega) (by omega) (fun c18 => ?_) (fun c18 => ?_)
    · have e : i = sh_so S j := by omega
      subst e
      exact hend
    · have t11 := s11 (j * 4 + i)
      obtain ⟨hb1, hb2⟩ := fl_try_bd (S := S) (s := sh_sa S (j * 4 + i)) h1 h3 (sh_mc S) (Nat.le_refl _)
      have hso := fl_try_some (S := S) (f := (fl_pj S j F i).1) (s := sh_sa S (j * 4 + i)) (r := (fl_pj S j F i).2.2) (sh_mc S) (sp_fit_has hf (by omega))
      obtain ⟨m, hq⟩ := Option.ne_none_iff_exists'.mp hso
      have t13 := s13 (sh_sa S (j * 4 + i))
      have t14 := s14 (sh_sa S (j * 4 + i))
      refine am_aload_n d_F_place_21 rfl rfl ?_
      refine am_get F_F 0 (by decide) d_F_place_22 w_109 rfl rfl ?_
      refine am_get F_S 9 (by decide) d_F_place_25 w_56 rfl rfl ?_
      refine am_iload_n d_F_place_28 rfl rfl ?_
      refine am_iconst (v := nI 4) d_F_place_29 (by decide) ?_
      refine am_imulN d_F_place_30 ?_
      refine am_iload d_F_place_31 rfl ?_
      refine am_iaddN d_F_place_33 ?_
      refine am_ialdA d_F_place_34 rfl (by omega) (by decide) ?_
      refine am_istore d_F_place_35 (by decide) ?_
      refine am_aload_n d_F_place_37 rfl rfl ?_
      refine am_iload d_F_place_38 rfl ?_
      refine am_iload_n d_F_place_40 rfl rfl ?_
      refine am_callF 3 (am_recvV (z := m_F_placeStep) rfl d_F_place_41 w_453 w_455 ws_4 w_456 F_F.1 rfl (by decide) np_F_placeStep) (by decide) (by decide) (Nat.le_of_ble_eq_true rfl) (Nat.le_of_ble_eq_true rfl) (Nat.zero_le _) (Nat.zero_le _) (c_F_placeStep hS d _ _ _ _ (B + 200 * i) m _ t11 h1 (by omega) h3 (Prod.ext rfl hq)) ?_
      refine am_aload_n d_F_place_44 rfl rfl ?_
      refine am_get F_F 0 (by decide) d_F_place_45 w_109 rfl rfl ?_
      refine am_get F_S 12 (by decide) d_F_place_48 w_64 rfl rfl ?_
      refine am_iload d_F_place_51 rfl ?_
      refine am_ialdA d_F_place_53 rfl (by omega) (by decide) ?_
      refine am_iaddN d_F_place_54 ?_
      refine am_istore_n d_F_place_55 rfl (by decide) ?_
      refine am_iload_n d_F_place_56 rfl rfl ?_
      refine am_aload_n d_F_place_57 rfl rfl ?_
      refine am_get F_F 0 (by decide) d_F_place_58 w_109 rfl rfl ?_
      refine am_get F_S 13 (by decide) d_F_place_61 w_67 rfl rfl ?_
      refine am_iload d_F_place_64 rfl ?_
      refine am_ialdA d_F_place_66 rfl (by omega) (by decide) ?_
      refine am_iaddN d_F_place_67 ?_
      refine am_istore_n d_F_place_68 rfl (by decide) ?_
      refine am_iinc d_F_place_69 rfl (am_inc _) (by decide) ?_
      refine am_goto (tgt := 7) d_F_place_72 (by decide) ?_
      refine am_lo (L' := [(0, .ref 15), (1, .int (nI j)), (2, .int (nI (fl_pj S j F (i + 1)).2.1)), (3, .int (nI (fl_pj S j F (i + 1)).2.2)), (4, .int (nI (i + 1)))]) rfl ?_
      have e : (hx x t S (fl_put S (fl_pj S j F i).1 (sh_sa S (j * 4 + i)) m (fl_try S (fl_pj S j F i).1 (sh_sa S (j * 4 + i)) (fl_pj S j F i).2.2 (sh_mc S)).1) R P W) = (hx x t S (fl_pj S j F (i + 1)).1 R P W) := by rw [fl_pj]; unfold fl_stp; rw [hq]; rfl
      rw [e]
      exact ih (i + 1) (by omega) (by omega)
/-- a job placed: the floor then; the job's end -/
def fl_place (S : sh_T) (j : Nat) (f : fl_T) : fl_T := (fl_pj S j f (sh_so S j)).1
def fl_end (S : sh_T) (j : Nat) (f : fl_T) : Nat := (fl_pj S j f (sh_so S j)).2.1
theorem c_F_place (hS : sh_ok S) (d bc bs j B : Nat) (hj : j < 6) (hf : sp_fits S j = true) (hF : fl_sm (sh_mc S) F B) (hB : B ≤ 900000) : am_Fn G m_F_place (d + 3) bc bs [.ref 15, .int (nI j)] (hx x t S F R P W) (some (.int (nI (fl_end S j F)))) (hx x t S (fl_place S j F) R P W) := by
  refine am_iconst (v := nI 0) d_F_place_0 (by decide) ?_
  refine am_istore_n d_F_place_1 rfl (by decide) ?_
  refine am_iconst (v := nI 0) d_F_place_2 (by decide) ?_
  refine am_istore_n d_F_place_3 rfl (by decide) ?_
  refine am_iconst (v := nI 0) d_F_place_4 (by decide) ?_
  refine am_istore d_F_place_5 (by decide) ?_
  refine am_lo (L' := [(0, .ref 15), (1, .int (nI j)), (2, .int (nI 0)), (3, .int (nI 0)), (4, .int (nI 0))]) rfl (c_F_place_l hS d bc bs j B hj hf hF hB ?_ (sh_so S j + 1) 0 (Nat.zero_le _) (by omega))
  refine am_iload_n d_F_place_75 rfl rfl ?_
  refine am_iret d_F_place_76 rfl ?_
  exact ⟨rfl, rfl⟩
/-- a machine's spans laid into its row -/
def fl_spans (S : sh_T) (m : Nat) (f : fl_T) : Nat → fl_T
  | 0 => f
  | i + 1 => fl_add (fl_spans S m f i) m (sh_sf S (m * 8 + i)) (sh_st S (m * 8 + i))
def fl_zero (f : fl_T) (m : Nat) : fl_T := (fl_bg f, fl_ma f, nu (fl_bc f) m 0, fl_bf f, fl_bt f)
def fl_clr (S : sh_T) (f : fl_T) : Nat → fl_T
  | 0 => f
  | m + 1 => fl_spans S m (fl_zero (fl_clr S f m) m) (sh_sp S m)
def fl_clear (S : sh_T) (f : fl_T) : fl_T := fl_clr S f (sh_mc S)
theorem fl_spans_bc (S : sh_T) (m : Nat) (f : fl_T) : ∀ i, fl_bc (fl_spans S m f i) m ≤ fl_bc f m + i
  | 0 => Nat.le_refl _
  | i + 1 => by
    have h := fl_spans_bc S m f i
    unfold fl_spans fl_add
    split
    · show nu _ m _ m ≤ _
      rw [nu_eq]; omega
    · omega
set_option maxRecDepth 20000 in
theorem c_F_clear_i {Q : am_O → am_H → Prop} {f : fl_T} (hS : sh_ok S) (d bc bs m : Nat) (hm : m < sh_mc S) (hz : fl_bc f m = 0)
    (hend : am_W G m_F_clear (d + 1) bc bs Q 71 [(0, .ref 15), (1, .int (nI m)), (2, .int (nI (sh_sp S m)))] [] (hx x t S (fl_spans S m f (sh_sp S m)) R P W)) :
    ∀ (g i : Nat), i ≤ sh_sp S m → sh_sp S m - i < g → am_W G m_F_clear (d + 1) bc bs Q 22 [(0, .ref 15), (1, .int (nI m)), (2, .int (nI i))] [] (hx x t S (fl_spans S m f i) R P W) := by
  intro g
  obtain ⟨s1, s2, s3, s4, s5, s6, s7, s8, s9, s10, s11, s12, s13, s14⟩ := id hS
  have t5 := s5 m
  induction g with
  | zero => intro i _ h; omega
  | succ g ih =>
    intro i hi hg
    have hbc := fl_spans_bc S m f i
    refine am_iload_n d_F_clear_22 rfl rfl ?_
    refine am_aload_n d_F_clear_23 rfl rfl ?_
    refine am_get F_F 0 (by decide) d_F_clear_24 w_109 rfl rfl ?_
    refine am_get F_S 2 (by decide) d_F_clear_27 w_34 rfl rfl ?_
    refine am_iload_n d_F_clear_30 rfl rfl ?_
    refine am_ialdA d_F_clear_31 rfl (by omega) (by decide) ?_
    refine am_icmpN_ge (tgt := 71) d_F_clear_32 (by decide) (by omega) (by omega) (fun c32 => ?_) (fun c32 => ?_)
    · have e : i = sh_sp S m := by omega
      subst e
      exact hend
    · refine am_iload_n d_F_clear_35 rfl rfl ?_
      refine am_bipush (v := nI 8) d_F_clear_36 (by decide) ?_
      refine am_imulN d_F_clear_38 ?_
      refine am_iload_n d_F_clear_39 rfl rfl ?_
      refine am_iaddN d_F_clear_40 ?_
      refine am_istore_n d_F_clear_41 rfl (by decide) ?_
      refine am_aload_n d_F_clear_42 rfl rfl ?_
      refine am_iload_n d_F_clear_43 rfl rfl ?_
      refine am_aload_n d_F_clear_44 rfl rfl ?_
      refine am_get F_F 0 (by decide) d_F_clear_45 w_109 rfl rfl ?_
      refine am_get F_S 3 (by decide) d_F_clear_48 w_38 rfl rfl ?_
      refine am_iload_n d_F_clear_51 rfl rfl ?_
      refine am_ialdA d_F_clear_52 rfl (by omega) (by decide) ?_
      refine am_aload_n d_F_clear_53 rfl rfl ?_
      refine am_get F_F 0 (by decide) d_F_clear_54 w_109 rfl rfl ?_
      refine am_get F_S 4 (by decide) d_F_clear_57 w_41 rfl rfl ?_
      refine am_iload_n d_F_clear_60 rfl rfl ?_
      refine am_ialdA d_F_clear_61 rfl (by omega) (by decide) ?_
      refine am_callF 4 (am_recvV (z := m_F_addBusy) rfl d_F_clear_62 w_445 w_447 ws_3 w_448 F_F.1 rfl (by decide) np_F_addBusy) (by decide) (by decide) (Nat.le_of_ble_eq_true rfl) (Nat.le_of_ble_eq_true rfl) (Nat.zero_le _) (Nat.zero_le _) (c_F_addBusy (F := fl_spans S m f i) d _ _ m _ _ (by omega) (by omega)) ?_
      refine am_iinc d_F_clear_65 rfl (am_inc _) (by decide) ?_
      refine am_goto (tgt := 22) d_F_clear_68 (by decide) ?_
      exact am_lo (L' := [(0, .ref 15), (1, .int (nI m)), (2, .int (nI (i + 1)))]) rfl (ih (i + 1) (by omega) (by omega))
set_option maxRecDepth 20000 in
theorem c_F_clear_o (hS : sh_ok S) (d bc bs : Nat) : ∀ (g m : Nat), m ≤ sh_mc S → sh_mc S - m < g → am_W G m_F_clear (d + 1) bc bs (fun o h' => o = .inl none ∧ h' = (hx x t S (fl_clear S F) R P W)) 2 [(0, .ref 15), (1, .int (nI m))] [] (hx x t S (fl_clr S F m) R P W) := by
  intro g
  obtain ⟨s1, s2, s3, s4, s5, s6, s7, s8, s9, s10, s11, s12, s13, s14⟩ := id hS
  induction g with
  | zero => intro i _ h; omega
  | succ g ih =>
    intro m hm hg
    refine am_iload_n d_F_clear_2 rfl rfl ?_
    refine am_aload_n d_F_clear_3 rfl rfl ?_
    refine am_get F_F 0 (by decide) d_F_clear_4 w_109 rfl rfl ?_
    refine am_get F_S 0 (by decide) d_F_clear_7 w_29 rfl rfl ?_
    refine am_icmpN_ge (tgt := 77) d_F_clear_10 (by decide) (by omega) (by omega) (fun c10 => ?_) (fun c10 => ?_)
    · refine am_vret d_F_clear_77 rfl ?_
      have e : m = sh_mc S := by omega
      subst e
      exact ⟨rfl, rfl⟩
    · refine am_aload_n d_F_clear_13 rfl rfl ?_
      refine am_get F_F 3 (by decide) d_F_clear_14 w_114 rfl rfl ?_
      refine am_iload_n d_F_clear_17 rfl rfl ?_
      refine am_iconst (v := nI 0) d_F_clear_18 (by decide) ?_
      refine am_iastA d_F_clear_19 rfl (by omega) (by decide) ?_
      refine am_iconst (v := nI 0) d_F_clear_20 (by decide) ?_
      refine am_istore_n d_F_clear_21 rfl (by decide) ?_
      refine am_lo (L' := [(0, .ref 15), (1, .int (nI m)), (2, .int (nI 0))]) rfl (c_F_clear_i (f := fl_zero (fl_clr S F m) m) hS d bc bs m (by omega) (nu_eq _ _ _) ?_ (sh_sp S m + 1) 0 (Nat.zero_le _) (by omega))
      refine am_iinc d_F_clear_71 rfl (am_inc _) (by decide) ?_
      refine am_goto (tgt := 2) d_F_clear_74 (by decide) ?_
      exact am_lo (L' := [(0, .ref 15), (1, .int (nI (m + 1)))]) rfl (ih (m + 1) (by omega) (by omega))
theorem c_F_clear (hS : sh_ok S) (d bc bs : Nat) : am_Fn G m_F_clear (d + 1) bc bs [.ref 15] (hx x t S F R P W) none (hx x t S (fl_clear S F) R P W) := by
  refine am_iconst (v := nI 0) d_F_clear_0 (by decide) ?_
  refine am_istore_n d_F_clear_1 rfl (by decide) ?_
  exact am_lo (L' := [(0, .ref 15), (1, .int (nI 0))]) rfl (c_F_clear_o hS d bc bs (sh_mc S + 1) 0 (Nat.zero_le _) (by omega))
end CFM
end
section
/-! the floor: lifting, costs -/
section CFN
variable {G : am_G} {x : Int64} {t : Bool} {S : sh_T} {F : fl_T} {R : se_T} {P : pl_T} {W : am_H}
theorem am_hq {y : am_M} {d bc bs : Nat} {Q : am_O → am_H → Prop} {pc : Nat} {L : List (Nat × Value)} {st : List Value} {h h2 : am_H} (e : h = h2) (k : am_W G y d bc bs Q pc L st h2) : am_W G y d bc bs Q pc L st h := e ▸ k
theorem fl_spans_sm {S : sh_T} {f : fl_T} {N m : Nat} (hS : sh_ok S) (hN : N ≤ 6) (hm : m < N) (hF : fl_sm N f 2000) : ∀ i, fl_sm N (fl_spans S m f i) 2000
  | 0 => hF
  | i + 1 => fl_sm_add (fl_spans_sm hS hN hm hF i) hN hm (by have := hS.2.2.2.2.2.1 (m * 8 + i); omega) (hS.2.2.2.2.2.2.1 (m * 8 + i))
theorem fl_clr_sm {S : sh_T} {f : fl_T} (hS : sh_ok S) : ∀ n, n ≤ 6 → fl_sm n (fl_clr S f n) 2000
  | 0, _ => ⟨fun m hm => absurd hm (Nat.not_lt_zero m), fun m i hm => absurd hm (Nat.not_lt_zero m)⟩
  | n + 1, hn => by
    have h := fl_clr_sm (f := f) hS n (by omega)
    unfold fl_clr
    refine fl_spans_sm hS hn (by omega) ⟨fun m hm => ?_, fun m i hm hi => ?_⟩ _
    · show nu (fl_bc (fl_clr S f n)) n 0 m ≤ 32
      unfold nu
      split
      · omega
      · exact h.1 m (by omega)
    · have hi' : i < nu (fl_bc (fl_clr S f n)) n 0 m := hi
      by_cases e : m = n
      · subst e
        rw [nu_eq] at hi'
        omega
      · rw [nu_ne _ _ e] at hi'
        exact h.2 m i (by omega) hi'
theorem fl_clear_sm {S : sh_T} (f : fl_T) (hS : sh_ok S) : fl_sm (sh_mc S) (fl_clear S f) 2000 := fl_clr_sm hS _ hS.1
theorem fl_place_sm {S : sh_T} {f : fl_T} {j B : Nat} (hS : sh_ok S) (hf : sp_fits S j = true) (hF : fl_sm (sh_mc S) f B) : fl_sm (sh_mc S) (fl_place S j f) (B + 800) ∧ fl_end S j f ≤ B + 800 := by
  obtain ⟨h1, h2, -⟩ := fl_pj_sm hS hf hF (sh_so S j) (Nat.le_refl _)
  have := hS.2.2.2.2.2.2.2.2.2.1 j
  exact ⟨fl_sm_mono h1 (by omega), Nat.le_trans h2 (by omega)⟩
/-- jobs by an order, one behind the other: the floor, the cost -/
def fl_co (S : sh_T) (g : Nat → Nat) (f : fl_T) : Nat → fl_T × Nat
  | 0 => (f, 0)
  | k + 1 => (fl_place S (g k) (fl_co S g f k).1, (fl_co S g f k).2 + (fl_end S (g k) (fl_co S g f k).1 - sh_du S (g k)) * sh_we S (g k))
theorem fl_co_sm {S : sh_T} {f : fl_T} {g : Nat → Nat} {B : Nat} (hS : sh_ok S) (hF : fl_sm (sh_mc S) f B) : ∀ n, (∀ k, k < n → g k < 6 ∧ sp_fits S (g k) = true) → fl_sm (sh_mc S) (fl_co S g f n).1 (B + 800 * n)
  | 0, _ => hF
  | n + 1, hg => by
    have h := fl_co_sm hS hF n (fun k hk => hg k (by omega))
    exact fl_sm_mono (fl_place_sm hS (hg n (by omega)).2 h).1 (by omega)
set_option maxRecDepth 20000 in
theorem c_F_costInOrderR_l (hS : sh_ok S) (d bc bs n : Nat) (hn : n ≤ 6) (hg : ∀ k, k < n → (se_bs R) k < 6 ∧ sp_fits S ((se_bs R) k) = true) : ∀ (q k : Nat), k ≤ n → n - k < q →
    am_W G m_F_costInOrder (d + 4) bc bs (fun o h' => o = .inl (some (.long (lN (fl_co S (se_bs R) (fl_clear S F) n).2))) ∧ h' = (hx x t S (fl_co S (se_bs R) (fl_clear S F) n).1 R P W)) 9 [(0, .ref 15), (1, .ref 25), (2, .int (nI n)), (3, .long (lN (fl_co S (se_bs R) (fl_clear S F) k).2)), (5, .int (nI k))] [] (hx x t S (fl_co S (se_bs R) (fl_clear S F) k).1 R P W) := by
  intro q
  induction q with
  | zero => intro i _ h; omega
  | succ q ih =>
    intro k hk hq
    have hsm := fl_co_sm (g := (se_bs R)) hS (fl_clear_sm F hS) k (fun i hi => hg i (by omega))
    refine am_iload d_F_costInOrder_9 rfl ?_
    refine am_iload_n d_F_costInOrder_11 rfl rfl ?_
    refine am_icmpN_ge (tgt := 43) d_F_costInOrder_12 (by decide) (by omega) (by omega) (fun c12 => ?_) (fun c12 => ?_)
    · refine am_lload_n d_F_costInOrder_43 rfl rfl ?_
      refine am_lret d_F_costInOrder_44 rfl ?_
      have e : k = n := by omega
      subst e
      exact ⟨rfl, rfl⟩
    · obtain ⟨h1, h2⟩ := hg k (by omega)
      obtain ⟨-, hend⟩ := fl_place_sm (f := (fl_co S (se_bs R) (fl_clear S F) k).1) hS h2 hsm
      refine am_lload_n d_F_costInOrder_15 rfl rfl ?_
      refine am_aload_n d_F_costInOrder_16 rfl rfl ?_
      refine am_get F_F 0 (by decide) d_F_costInOrder_17 w_109 rfl rfl ?_
      refine am_aload_n d_F_costInOrder_20 rfl rfl ?_
      refine am_iload d_F_costInOrder_21 rfl ?_
      refine am_ialdA d_F_costInOrder_23 rfl (by omega) (by decide) ?_
      refine am_aload_n d_F_costInOrder_24 rfl rfl ?_
      refine am_aload_n d_F_costInOrder_25 rfl rfl ?_
      refine am_iload d_F_costInOrder_26 rfl ?_
      refine am_ialdA d_F_costInOrder_28 rfl (by omega) (by decide) ?_
      refine am_callF 2 (am_recvV (z := m_F_place) rfl d_F_costInOrder_29 w_449 w_450 w_451 w_452 F_F.1 rfl (by decide) np_F_place) (by decide) (by decide) (Nat.le_of_ble_eq_true rfl) (Nat.le_of_ble_eq_true rfl) (Nat.zero_le _) (Nat.zero_le _) (c_F_place hS d _ _ _ (2000 + 800 * k) h1 h2 hsm (by omega)) ?_
      refine am_callF 3 (am_recvV (z := m_S_costOf) rfl d_F_costInOrder_32 w_468 w_469 w_470 w_471 F_S.1 rfl (by decide) np_S_costOf) (by decide) (by decide) (Nat.le_of_ble_eq_true rfl) (Nat.le_of_ble_eq_true rfl) (Nat.zero_le _) (Nat.zero_le _) (c_S_costOf hS _ _ _ _ _ h1 (by omega)) ?_
      refine am_laddN d_F_costInOrder_35 ?_
      refine am_lstore_n d_F_costInOrder_36 rfl (by decide) ?_
      refine am_iinc d_F_costInOrder_37 rfl (am_inc _) (by decide) ?_
      refine am_goto (tgt := 9) d_F_costInOrder_40 (by decide) ?_
      exact am_lo (L' := [(0, .ref 15), (1, .ref 25), (2, .int (nI n)), (3, .long (lN (fl_co S (se_bs R) (fl_clear S F) (k + 1)).2)), (5, .int (nI (k + 1)))]) rfl (ih (k + 1) (by omega) (by omega))
theorem c_F_costInOrderR (hS : sh_ok S) (d bc bs n : Nat) (hn : n ≤ 6) (hg : ∀ k, k < n → (se_bs R) k < 6 ∧ sp_fits S ((se_bs R) k) = true) : am_Fn G m_F_costInOrder (d + 4) bc bs [.ref 15, .ref 25, .int (nI n)] (hx x t S F R P W) (some (.long (lN (fl_co S (se_bs R) (fl_clear S F) n).2))) (hx x t S (fl_co S (se_bs R) (fl_clear S F) n).1 R P W) := by
  refine am_aload_n d_F_costInOrder_0 rfl rfl ?_
  refine am_callF 1 (am_recvV (z := m_F_clear) rfl d_F_costInOrder_1 w_441 w_442 w_443 w_444 F_F.1 rfl (by decide) np_F_clear) (by decide) (by decide) (Nat.le_of_ble_eq_true rfl) (Nat.le_of_ble_eq_true rfl) (Nat.zero_le _) (Nat.zero_le _) (c_F_clear hS _ _ _) ?_
  refine am_lconst (v := 0) d_F_costInOrder_4 rfl ?_
  refine am_lstore_n d_F_costInOrder_5 rfl (by decide) ?_
  refine am_iconst (v := nI 0) d_F_costInOrder_6 (by decide) ?_
  refine am_istore d_F_costInOrder_7 (by decide) ?_
  exact am_lo (L' := [(0, .ref 15), (1, .ref 25), (2, .int (nI n)), (3, .long (lN 0)), (5, .int (nI 0))]) rfl (c_F_costInOrderR_l hS d bc bs n hn hg (n + 1) 0 (Nat.zero_le _) (by omega))
set_option maxRecDepth 20000 in
theorem c_F_costInOrderP_l (hS : sh_ok S) (d bc bs n : Nat) (hn : n ≤ 6) (hg : ∀ k, k < n → (pl_ja P) k < 6 ∧ sp_fits S ((pl_ja P) k) = true) : ∀ (q k : Nat), k ≤ n → n - k < q →
    am_W G m_F_costInOrder (d + 4) bc bs (fun o h' => o = .inl (some (.long (lN (fl_co S (pl_ja P) (fl_clear S F) n).2))) ∧ h' = (hx x t S (fl_co S (pl_ja P) (fl_clear S F) n).1 R P W)) 9 [(0, .ref 15), (1, .ref 27), (2, .int (nI n)), (3, .long (lN (fl_co S (pl_ja P) (fl_clear S F) k).2)), (5, .int (nI k))] [] (hx x t S (fl_co S (pl_ja P) (fl_clear S F) k).1 R P W) := by
  intro q
  induction q with
  | zero => intro i _ h; omega
  | succ q ih =>
    intro k hk hq
    have hsm := fl_co_sm (g := (pl_ja P)) hS (fl_clear_sm F hS) k (fun i hi => hg i (by omega))
    refine am_iload d_F_costInOrder_9 rfl ?_
    refine am_iload_n d_F_costInOrder_11 rfl rfl ?_
    refine am_icmpN_ge (tgt := 43) d_F_costInOrder_12 (by decide) (by omega) (by omega) (fun c12 => ?_) (fun c12 => ?_)
    · refine am_lload_n d_F_costInOrder_43 rfl rfl ?_
      refine am_lret d_F_costInOrder_44 rfl ?_
      have e : k = n := by omega
      subst e
      exact ⟨rfl, rfl⟩
    · obtain ⟨h1, h2⟩ := hg k (by omega)
      obtain ⟨-, hend⟩ := fl_place_sm (f := (fl_co S (pl_ja P) (fl_clear S F) k).1) hS h2 hsm
      refine am_lload_n d_F_costInOrder_15 rfl rfl ?_
      refine am_aload_n d_F_costInOrder_16 rfl rfl ?_
      refine am_get F_F 0 (by decide) d_F_costInOrder_17 w_109 rfl rfl ?_
      refine am_aload_n d_F_costInOrder_20 rfl rfl ?_
      refine am_iload d_F_costInOrder_21 rfl ?_
      refine am_ialdA d_F_costInOrder_23 rfl (by omega) (by decide) ?_
      refine am_aload_n d_F_costInOrder_24 rfl rfl ?_
      refine am_aload_n d_F_costInOrder_25 rfl rfl ?_
      refine am_iload d_F_costInOrder_26 rfl ?_
      refine am_ialdA d_F_costInOrder_28 rfl (by omega) (by decide) ?_
      refine am_callF 2 (am_recvV (z := m_F_place) rfl d_F_costInOrder_29 w_449 w_450 w_451 w_452 F_F.1 rfl (by decide) np_F_place) (by decide) (by decide) (Nat.le_of_ble_eq_true rfl) (Nat.le_of_ble_eq_true rfl) (Nat.zero_le _) (Nat.zero_le _) (c_F_place hS d _ _ _ (2000 + 800 * k) h1 h2 hsm (by omega)) ?_
      refine am_callF 3 (am_recvV (z := m_S_costOf) rfl d_F_costInOrder_32 w_468 w_469 w_470 w_471 F_S.1 rfl (by decide) np_S_costOf) (by decide) (by decide) (Nat.le_of_ble_eq_true rfl) (Nat.le_of_ble_eq_true rfl) (Nat.zero_le _) (Nat.zero_le _) (c_S_costOf hS _ _ _ _ _ h1 (by omega)) ?_
      refine am_laddN d_F_costInOrder_35 ?_
      refine am_lstore_n d_F_costInOrder_36 rfl (by decide) ?_
      refine am_iinc d_F_costInOrder_37 rfl (am_inc _) (by decide) ?_
      refine am_goto (tgt := 9) d_F_costInOrder_40 (by decide) ?_
      exact am_lo (L' := [(0, .ref 15), (1, .ref 27), (2, .int (nI n)), (3, .long (lN (fl_co S (pl_ja P) (fl_clear S F) (k + 1)).2)), (5, .int (nI (k + 1)))]) rfl (ih (k + 1) (by omega) (by omega))
theorem c_F_costInOrderP (hS : sh_ok S) (d bc bs n : Nat) (hn : n ≤ 6) (hg : ∀ k, k < n → (pl_ja P) k < 6 ∧ sp_fits S ((pl_ja P) k) = true) : am_Fn G m_F_costInOrder (d + 4) bc bs [.ref 15, .ref 27, .int (nI n)] (hx x t S F R P W) (some (.long (lN (fl_co S (pl_ja P) (fl_clear S F) n).2))) (hx x t S (fl_co S (pl_ja P) (fl_clear S F) n).1 R P W) := by
  refine am_aload_n d_F_costInOrder_0 rfl rfl ?_
  refine am_callF 1 (am_recvV (z := m_F_clear) rfl d_F_costInOrder_1 w_441 w_442 w_443 w_444 F_F.1 rfl (by decide) np_F_clear) (by decide) (by decide) (Nat.le_of_ble_eq_true rfl) (Nat.le_of_ble_eq_true rfl) (Nat.zero_le _) (Nat.zero_le _) (c_F_clear hS _ _ _) ?_
  refine am_lconst (v := 0) d_F_costInOrder_4 rfl ?_
  refine am_lstore_n d_F_costInOrder_5 rfl (by decide) ?_
  refine am_iconst (v := nI 0) d_F_costInOrder_6 (by decide) ?_
  refine am_istore d_F_costInOrder_7 (by decide) ?_
  exact am_lo (L' := [(0, .ref 15), (1, .ref 27), (2, .int (nI n)), (3, .long (lN 0)), (5, .int (nI 0))]) rfl (c_F_costInOrderP_l hS d bc bs n hn hg (n + 1) 0 (Nat.zero_le _) (by omega))
/-- a job's cost if no other is placed -/
def fl_al (S : sh_T) (f : fl_T) (j : Nat) : Nat := (fl_end S j (fl_clear S f) - sh_du S j) * sh_we S j
/-- the cost of two, one behind the other -/
def fl_tw (S : sh_T) (f : fl_T) (i j : Nat) : Nat := (fl_end S i (fl_clear S f) - sh_du S i) * sh_we S i + (fl_end S j (fl_place S i (fl_clear S f)) - sh_du S j) * sh_we S j
theorem c_F_costAlone (hS : sh_ok S) (d bc bs j : Nat) (hj : j < 6) (hf : sp_fits S j = true) : am_Fn G m_F_costAlone (d + 4) bc bs [.ref 15, .int (nI j)] (hx x t S F R P W) (some (.long (lN (fl_al S F j)))) (hx x t S (fl_place S j (fl_clear S F)) R P W) := by
  have hsm := fl_clear_sm F hS
  obtain ⟨-, hend⟩ := fl_place_sm hS hf hsm
  refine am_aload_n d_F_costAlone_0 rfl rfl ?_
  refine am_callF 1 (am_recvV (z := m_F_clear) rfl d_F_costAlone_1 w_441 w_442 w_443 w_444 F_F.1 rfl (by decide) np_F_clear) (by decide) (by decide) (Nat.le_of_ble_eq_true rfl) (Nat.le_of_ble_eq_true rfl) (Nat.zero_le _) (Nat.zero_le _) (c_F_clear hS _ _ _) ?_
  refine am_aload_n d_F_costAlone_4 rfl rfl ?_
  refine am_get F_F 0 (by decide) d_F_costAlone_5 w_109 rfl rfl ?_
  refine am_iload_n d_F_costAlone_8 rfl rfl ?_
  refine am_aload_n d_F_costAlone_9 rfl rfl ?_
  refine am_iload_n d_F_costAlone_10 rfl rfl ?_
  refine am_callF 2 (am_recvV (z := m_F_place) rfl d_F_costAlone_11 w_449 w_450 w_451 w_452 F_F.1 rfl (by decide) np_F_place) (by decide) (by decide) (Nat.le_of_ble_eq_true rfl) (Nat.le_of_ble_eq_true rfl) (Nat.zero_le _) (Nat.zero_le _) (c_F_place hS d _ _ j 2000 hj hf hsm (by omega)) ?_
  refine am_callF 3 (am_recvV (z := m_S_costOf) rfl d_F_costAlone_14 w_468 w_469 w_470 w_471 F_S.1 rfl (by decide) np_S_costOf) (by decide) (by decide) (Nat.le_of_ble_eq_true rfl) (Nat.le_of_ble_eq_true rfl) (Nat.zero_le _) (Nat.zero_le _) (c_S_costOf hS _ _ _ _ _ hj (by omega)) ?_
  refine am_lret d_F_costAlone_17 rfl ?_
  exact ⟨rfl, rfl⟩
theorem c_F_costOfTwo (hS : sh_ok S) (d bc bs i j : Nat) (hi : i < 6) (hj : j < 6) (hfi : sp_fits S i = true) (hfj : sp_fits S j = true) : am_Fn G m_F_costOfTwo (d + 4) bc bs [.ref 15, .int (nI i), .int (nI j)] (hx x t S F R P W) (some (.long (lN (fl_tw S F i j)))) (hx x t S (fl_place S j (fl_place S i (fl_clear S F))) R P W) := by
  have hsm := fl_clear_sm F hS
  obtain ⟨hsm2, hend⟩ := fl_place_sm hS hfi hsm
  obtain ⟨-, hend2⟩ := fl_place_sm hS hfj hsm2
  refine am_aload_n d_F_costOfTwo_0 rfl rfl ?_
  refine am_callF 1 (am_recvV (z := m_F_clear) rfl d_F_costOfTwo_1 w_441 w_442 w_443 w_444 F_F.1 rfl (by decide) np_F_clear) (by decide) (by decide) (Nat.le_of_ble_eq_true rfl) (Nat.le_of_ble_eq_true rfl) (Nat.zero_le _) (Nat.zero_le _) (c_F_clear hS _ _ _) ?_
  refine am_aload_n d_F_costOfTwo_4 rfl rfl ?_
  refine am_get F_F 0 (by decide) d_F_costOfTwo_5 w_109 rfl rfl ?_
  refine am_iload_n d_F_costOfTwo_8 rfl rfl ?_
  refine am_aload_n d_F_costOfTwo_9 rfl rfl ?_
  refine am_iload_n d_F_costOfTwo_10 rfl rfl ?_
  refine am_callF 2 (am_recvV (z := m_F_place) rfl d_F_costOfTwo_11 w_449 w_450 w_451 w_452 F_F.1 rfl (by decide) np_F_place) (by decide) (by decide) (Nat.le_of_ble_eq_true rfl) (Nat.le_of_ble_eq_true rfl) (Nat.zero_le _) (Nat.zero_le _) (c_F_place hS d _ _ i 2000 hi hfi hsm (by omega)) ?_
  refine am_callF 3 (am_recvV (z := m_S_costOf) rfl d_F_costOfTwo_14 w_468 w_469 w_470 w_471 F_S.1 rfl (by decide) np_S_costOf) (by decide) (by decide) (Nat.le_of_ble_eq_true rfl) (Nat.le_of_ble_eq_true rfl) (Nat.zero_le _) (Nat.zero_le _) (c_S_costOf hS _ _ _ _ _ hi (by omega)) ?_
  refine am_lstore_n d_F_costOfTwo_17 rfl (by decide) ?_
  refine am_lload_n d_F_costOfTwo_18 rfl rfl ?_
  refine am_aload_n d_F_costOfTwo_19 rfl rfl ?_
  refine am_get F_F 0 (by decide) d_F_costOfTwo_20 w_109 rfl rfl ?_
  refine am_iload_n d_F_costOfTwo_23 rfl rfl ?_
  refine am_aload_n d_F_costOfTwo_24 rfl rfl ?_
  refine am_iload_n d_F_costOfTwo_25 rfl rfl ?_
  refine am_callF 2 (am_recvV (z := m_F_place) rfl d_F_costOfTwo_26 w_449 w_450 w_451 w_452 F_F.1 rfl (by decide) np_F_place) (by decide) (by decide) (Nat.le_of_ble_eq_true rfl) (Nat.le_of_ble_eq_true rfl) (Nat.zero_le _) (Nat.zero_le _) (c_F_place hS d _ _ j 2800 hj hfj hsm2 (by omega)) ?_
  refine am_callF 3 (am_recvV (z := m_S_costOf) rfl d_F_costOfTwo_29 w_468 w_469 w_470 w_471 F_S.1 rfl (by decide) np_S_costOf) (by decide) (by decide) (Nat.le_of_ble_eq_true rfl) (Nat.le_of_ble_eq_true rfl) (Nat.zero_le _) (Nat.zero_le _) (c_S_costOf hS _ _ _ _ _ hj (by omega)) ?_
  refine am_laddN d_F_costOfTwo_32 ?_
  refine am_lret d_F_costOfTwo_33 rfl ?_
  exact ⟨rfl, rfl⟩
/-- the job that was placed last is taken away -/
def fl_dec (f : fl_T) (m : Nat) : fl_T := if 0 < fl_bc f m then (fl_bg f, fl_ma f, nu (fl_bc f) m (fl_bc f m - 1), fl_bf f, fl_bt f) else f
def fl_li (S : sh_T) (j : Nat) (f : fl_T) : Nat → fl_T
  | 0 => f
  | i + 1 => fl_dec (fl_li S j f i) (fl_ma f (sh_sa S (j * 4 + i)))
def fl_lift (S : sh_T) (j : Nat) (f : fl_T) : fl_T := fl_li S j f (sh_so S j)
theorem fl_li_ma (S : sh_T) (j : Nat) (f : fl_T) : ∀ i, fl_ma (fl_li S j f i) = fl_ma f
  | 0 => rfl
  | i + 1 => by
    have h := fl_li_ma S j f i
    unfold fl_li fl_dec
    split
    · exact h
    · exact h
theorem fl_li_bc (S : sh_T) (j : Nat) (f : fl_T) (m : Nat) : ∀ i, fl_bc (fl_li S j f i) m ≤ fl_bc f m
  | 0 => Nat.le_refl _
  | i + 1 => by
    have h := fl_li_bc S j f m i
    unfold fl_li fl_dec
    split
    · show nu _ _ _ m ≤ _
      unfold nu
      split
      · rename_i e; rw [← e]; omega
      · exact h
    · exact h
set_option maxRecDepth 20000 in
theorem c_F_lift_l (hS : sh_ok S) (d bc bs j : Nat) (hj : j < 6) (hm : ∀ i, i < sh_so S j → fl_ma F (sh_sa S (j * 4 + i)) < sh_mc S) (hb : ∀ m, m < sh_mc S → fl_bc F m < 2 ^ 31) : ∀ (g i : Nat), i ≤ sh_so S j → sh_so S j - i < g →
    am_W G m_F_lift d bc bs (fun o h' => o = .inl none ∧ h' = (hx x t S (fl_lift S j F) R P W)) 2 [(0, .ref 15), (1, .int (nI j)), (2, .int (nI i))] [] (hx x t S (fl_li S j F i) R P W) := by
  intro g
  obtain ⟨s1, s2, s3, s4, s5, s6, s7, s8, s9, s10, s11, s12, s13, s14⟩ := id hS
  have t10 := s10 j
  induction g with
  | zero => intro i _ h; omega
  | succ g ih =>
    intro i hi hg
    have hma := fl_li_ma S j F i
    refine am_iload_n d_F_lift_2 rfl rfl ?_
    refine am_aload_n d_F_lift_3 rfl rfl ?_
    refine am_get F_F 0 (by decide) d_F_lift_4 w_109 rfl rfl ?_
    refine am_get F_S 8 (by decide) d_F_lift_7 w_52 rfl rfl ?_
    refine am_iload_n d_F_lift_10 rfl rfl ?_
    refine am_ialdA d_F_lift_11 rfl (by omega) (by decide) ?_
    refine am_icmpN_ge (tgt := 64) d_F_lift_12 (by decide) (by omega) (by omega) (fun c12 => ?_) (fun c12 => ?_)
    · refine am_vret d_F_lift_64 rfl ?_
      have e : i = sh_so S j := by omega
      subst e
      exact ⟨rfl, rfl⟩
    · have t11 := s11 (j * 4 + i)
      have hm1 := hm i (by omega)
      rw [← hma] at hm1
      have hb1 := fl_li_bc S j F (fl_ma (fl_li S j F i) (sh_sa S (j * 4 + i))) i
      have hb2 := hb (fl_ma (fl_li S j F i) (sh_sa S (j * 4 + i))) hm1
      refine am_aload_n d_F_lift_15 rfl rfl ?_
      refine am_get F_F 2 (by decide) d_F_lift_16 w_112 rfl rfl ?_
      refine am_aload_n d_F_lift_19 rfl rfl ?_
      refine am_get F_F 0 (by decide) d_F_lift_20 w_109 rfl rfl ?_
      refine am_get F_S 9 (by decide) d_F_lift_23 w_56 rfl rfl ?_
      refine am_iload_n d_F_lift_26 rfl rfl ?_
      refine am_iconst (v := nI 4) d_F_lift_27 (by decide) ?_
      refine am_imulN d_F_lift_28 ?_
      refine am_iload_n d_F_lift_29 rfl rfl ?_
      refine am_iaddN d_F_lift_30 ?_
      refine am_ialdA d_F_lift_31 rfl (by omega) (by decide) ?_
      refine am_ialdA d_F_lift_32 rfl (by omega) (by decide) ?_
      refine am_istore_n d_F_lift_33 rfl (by decide) ?_
      refine am_iload_n d_F_lift_34 rfl rfl ?_
      refine am_iconst (v := -1) d_F_lift_35 (by decide) ?_
      refine am_icmp_eq (tgt := 58) d_F_lift_36 (by decide) (fun c36 => ?_) (fun c36 => ?_)
      · refine am_iinc d_F_lift_58 rfl (am_inc _) (by decide) ?_
        refine am_goto (tgt := 2) d_F_lift_61 (by decide) ?_
        first
          | exact absurd c36 (nI_m1 (by omega))
          | exact am_lo (L' := [(0, .ref 15), (1, .int (nI j)), (2, .int (nI (i + 1)))]) rfl (am_hq (h2 := (hx x t S (fl_li S j F (i + 1)) R P W)) (by rw [fl_li, ← hma, fl_dec, if_neg (by omega)]) (ih (i + 1) (by omega) (by omega)))
          | exact am_lo (L' := [(0, .ref 15), (1, .int (nI j)), (2, .int (nI (i + 1)))]) rfl (am_hq (h2 := (hx x t S (fl_li S j F (i + 1)) R P W)) (show (hx x t S (fl_bg (fl_li S j F i), fl_ma (fl_li S j F i), nu (fl_bc (fl_li S j F i)) (fl_ma (fl_li S j F i) (sh_sa S (j * 4 + i))) (fl_bc (fl_li S j F i) (fl_ma (fl_li S j F i) (sh_sa S (j * 4 + i))) - 1), fl_bf (fl_li S j F i), fl_bt (fl_li S j F i)) R P W) = _ by rw [fl_li, ← hma, fl_dec, if_pos (by omega)]) (ih (i + 1) (by omega) (by omega)))
      · refine am_aload_n d_F_lift_39 rfl rfl ?_
        refine am_get F_F 3 (by decide) d_F_lift_40 w_114 rfl rfl ?_
        refine am_iload_n d_F_lift_43 rfl rfl ?_
        refine am_ialdA d_F_lift_44 rfl (by omega) (by decide) ?_
        refine am_ifN_le (tgt := 58) d_F_lift_45 (by decide) (by omega) (fun c45 => ?_) (fun c45 => ?_)
        · refine am_iinc d_F_lift_58 rfl (am_inc _) (by decide) ?_
          refine am_goto (tgt := 2) d_F_lift_61 (by decide) ?_
          first
            | exact absurd c36 (nI_m1 (by omega))
            | exact am_lo (L' := [(0, .ref 15), (1, .int (nI j)), (2, .int (nI (i + 1)))]) rfl (am_hq (h2 := (hx x t S (fl_li S j F (i + 1)) R P W)) (by rw [fl_li, ← hma, fl_dec, if_neg (by omega)]) (ih (i + 1) (by omega) (by omega)))
            | exact am_lo (L' := [(0, .ref 15), (1, .int (nI j)), (2, .int (nI (i + 1)))]) rfl (am_hq (h2 := (hx x t S (fl_li S j F (i + 1)) R P W)) (show (hx x t S (fl_bg (fl_li S j F i), fl_ma (fl_li S j F i), nu (fl_bc (fl_li S j F i)) (fl_ma (fl_li S j F i) (sh_sa S (j * 4 + i))) (fl_bc (fl_li S j F i) (fl_ma (fl_li S j F i) (sh_sa S (j * 4 + i))) - 1), fl_bf (fl_li S j F i), fl_bt (fl_li S j F i)) R P W) = _ by rw [fl_li, ← hma, fl_dec, if_pos (by omega)]) (ih (i + 1) (by omega) (by omega)))
        · refine am_aload_n d_F_lift_48 rfl rfl ?_
          refine am_get F_F 3 (by decide) d_F_lift_49 w_114 rfl rfl ?_
          refine am_iload_n d_F_lift_52 rfl rfl ?_
          refine am_dup2 d_F_lift_53 rfl rfl ?_
          refine am_ialdA d_F_lift_54 rfl (by omega) (by decide) ?_
          refine am_iconst (v := nI 1) d_F_lift_55 (by decide) ?_
          refine am_isubN d_F_lift_56 (by omega) ?_
          refine am_iastA d_F_lift_57 rfl (by omega) (by decide) ?_
          refine am_iinc d_F_lift_58 rfl (am_inc _) (by decide) ?_
          refine am_goto (tgt := 2) d_F_lift_61 (by decide) ?_
          first
            | exact absurd c36 (nI_m1 (by omega))
            | exact am_lo (L' := [(0, .ref 15), (1, .int (nI j)), (2, .int (nI (i + 1)))]) rfl (am_hq (h2 := (hx x t S (fl_li S j F (i + 1)) R P W)) (by rw [fl_li, ← hma, fl_dec, if_neg (by omega)]) (ih (i + 1) (by omega) (by omega)))
            | exact am_lo (L' := [(0, .ref 15), (1, .int (nI j)), (2, .int (nI (i + 1)))]) rfl (am_hq (h2 := (hx x t S (fl_li S j F (i + 1)) R P W)) (show (hx x t S (fl_bg (fl_li S j F i), fl_ma (fl_li S j F i), nu (fl_bc (fl_li S j F i)) (fl_ma (fl_li S j F i) (sh_sa S (j * 4 + i))) (fl_bc (fl_li S j F i) (fl_ma (fl_li S j F i) (sh_sa S (j * 4 + i))) - 1), fl_bf (fl_li S j F i), fl_bt (fl_li S j F i)) R P W) = _ by rw [fl_li, ← hma, fl_dec, if_pos (by omega)]) (ih (i + 1) (by omega) (by omega)))
theorem c_F_lift (hS : sh_ok S) (d bc bs j : Nat) (hj : j < 6) (hm : ∀ i, i < sh_so S j → fl_ma F (sh_sa S (j * 4 + i)) < sh_mc S) (hb : ∀ m, m < sh_mc S → fl_bc F m < 2 ^ 31) : am_Fn G m_F_lift d bc bs [.ref 15, .int (nI j)] (hx x t S F R P W) none (hx x t S (fl_lift S j F) R P W) := by
  refine am_iconst (v := nI 0) d_F_lift_0 (by decide) ?_
  refine am_istore_n d_F_lift_1 rfl (by decide) ?_
  exact am_lo (L' := [(0, .ref 15), (1, .int (nI j)), (2, .int (nI 0))]) rfl (c_F_lift_l hS d bc bs j hj hm hb (sh_so S j + 1) 0 (Nat.zero_le _) (by omega))
end CFN
end
section
/-! PURE: what the floor answers hangs on its rows of busy times alone -/
def fl_eqv (N : Nat) (f g : fl_T) : Prop := ∀ m, m < N → fl_bc f m = fl_bc g m ∧ ∀ i, i < fl_bc f m → fl_bf f (m * 32 + i) = fl_bf g (m * 32 + i) ∧ fl_bt f (m * 32 + i) = fl_bt g (m * 32 + i)
theorem mm_pass_congr {fr to fr' to' : Nat → Nat} (n h : Nat) : ∀ c, (∀ i, i < c → fr i = fr' i ∧ to i = to' i) → mm_pass fr to n c h = mm_pass fr' to' n c h
  | 0, _ => rfl
  | c + 1, he => by
    have h1 := mm_pass_congr n h c (fun i hi => he i (by omega))
    obtain ⟨h2, h3⟩ := he c (by omega)
    unfold mm_pass
    rw [h1, h2, h3]
theorem mm_it_congr {fr to fr' to' : Nat → Nat} (c n : Nat) (he : ∀ i, i < c → fr i = fr' i ∧ to i = to' i) : ∀ k h, mm_it fr to c n k h = mm_it fr' to' c n k h
  | 0, h => rfl
  | k + 1, h => by
    unfold mm_it
    rw [mm_pass_congr n h c he]
    split
    · exact mm_it_congr c n he k _
    · rfl
theorem fl_first_eqv {N : Nat} {f g : fl_T} (he : fl_eqv N f g) {m : Nat} (hm : m < N) (r n : Nat) : fl_first f m r n = fl_first g m r n := by
  obtain ⟨h1, h2⟩ := he m hm
  unfold fl_first
  rw [← h1]
  exact mm_it_congr _ _ (fun i hi => h2 i hi) _ _
theorem fl_try_eqv {N : Nat} {S : sh_T} {f g : fl_T} (he : fl_eqv N f g) (s r : Nat) : ∀ n, n ≤ N → fl_try S f s r n = fl_try S g s r n
  | 0, _ => rfl
  | n + 1, hn => by
    unfold fl_try
    rw [fl_try_eqv he s r n (by omega), fl_first_eqv he (show n < N by omega)]
theorem fl_add_eqv {N : Nat} {f g : fl_T} (he : fl_eqv N f g) (hc : ∀ m, m < N → fl_bc f m ≤ 32) {m : Nat} (hm : m < N) (a b : Nat) : fl_eqv N (fl_add f m a b) (fl_add g m a b) := by
  obtain ⟨h1, -⟩ := he m hm
  unfold fl_add
  rw [← h1]
  split
  · rename_i hlt
    intro k hk
    obtain ⟨h3, h4⟩ := he k hk
    have hck := hc k hk
    refine ⟨?_, fun i hi => ?_⟩
    · show nu (fl_bc f) m _ k = nu (fl_bc g) m _ k
      unfold nu
      split
      · rfl
      · exact h3
    · have hi' : i < nu (fl_bc f) m (fl_bc f m + 1) k := hi
      show nu (fl_bf f) (m * 32 + fl_bc f m) a (k * 32 + i) = nu (fl_bf g) (m * 32 + fl_bc f m) a (k * 32 + i) ∧ nu (fl_bt f) (m * 32 + fl_bc f m) b (k * 32 + i) = nu (fl_bt g) (m * 32 + fl_bc f m) b (k * 32 + i)
      by_cases e : k * 32 + i = m * 32 + fl_bc f m
      · rw [e, nu_eq, nu_eq, nu_eq, nu_eq]; exact ⟨rfl, rfl⟩
      · rw [nu_ne _ _ e, nu_ne _ _ e, nu_ne _ _ e, nu_ne _ _ e]
        refine h4 i ?_
        by_cases ek : k = m
        · subst ek
          rw [nu_eq] at hi'
          omega
        · rw [nu_ne _ _ ek] at hi'
          exact hi'
  · exact he
theorem fl_put_eqv {N : Nat} {S : sh_T} {f g : fl_T} (he : fl_eqv N f g) (hc : ∀ m, m < N → fl_bc f m ≤ 32) (s : Nat) {m : Nat} (hm : m < N) (b : Nat) : fl_eqv N (fl_put S f s m b) (fl_put S g s m b) :=
  fl_add_eqv (f := (nu (fl_bg f) s b, nu (fl_ma f) s m, f.2.2)) (g := (nu (fl_bg g) s b, nu (fl_ma g) s m, g.2.2)) he hc hm b _
theorem fl_pj_eqv {S : sh_T} {j B : Nat} {f g : fl_T} (hS : sh_ok S) (hf : sp_fits S j = true) (hF : fl_sm (sh_mc S) f B) (he : fl_eqv (sh_mc S) f g) : ∀ n, n ≤ sh_so S j → fl_eqv (sh_mc S) (fl_pj S j f n).1 (fl_pj S j g n).1 ∧ (fl_pj S j f n).2 = (fl_pj S j g n).2
  | 0, _ => ⟨he, rfl⟩
  | n + 1, hn => by
    obtain ⟨h1, h2⟩ := fl_pj_eqv hS hf hF he n (by omega)
    obtain ⟨h3, h4, h5⟩ := fl_pj_sm hS hf hF n (by omega)
    have ht := fl_try_eqv (S := S) h1 (sh_sa S (j * 4 + n)) (fl_pj S j f n).2.2 (sh_mc S) (Nat.le_refl _)
    have hso := fl_try_some (S := S) (f := (fl_pj S j f n).1) (s := sh_sa S (j * 4 + n)) (r := (fl_pj S j f n).2.2) (sh_mc S) (sp_fit_has hf (by omega))
    obtain ⟨hb1, hb2⟩ := fl_try_bd (S := S) (s := sh_sa S (j * 4 + n)) h3 h5 (sh_mc S) (Nat.le_refl _)
    obtain ⟨m, hq⟩ := Option.ne_none_iff_exists'.mp hso
    unfold fl_pj fl_stp
    rw [← h2, ← ht, hq]
    exact ⟨fl_put_eqv h1 h3.1 _ (hb2 m hq) _, rfl⟩
theorem fl_place_eqv {S : sh_T} {j B : Nat} {f g : fl_T} (hS : sh_ok S) (hf : sp_fits S j = true) (hF : fl_sm (sh_mc S) f B) (he : fl_eqv (sh_mc S) f g) : fl_eqv (sh_mc S) (fl_place S j f) (fl_place S j g) ∧ fl_end S j f = fl_end S j g := by
  obtain ⟨h1, h2⟩ := fl_pj_eqv hS hf hF he (sh_so S j) (Nat.le_refl _)
  exact ⟨h1, congrArg Prod.fst h2⟩
theorem fl_spans_eqv {N : Nat} {S : sh_T} {m : Nat} {f g : fl_T} (hS : sh_ok S) (hN : N ≤ 6) (hm : m < N) (hF : fl_sm N f 2000) (he : fl_eqv N f g) : ∀ i, fl_eqv N (fl_spans S m f i) (fl_spans S m g i)
  | 0 => he
  | i + 1 => fl_add_eqv (fl_spans_eqv hS hN hm hF he i) (fl_spans_sm hS hN hm hF i).1 hm _ _
theorem fl_clr_eqv {S : sh_T} (hS : sh_ok S) (f g : fl_T) : ∀ n, n ≤ 6 → fl_eqv n (fl_clr S f n) (fl_clr S g n)
  | 0, _ => fun m hm => absurd hm (Nat.not_lt_zero m)
  | n + 1, hn => by
    have h := fl_clr_eqv hS f g n (by omega)
    have hsm := fl_clr_sm (f := f) hS n (by omega)
    unfold fl_clr
    refine fl_spans_eqv hS hn (by omega) ⟨fun m hm => ?_, fun m i hm hi => ?_⟩ (fun k hk => ?_) _
    · show nu (fl_bc (fl_clr S f n)) n 0 m ≤ 32
      unfold nu
      split
      · omega
      · exact hsm.1 m (by omega)
    · have hi' : i < nu (fl_bc (fl_clr S f n)) n 0 m := hi
      by_cases e : m = n
      · subst e
        rw [nu_eq] at hi'
        omega
      · rw [nu_ne _ _ e] at hi'
        exact hsm.2 m i (by omega) hi'
    · by_cases e : k = n
      · subst e
        refine ⟨?_, fun i hi => ?_⟩
        · show nu (fl_bc (fl_clr S f k)) k 0 k = nu (fl_bc (fl_clr S g k)) k 0 k
          rw [nu_eq, nu_eq]
        · have hi' : i < nu (fl_bc (fl_clr S f k)) k 0 k := hi
          rw [nu_eq] at hi'
          omega
      · obtain ⟨h1, h2⟩ := h k (by omega)
        refine ⟨?_, fun i hi => ?_⟩
        · show nu (fl_bc (fl_clr S f n)) n 0 k = nu (fl_bc (fl_clr S g n)) n 0 k
          rw [nu_ne _ _ e, nu_ne _ _ e]
          exact h1
        · have hi' : i < nu (fl_bc (fl_clr S f n)) n 0 k := hi
          rw [nu_ne _ _ e] at hi'
          exact h2 i hi'
theorem fl_clear_eqv {S : sh_T} (hS : sh_ok S) (f g : fl_T) : fl_eqv (sh_mc S) (fl_clear S f) (fl_clear S g) := fl_clr_eqv hS f g _ hS.1
theorem fl_co_eqv {S : sh_T} {h : Nat → Nat} {B : Nat} {f g : fl_T} (hS : sh_ok S) (hF : fl_sm (sh_mc S) f B) (he : fl_eqv (sh_mc S) f g) : ∀ n, (∀ k, k < n → h k < 6 ∧ sp_fits S (h k) = true) → fl_eqv (sh_mc S) (fl_co S h f n).1 (fl_co S h g n).1 ∧ (fl_co S h f n).2 = (fl_co S h g n).2
  | 0, _ => ⟨he, rfl⟩
  | n + 1, hg => by
    obtain ⟨h1, h2⟩ := fl_co_eqv hS hF he n (fun k hk => hg k (by omega))
    have h3 := fl_co_sm (g := h) hS hF n (fun k hk => hg k (by omega))
    obtain ⟨h4, h5⟩ := fl_place_eqv hS (hg n (by omega)).2 h3 h1
    unfold fl_co
    exact ⟨h4, by show _ + _ = _ + _; rw [h2, h5]⟩
/-- a floor on which nothing lies -/
def fl_0 : fl_T := (fun _ => 0, fun _ => 0, fun _ => 0, fun _ => 0, fun _ => 0)
/-- ALONE of a job; the cost of two; the cost of an order of n jobs -/
def sp_al (S : sh_T) (j : Nat) : Nat := fl_al S fl_0 j
def sp_tw (S : sh_T) (i j : Nat) : Nat := fl_tw S fl_0 i j
def sp_co (S : sh_T) (g : Nat → Nat) (n : Nat) : Nat := (fl_co S g (fl_clear S fl_0) n).2
theorem fl_al_eq {S : sh_T} (hS : sh_ok S) (f : fl_T) {j : Nat} (hf : sp_fits S j = true) : fl_al S f j = sp_al S j := by
  unfold sp_al fl_al
  rw [(fl_place_eqv hS hf (fl_clear_sm f hS) (fl_clear_eqv hS f fl_0)).2]
theorem fl_tw_eq {S : sh_T} (hS : sh_ok S) (f : fl_T) {i j : Nat} (hfi : sp_fits S i = true) (hfj : sp_fits S j = true) : fl_tw S f i j = sp_tw S i j := by
  obtain ⟨h1, h2⟩ := fl_place_eqv hS hfi (fl_clear_sm f hS) (fl_clear_eqv hS f fl_0)
  obtain ⟨-, h3⟩ := fl_place_eqv hS hfj (fl_place_sm hS hfi (fl_clear_sm f hS)).1 h1
  unfold sp_tw fl_tw
  rw [h2, h3]
theorem fl_co_eq {S : sh_T} (hS : sh_ok S) (f : fl_T) {g : Nat → Nat} {n : Nat} (hg : ∀ k, k < n → g k < 6 ∧ sp_fits S (g k) = true) : (fl_co S g (fl_clear S f) n).2 = sp_co S g n :=
  (fl_co_eqv hS (fl_clear_sm f hS) (fl_clear_eqv hS f fl_0) n hg).2
end
section
/-! comparing longs; counting down; copying -/
theorem am_dec {a : Nat} (h : 0 < a) : nI a + Int32.ofInt (-1) = nI (a - 1) := by
  have e : Int32.ofInt (-1) = -(nI 1) := by decide
  rw [e, ← Int32.sub_eq_add_neg, pk_sub h]
section AMV
variable {G : am_G} {y : am_M} {d bc bs : Nat} {Q : am_O → am_H → Prop} {pc : Nat} {L : List (Nat × Value)} {st : List Value} {h : am_H}
theorem am_lc_lt {a b : Nat} {off : Int} {tgt : Nat} (hd : decode y.2.1 pc = .ok (.lcmp, 1)) (hd2 : decode y.2.1 (pc + 1) = .ok (.ifCond .lt off, 3)) (ht : ((pc + 1 : Nat) : Int) + off = (tgt : Int)) (ha : a < 2 ^ 31) (hb : b < 2 ^ 31) (k1 : a < b → am_W G y d bc bs Q tgt L st h) (k2 : b ≤ a → am_W G y d bc bs Q (pc + 1 + 3) L st h) : am_W G y d bc bs Q pc L (.long (lN b) :: .long (lN a) :: st) h := by
  have e : lg_cmp (lN a) (lN b) < 0 ↔ a < b := (lg_cmp_lt _ _).trans (lN_lt ha hb)
  refine am_lcmp hd (am_if_lt hd2 ht (fun q => k1 ?_) (fun q => k2 ?_))
  · exact e.mp q
  · have := mt e.mpr q; omega
theorem am_lc_ge {a b : Nat} {off : Int} {tgt : Nat} (hd : decode y.2.1 pc = .ok (.lcmp, 1)) (hd2 : decode y.2.1 (pc + 1) = .ok (.ifCond .ge off, 3)) (ht : ((pc + 1 : Nat) : Int) + off = (tgt : Int)) (ha : a < 2 ^ 31) (hb : b < 2 ^ 31) (k1 : b ≤ a → am_W G y d bc bs Q tgt L st h) (k2 : a < b → am_W G y d bc bs Q (pc + 1 + 3) L st h) : am_W G y d bc bs Q pc L (.long (lN b) :: .long (lN a) :: st) h := by
  have e : lg_cmp (lN a) (lN b) ≥ 0 ↔ b ≤ a := (lg_cmp_ge _ _).trans (lN_le hb ha)
  refine am_lcmp hd (am_if_ge hd2 ht (fun q => k1 ?_) (fun q => k2 ?_))
  · exact e.mp q
  · have := mt e.mpr q; omega
theorem am_lc_le {a b : Nat} {off : Int} {tgt : Nat} (hd : decode y.2.1 pc = .ok (.lcmp, 1)) (hd2 : decode y.2.1 (pc + 1) = .ok (.ifCond .le off, 3)) (ht : ((pc + 1 : Nat) : Int) + off = (tgt : Int)) (ha : a < 2 ^ 31) (hb : b < 2 ^ 31) (k1 : a ≤ b → am_W G y d bc bs Q tgt L st h) (k2 : b < a → am_W G y d bc bs Q (pc + 1 + 3) L st h) : am_W G y d bc bs Q pc L (.long (lN b) :: .long (lN a) :: st) h := by
  have e : lg_cmp (lN a) (lN b) ≤ 0 ↔ a ≤ b := (lg_cmp_le _ _).trans (lN_le ha hb)
  refine am_lcmp hd (am_if_le hd2 ht (fun q => k1 ?_) (fun q => k2 ?_))
  · exact e.mp q
  · have := mt e.mpr q; omega
theorem am_lc_gt {a b : Nat} {off : Int} {tgt : Nat} (hd : decode y.2.1 pc = .ok (.lcmp, 1)) (hd2 : decode y.2.1 (pc + 1) = .ok (.ifCond .gt off, 3)) (ht : ((pc + 1 : Nat) : Int) + off = (tgt : Int)) (ha : a < 2 ^ 31) (hb : b < 2 ^ 31) (k1 : b < a → am_W G y d bc bs Q tgt L st h) (k2 : a ≤ b → am_W G y d bc bs Q (pc + 1 + 3) L st h) : am_W G y d bc bs Q pc L (.long (lN b) :: .long (lN a) :: st) h := by
  have e : lg_cmp (lN a) (lN b) > 0 ↔ b < a := (lg_cmp_gt _ _).trans (lN_lt hb ha)
  refine am_lcmp hd (am_if_gt hd2 ht (fun q => k1 ?_) (fun q => k2 ?_))
  · exact e.mp q
  · have := mt e.mpr q; omega
theorem am_lc_eq {a b : Nat} {off : Int} {tgt : Nat} (hd : decode y.2.1 pc = .ok (.lcmp, 1)) (hd2 : decode y.2.1 (pc + 1) = .ok (.ifCond .eq off, 3)) (ht : ((pc + 1 : Nat) : Int) + off = (tgt : Int)) (ha : a < 2 ^ 31) (hb : b < 2 ^ 31) (k1 : a = b → am_W G y d bc bs Q tgt L st h) (k2 : a ≠ b → am_W G y d bc bs Q (pc + 1 + 3) L st h) : am_W G y d bc bs Q pc L (.long (lN b) :: .long (lN a) :: st) h := by
  have e : lg_cmp (lN a) (lN b) = 0 ↔ a = b := (lg_cmp_eq _ _).trans (lN_eq ha hb)
  refine am_lcmp hd (am_if_eq hd2 ht (fun q => k1 ?_) (fun q => k2 ?_))
  · exact e.mp q
  · exact fun w => q (e.mpr w)
theorem am_lc_ne {a b : Nat} {off : Int} {tgt : Nat} (hd : decode y.2.1 pc = .ok (.lcmp, 1)) (hd2 : decode y.2.1 (pc + 1) = .ok (.ifCond .ne off, 3)) (ht : ((pc + 1 : Nat) : Int) + off = (tgt : Int)) (ha : a < 2 ^ 31) (hb : b < 2 ^ 31) (k1 : a ≠ b → am_W G y d bc bs Q tgt L st h) (k2 : a = b → am_W G y d bc bs Q (pc + 1 + 3) L st h) : am_W G y d bc bs Q pc L (.long (lN b) :: .long (lN a) :: st) h := by
  have e : lg_cmp (lN a) (lN b) = 0 ↔ a = b := (lg_cmp_eq _ _).trans (lN_eq ha hb)
  refine am_lcmp hd (am_if_ne hd2 ht (fun q => k1 ?_) (fun q => k2 ?_))
  · exact fun w => q (e.mpr w)
  · exact e.mp q
theorem am_isubS {a b c : Nat} (hd : decode y.2.1 pc = .ok (.isub, 1)) (e : a = b + c) (k : am_W G y d bc bs Q (pc + 1) L (.int (nI c) :: st) h) : am_W G y d bc bs Q pc L (.int (nI b) :: .int (nI a) :: st) h := by
  subst e
  exact am_isubN hd (Nat.le_add_right _ _) (by rw [Nat.add_sub_cancel_left]; exact k)
theorem va_cpyN (f g : Nat → Nat) (sp dp n : Nat) : va_cpy (fun j => nI (f j)) (fun j => nI (g j)) sp dp n = fun j => nI (va_cpy f g sp dp n j) := by
  funext k
  unfold va_cpy
  split <;> rfl
theorem am_copyA {index a0 a1 n0 n1 : Nat} {f g : Nat → Nat} (sp dp n : Nat) (hd : decode y.2.1 pc = .ok (.invokestatic index, 3)) (w1 : Cond.methodLink y.1.cls index arraycopyName ∈ am_T) (w2 : Cond.native arraycopyName ∈ am_T) (w3 : Cond.static arraycopyName ∈ am_T) (w4 : Cond.initialized "java/lang/System" ∈ am_T)
    (h0 : h[a0]? = some (am_a n0 f)) (h1 : h[a1]? = some (am_a n1 g)) (hs : sp + n ≤ n0) (ht : dp + n ≤ n1) (hn0 : n0 < 2 ^ 31) (hn1 : n1 < 2 ^ 31) (hdd : 1 ≤ d) (hst : (st.map fun v => v.category).sum ≤ 8)
    (k : am_W G y d bc bs Q (pc + 3) L st (h.set a1 (am_a n1 (va_cpy f g sp dp n)))) : am_W G y d bc bs Q pc L (.int (nI n) :: .int (nI dp) :: .ref (a1 + 1) :: .int (nI sp) :: .ref (a0 + 1) :: st) h :=
  am_copy sp dp n hd w1 w2 w3 w4 h0 h1 hs ht hn0 hn1 hdd hst (by rw [va_cpyN]; exact k)
end AMV
section CRA
variable {G : am_G} {x : Int64} {t : Bool} {S : sh_T} {F : fl_T} {R : se_T} {P : pl_T} {W : am_H}
theorem fl_al_bd {S : sh_T} (hS : sh_ok S) (f : fl_T) {j : Nat} (hf : sp_fits S j = true) : fl_al S f j ≤ 280000 := by
  obtain ⟨-, h⟩ := fl_place_sm hS hf (fl_clear_sm f hS)
  have hw := hS.2.2.2.2.2.2.2.2.1 j
  unfold fl_al
  exact Nat.mul_le_mul (n₂ := 2800) (m₂ := 100) (by omega) hw
theorem fl_tw_bd {S : sh_T} (hS : sh_ok S) (f : fl_T) {i j : Nat} (hi : sp_fits S i = true) (hj : sp_fits S j = true) : fl_tw S f i j ≤ 640000 := by
  obtain ⟨h0, h1⟩ := fl_place_sm hS hi (fl_clear_sm f hS)
  obtain ⟨-, h2⟩ := fl_place_sm hS hj h0
  have hw := hS.2.2.2.2.2.2.2.2.1
  unfold fl_tw
  have e1 := Nat.mul_le_mul (n₁ := fl_end S i (fl_clear S f) - sh_du S i) (n₂ := 2800) (m₁ := sh_we S i) (m₂ := 100) (by omega) (hw i)
  have e2 := Nat.mul_le_mul (n₁ := fl_end S j (fl_place S i (fl_clear S f)) - sh_du S j) (n₂ := 3600) (m₁ := sh_we S j) (m₂ := 100) (by omega) (hw j)
  omega
/-- the two jobs clash -/
def sp_cl (S : sh_T) (i j : Nat) : Bool := decide (sp_al S i = 0 ∧ sp_al S j = 0 ∧ 0 < sp_tw S i j ∧ 0 < sp_tw S j i)
theorem c_F_doClash (hS : sh_ok S) (d bc bs i j : Nat) (hi : i < 6) (hj : j < 6) (hfi : sp_fits S i = true) (hfj : sp_fits S j = true) : am_W G m_F_doClash (d + 5) bc bs (fun o h' => ∃ F', o = .inl (some (.int (zI (sp_cl S i j)))) ∧ h' = (hx x t S F' R P W)) 0 (lv_args 0 [.ref 15, .int (nI i), .int (nI j)]) [] (hx x t S F R P W) := by
  refine am_aload_n d_F_doClash_0 rfl rfl ?_
  refine am_iload_n d_F_doClash_1 rfl rfl ?_
  refine am_callF 2 (am_recvV (z := m_F_costAlone) rfl d_F_doClash_2 w_606 w_438 w_439 w_440 F_F.1 rfl (by decide) np_F_costAlone) (by decide) (by decide) (Nat.le_of_ble_eq_true rfl) (Nat.le_of_ble_eq_true rfl) (Nat.zero_le _) (Nat.zero_le _) (c_F_costAlone hS d _ _ i hi hfi) ?_
  refine am_lconst (v := lN 0) d_F_doClash_5 rfl ?_
  refine am_lc_ne (tgt := 46) d_F_doClash_6 d_F_doClash_7 (by decide) (by first | decide | exact Nat.lt_of_le_of_lt (fl_al_bd hS _ hfi) (by decide) | exact Nat.lt_of_le_of_lt (fl_al_bd hS _ hfj) (by decide) | exact Nat.lt_of_le_of_lt (fl_tw_bd hS _ hfi hfj) (by decide) | exact Nat.lt_of_le_of_lt (fl_tw_bd hS _ hfj hfi) (by decide)) (by first | decide | exact Nat.lt_of_le_of_lt (fl_al_bd hS _ hfi) (by decide) | exact Nat.lt_of_le_of_lt (fl_al_bd hS _ hfj) (by decide) | exact Nat.lt_of_le_of_lt (fl_tw_bd hS _ hfi hfj) (by decide) | exact Nat.lt_of_le_of_lt (fl_tw_bd hS _ hfj hfi) (by decide)) (fun c7 => ?_) (fun c7 => ?_)
  · refine am_iconst (v := nI 0) d_F_doClash_46 (by decide) ?_
    refine am_zret d_F_doClash_47 rfl (by decide) ?_
    try rw [fl_al_eq hS _ hfi] at c7
    try rw [fl_al_eq hS _ hfj] at c17
    try rw [fl_tw_eq hS _ hfi hfj] at c28
    try rw [fl_tw_eq hS _ hfj hfi] at c39
    first
      | exact ⟨_, by rw [show sp_cl S i j = true from decide_eq_true (by omega), zI_t], rfl⟩
      | exact ⟨_, by rw [show sp_cl S i j = false from decide_eq_false (by omega), zI_f], rfl⟩
  · refine am_aload_n d_F_doClash_10 rfl rfl ?_
    refine am_iload_n d_F_doClash_11 rfl rfl ?_
    refine am_callF 2 (am_recvV (z := m_F_costAlone) rfl d_F_doClash_12 w_606 w_438 w_439 w_440 F_F.1 rfl (by decide) np_F_costAlone) (by decide) (by decide) (Nat.le_of_ble_eq_true rfl) (Nat.le_of_ble_eq_true rfl) (Nat.zero_le _) (Nat.zero_le _) (c_F_costAlone hS d _ _ j hj hfj) ?_
    refine am_lconst (v := lN 0) d_F_doClash_15 rfl ?_
    refine am_lc_ne (tgt := 46) d_F_doClash_16 d_F_doClash_17 (by decide) (by first | decide | exact Nat.lt_of_le_of_lt (fl_al_bd hS _ hfi) (by decide) | exact Nat.lt_of_le_of_lt (fl_al_bd hS _ hfj) (by decide) | exact Nat.lt_of_le_of_lt (fl_tw_bd hS _ hfi hfj) (by decide) | exact Nat.lt_of_le_of_lt (fl_tw_bd hS _ hfj hfi) (by decide)) (by first | decide | exact Nat.lt_of_le_of_lt (fl_al_bd hS _ hfi) (by decide) | exact Nat.lt_of_le_of_lt (fl_al_bd hS _ hfj) (by decide) | exact Nat.lt_of_le_of_lt (fl_tw_bd hS _ hfi hfj) (by decide) | exact Nat.lt_of_le_of_lt (fl_tw_bd hS _ hfj hfi) (by decide)) (fun c17 => ?_) (fun c17 => ?_)
    · refine am_iconst (v := nI 0) d_F_doClash_46 (by decide) ?_
      refine am_zret d_F_doClash_47 rfl (by decide) ?_
      try rw [fl_al_eq hS _ hfi] at c7
      try rw [fl_al_eq hS _ hfj] at c17
      try rw [fl_tw_eq hS _ hfi hfj] at c28
      try rw [fl_tw_eq hS _ hfj hfi] at c39
      first
        | exact ⟨_, by rw [show sp_cl S i j = true from decide_eq_true (by omega), zI_t], rfl⟩
        | exact ⟨_, by rw [show sp_cl S i j = false from decide_eq_false (by omega), zI_f], rfl⟩
    · refine am_aload_n d_F_doClash_20 rfl rfl ?_
      refine am_iload_n d_F_doClash_21 rfl rfl ?_
      refine am_iload_n d_F_doClash_22 rfl rfl ?_
      refine am_callF 3 (am_recvV (z := m_F_costOfTwo) rfl d_F_doClash_23 w_607 w_609 ws_13 w_610 F_F.1 rfl (by decide) np_F_costOfTwo) (by decide) (by decide) (Nat.le_of_ble_eq_true rfl) (Nat.le_of_ble_eq_true rfl) (Nat.zero_le _) (Nat.zero_le _) (c_F_costOfTwo hS d _ _ i j hi hj hfi hfj) ?_
      refine am_lconst (v := lN 0) d_F_doClash_26 rfl ?_
      refine am_lc_le (tgt := 46) d_F_doClash_27 d_F_doClash_28 (by decide) (by first | decide | exact Nat.lt_of_le_of_lt (fl_al_bd hS _ hfi) (by decide) | exact Nat.lt_of_le_of_lt (fl_al_bd hS _ hfj) (by decide) | exact Nat.lt_of_le_of_lt (fl_tw_bd hS _ hfi hfj) (by decide) | exact Nat.lt_of_le_of_lt (fl_tw_bd hS _ hfj hfi) (by decide)) (by first | decide | exact Nat.lt_of_le_of_lt (fl_al_bd hS _ hfi) (by decide) | exact Nat.lt_of_le_of_lt (fl_al_bd hS _ hfj) (by decide) | exact Nat.lt_of_le_of_lt (fl_tw_bd hS _ hfi hfj) (by decide) | exact Nat.lt_of_le_of_lt (fl_tw_bd hS _ hfj hfi) (by decide)) (fun c28 => ?_) (fun c28 => ?_)
      · refine am_iconst (v := nI 0) d_F_doClash_46 (by decide) ?_
        refine am_zret d_F_doClash_47 rfl (by decide) ?_
        try rw [fl_al_eq hS _ hfi] at c7
        try rw [fl_al_eq hS _ hfj] at c17
        try rw [fl_tw_eq hS _ hfi hfj] at c28
        try rw [fl_tw_eq hS _ hfj hfi] at c39
        first
          | exact ⟨_, by rw [show sp_cl S i j = true from decide_eq_true (by omega), zI_t], rfl⟩
          | exact ⟨_, by rw [show sp_cl S i j = false from decide_eq_false (by omega), zI_f], rfl⟩
      · refine am_aload_n d_F_doClash_31 rfl rfl ?_
        refine am_iload_n d_F_doClash_32 rfl rfl ?_
        refine am_iload_n d_F_doClash_33 rfl rfl ?_
        refine am_callF 3 (am_recvV (z := m_F_costOfTwo) rfl d_F_doClash_34 w_607 w_609 ws_13 w_610 F_F.1 rfl (by decide) np_F_costOfTwo) (by decide) (by decide) (Nat.le_of_ble_eq_true rfl) (Nat.le_of_ble_eq_true rfl) (Nat.zero_le _) (Nat.zero_le _) (c_F_costOfTwo hS d _ _ j i hj hi hfj hfi) ?_
        refine am_lconst (v := lN 0) d_F_doClash_37 rfl ?_
        refine am_lc_le (tgt := 46) d_F_doClash_38 d_F_doClash_39 (by decide) (by first | decide | exact Nat.lt_of_le_of_lt (fl_al_bd hS _ hfi) (by decide) | exact Nat.lt_of_le_of_lt (fl_al_bd hS _ hfj) (by decide) | exact Nat.lt_of_le_of_lt (fl_tw_bd hS _ hfi hfj) (by decide) | exact Nat.lt_of_le_of_lt (fl_tw_bd hS _ hfj hfi) (by decide)) (by first | decide | exact Nat.lt_of_le_of_lt (fl_al_bd hS _ hfi) (by decide) | exact Nat.lt_of_le_of_lt (fl_al_bd hS _ hfj) (by decide) | exact Nat.lt_of_le_of_lt (fl_tw_bd hS _ hfi hfj) (by decide) | exact Nat.lt_of_le_of_lt (fl_tw_bd hS _ hfj hfi) (by decide)) (fun c39 => ?_) (fun c39 => ?_)
        · refine am_iconst (v := nI 0) d_F_doClash_46 (by decide) ?_
          refine am_zret d_F_doClash_47 rfl (by decide) ?_
          try rw [fl_al_eq hS _ hfi] at c7
          try rw [fl_al_eq hS _ hfj] at c17
          try rw [fl_tw_eq hS _ hfi hfj] at c28
          try rw [fl_tw_eq hS _ hfj hfi] at c39
          first
            | exact ⟨_, by rw [show sp_cl S i j = true from decide_eq_true (by omega), zI_t], rfl⟩
            | exact ⟨_, by rw [show sp_cl S i j = false from decide_eq_false (by omega), zI_f], rfl⟩
        · refine am_iconst (v := nI 1) d_F_doClash_42 (by decide) ?_
          refine am_goto (tgt := 47) d_F_doClash_43 (by decide) ?_
          refine am_zret d_F_doClash_47 rfl (by decide) ?_
          try rw [fl_al_eq hS _ hfi] at c7
          try rw [fl_al_eq hS _ hfj] at c17
          try rw [fl_tw_eq hS _ hfi hfj] at c28
          try rw [fl_tw_eq hS _ hfj hfi] at c39
          first
            | exact ⟨_, by rw [show sp_cl S i j = true from decide_eq_true (by omega), zI_t], rfl⟩
            | exact ⟨_, by rw [show sp_cl S i j = false from decide_eq_false (by omega), zI_f], rfl⟩
/-- a job put into a row by its due hour -/
def se_ins (du : Nat → Nat) (j : Nat) : Nat → (Nat → Nat) → Nat → Nat
  | 0, b => nu b 0 j
  | p + 1, b => if du j < du (b p) then se_ins du j p (nu b (p + 1) (b p)) else nu b (p + 1) j
def se_ord (du : Nat → Nat) (b : Nat → Nat) : Nat → Nat → Nat
  | 0 => b
  | k + 1 => se_ins du k k (se_ord du b k)
abbrev se_wb (R : se_T) (b : Nat → Nat) : se_T := (se_co R, se_li R, se_bo R, se_no R, se_al R, se_be R, se_ib R, b)
theorem se_ins_bd (du : Nat → Nat) (j : Nat) (hj : j < 6) : ∀ (p : Nat) (b : Nat → Nat), (∀ i, b i < 6) → ∀ i, se_ins du j p b i < 6
  | 0, b, hb, i => by
    unfold se_ins nu
    split
    · exact hj
    · exact hb i
  | p + 1, b, hb, i => by
    unfold se_ins
    split
    · refine se_ins_bd du j hj p _ (fun k => ?_) i
      unfold nu
      split
      · exact hb p
      · exact hb k
    · unfold nu
      split
      · exact hj
      · exact hb i
theorem se_ord_bd (du b : Nat → Nat) (hb : ∀ i, b i < 6) : ∀ k, k ≤ 6 → ∀ i, se_ord du b k i < 6
  | 0, _, i => hb i
  | k + 1, hk, i => se_ins_bd du k (by omega) k _ (se_ord_bd du b hb k (by omega)) i
set_option maxRecDepth 20000 in
theorem c_R_orderByDue_i {Q : am_O → am_H → Prop} (hS : sh_ok S) (d bc bs j : Nat) (hj : j < 6) : ∀ (p : Nat), p ≤ j → ∀ (b : Nat → Nat), (∀ i, b i < 6) →
    am_W G m_R_orderByDue d bc bs Q 2 [(0, .ref 21), (1, .int (nI (j + 1)))] [] (hx x t S F (se_wb R (se_ins (sh_du S) j p b)) P W) → am_W G m_R_orderByDue d bc bs Q 15 [(0, .ref 21), (1, .int (nI j)), (2, .int (nI p))] [] (hx x t S F (se_wb R b) P W) := by
  intro p
  induction p with
  | zero =>
    intro hp b hb hk
    refine am_iload_n d_R_orderByDue_15 rfl rfl ?_
    refine am_ifN_le (tgt := 67) d_R_orderByDue_16 (by decide) (by omega) (fun c16 => ?_) (fun c16 => ?_)
    · refine am_aload_n d_R_orderByDue_67 rfl rfl ?_
      refine am_get F_R 5 (by decide) d_R_orderByDue_68 w_141 rfl rfl ?_
      refine am_iload_n d_R_orderByDue_71 rfl rfl ?_
      refine am_iload_n d_R_orderByDue_72 rfl rfl ?_
      refine am_iastA d_R_orderByDue_73 rfl (by omega) (by decide) ?_
      refine am_iinc d_R_orderByDue_74 rfl (am_inc _) (by decide) ?_
      refine am_goto (tgt := 2) d_R_orderByDue_77 (by decide) ?_
      exact am_lo (L' := [(0, .ref 21), (1, .int (nI (j + 1)))]) rfl hk
    · exact absurd c16 (by decide)
  | succ p ih =>
    intro hp b hb hk
    have hbp := hb p
    have t1 := hS.2.2.2.2.2.2.2.1 (b p)
    have t3 : sh_du S (se_bs (se_wb R b) p) = sh_du S (b p) := rfl
    have t2 := hS.2.2.2.2.2.2.2.1 j
    unfold se_ins at hk
    refine am_iload_n d_R_orderByDue_15 rfl rfl ?_
    refine am_ifN_le (tgt := 67) d_R_orderByDue_16 (by decide) (by omega) (fun c16 => ?_) (fun c16 => ?_)
    · exact absurd c16 (by omega)
    · refine am_aload_n d_R_orderByDue_19 rfl rfl ?_
      refine am_get F_R 0 (by decide) d_R_orderByDue_20 w_136 rfl rfl ?_
      refine am_get F_S 6 (by decide) d_R_orderByDue_23 w_48 rfl rfl ?_
      refine am_aload_n d_R_orderByDue_26 rfl rfl ?_
      refine am_get F_R 5 (by decide) d_R_orderByDue_27 w_141 rfl rfl ?_
      refine am_iload_n d_R_orderByDue_30 rfl rfl ?_
      refine am_iconst (v := nI 1) d_R_orderByDue_31 (by decide) ?_
      refine am_isubS (c := p) d_R_orderByDue_32 (by omega) ?_
      refine am_ialdA d_R_orderByDue_33 rfl (by omega) (by decide) ?_
      refine am_ialdA d_R_orderByDue_34 rfl (by omega) (by decide) ?_
      refine am_aload_n d_R_orderByDue_35 rfl rfl ?_
      refine am_get F_R 0 (by decide) d_R_orderByDue_36 w_136 rfl rfl ?_
      refine am_get F_S 6 (by decide) d_R_orderByDue_39 w_48 rfl rfl ?_
      refine am_iload_n d_R_orderByDue_42 rfl rfl ?_
      refine am_ialdA d_R_orderByDue_43 rfl (by omega) (by decide) ?_
      refine am_icmpN_le (tgt := 67) d_R_orderByDue_44 (by decide) (by omega) (by omega) (fun c44 => ?_) (fun c44 => ?_)
      · refine am_aload_n d_R_orderByDue_67 rfl rfl ?_
        refine am_get F_R 5 (by decide) d_R_orderByDue_68 w_141 rfl rfl ?_
        refine am_iload_n d_R_orderByDue_71 rfl rfl ?_
        refine am_iload_n d_R_orderByDue_72 rfl rfl ?_
        refine am_iastA d_R_orderByDue_73 rfl (by omega) (by decide) ?_
        refine am_iinc d_R_orderByDue_74 rfl (am_inc _) (by decide) ?_
        refine am_goto (tgt := 2) d_R_orderByDue_77 (by decide) ?_
        rw [if_neg (by omega)] at hk
        exact am_lo (L' := [(0, .ref 21), (1, .int (nI (j + 1)))]) rfl hk
      · refine am_aload_n d_R_orderByDue_47 rfl rfl ?_
        refine am_get F_R 5 (by decide) d_R_orderByDue_48 w_141 rfl rfl ?_
        refine am_iload_n d_R_orderByDue_51 rfl rfl ?_
        refine am_aload_n d_R_orderByDue_52 rfl rfl ?_
        refine am_get F_R 5 (by decide) d_R_orderByDue_53 w_141 rfl rfl ?_
        refine am_iload_n d_R_orderByDue_56 rfl rfl ?_
        refine am_iconst (v := nI 1) d_R_orderByDue_57 (by decide) ?_
        refine am_isubS (c := p) d_R_orderByDue_58 (by omega) ?_
        refine am_ialdA d_R_orderByDue_59 rfl (by omega) (by decide) ?_
        refine am_iastA d_R_orderByDue_60 rfl (by omega) (by decide) ?_
        refine am_iinc d_R_orderByDue_61 rfl (am_dec (by omega)) (by decide) ?_
        refine am_goto (tgt := 15) d_R_orderByDue_64 (by decide) ?_
        rw [if_pos (by omega)] at hk
        refine am_lo (L' := [(0, .ref 21), (1, .int (nI j)), (2, .int (nI p))]) rfl (ih (by omega) (nu b (p + 1) (b p)) (fun k => ?_) hk)
        unfold nu
        split
        · exact hbp
        · exact hb k
set_option maxRecDepth 20000 in
theorem c_R_orderByDue_o (hS : sh_ok S) (d bc bs : Nat) (hb : ∀ i, se_bs R i < 6) : ∀ (n i : Nat), i ≤ sh_jb S → sh_jb S - i < n →
    am_W G m_R_orderByDue d bc bs (fun o h' => o = .inl none ∧ h' = (hx x t S F (se_wb R (se_ord (sh_du S) (se_bs R) (sh_jb S))) P W)) 2 [(0, .ref 21), (1, .int (nI i))] [] (hx x t S F (se_wb R (se_ord (sh_du S) (se_bs R) i)) P W) := by
  intro n
  have s2 := hS.2.1
  induction n with
  | zero => intro i _ h; omega
  | succ n ih =>
    intro i hi hn
    refine am_iload_n d_R_orderByDue_2 rfl rfl ?_
    refine am_aload_n d_R_orderByDue_3 rfl rfl ?_
    refine am_get F_R 0 (by decide) d_R_orderByDue_4 w_136 rfl rfl ?_
    refine am_get F_S 5 (by decide) d_R_orderByDue_7 w_44 rfl rfl ?_
    refine am_icmpN_ge (tgt := 80) d_R_orderByDue_10 (by decide) (by omega) (by omega) (fun c10 => ?_) (fun c10 => ?_)
    · refine am_vret d_R_orderByDue_80 rfl ?_
      have e : i = sh_jb S := by omega
      subst e
      exact ⟨rfl, rfl⟩
    · refine am_iload_n d_R_orderByDue_13 rfl rfl ?_
      refine am_istore_n d_R_orderByDue_14 rfl (by decide) ?_
      refine am_lo (L' := [(0, .ref 21), (1, .int (nI i)), (2, .int (nI i))]) rfl (c_R_orderByDue_i hS d bc bs i (by omega) i (Nat.le_refl _) _ (se_ord_bd _ _ hb i (by omega)) ?_)
      exact ih (i + 1) (by omega) (by omega)
theorem c_R_orderByDue (hS : sh_ok S) (d bc bs : Nat) (hb : ∀ i, se_bs R i < 6) : am_Fn G m_R_orderByDue d bc bs [.ref 21] (hx x t S F R P W) none (hx x t S F (se_wb R (se_ord (sh_du S) (se_bs R) (sh_jb S))) P W) := by
  refine am_iconst (v := nI 0) d_R_orderByDue_0 (by decide) ?_
  refine am_istore_n d_R_orderByDue_1 rfl (by decide) ?_
  exact am_lo (L' := [(0, .ref 21), (1, .int (nI 0))]) rfl (c_R_orderByDue_o hS d bc bs hb (sh_jb S + 1) 0 (Nat.zero_le _) (by omega))
end CRA
end
section
/-! more or less room; a weaker end -/
theorem am_post {G : am_G} {y : am_M} {d bc bs : Nat} {Q Q' : am_O → am_H → Prop} {pc : Nat} {L : List (Nat × Value)} {st : List Value} {h : am_H} (hq : ∀ o h, Q o h → Q' o h) (k : am_W G y d bc bs Q pc L st h) : am_W G y d bc bs Q' pc L st h := by
  intro p e R s m args below meth c H locs cells slots ls C hR hh hS hl T hT X
  obtain ⟨t, a, o, Lc, k, n, ao, h', b1, b2, b3, b4, b5, b6, b7, b8, b9, b10, b11⟩ := k p e R s m args below meth c H locs cells slots ls C hR hh hS hl T hT X
  exact ⟨t, a, o, Lc, k, n, ao, h', b1, b2, b3, b4, b5, b6, b7, b8, b9, b10, hq _ _ b11⟩
/-! PURE: steps of jobs; counts on the floor -/
/-- jo: whose a step is. All steps are some job's, in their order -/
def sh_k (S : sh_T) (jo : Nat → Nat) : Prop :=
  (∀ j i, j < sh_jb S → i < sh_so S j → sh_sa S (j * 4 + i) < sh_ss S ∧ jo (sh_sa S (j * 4 + i)) = j) ∧
  (∀ j i k, j < sh_jb S → i < k → k < sh_so S j → sh_sa S (j * 4 + i) < sh_sa S (j * 4 + k)) ∧
  (∀ s, s < sh_ss S → jo s < sh_jb S ∧ ∃ i, i < sh_so S (jo s) ∧ sh_sa S (jo s * 4 + i) = s) ∧
  (∀ j i, j < sh_jb S → i < sh_so S j → sh_sb S (sh_sa S (j * 4 + i)) = if i = 0 then -1 else nI (sh_sa S (j * 4 + (i - 1)))) ∧
  (∀ j, sh_jb S ≤ j → sh_so S j = 0)
theorem sh_k_ne {S : sh_T} {jo : Nat → Nat} (hk : sh_k S jo) {j i k : Nat} (hj : j < sh_jb S) (hi : i < k) (hks : k < sh_so S j) : sh_sa S (j * 4 + k) ≠ sh_sa S (j * 4 + i) := by
  have := hk.2.1 j i k hj hi hks
  omega
theorem sh_k_dj {S : sh_T} {jo : Nat → Nat} (hk : sh_k S jo) {j i j' k : Nat} (hj : j < sh_jb S) (hi : i < sh_so S j) (hj' : j' < sh_jb S) (hks : k < sh_so S j') (hne : j ≠ j') : sh_sa S (j * 4 + i) ≠ sh_sa S (j' * 4 + k) := by
  intro e
  have h1 := (hk.1 j i hj hi).2
  have h2 := (hk.1 j' k hj' hks).2
  rw [e, h2] at h1
  exact hne h1.symm
/-- how many of a job's first n steps lie on a machine -/
def fl_cn (S : sh_T) (j : Nat) (ma : Nat → Nat) (m : Nat) : Nat → Nat
  | 0 => 0
  | n + 1 => fl_cn S j ma m n + if ma (sh_sa S (j * 4 + n)) = m then 1 else 0
theorem fl_cn_le (S : sh_T) (j : Nat) (ma : Nat → Nat) (m : Nat) : ∀ n, fl_cn S j ma m n ≤ n
  | 0 => Nat.le_refl _
  | n + 1 => by
    have := fl_cn_le S j ma m n
    unfold fl_cn
    split <;> omega
theorem fl_cn_eq {S : sh_T} {j : Nat} {ma mb : Nat → Nat} {m : Nat} : ∀ {n}, (∀ i, i < n → ma (sh_sa S (j * 4 + i)) = mb (sh_sa S (j * 4 + i))) → fl_cn S j ma m n = fl_cn S j mb m n
  | 0, _ => rfl
  | n + 1, h => by
    unfold fl_cn
    rw [fl_cn_eq (fun i hi => h i (by omega)), h n (by omega)]
theorem fl_pj_put {S : sh_T} {j n m0 : Nat} {f : fl_T} (hq : (fl_try S (fl_pj S j f n).1 (sh_sa S (j * 4 + n)) (fl_pj S j f n).2.2 (sh_mc S)).2 = some m0) (hb : fl_bc (fl_pj S j f n).1 m0 < 32) :
    (fl_pj S j f (n + 1)).1 = (nu (fl_bg (fl_pj S j f n).1) (sh_sa S (j * 4 + n)) (fl_try S (fl_pj S j f n).1 (sh_sa S (j * 4 + n)) (fl_pj S j f n).2.2 (sh_mc S)).1, nu (fl_ma (fl_pj S j f n).1) (sh_sa S (j * 4 + n)) m0, nu (fl_bc (fl_pj S j f n).1) m0 (fl_bc (fl_pj S j f n).1 m0 + 1),
      nu (fl_bf (fl_pj S j f n).1) (m0 * 32 + fl_bc (fl_pj S j f n).1 m0) (fl_try S (fl_pj S j f n).1 (sh_sa S (j * 4 + n)) (fl_pj S j f n).2.2 (sh_mc S)).1, nu (fl_bt (fl_pj S j f n).1) (m0 * 32 + fl_bc (fl_pj S j f n).1 m0) ((fl_try S (fl_pj S j f n).1 (sh_sa S (j * 4 + n)) (fl_pj S j f n).2.2 (sh_mc S)).1 + sh_sh S (sh_sa S (j * 4 + n)))) := by
  rw [fl_pj]
  unfold fl_stp
  rw [hq]
  show fl_put S _ _ m0 _ = _
  unfold fl_put fl_add
  exact if_pos hb
theorem fl_pj_ct {S : sh_T} {jo : Nat → Nat} {j B : Nat} {f : fl_T} (hS : sh_ok S) (hk : sh_k S jo) (hj : j < sh_jb S) (hf : sp_fits S j = true) (hF : fl_sm (sh_mc S) f B) (hc : ∀ m, m < sh_mc S → fl_bc f m ≤ 28) : ∀ n, n ≤ sh_so S j →
    (∀ m, m < sh_mc S → fl_bc (fl_pj S j f n).1 m = fl_bc f m + fl_cn S j (fl_ma (fl_pj S j f n).1) m n) ∧
    (∀ m i, m < sh_mc S → i < fl_bc f m → fl_bf (fl_pj S j f n).1 (m * 32 + i) = fl_bf f (m * 32 + i) ∧ fl_bt (fl_pj S j f n).1 (m * 32 + i) = fl_bt f (m * 32 + i)) ∧
    (∀ s, (∀ i, i < n → s ≠ sh_sa S (j * 4 + i)) → fl_ma (fl_pj S j f n).1 s = fl_ma f s ∧ fl_bg (fl_pj S j f n).1 s = fl_bg f s) ∧
    (∀ i, i < n → fl_ma (fl_pj S j f n).1 (sh_sa S (j * 4 + i)) < sh_mc S)
  | 0, _ => ⟨fun m _ => rfl, fun m i _ _ => ⟨rfl, rfl⟩, fun s _ => ⟨rfl, rfl⟩, fun i hi => absurd hi (Nat.not_lt_zero i)⟩
  | n + 1, hn => by
    obtain ⟨h1, h2, h3, h4⟩ := fl_pj_ct hS hk hj hf hF hc n (by omega)
    obtain ⟨g1, -, g3⟩ := fl_pj_sm hS hf hF n (by omega)
    obtain ⟨-, hb2⟩ := fl_try_bd (S := S) (s := sh_sa S (j * 4 + n)) g1 g3 (sh_mc S) (Nat.le_refl _)
    have hso := fl_try_some (S := S) (f := (fl_pj S j f n).1) (s := sh_sa S (j * 4 + n)) (r := (fl_pj S j f n).2.2) (sh_mc S) (sp_fit_has hf (by omega))
    obtain ⟨m0, hq⟩ := Option.ne_none_iff_exists'.mp hso
    have hm0 := hb2 m0 hq
    have hso4 := hS.2.2.2.2.2.2.2.2.2.1 j
    have hcn := fl_cn_le S j (fl_ma (fl_pj S j f n).1) m0 n
    have hbc := h1 m0 hm0
    have hcm := hc m0 hm0
    have hdis : ∀ i, i < n → sh_sa S (j * 4 + n) ≠ sh_sa S (j * 4 + i) := fun i hi => sh_k_ne hk hj hi (by omega)
    rw [fl_pj_put hq (by omega)]
    refine ⟨fun m hm => ?_, fun m i hm hi => ?_, fun s hs => ?_, fun i hi => ?_⟩
    · show nu (fl_bc (fl_pj S j f n).1) m0 (fl_bc (fl_pj S j f n).1 m0 + 1) m = _ + (fl_cn S j (nu (fl_ma (fl_pj S j f n).1) (sh_sa S (j * 4 + n)) m0) m n + if nu (fl_ma (fl_pj S j f n).1) (sh_sa S (j * 4 + n)) m0 (sh_sa S (j * 4 + n)) = m then 1 else 0)
      rw [nu_eq, fl_cn_eq (ma := nu (fl_ma (fl_pj S j f n).1) (sh_sa S (j * 4 + n)) m0) (mb := fl_ma (fl_pj S j f n).1) (fun i hi => nu_ne _ _ (Ne.symm (hdis i hi)))]
      by_cases e : m = m0
      · subst e
        rw [nu_eq, if_pos rfl]
        omega
      · rw [nu_ne _ _ e, if_neg (Ne.symm e)]
        have := h1 m hm
        omega
    · have hi28 := hc m hm
      show nu _ _ _ _ = _ ∧ nu _ _ _ _ = _
      have hne : m * 32 + i ≠ m0 * 32 + fl_bc (fl_pj S j f n).1 m0 := by
        by_cases e : m = m0
        · subst e; omega
        · omega
      rw [nu_ne _ _ hne, nu_ne _ _ hne]
      exact h2 m i hm hi
    · have hne : s ≠ sh_sa S (j * 4 + n) := hs n (by omega)
      show nu _ _ _ _ = _ ∧ nu _ _ _ _ = _
      rw [nu_ne _ _ hne, nu_ne _ _ hne]
      exact h3 s (fun i hi => hs i (by omega))
    · show nu _ _ _ _ < _
      rcases Nat.lt_or_ge i n with q | q
      · rw [nu_ne _ _ (Ne.symm (hdis i q))]
        exact h4 i q
      · have e : i = n := by omega
        subst e
        rw [nu_eq]
        exact hm0
theorem fl_li_ct (S : sh_T) (j : Nat) (f : fl_T) : ∀ n, (∀ m, fl_bc (fl_li S j f n) m = fl_bc f m - fl_cn S j (fl_ma f) m n) ∧ fl_bf (fl_li S j f n) = fl_bf f ∧ fl_bt (fl_li S j f n) = fl_bt f
  | 0 => ⟨fun _ => rfl, rfl, rfl⟩
  | n + 1 => by
    obtain ⟨h1, h2, h3⟩ := fl_li_ct S j f n
    unfold fl_li fl_dec
    split
    · rename_i hp
      refine ⟨fun m => ?_, h2, h3⟩
      show nu (fl_bc (fl_li S j f n)) _ _ m = _
      unfold fl_cn
      by_cases e : m = fl_ma f (sh_sa S (j * 4 + n))
      · rw [e, nu_eq, if_pos rfl, h1]
        omega
      · rw [nu_ne _ _ e, if_neg (Ne.symm e), h1]
        rfl
    · rename_i hp
      refine ⟨fun m => ?_, h2, h3⟩
      unfold fl_cn
      by_cases e : m = fl_ma f (sh_sa S (j * 4 + n))
      · have := h1 m
        rw [← e] at hp
        rw [if_pos e.symm]
        omega
      · rw [if_neg (Ne.symm e), h1]
        rfl
/-- placed, then whatever leaves the rows alike, then lifted: the rows are as before -/
theorem fl_back {S : sh_T} {jo : Nat → Nat} {j B : Nat} {f g : fl_T} (hS : sh_ok S) (hk : sh_k S jo) (hj : j < sh_jb S) (hf : sp_fits S j = true) (hF : fl_sm (sh_mc S) f B) (hc : ∀ m, m < sh_mc S → fl_bc f m ≤ 28)
    (he : fl_eqv (sh_mc S) (fl_place S j f) g) (hm : ∀ i, i < sh_so S j → fl_ma g (sh_sa S (j * 4 + i)) = fl_ma (fl_place S j f) (sh_sa S (j * 4 + i))) : fl_eqv (sh_mc S) f (fl_lift S j g) := by
  obtain ⟨h1, h2, -, -⟩ := fl_pj_ct hS hk hj hf hF hc (sh_so S j) (Nat.le_refl _)
  obtain ⟨l1, l2, l3⟩ := fl_li_ct S j g (sh_so S j)
  intro m hm1
  obtain ⟨e1, e2⟩ := he m hm1
  have e3 := h1 m hm1
  have e4 : fl_bc (fl_lift S j g) m = fl_bc g m - fl_cn S j (fl_ma g) m (sh_so S j) := l1 m
  rw [fl_cn_eq (mb := fl_ma (fl_place S j f)) hm] at e4
  have e5 : fl_bc (fl_place S j f) m = fl_bc f m + fl_cn S j (fl_ma (fl_place S j f)) m (sh_so S j) := e3
  refine ⟨by omega, fun i hi => ?_⟩
  have e6 := e2 i (by omega)
  have e7 := h2 m i hm1 hi
  have e8 : fl_bf (fl_lift S j g) = fl_bf g := l2
  have e9 : fl_bt (fl_lift S j g) = fl_bt g := l3
  rw [e8, e9]
  exact ⟨e7.1.symm.trans e6.1, e7.2.symm.trans e6.2⟩
theorem fl_eqv_rfl (N : Nat) (f : fl_T) : fl_eqv N f f := fun _ _ => ⟨rfl, fun _ _ => ⟨rfl, rfl⟩⟩
theorem fl_eqv_tr {N : Nat} {f g h : fl_T} (a : fl_eqv N f g) (b : fl_eqv N g h) : fl_eqv N f h := fun m hm => ⟨(a m hm).1.trans (b m hm).1, fun i hi => by
  have h1 := (a m hm).2 i hi
  have h2 := (b m hm).2 i (by rw [← (a m hm).1]; exact hi)
  exact ⟨h1.1.trans h2.1, h1.2.trans h2.2⟩⟩
theorem fl_eqv_sm {N : Nat} {f g : fl_T} {B : Nat} (a : fl_eqv N f g) (h : fl_sm N f B) : fl_sm N g B := ⟨fun m hm => by rw [← (a m hm).1]; exact h.1 m hm, fun m i hm hi => by
  have h1 := (a m hm).2 i (by rw [(a m hm).1]; exact hi)
  rw [← h1.1, ← h1.2]
  exact h.2 m i hm (by rw [(a m hm).1]; exact hi)⟩
theorem fl_spans_ct (S : sh_T) (m : Nat) (f : fl_T) : ∀ n, (∀ k, fl_bc (fl_spans S m f n) k ≤ fl_bc f k + if k = m then n else 0)
  | 0, k => by show fl_bc f k ≤ _; omega
  | n + 1, k => by
    have h := fl_spans_ct S m f n k
    unfold fl_spans fl_add
    split
    · show nu _ _ _ k ≤ _
      by_cases e : k = m
      · subst e
        rw [nu_eq, if_pos rfl]
        rw [if_pos rfl] at h
        omega
      · rw [nu_ne _ _ e, if_neg e]
        rw [if_neg e] at h
        exact h
    · split at h <;> split <;> omega
theorem fl_clear_ct {S : sh_T} (hS : sh_ok S) (f : fl_T) : ∀ n k, k < n → fl_bc (fl_clr S f n) k ≤ 8
  | 0, k, hk => absurd hk (Nat.not_lt_zero k)
  | n + 1, k, hk => by
    have h := fl_spans_ct S n (fl_zero (fl_clr S f n) n) (sh_sp S n) k
    have h8 := hS.2.2.2.2.1 n
    unfold fl_clr
    by_cases e : k = n
    · subst e
      rw [if_pos rfl] at h
      have : fl_bc (fl_zero (fl_clr S f k) k) k = 0 := nu_eq _ _ _
      omega
    · rw [if_neg e] at h
      have h2 := fl_clear_ct hS f n k (by omega)
      have : fl_bc (fl_zero (fl_clr S f n) n) k = fl_bc (fl_clr S f n) k := nu_ne _ _ e
      omega
theorem fl_co_ct {S : sh_T} {jo : Nat → Nat} {g : Nat → Nat} {f : fl_T} (hS : sh_ok S) (hk : sh_k S jo) : ∀ n, n ≤ 6 → (∀ k, k < n → g k < sh_jb S ∧ sp_fits S (g k) = true) → ∀ m, m < sh_mc S → fl_bc (fl_co S g (fl_clear S f) n).1 m ≤ 8 + 4 * n
  | 0, _, _, m, hm => by
    have := fl_clear_ct hS f (sh_mc S) m hm
    exact this
  | n + 1, hn, hg, m, hm => by
    have h := fl_co_ct (f := f) (g := g) hS hk n (by omega) (fun k hk => hg k (by omega))
    have hsm := fl_co_sm (g := g) hS (fl_clear_sm f hS) n (fun k hk => ⟨by have := (hg k (by omega)).1; have := hS.2.1; omega, (hg k (by omega)).2⟩)
    obtain ⟨g1, g2⟩ := hg n (by omega)
    obtain ⟨h1, -, -, -⟩ := fl_pj_ct hS hk g1 g2 hsm (fun m hm => by have := h m hm; omega) (sh_so S (g n)) (Nat.le_refl _)
    have h2 := h1 m hm
    have h3 := fl_cn_le S (g n) (fl_ma (fl_pj S (g n) (fl_co S g (fl_clear S f) n).1 (sh_so S (g n))).1) m (sh_so S (g n))
    have h4 := hS.2.2.2.2.2.2.2.2.2.1 (g n)
    have h5 := h m hm
    show fl_bc (fl_pj S (g n) (fl_co S g (fl_clear S f) n).1 (sh_so S (g n))).1 m ≤ _
    omega
theorem fl_co_congr {S : sh_T} {g h : Nat → Nat} {f : fl_T} : ∀ {n}, (∀ k, k < n → g k = h k) → fl_co S g f n = fl_co S h f n
  | 0, _ => rfl
  | n + 1, e => by
    unfold fl_co
    rw [fl_co_congr (fun k hk => e k (by omega)), e n (by omega)]
theorem fl_co_bd {S : sh_T} {g : Nat → Nat} {f : fl_T} (hS : sh_ok S) : ∀ n, (∀ k, k < n → g k < 6 ∧ sp_fits S (g k) = true) → (fl_co S g (fl_clear S f) n).2 ≤ (2000 + 800 * n) * 100 * n
  | 0, _ => Nat.le_refl _
  | n + 1, hg => by
    have h := fl_co_bd (f := f) (g := g) hS n (fun k hk => hg k (by omega))
    have hsm := fl_co_sm (g := g) hS (fl_clear_sm f hS) n (fun k hk => hg k (by omega))
    obtain ⟨-, he⟩ := fl_place_sm hS (hg n (by omega)).2 hsm
    have hw := hS.2.2.2.2.2.2.2.2.1 (g n)
    have e1 := Nat.mul_le_mul (n₁ := fl_end S (g n) (fl_co S g (fl_clear S f) n).1 - sh_du S (g n)) (n₂ := 2000 + 800 * (n + 1)) (m₁ := sh_we S (g n)) (m₂ := 100) (by omega) hw
    have e2 : (2000 + 800 * n) * 100 * n ≤ (2000 + 800 * (n + 1)) * 100 * n := Nat.mul_le_mul_right _ (Nat.mul_le_mul_right _ (by omega))
    show (fl_co S g (fl_clear S f) n).2 + _ ≤ _
    rw [Nat.mul_succ]
    omega
theorem sp_co_bd {S : sh_T} {g : Nat → Nat} (hS : sh_ok S) {n : Nat} (hn : n ≤ 6) (hg : ∀ k, k < n → g k < 6 ∧ sp_fits S (g k) = true) : sp_co S g n ≤ 4080000 := by
  have h := fl_co_bd (f := fl_0) (g := g) hS n hg
  have : (2000 + 800 * n) * 100 * n ≤ 6800 * 100 * 6 := Nat.mul_le_mul (Nat.mul_le_mul_right _ (by omega)) hn
  exact Nat.le_trans h this
theorem sp_co_congr {S : sh_T} {g h : Nat → Nat} {n : Nat} (e : ∀ k, k < n → g k = h k) : sp_co S g n = sp_co S h n := by
  unfold sp_co
  rw [fl_co_congr e]
/-! PURE: the search -/
/-- the sum of ALONE of the jobs below n that are not in u -/
def sp_rs (S : sh_T) (u : Nat → Bool) : Nat → Nat
  | 0 => 0
  | n + 1 => sp_rs S u n + if u n then 0 else sp_al S n
def zc_n (u : Nat → Bool) : Nat → Nat
  | 0 => 0
  | n + 1 => zc_n u n + if u n then 1 else 0
theorem zu_eq (u : Nat → Bool) (k : Nat) (v : Bool) : zu u k v k = v := by simp [zu]
theorem zu_ne (u : Nat → Bool) {k j : Nat} (v : Bool) (h : j ≠ k) : zu u k v j = u j := by simp [zu, h]
theorem zu_back (u : Nat → Bool) {k : Nat} (h : u k = false) : zu (zu u k true) k false = u := by
  funext j
  by_cases e : j = k
  · subst e; rw [zu_eq, h]
  · rw [zu_ne _ _ e, zu_ne _ _ e]
theorem sp_rs_same {S : sh_T} {u w : Nat → Bool} : ∀ {n}, (∀ k, k < n → u k = w k) → sp_rs S u n = sp_rs S w n
  | 0, _ => rfl
  | n + 1, h => by
    unfold sp_rs
    rw [sp_rs_same (fun k hk => h k (by omega)), h n (by omega)]
theorem sp_rs_out {S : sh_T} {u : Nat → Bool} {j : Nat} (hj : u j = false) : ∀ {n}, j < n → sp_rs S u n = sp_rs S (zu u j true) n + sp_al S j
  | 0, h => absurd h (Nat.not_lt_zero j)
  | n + 1, h => by
    unfold sp_rs
    rcases Nat.lt_or_ge j n with q | q
    · rw [sp_rs_out hj q, zu_ne _ _ (show n ≠ j by omega)]
      omega
    · have e : j = n := by omega
      subst e
      rw [zu_eq, hj, if_pos rfl, if_neg (by decide), sp_rs_same (w := zu u j true) (fun k hk => (zu_ne _ _ (by omega)).symm)]
      omega
theorem zc_n_same {u w : Nat → Bool} : ∀ {n}, (∀ k, k < n → u k = w k) → zc_n u n = zc_n w n
  | 0, _ => rfl
  | n + 1, h => by
    unfold zc_n
    rw [zc_n_same (fun k hk => h k (by omega)), h n (by omega)]
theorem zc_n_in {u : Nat → Bool} {j : Nat} (hj : u j = false) : ∀ {n}, j < n → zc_n (zu u j true) n = zc_n u n + 1
  | 0, h => absurd h (Nat.not_lt_zero j)
  | n + 1, h => by
    unfold zc_n
    rcases Nat.lt_or_ge j n with q | q
    · rw [zc_n_in hj q, zu_ne _ _ (show n ≠ j by omega)]
      omega
    · have e : j = n := by omega
      subst e
      rw [zu_eq, hj, if_pos rfl, if_neg (by decide), zc_n_same (u := zu u j true) (w := u) (fun k hk => zu_ne _ _ (by omega))]
theorem zc_n_le (u : Nat → Bool) : ∀ n, zc_n u n ≤ n
  | 0 => Nat.le_refl _
  | n + 1 => by
    have := zc_n_le u n
    unfold zc_n
    split <;> omega
theorem zc_n_all {u : Nat → Bool} : ∀ {n}, zc_n u n = n → ∀ k, k < n → u k = true
  | 0, _, k, h => absurd h (Nat.not_lt_zero k)
  | n + 1, e, k, h => by
    have h1 := zc_n_le u n
    unfold zc_n at e
    split at e
    · rename_i hu
      rcases Nat.lt_or_ge k n with q | q
      · exact zc_n_all (by omega) k q
      · have : k = n := by omega
        subst this
        exact hu
    · omega
theorem sp_rs_0 {S : sh_T} {u : Nat → Bool} : ∀ {n}, (∀ k, k < n → u k = true) → sp_rs S u n = 0
  | 0, _ => rfl
  | n + 1, h => by
    unfold sp_rs
    rw [sp_rs_0 (fun k hk => h k (by omega)), h n (by omega)]
    rfl
theorem sp_rs_bd {S : sh_T} {u : Nat → Bool} (hS : sh_ok S) : ∀ n, (∀ j, j < n → sp_fits S j = true) → sp_rs S u n ≤ 280000 * n
  | 0, _ => Nat.le_refl _
  | n + 1, h => by
    have h1 := sp_rs_bd (u := u) hS n (fun j hj => h j (by omega))
    have h2 : sp_al S n ≤ 280000 := fl_al_bd hS fl_0 (h n (by omega))
    unfold sp_rs
    split <;> omega
/-- behind a node: p is the place, j its job -/
def se_fo (S : sh_T) (f : se_T → Bool × se_T) (p : Nat) (R : se_T) : Bool × se_T :=
  if se_co R ≤ sp_co S (se_be R) (p + 1) + sp_rs S (zu (se_ib R) (se_be R p) true) (sh_jb S) then (true, R)
  else if sh_jb S ≤ p + 1 then (true, (sp_co S (se_be R) (p + 1), se_li R, se_bo R, se_no R, se_al R, se_be R, se_ib R, va_cpy (se_be R) (se_bs R) 0 0 6))
  else ((f (se_co R, se_li R, se_bo R, se_no R, se_al R, se_be R, zu (se_ib R) (se_be R p) true, se_bs R)).1,
    let Q := (f (se_co R, se_li R, se_bo R, se_no R, se_al R, se_be R, zu (se_ib R) (se_be R p) true, se_bs R)).2
    (se_co Q, se_li Q, se_bo Q, se_no Q, se_al Q, se_be Q, zu (se_ib Q) (se_be R p) false, se_bs Q))
/-- a node is made -/
abbrev se_nd (R : se_T) (p j : Nat) : se_T := (se_co R, se_li R, se_bo R, se_no R + 1, se_al R, nu (se_be R) p j, se_ib R, se_bs R)
/-- all jobs at a place, from j on, k of them -/
def se_lp (S : sh_T) (f : se_T → Bool × se_T) (p : Nat) : Nat → Nat → se_T → Bool × se_T
  | 0, _, R => (true, R)
  | k + 1, j, R => if se_ib R j then se_lp S f p k (j + 1) R else if se_li R ≤ se_no R then (false, R)
    else if (se_fo S f p (se_nd R p j)).1 then se_lp S f p k (j + 1) (se_fo S f p (se_nd R p j)).2 else (false, (se_fo S f p (se_nd R p j)).2)
def se_go (S : sh_T) : Nat → Nat → se_T → Bool × se_T
  | 0, _, R => (true, R)
  | r + 1, p, R => se_lp S (se_go S r (p + 1)) p (sh_jb S) 0 R
/-- what holds all along -/
def se_ok (S : sh_T) (R : se_T) : Prop := (∀ j, j < sh_jb S → se_al R j = sp_al S j) ∧ se_no R ≤ se_li R ∧ se_li R ≤ 2000 ∧ se_co R ≤ 4080000 ∧ (∀ i, se_be R i < 6) ∧ (∀ i, se_bs R i < 6)
/-- what a part of the search leaves as it is -/
def se_sm (p : Nat) (R Q : se_T) : Prop := se_li Q = se_li R ∧ se_bo Q = se_bo R ∧ se_al Q = se_al R ∧ se_ib Q = se_ib R ∧ ∀ k, k < p → se_be Q k = se_be R k
theorem se_sm_tr {p : Nat} {A B C : se_T} (a : se_sm p A B) (b : se_sm p B C) : se_sm p A C := ⟨b.1.trans a.1, b.2.1.trans a.2.1, b.2.2.1.trans a.2.2.1, b.2.2.2.1.trans a.2.2.2.1, fun k hk => (b.2.2.2.2 k hk).trans (a.2.2.2.2 k hk)⟩
/-- the place's prefix: jobs that are begun, and no others are -/
def se_px (S : sh_T) (R : se_T) (p : Nat) : Prop := (∀ k, k < p → se_be R k < sh_jb S ∧ se_ib R (se_be R k) = true) ∧ zc_n (se_ib R) (sh_jb S) = p ∧ (∀ j, j < sh_jb S → se_ib R j = true → ∃ k, k < p ∧ se_be R k = j)
theorem se_px_sm {S : sh_T} {R Q : se_T} {p : Nat} (h : se_px S R p) (e : se_sm p R Q) : se_px S Q p := by
  obtain ⟨-, -, -, e4, e5⟩ := e
  refine ⟨fun k hk => ?_, by rw [e4]; exact h.2.1, fun j hj hb => ?_⟩
  · rw [e5 k hk, e4]; exact h.1 k hk
  · rw [e4] at hb
    obtain ⟨k, h1, h2⟩ := h.2.2 j hj hb
    exact ⟨k, h1, by rw [e5 k h1]; exact h2⟩
theorem se_px_up {S : sh_T} {R : se_T} {p j : Nat} (h : se_px S R p) (hj : j < sh_jb S) (hb : se_ib R j = false) : se_px S (se_co (se_nd R p j), se_li (se_nd R p j), se_bo (se_nd R p j), se_no (se_nd R p j), se_al (se_nd R p j), se_be (se_nd R p j), zu (se_ib (se_nd R p j)) (se_be (se_nd R p j) p) true, se_bs (se_nd R p j)) (p + 1) := by
  have e0 : se_be (se_nd R p j) p = j := nu_eq _ _ _
  rw [e0]
  refine ⟨fun k hk => ?_, ?_, fun i hi hu => ?_⟩
  · show nu (se_be R) p j k < _ ∧ zu (se_ib R) j true (nu (se_be R) p j k) = true
    by_cases e : k = p
    · subst e; rw [nu_eq, zu_eq]; exact ⟨hj, rfl⟩
    · rw [nu_ne _ _ e]
      obtain ⟨h1, h2⟩ := h.1 k (by omega)
      refine ⟨h1, ?_⟩
      rw [zu_ne _ _ (fun e => by rw [e, hb] at h2; cases h2)]
      exact h2
  · show zc_n (zu (se_ib R) j true) _ = _
    rw [zc_n_in hb hj, h.2.1]
  · by_cases e : i = j
    · exact ⟨p, by omega, by rw [e]; exact e0⟩
    · have hu' : zu (se_ib R) j true i = true := hu
      rw [zu_ne _ _ e] at hu'
      obtain ⟨k, h1, h2⟩ := h.2.2 i hi hu'
      exact ⟨k, by omega, by show nu (se_be R) p j k = i; rw [nu_ne _ _ (by omega)]; exact h2⟩
theorem va_cpy_bd {f g : Nat → Nat} (hf : ∀ i, f i < 6) (hg : ∀ i, g i < 6) (i : Nat) : va_cpy f g 0 0 6 i < 6 := by
  unfold va_cpy
  split
  · exact hf _
  · exact hg _
theorem se_fo_ok {S : sh_T} {f : se_T → Bool × se_T} {p : Nat} {R : se_T} (hS : sh_ok S) (hall : ∀ j, j < sh_jb S → sp_fits S j = true) (hp : ∀ k, k < p + 1 → se_be R k < sh_jb S) (hpb : p + 1 ≤ sh_jb S) (hR : se_ok S R) (hib : se_ib R (se_be R p) = false)
    (hf : p + 1 < sh_jb S → ∀ Q, se_ok S Q → se_be Q = se_be R → se_ib Q = zu (se_ib R) (se_be R p) true → se_ok S (f Q).2 ∧ se_sm (p + 1) Q (f Q).2) : se_ok S (se_fo S f p R).2 ∧ se_sm (p + 1) R (se_fo S f p R).2 := by
  obtain ⟨r1, r2, r3, r4, r5, r6⟩ := id hR
  unfold se_fo
  split
  · exact ⟨hR, rfl, rfl, rfl, rfl, fun k _ => rfl⟩
  · split
    · refine ⟨⟨r1, r2, r3, ?_, r5, va_cpy_bd r5 r6⟩, rfl, rfl, rfl, rfl, fun k _ => rfl⟩
      exact sp_co_bd hS (by have := hS.2.1; omega) (fun k hk => ⟨r5 k, hall _ (hp k hk)⟩)
    · obtain ⟨⟨q1, q2, q3, q4, q5, q6⟩, t1, t2, t3, t4, t5⟩ := hf (by omega) (se_co R, se_li R, se_bo R, se_no R, se_al R, se_be R, zu (se_ib R) (se_be R p) true, se_bs R) ⟨r1, r2, r3, r4, r5, r6⟩ rfl rfl
      refine ⟨⟨q1, q2, q3, q4, q5, q6⟩, t1, t2, t3, ?_, t5⟩
      show zu (se_ib (f _).2) (se_be R p) false = _
      rw [t4]
      exact zu_back _ hib
theorem se_lp_ok {S : sh_T} {f : se_T → Bool × se_T} {p : Nat} (hS : sh_ok S) (hall : ∀ j, j < sh_jb S → sp_fits S j = true) (hpb : p + 1 ≤ sh_jb S)
    (hf : p + 1 < sh_jb S → ∀ Q, se_ok S Q → se_px S Q (p + 1) → se_ok S (f Q).2 ∧ se_sm (p + 1) Q (f Q).2) : ∀ k j R, j + k ≤ sh_jb S → se_ok S R → se_px S R p → se_ok S (se_lp S f p k j R).2 ∧ se_sm p R (se_lp S f p k j R).2
  | 0, j, R, _, hR, _ => ⟨hR, rfl, rfl, rfl, rfl, fun k _ => rfl⟩
  | k + 1, j, R, hj, hR, hx => by
    unfold se_lp
    split
    · exact se_lp_ok hS hall hpb hf k (j + 1) R (by omega) hR hx
    · rename_i hb
      rw [Bool.not_eq_true] at hb
      split
      · exact ⟨hR, rfl, rfl, rfl, rfl, fun k _ => rfl⟩
      · rename_i hl
        obtain ⟨r1, r2, r3, r4, r5, r6⟩ := id hR
        have hs2 := hS.2.1
        have hR1 : se_ok S (se_nd R p j) := ⟨r1, by show se_no R + 1 ≤ se_li R; omega, r3, r4, fun i => by show nu _ _ _ i < 6; unfold nu; split; omega; exact r5 i, r6⟩
        have e0 : se_be (se_nd R p j) p = j := nu_eq _ _ _
        have hfo := se_fo_ok (f := f) (p := p) (R := se_nd R p j) hS hall (fun i hi => by
            show nu (se_be R) p j i < _
            by_cases e : i = p
            · subst e; rw [nu_eq]; omega
            · rw [nu_ne _ _ e]; exact (hx.1 i (by omega)).1) hpb hR1 (by rw [e0]; exact hb) (fun hlt Q hQ h1 h2 => hf hlt Q hQ (by
            have hu := se_px_up hx (show j < sh_jb S by omega) hb
            obtain ⟨u1, u2, u3⟩ := hu
            refine ⟨fun i hi => ?_, ?_, fun i hi hv => ?_⟩
            · rw [h1, h2]; exact u1 i hi
            · rw [h2]; exact u2
            · rw [h2] at hv; rw [h1]; exact u3 i hi hv))
        obtain ⟨g1, g2⟩ := hfo
        have hsm : se_sm p R (se_fo S f p (se_nd R p j)).2 := by
          obtain ⟨a1, a2, a3, a4, a5⟩ := g2
          exact ⟨a1, a2, a3, a4, fun i hi => (a5 i (by omega)).trans (nu_ne _ _ (by omega))⟩
        split
        · obtain ⟨w1, w2⟩ := se_lp_ok hS hall hpb hf k (j + 1) (se_fo S f p (se_nd R p j)).2 (by omega) g1 (se_px_sm hx hsm)
          exact ⟨w1, se_sm_tr hsm w2⟩
        · exact ⟨g1, hsm⟩
theorem se_go_ok {S : sh_T} (hS : sh_ok S) (hall : ∀ j, j < sh_jb S → sp_fits S j = true) : ∀ r p R, p + r = sh_jb S → se_ok S R → se_px S R p → se_ok S (se_go S r p R).2 ∧ se_sm p R (se_go S r p R).2
  | 0, p, R, _, hR, _ => ⟨hR, rfl, rfl, rfl, rfl, fun k _ => rfl⟩
  | r + 1, p, R, hr, hR, hx => se_lp_ok hS hall (by omega) (fun _ Q hQ hx' => se_go_ok hS hall r (p + 1) Q (by omega) hQ hx') (sh_jb S) 0 R (by omega) hR hx
end
section
/-! the search: contracts -/
theorem am_rm {G : am_G} {y : am_M} {d d' bc bs : Nat} {Q : am_O → am_H → Prop} {pc : Nat} {L : List (Nat × Value)} {st : List Value} {h : am_H} (h1 : d ≤ d') (k : am_W G y d bc bs Q pc L st h) : am_W G y d' bc bs Q pc L st h :=
  fun p e R s m args below meth c H locs cells slots ls C hR => k p e R s m args below meth c H locs cells slots ls C ⟨Nat.le_trans h1 hR.1, Nat.le_trans (Nat.mul_le_mul_left 64 h1) hR.2.1, hR.2.2.1, hR.2.2.2⟩
/-- how a part of the search ends: u are the jobs whose steps stay -/
def se_Q (x : Int64) (t : Bool) (S : sh_T) (P : pl_T) (W : am_H) (F : fl_T) (u : Nat → Bool) (q : Bool × se_T) : am_O → am_H → Prop := fun o h' =>
  ∃ F', o = .inl (some (.int (zI q.1))) ∧ h' = hx x t S F' q.2 P W ∧ (q.1 = true → fl_eqv (sh_mc S) F F' ∧ ∀ j, j < sh_jb S → u j = true → ∀ i, i < sh_so S j → fl_ma F' (sh_sa S (j * 4 + i)) = fl_ma F (sh_sa S (j * 4 + i)))
theorem se_fo_1 {S : sh_T} {f : se_T → Bool × se_T} {p : Nat} {R : se_T} (h : se_co R ≤ sp_co S (se_be R) (p + 1) + sp_rs S (zu (se_ib R) (se_be R p) true) (sh_jb S)) : se_fo S f p R = (true, R) := if_pos h
theorem se_fo_2 {S : sh_T} {f : se_T → Bool × se_T} {p : Nat} {R : se_T} (h : ¬ se_co R ≤ sp_co S (se_be R) (p + 1) + sp_rs S (zu (se_ib R) (se_be R p) true) (sh_jb S)) (h2 : sh_jb S ≤ p + 1) : se_fo S f p R = (true, (sp_co S (se_be R) (p + 1), se_li R, se_bo R, se_no R, se_al R, se_be R, se_ib R, va_cpy (se_be R) (se_bs R) 0 0 6)) := by
  unfold se_fo
  rw [if_neg h, if_pos h2]
theorem se_fo_3 {S : sh_T} {f : se_T → Bool × se_T} {p : Nat} {R : se_T} (h : ¬ se_co R ≤ sp_co S (se_be R) (p + 1) + sp_rs S (zu (se_ib R) (se_be R p) true) (sh_jb S)) (h2 : ¬ sh_jb S ≤ p + 1) : se_fo S f p R = ((f (se_co R, se_li R, se_bo R, se_no R, se_al R, se_be R, zu (se_ib R) (se_be R p) true, se_bs R)).1,
    let Q := (f (se_co R, se_li R, se_bo R, se_no R, se_al R, se_be R, zu (se_ib R) (se_be R p) true, se_bs R)).2
    (se_co Q, se_li Q, se_bo Q, se_no Q, se_al Q, se_be Q, zu (se_ib Q) (se_be R p) false, se_bs Q)) := by
  unfold se_fo
  rw [if_neg h, if_neg h2]
theorem se_lp_1 {S : sh_T} {f : se_T → Bool × se_T} {p k j : Nat} {R : se_T} (h : se_ib R j = true) : se_lp S f p (k + 1) j R = se_lp S f p k (j + 1) R := if_pos h
theorem se_lp_2 {S : sh_T} {f : se_T → Bool × se_T} {p k j : Nat} {R : se_T} (h : se_ib R j = false) (h2 : se_li R ≤ se_no R) : se_lp S f p (k + 1) j R = (false, R) := by
  rw [se_lp, if_neg (by rw [h]; decide), if_pos h2]
theorem se_lp_3 {S : sh_T} {f : se_T → Bool × se_T} {p k j : Nat} {R : se_T} (h : se_ib R j = false) (h2 : ¬ se_li R ≤ se_no R) (h3 : (se_fo S f p (se_nd R p j)).1 = true) : se_lp S f p (k + 1) j R = se_lp S f p k (j + 1) (se_fo S f p (se_nd R p j)).2 := by
  rw [se_lp, if_neg (by rw [h]; decide), if_neg h2, if_pos h3]
theorem se_lp_4 {S : sh_T} {f : se_T → Bool × se_T} {p k j : Nat} {R : se_T} (h : se_ib R j = false) (h2 : ¬ se_li R ≤ se_no R) (h3 : (se_fo S f p (se_nd R p j)).1 = false) : se_lp S f p (k + 1) j R = (false, (se_fo S f p (se_nd R p j)).2) := by
  rw [se_lp, if_neg (by rw [h]; decide), if_neg h2, if_neg (by rw [h3]; decide)]
theorem se_Q_tr {x : Int64} {t : Bool} {S : sh_T} {P : pl_T} {W : am_H} {F F1 : fl_T} {u : Nat → Bool} {q : Bool × se_T} (he : fl_eqv (sh_mc S) F F1) (hm : ∀ j, j < sh_jb S → u j = true → ∀ i, i < sh_so S j → fl_ma F1 (sh_sa S (j * 4 + i)) = fl_ma F (sh_sa S (j * 4 + i))) (o : am_O) (h : am_H) (hq : se_Q x t S P W F1 u q o h) : se_Q x t S P W F u q o h := by
  obtain ⟨F', a, b, c⟩ := hq
  refine ⟨F', a, b, fun e => ?_⟩
  obtain ⟨c1, c2⟩ := c e
  exact ⟨fl_eqv_tr he c1, fun j hj hu i hi => (c2 j hj hu i hi).trans (hm j hj hu i hi)⟩
section CRB
variable {G : am_G} {x : Int64} {t : Bool} {S : sh_T} {F : fl_T} {R : se_T} {P : pl_T} {W : am_H} {jo : Nat → Nat}
set_option maxRecDepth 20000 in
theorem c_R_follow (hS : sh_ok S) (f : se_T → Bool × se_T) (d bc bs p : Nat) (hp : p < sh_jb S) (hR : se_ok S R) (hco : sp_co S (se_be R) (p + 1) ≤ 4080000) (hrs : sp_rs S (zu (se_ib R) (se_be R p) true) (sh_jb S) ≤ 1680000)
    (hgo : p + 1 < sh_jb S → ∀ bc bs, am_W G m_R_goOn d bc bs (se_Q x t S P W F (zu (se_ib R) (se_be R p) true) (f (se_co R, se_li R, se_bo R, se_no R, se_al R, se_be R, zu (se_ib R) (se_be R p) true, se_bs R))) 0 (lv_args 0 [.ref 21, .int (nI (p + 1)), .long (lN (sp_co S (se_be R) (p + 1))), .long (lN (sp_rs S (zu (se_ib R) (se_be R p) true) (sh_jb S)))]) [] (hx x t S F (se_co R, se_li R, se_bo R, se_no R, se_al R, se_be R, zu (se_ib R) (se_be R p) true, se_bs R) P W)) :
    am_W G m_R_follow (d + 1) bc bs (se_Q x t S P W F (zu (se_ib R) (se_be R p) true) (se_fo S f p R)) 0 (lv_args 0 [.ref 21, .int (nI p), .long (lN (sp_co S (se_be R) (p + 1))), .long (lN (sp_rs S (zu (se_ib R) (se_be R p) true) (sh_jb S)))]) [] (hx x t S F R P W) := by
  have s2 := hS.2.1
  obtain ⟨r1, r2, r3, r4, r5, r6⟩ := id hR
  have hbe := r5 p
  refine am_lload_n d_R_follow_0 rfl rfl ?_
  refine am_lload d_R_follow_1 rfl ?_
  refine am_laddN d_R_follow_3 ?_
  refine am_aload_n d_R_follow_4 rfl rfl ?_
  refine am_get F_R 6 (by decide) d_R_follow_5 w_143 rfl rfl ?_
  refine am_lc_lt (tgt := 14) d_R_follow_8 d_R_follow_9 (by decide) (by omega) (by omega) (fun c9 => ?_) (fun c9 => ?_)
  · refine am_iload_n d_R_follow_14 rfl rfl ?_
    refine am_iconst (v := nI 1) d_R_follow_15 (by decide) ?_
    refine am_iaddN d_R_follow_16 ?_
    refine am_aload_n d_R_follow_17 rfl rfl ?_
    refine am_get F_R 0 (by decide) d_R_follow_18 w_136 rfl rfl ?_
    refine am_get F_S 5 (by decide) d_R_follow_21 w_44 rfl rfl ?_
    refine am_icmpN_lt (tgt := 49) d_R_follow_24 (by decide) (by omega) (by omega) (fun c24 => ?_) (fun c24 => ?_)
    · have e1 := se_fo_3 (f := f) (R := R) (p := p) (S := S) (by omega) (by omega)
      refine am_aload_n d_R_follow_49 rfl rfl ?_
      refine am_get F_R 3 (by decide) d_R_follow_50 w_139 rfl rfl ?_
      refine am_iload_n d_R_follow_53 rfl rfl ?_
      refine am_ialdA d_R_follow_54 rfl (by omega) (by decide) ?_
      refine am_istore d_R_follow_55 (by decide) ?_
      refine am_aload_n d_R_follow_57 rfl rfl ?_
      refine am_get F_R 4 (by decide) d_R_follow_58 w_140 rfl rfl ?_
      refine am_iload d_R_follow_61 rfl ?_
      refine am_iconst (v := zI true) d_R_follow_63 (by decide) ?_
      refine am_zastA d_R_follow_64 rfl hbe (by decide) ?_
      refine am_aload_n d_R_follow_65 rfl rfl ?_
      refine am_iload_n d_R_follow_66 rfl rfl ?_
      refine am_iconst (v := nI 1) d_R_follow_67 (by decide) ?_
      refine am_iaddN d_R_follow_68 ?_
      refine am_lload_n d_R_follow_69 rfl rfl ?_
      refine am_lload d_R_follow_70 rfl ?_
      refine am_callQ 4 (am_recvV (z := m_R_goOn) rfl d_R_follow_72 w_481 w_483 ws_7 w_484 F_R.1 rfl (by decide) np_R_goOn) (by decide) (by decide) (Nat.le_of_ble_eq_true rfl) (Nat.le_of_ble_eq_true rfl) (Nat.zero_le _) (Nat.zero_le _) (am_rm (by omega) (hgo (by omega) _ _)) (fun v72 h72 q72 => ?_) (fun x72 h72 q72 => ?_)
      · obtain ⟨F', q1, rfl, q3⟩ := q72
        cases q1
        refine am_istore d_R_follow_75 (by decide) ?_
        refine am_aload_n d_R_follow_77 rfl rfl ?_
        refine am_get F_R 4 (by decide) d_R_follow_78 w_140 rfl rfl ?_
        refine am_iload d_R_follow_81 rfl ?_
        refine am_iconst (v := zI false) d_R_follow_83 (by decide) ?_
        refine am_zastA d_R_follow_84 rfl hbe (by decide) ?_
        refine am_iload d_R_follow_85 rfl ?_
        refine am_zret d_R_follow_87 rfl (zI_n _) ?_
        rw [e1]
        exact ⟨F', rfl, rfl, q3⟩
      · obtain ⟨F', q1, -, -⟩ := q72
        cases q1
    · have e1 := se_fo_2 (f := f) (R := R) (p := p) (S := S) (by omega) (by omega)
      refine am_aload_n d_R_follow_27 rfl rfl ?_
      refine am_lload_n d_R_follow_28 rfl rfl ?_
      refine am_put F_R 6 (by decide) d_R_follow_29 w_143 rfl rfl (Nat.le_of_ble_eq_true rfl) rfl rfl ?_
      refine am_aload_n d_R_follow_32 rfl rfl ?_
      refine am_get F_R 3 (by decide) d_R_follow_33 w_139 rfl rfl ?_
      refine am_iconst (v := nI 0) d_R_follow_36 (by decide) ?_
      refine am_aload_n d_R_follow_37 rfl rfl ?_
      refine am_get F_R 5 (by decide) d_R_follow_38 w_141 rfl rfl ?_
      refine am_iconst (v := nI 0) d_R_follow_41 (by decide) ?_
      refine am_bipush (v := nI 6) d_R_follow_42 (by decide) ?_
      refine am_copyA 0 0 6 d_R_follow_44 w_491 w_493 w_492 w_13 rfl rfl (by decide) (by decide) (by decide) (by decide) (by omega) (by decide) ?_
      refine am_iconst (v := zI true) d_R_follow_47 (by decide) ?_
      refine am_zret d_R_follow_48 rfl (zI_n _) ?_
      rw [e1]
      exact ⟨F, rfl, rfl, fun _ => ⟨fl_eqv_rfl _ _, fun _ _ _ _ _ => rfl⟩⟩
  · have e1 : se_fo S f p R = (true, R) := se_fo_1 (by omega)
    refine am_iconst (v := zI true) d_R_follow_12 (by decide) ?_
    refine am_zret d_R_follow_13 rfl (zI_n _) ?_
    rw [e1]
    exact ⟨F, rfl, rfl, fun _ => ⟨fl_eqv_rfl _ _, fun _ _ _ _ _ => rfl⟩⟩
/-- what the loop finds -/
def se_in (S : sh_T) (F : fl_T) (R : se_T) (p : Nat) : Prop := se_ok S R ∧ se_px S R p ∧ fl_eqv (sh_mc S) (fl_co S (se_be R) (fl_clear S fl_0) p).1 F
theorem se_in_bd {p : Nat} (hS : sh_ok S) (hk : sh_k S jo) (hall : ∀ j, j < sh_jb S → sp_fits S j = true) (hp : p < sh_jb S) (h : se_in S F R p) : fl_sm (sh_mc S) F (2000 + 800 * p) ∧ (∀ m, m < sh_mc S → fl_bc F m ≤ 28) ∧ (∀ k, k < p → se_be R k < 6 ∧ sp_fits S (se_be R k) = true) := by
  have s2 := hS.2.1
  have h0 : ∀ k, k < p → se_be R k < sh_jb S ∧ sp_fits S (se_be R k) = true := fun k hk => ⟨(h.2.1.1 k hk).1, hall _ (h.2.1.1 k hk).1⟩
  have h1 : ∀ k, k < p → se_be R k < 6 ∧ sp_fits S (se_be R k) = true := fun k hk => ⟨h.1.2.2.2.2.1 k, (h0 k hk).2⟩
  refine ⟨fl_eqv_sm h.2.2 (fl_co_sm hS (fl_clear_sm _ hS) p h1), fun m hm => ?_, h1⟩
  have := fl_co_ct (f := fl_0) hS hk p (by omega) h0 m hm
  rw [← (h.2.2 m hm).1]
  omega
theorem se_in_up {p j : Nat} (hS : sh_ok S) (hk : sh_k S jo) (hall : ∀ j, j < sh_jb S → sp_fits S j = true) (hp : p < sh_jb S) (h : se_in S F R p) (hj : j < sh_jb S) :
    sp_co S (nu (se_be R) p j) (p + 1) = sp_co S (se_be R) p + (fl_end S j F - sh_du S j) * sh_we S j ∧ fl_eqv (sh_mc S) (fl_co S (nu (se_be R) p j) (fl_clear S fl_0) (p + 1)).1 (fl_place S j F) := by
  have hc : fl_co S (nu (se_be R) p j) (fl_clear S fl_0) p = fl_co S (se_be R) (fl_clear S fl_0) p := fl_co_congr (fun k hk => nu_ne _ _ (by omega))
  obtain ⟨-, -, h1⟩ := se_in_bd hS hk hall hp h
  obtain ⟨g1, g2⟩ := fl_place_eqv hS (hall j hj) (fl_co_sm hS (fl_clear_sm fl_0 hS) p h1) h.2.2
  constructor
  · unfold sp_co
    rw [fl_co, hc, nu_eq, g2]
  · rw [fl_co, hc, nu_eq]
    exact g1
set_option maxRecDepth 20000 in
set_option maxHeartbeats 1000000 in
theorem c_R_goOn_l (hS : sh_ok S) (hk : sh_k S jo) (hall : ∀ j, j < sh_jb S → sp_fits S j = true) (f : se_T → Bool × se_T) (D p : Nat) (hD : 3 ≤ D) (hp : p < sh_jb S)
    (hfo : ∀ (F : fl_T) (R : se_T) (j c o bc bs : Nat), se_in S F R p → j < sh_jb S → se_ib R j = false → se_ok S (se_nd R p j) → c = sp_co S (nu (se_be R) p j) (p + 1) → o = sp_rs S (zu (se_ib R) j true) (sh_jb S) → am_W G m_R_follow D bc bs (se_Q x t S P W (fl_place S j F) (zu (se_ib R) j true) (se_fo S f p (se_nd R p j))) 0 (lv_args 0 [.ref 21, .int (nI p), .long (lN c), .long (lN o)]) [] (hx x t S (fl_place S j F) (se_nd R p j) P W))
    (hfp : p + 1 < sh_jb S → ∀ Q, se_ok S Q → se_px S Q (p + 1) → se_ok S (f Q).2 ∧ se_sm (p + 1) Q (f Q).2) :
    ∀ k j, j + k = sh_jb S → ∀ (F : fl_T) (R : se_T) (c o bc bs : Nat), se_in S F R p → c = sp_co S (se_be R) p → o = sp_rs S (se_ib R) (sh_jb S) →
    am_W G m_R_goOn (D + 1) bc bs (se_Q x t S P W F (se_ib R) (se_lp S f p k j R)) 3 [(0, .ref 21), (1, .int (nI p)), (2, .long (lN c)), (4, .long (lN o)), (6, .int (nI j))] [] (hx x t S F R P W) := by
  intro k
  have s2 := hS.2.1
  induction k with
  | zero =>
    intro j hj F R c o bc bs hin hc ho
    refine am_iload d_R_goOn_3 rfl ?_
    refine am_aload_n d_R_goOn_5 rfl rfl ?_
    refine am_get F_R 0 (by decide) d_R_goOn_6 w_136 rfl rfl ?_
    refine am_get F_S 5 (by decide) d_R_goOn_9 w_44 rfl rfl ?_
    refine am_icmpN_ge (tgt := 129) d_R_goOn_12 (by decide) (by omega) (by omega) (fun c12 => ?_) (fun c12 => ?_)
    · refine am_iconst (v := zI true) d_R_goOn_129 (by decide) ?_
      refine am_zret d_R_goOn_130 rfl (zI_n _) ?_
      exact ⟨F, rfl, rfl, fun _ => ⟨fl_eqv_rfl _ _, fun _ _ _ _ _ => rfl⟩⟩
    · exact absurd c12 (by omega)
  | succ k ih =>
    intro j hj F R c o bc bs hin hc ho
    obtain ⟨hsm, h28, hpre⟩ := se_in_bd hS hk hall hp hin
    obtain ⟨r1, r2, r3, r4, r5, r6⟩ := id hin.1
    have hjb : j < sh_jb S := by omega
    obtain ⟨i1, i2⟩ := se_in_up hS hk hall hp hin hjb
    obtain ⟨-, hend⟩ := fl_place_sm hS (hall j hjb) hsm
    have hal := r1 j hjb
    refine am_iload d_R_goOn_3 rfl ?_
    refine am_aload_n d_R_goOn_5 rfl rfl ?_
    refine am_get F_R 0 (by decide) d_R_goOn_6 w_136 rfl rfl ?_
    refine am_get F_S 5 (by decide) d_R_goOn_9 w_44 rfl rfl ?_
    refine am_icmpN_ge (tgt := 129) d_R_goOn_12 (by decide) (by omega) (by omega) (fun c12 => ?_) (fun c12 => ?_)
    · first
        | exact absurd c12 (by omega)
        | exact absurd c23 (by omega)
    · refine am_iload_n d_R_goOn_15 rfl rfl ?_
      refine am_aload_n d_R_goOn_16 rfl rfl ?_
      refine am_get F_R 0 (by decide) d_R_goOn_17 w_136 rfl rfl ?_
      refine am_get F_S 5 (by decide) d_R_goOn_20 w_44 rfl rfl ?_
      refine am_icmpN_ge (tgt := 129) d_R_goOn_23 (by decide) (by omega) (by omega) (fun c23 => ?_) (fun c23 => ?_)
      · first
          | exact absurd c12 (by omega)
          | exact absurd c23 (by omega)
      · refine am_aload_n d_R_goOn_26 rfl rfl ?_
        refine am_get F_R 4 (by decide) d_R_goOn_27 w_140 rfl rfl ?_
        refine am_iload d_R_goOn_30 rfl ?_
        refine am_zaldA d_R_goOn_32 rfl (by omega) (by decide) ?_
        refine am_ifZ_eq (tgt := 39) d_R_goOn_33 (by decide) (fun c33 => ?_) (fun c33 => ?_)
        · refine am_aload_n d_R_goOn_39 rfl rfl ?_
          refine am_get F_R 9 (by decide) d_R_goOn_40 w_147 rfl rfl ?_
          refine am_aload_n d_R_goOn_43 rfl rfl ?_
          refine am_get F_R 7 (by decide) d_R_goOn_44 w_144 rfl rfl ?_
          refine am_icmpN_lt (tgt := 52) d_R_goOn_47 (by decide) (by omega) (by omega) (fun c47 => ?_) (fun c47 => ?_)
          · have hok1 : se_ok S (se_nd R p j) := ⟨r1, by show se_no R + 1 ≤ se_li R; omega, r3, r4, fun i => by show nu _ _ _ i < 6; unfold nu; split; omega; exact r5 i, r6⟩
            have hro := sp_rs_out (S := S) c33 hjb
            have hle : se_al R j ≤ o := by omega
            have hcost : c + (fl_end S j F - sh_du S j) * sh_we S j = sp_co S (nu (se_be R) p j) (p + 1) := by rw [hc]; exact i1.symm
            have hoth : o - se_al R j = sp_rs S (zu (se_ib R) j true) (sh_jb S) := by omega
            refine am_aload_n d_R_goOn_52 rfl rfl ?_
            refine am_dup d_R_goOn_53 rfl ?_
            refine am_get F_R 9 (by decide) d_R_goOn_54 w_147 rfl rfl ?_
            refine am_iconst (v := nI 1) d_R_goOn_57 (by decide) ?_
            refine am_iaddN d_R_goOn_58 ?_
            refine am_put F_R 9 (by decide) d_R_goOn_59 w_147 rfl rfl (Nat.le_of_ble_eq_true rfl) rfl rfl ?_
            refine am_aload_n d_R_goOn_62 rfl rfl ?_
            refine am_get F_R 3 (by decide) d_R_goOn_63 w_139 rfl rfl ?_
            refine am_iload_n d_R_goOn_66 rfl rfl ?_
            refine am_iload d_R_goOn_67 rfl ?_
            refine am_iastA d_R_goOn_69 rfl (by omega) (by decide) ?_
            refine am_lload_n d_R_goOn_70 rfl rfl ?_
            refine am_aload_n d_R_goOn_71 rfl rfl ?_
            refine am_get F_R 0 (by decide) d_R_goOn_72 w_136 rfl rfl ?_
            refine am_iload d_R_goOn_75 rfl ?_
            refine am_aload_n d_R_goOn_77 rfl rfl ?_
            refine am_get F_R 1 (by decide) d_R_goOn_78 w_137 rfl rfl ?_
            refine am_iload d_R_goOn_81 rfl ?_
            refine am_callF 2 (am_recvV (z := m_F_place) rfl d_R_goOn_83 w_485 w_450 w_451 w_452 F_F.1 rfl (by decide) np_F_place) (by decide) (by decide) (Nat.le_of_ble_eq_true rfl) (Nat.le_of_ble_eq_true rfl) (Nat.zero_le _) (Nat.zero_le _) (am_rm (d := 3) hD (c_F_place (R := se_nd R p j) (F := F) hS 0 _ _ j (2000 + 800 * p) (by omega) (hall j hjb) hsm (by omega))) ?_
            refine am_callF 3 (am_recvV (z := m_S_costOf) rfl d_R_goOn_86 w_486 w_469 w_470 w_471 F_S.1 rfl (by decide) np_S_costOf) (by decide) (by decide) (Nat.le_of_ble_eq_true rfl) (Nat.le_of_ble_eq_true rfl) (Nat.zero_le _) (Nat.zero_le _) (c_S_costOf hS _ _ _ j _ (by omega) (by omega)) ?_
            refine am_laddN d_R_goOn_89 ?_
            refine am_lstore d_R_goOn_90 (by decide) ?_
            refine am_aload_n d_R_goOn_92 rfl rfl ?_
            refine am_iload_n d_R_goOn_93 rfl rfl ?_
            refine am_lload d_R_goOn_94 rfl ?_
            refine am_lload d_R_goOn_96 rfl ?_
            refine am_aload_n d_R_goOn_98 rfl rfl ?_
            refine am_get F_R 2 (by decide) d_R_goOn_99 w_138 rfl rfl ?_
            refine am_iload d_R_goOn_102 rfl ?_
            refine am_laldA d_R_goOn_104 rfl (by omega) (by decide) ?_
            refine am_lsubN d_R_goOn_105 hle ?_
            refine am_callQ 4 (am_recvV (z := m_R_follow) rfl d_R_goOn_106 w_487 w_489 ws_8 w_490 F_R.1 rfl (by decide) np_R_follow) (by decide) (by decide) (Nat.le_of_ble_eq_true rfl) (Nat.le_of_ble_eq_true rfl) (Nat.zero_le _) (Nat.zero_le _) (hfo F R j _ _ _ _ hin hjb c33 hok1 hcost hoth) (fun v106 h106 q106 => ?_) (fun x106 h106 q106 => ?_)
            · obtain ⟨F', q1, rfl, q3⟩ := q106
              cases q1
              refine am_ifZ_ne (tgt := 114) d_R_goOn_109 (by decide) (fun c109 => ?_) (fun c109 => ?_)
              · rw [se_lp_3 c33 (by omega) c109]
                obtain ⟨q4, q5⟩ := q3 c109
                obtain ⟨p1, p2, p3, p4⟩ := fl_pj_ct hS hk hjb (hall j hjb) hsm h28 (sh_so S j) (Nat.le_refl _)
                have hmF : ∀ i, i < sh_so S j → fl_ma F' (sh_sa S (j * 4 + i)) = fl_ma (fl_place S j F) (sh_sa S (j * 4 + i)) := fun i hi => q5 j hjb (zu_eq _ _ _) i hi
                have hmm : ∀ i, i < sh_so S j → fl_ma F' (sh_sa S (j * 4 + i)) < sh_mc S := fun i hi => by rw [hmF i hi]; exact p4 i hi
                have hsm1 := fl_eqv_sm q4 (fl_place_sm hS (hall j hjb) hsm).1
                have hbb : ∀ m, m < sh_mc S → fl_bc F' m < 2 ^ 31 := fun m hm => by have := hsm1.1 m hm; omega
                have hbk : fl_eqv (sh_mc S) F (fl_lift S j F') := fl_back hS hk hjb (hall j hjb) hsm h28 q4 hmF
                have hmk : ∀ j', j' < sh_jb S → se_ib R j' = true → ∀ i, i < sh_so S j' → fl_ma (fl_lift S j F') (sh_sa S (j' * 4 + i)) = fl_ma F (sh_sa S (j' * 4 + i)) := fun j' hj' hu i hi => by
                  have hne : j' ≠ j := fun e => by rw [e, c33] at hu; cases hu
                  have e1 : fl_ma (fl_lift S j F') = fl_ma F' := fl_li_ma S j F' _
                  rw [e1, q5 j' hj' (by rw [zu_ne _ _ hne]; exact hu) i hi]
                  exact (p3 _ (fun k hk2 => sh_k_dj hk hj' hi hjb hk2 hne)).1
                have hlo := se_lp_ok (f := f) (p := p) hS hall (by omega) hfp 1 j R (by omega) hin.1 hin.2.1
                rw [se_lp_3 c33 (by omega) c109] at hlo
                obtain ⟨z1, z2⟩ : se_ok S (se_fo S f p (se_nd R p j)).2 ∧ se_sm p R (se_fo S f p (se_nd R p j)).2 := hlo
                have hib : se_ib (se_fo S f p (se_nd R p j)).2 = se_ib R := z2.2.2.2.1
                have hc2 : c = sp_co S (se_be (se_fo S f p (se_nd R p j)).2) p := by rw [hc]; exact sp_co_congr (fun k hk => (z2.2.2.2.2 k hk).symm)
                have ho2 : o = sp_rs S (se_ib (se_fo S f p (se_nd R p j)).2) (sh_jb S) := by rw [hib]; exact ho
                have hin2 : se_in S (fl_lift S j F') (se_fo S f p (se_nd R p j)).2 p := ⟨z1, se_px_sm hin.2.1 z2, fl_eqv_tr (by rw [fl_co_congr (h := se_be R) (fun k hk => z2.2.2.2.2 k hk)]; exact hin.2.2) hbk⟩
                refine am_aload_n d_R_goOn_114 rfl rfl ?_
                refine am_get F_R 1 (by decide) d_R_goOn_115 w_137 rfl rfl ?_
                refine am_iload d_R_goOn_118 rfl ?_
                refine am_callF 2 (am_recvV (z := m_F_lift) rfl d_R_goOn_120 w_494 w_495 w_496 w_497 F_F.1 rfl (by decide) np_F_lift) (by decide) (by decide) (Nat.le_of_ble_eq_true rfl) (Nat.le_of_ble_eq_true rfl) (Nat.zero_le _) (Nat.zero_le _) (c_F_lift hS _ _ _ j (by omega) hmm hbb) ?_
                refine am_iinc d_R_goOn_123 rfl (am_inc _) (by decide) ?_
                refine am_goto (tgt := 3) d_R_goOn_126 (by decide) ?_
                refine am_lo (L' := [(0, .ref 21), (1, .int (nI p)), (2, .long (lN c)), (4, .long (lN o)), (6, .int (nI (j + 1)))]) rfl ?_
                refine am_mono (se_Q_tr hbk hmk) ?_
                have hz := ih (j + 1) (by omega) _ _ c o bc bs hin2 hc2 ho2
                rw [hib] at hz
                exact hz
              · rw [se_lp_4 c33 (by omega) c109]
                refine am_iconst (v := zI false) d_R_goOn_112 (by decide) ?_
                refine am_zret d_R_goOn_113 rfl (zI_n _) ?_
                exact ⟨F', rfl, rfl, fun e => by cases e⟩
            · obtain ⟨F', q1, -, -⟩ := q106
              cases q1
          · rw [se_lp_2 c33 (by omega)]
            refine am_iconst (v := zI false) d_R_goOn_50 (by decide) ?_
            refine am_zret d_R_goOn_51 rfl (zI_n _) ?_
            exact ⟨F, rfl, rfl, fun e => by cases e⟩
        · refine am_goto (tgt := 123) d_R_goOn_36 (by decide) ?_
          rw [se_lp_1 c33]
          refine am_iinc d_R_goOn_123 rfl (am_inc _) (by decide) ?_
          refine am_goto (tgt := 3) d_R_goOn_126 (by decide) ?_
          exact am_lo (L' := [(0, .ref 21), (1, .int (nI p)), (2, .long (lN c)), (4, .long (lN o)), (6, .int (nI (j + 1)))]) rfl (ih (j + 1) (by omega) F R c o bc bs hin hc ho)
theorem c_R_goOn (hS : sh_ok S) (hk : sh_k S jo) (hall : ∀ j, j < sh_jb S → sp_fits S j = true) : ∀ r p, p + r = sh_jb S → 1 ≤ r → ∀ (F : fl_T) (R : se_T) (c o bc bs : Nat), se_in S F R p → c = sp_co S (se_be R) p → o = sp_rs S (se_ib R) (sh_jb S) →
    am_W G m_R_goOn (2 * r + 4) bc bs (se_Q x t S P W F (se_ib R) (se_go S r p R)) 0 (lv_args 0 [.ref 21, .int (nI p), .long (lN c), .long (lN o)]) [] (hx x t S F R P W) := by
  intro r
  have s2 := hS.2.1
  induction r with
  | zero => intro p _ h; omega
  | succ r ihr =>
    intro p hp h1 F R c o bc bs hin hc ho
    have hfo : ∀ (F : fl_T) (R : se_T) (j c o bc bs : Nat), se_in S F R p → j < sh_jb S → se_ib R j = false → se_ok S (se_nd R p j) → c = sp_co S (nu (se_be R) p j) (p + 1) → o = sp_rs S (zu (se_ib R) j true) (sh_jb S) → am_W G m_R_follow (2 * r + 5) bc bs (se_Q x t S P W (fl_place S j F) (zu (se_ib R) j true) (se_fo S (se_go S r (p + 1)) p (se_nd R p j))) 0 (lv_args 0 [.ref 21, .int (nI p), .long (lN c), .long (lN o)]) [] (hx x t S (fl_place S j F) (se_nd R p j) P W) := by
      intro F R j c o bc bs hin hj hb hok hc ho
      subst hc ho
      have e0 : se_be (se_nd R p j) p = j := nu_eq _ _ _
      have hup := se_px_up hin.2.1 hj hb
      obtain ⟨i1, i2⟩ := se_in_up hS hk hall (by omega) hin hj
      obtain ⟨r1, r2, r3, r4, r5, r6⟩ := id hok
      have hcb := sp_co_bd (g := nu (se_be R) p j) (n := p + 1) hS (by omega) (fun k hk => ⟨r5 k, hall _ (hup.1 k hk).1⟩)
      have hrb := sp_rs_bd (u := zu (se_ib R) j true) hS (sh_jb S) hall
      have hfl := c_R_follow (G := G) (x := x) (t := t) (F := fl_place S j F) (P := P) (W := W) (R := se_nd R p j) hS (se_go S r (p + 1)) (2 * r + 4) bc bs p (by omega) hok hcb (by rw [e0]; show sp_rs S (zu (se_ib R) j true) (sh_jb S) ≤ _; omega) (fun hlt bc bs => by
        refine ihr (p + 1) (by omega) (by omega) _ _ _ _ bc bs ⟨⟨r1, r2, r3, r4, r5, r6⟩, hup, i2⟩ rfl rfl)
      rw [e0] at hfl
      exact hfl
    refine am_iconst (v := nI 0) d_R_goOn_0 (by decide) ?_
    refine am_istore d_R_goOn_1 (by decide) ?_
    exact am_lo (L' := [(0, .ref 21), (1, .int (nI p)), (2, .long (lN c)), (4, .long (lN o)), (6, .int (nI 0))]) rfl (c_R_goOn_l hS hk hall (se_go S r (p + 1)) (2 * r + 5) p (by omega) (by omega) hfo (fun _ Q hQ hx' => se_go_ok hS hall r (p + 1) Q (by omega) hQ hx') (sh_jb S) 0 (by omega) F R c o bc bs hin hc ho)
/-- the sum of ALONE of the jobs below n, and the row of them -/
def se_sum (S : sh_T) : Nat → Nat
  | 0 => 0
  | n + 1 => se_sum S n + sp_al S n
def se_als (S : sh_T) (g : Nat → Nat) : Nat → Nat → Nat
  | 0 => g
  | n + 1 => nu (se_als S g n) n (sp_al S n)
theorem se_als_at (S : sh_T) (g : Nat → Nat) : ∀ n k, k < n → se_als S g n k = sp_al S k
  | 0, k, h => absurd h (Nat.not_lt_zero k)
  | n + 1, k, h => by
    unfold se_als
    by_cases e : k = n
    · subst e; exact nu_eq _ _ _
    · rw [nu_ne _ _ e]; exact se_als_at S g n k (by omega)
theorem se_sum_rs (S : sh_T) {u : Nat → Bool} : ∀ n, (∀ k, k < n → u k = false) → sp_rs S u n = se_sum S n
  | 0, _ => rfl
  | n + 1, h => by
    unfold sp_rs se_sum
    rw [se_sum_rs S n (fun k hk => h k (by omega)), h n (by omega)]
    rfl
theorem zc_n_0 {u : Nat → Bool} : ∀ n, (∀ k, k < n → u k = false) → zc_n u n = 0
  | 0, _ => rfl
  | n + 1, h => by
    unfold zc_n
    rw [zc_n_0 n (fun k hk => h k (by omega)), h n (by omega)]
    rfl
/-- the search as it begins: the best order so far is that by due hours -/
def se_st (S : sh_T) (R : se_T) (n : Nat) : se_T := (sp_co S (se_ord (sh_du S) (se_bs R) (sh_jb S)) (sh_jb S), n, se_sum S (sh_jb S), 0, se_als S (se_al R) (sh_jb S), se_be R, se_ib R, se_ord (sh_du S) (se_bs R) (sh_jb S))
/-- the search at rest -/
def se_r (R : se_T) : Prop := (∀ i, se_be R i < 6) ∧ (∀ i, se_bs R i < 6) ∧ (∀ i, se_ib R i = false)
set_option maxRecDepth 20000 in
theorem c_R_findBest_l {Q : am_O → am_H → Prop} (hS : sh_ok S) (hall : ∀ j, j < sh_jb S → sp_fits S j = true) (d bc bs n : Nat) (hk : ∀ F, am_W G m_R_findBest (d + 5) bc bs Q 63 [(0, .ref 21), (1, .int (nI n)), (2, .int (nI (sh_jb S)))] [] (hx x t S F (se_co R, n, se_sum S (sh_jb S), 0, se_als S (se_al R) (sh_jb S), se_be R, se_ib R, se_bs R) P W)) : ∀ (g i : Nat), i ≤ sh_jb S → sh_jb S - i < g → ∀ (F : fl_T),
    am_W G m_R_findBest (d + 5) bc bs Q 17 [(0, .ref 21), (1, .int (nI n)), (2, .int (nI i))] [] (hx x t S F (se_co R, n, se_sum S i, 0, se_als S (se_al R) i, se_be R, se_ib R, se_bs R) P W) := by
  intro g
  have s2 := hS.2.1
  induction g with
  | zero => intro i _ h; omega
  | succ g ih =>
    intro i hi hg F
    refine am_iload_n d_R_findBest_17 rfl rfl ?_
    refine am_aload_n d_R_findBest_18 rfl rfl ?_
    refine am_get F_R 0 (by decide) d_R_findBest_19 w_136 rfl rfl ?_
    refine am_get F_S 5 (by decide) d_R_findBest_22 w_44 rfl rfl ?_
    refine am_icmpN_ge (tgt := 63) d_R_findBest_25 (by decide) (by omega) (by omega) (fun c25 => ?_) (fun c25 => ?_)
    · have e : i = sh_jb S := by omega
      subst e
      exact hk F
    · refine am_aload_n d_R_findBest_28 rfl rfl ?_
      refine am_get F_R 2 (by decide) d_R_findBest_29 w_138 rfl rfl ?_
      refine am_iload_n d_R_findBest_32 rfl rfl ?_
      refine am_aload_n d_R_findBest_33 rfl rfl ?_
      refine am_get F_R 1 (by decide) d_R_findBest_34 w_137 rfl rfl ?_
      refine am_iload_n d_R_findBest_37 rfl rfl ?_
      refine am_callF 2 (am_recvV (z := m_F_costAlone) rfl d_R_findBest_38 w_437 w_438 w_439 w_440 F_F.1 rfl (by decide) np_F_costAlone) (by decide) (by decide) (Nat.le_of_ble_eq_true rfl) (Nat.le_of_ble_eq_true rfl) (Nat.zero_le _) (Nat.zero_le _) (am_rm (d := 4) (by omega) (c_F_costAlone (F := F) (R := (se_co R, n, se_sum S i, 0, se_als S (se_al R) i, se_be R, se_ib R, se_bs R)) hS 0 _ _ i (by omega) (hall i (by omega)))) ?_
      rw [fl_al_eq hS _ (hall i (by omega))]
      refine am_lastA d_R_findBest_41 rfl (by omega) (by decide) ?_
      refine am_aload_n d_R_findBest_42 rfl rfl ?_
      refine am_dup d_R_findBest_43 rfl ?_
      refine am_get F_R 8 (by decide) d_R_findBest_44 w_145 rfl rfl ?_
      refine am_aload_n d_R_findBest_47 rfl rfl ?_
      refine am_get F_R 2 (by decide) d_R_findBest_48 w_138 rfl rfl ?_
      refine am_iload_n d_R_findBest_51 rfl rfl ?_
      refine am_laldA d_R_findBest_52 rfl (by omega) (by decide) ?_
      refine am_laddN d_R_findBest_53 ?_
      refine am_put F_R 8 (by decide) d_R_findBest_54 w_145 rfl rfl (Nat.le_of_ble_eq_true rfl) rfl rfl ?_
      refine am_iinc d_R_findBest_57 rfl (am_inc _) (by decide) ?_
      refine am_goto (tgt := 17) d_R_findBest_60 (by decide) ?_
      exact am_lo (L' := [(0, .ref 21), (1, .int (nI n)), (2, .int (nI (i + 1)))]) rfl (am_hq (h2 := (hx x t S (fl_place S i (fl_clear S F)) (se_co R, n, se_sum S (i + 1), 0, se_als S (se_al R) (i + 1), se_be R, se_ib R, se_bs R) P W)) (by show (hx x t S (fl_place S i (fl_clear S F)) (se_co R, n, se_sum S i + nu (se_als S (se_al R) i) i (sp_al S i) i, 0, nu (se_als S (se_al R) i) i (sp_al S i), se_be R, se_ib R, se_bs R) P W) = _; rw [nu_eq]; rfl) (ih (i + 1) (by omega) (by omega) _))
theorem se_ins_lt (du : Nat → Nat) (j : Nat) : ∀ (p : Nat) (b : Nat → Nat), p ≤ j → (∀ i, i < j → i ≠ p → b i < j ∨ b i < j + 1) → (∀ i, i ≤ j → i ≠ p → b i < j + 1) → ∀ i, i ≤ j → se_ins du j p b i < j + 1
  | 0, b, _, _, hb, i, hi => by
    unfold se_ins
    by_cases e : i = 0
    · subst e; rw [nu_eq]; omega
    · rw [nu_ne _ _ e]; exact hb i hi e
  | p + 1, b, hp, _, hb, i, hi => by
    unfold se_ins
    split
    · refine se_ins_lt du j p _ (by omega) (fun k hk hne => Or.inr ?_) (fun k hk hne => ?_) i hi
      · unfold nu; split
        · exact hb p (by omega) (by omega)
        · exact hb k (by omega) (by assumption)
      · unfold nu; split
        · exact hb p (by omega) (by omega)
        · exact hb k (by omega) (by assumption)
    · by_cases e : i = p + 1
      · subst e; rw [nu_eq]; omega
      · rw [nu_ne _ _ e]; exact hb i hi e
theorem se_ord_lt (du b : Nat → Nat) : ∀ n k, k < n → se_ord du b n k < n
  | 0, k, h => absurd h (Nat.not_lt_zero k)
  | n + 1, k, h => by
    unfold se_ord
    refine se_ins_lt du n n _ (Nat.le_refl _) (fun i hi _ => Or.inl (se_ord_lt du b n i hi)) (fun i hi hne => ?_) k (by omega)
    have := se_ord_lt du b n i (by omega)
    omega
set_option maxRecDepth 20000 in
theorem c_R_findBest (hS : sh_ok S) (hk : sh_k S jo) (hall : ∀ j, j < sh_jb S → sp_fits S j = true) (h1 : 1 ≤ sh_jb S) (bc bs n : Nat) (hn : n ≤ 2000) (hr : se_r R) :
    am_W G m_R_findBest 17 bc bs (fun o h' => ∃ F', o = .inl (some (.int (zI (se_go S (sh_jb S) 0 (se_st S R n)).1))) ∧ h' = (hx x t S F' (se_go S (sh_jb S) 0 (se_st S R n)).2 P W)) 0 (lv_args 0 [.ref 21, .int (nI n)]) [] (hx x t S F R P W) := by
  have s2 := hS.2.1
  have hb : ∀ i, se_bs R i < 6 := hr.2.1
  have hob := se_ord_bd (sh_du S) (se_bs R) hb (sh_jb S) s2
  have hg : ∀ k, k < sh_jb S → se_ord (sh_du S) (se_bs R) (sh_jb S) k < 6 ∧ sp_fits S (se_ord (sh_du S) (se_bs R) (sh_jb S) k) = true := fun k hk => ⟨hob k, hall _ (se_ord_lt (sh_du S) (se_bs R) (sh_jb S) k hk)⟩
  have hok : se_ok S (se_st S R n) := ⟨fun j hj => se_als_at S _ _ j hj, Nat.zero_le _, hn, sp_co_bd hS s2 hg, hr.1, hob⟩
  have hpx : se_px S (se_st S R n) 0 := ⟨fun k hk => absurd hk (Nat.not_lt_zero k), zc_n_0 _ (fun k _ => hr.2.2 k), fun j _ h => by have := hr.2.2 j; rw [show se_ib (se_st S R n) j = se_ib R j from rfl, this] at h; cases h⟩
  have ho : se_sum S (sh_jb S) = sp_rs S (se_ib (se_st S R n)) (sh_jb S) := (se_sum_rs S _ (fun k _ => hr.2.2 k)).symm
  have hin : ∀ F1, se_in S (fl_clear S F1) (se_st S R n) 0 := fun F1 => ⟨hok, hpx, fl_clear_eqv hS fl_0 F1⟩
  refine am_aload_n d_R_findBest_0 rfl rfl ?_
  refine am_iload_n d_R_findBest_1 rfl rfl ?_
  refine am_put F_R 7 (by decide) d_R_findBest_2 w_144 rfl rfl (Nat.le_of_ble_eq_true rfl) rfl rfl ?_
  refine am_aload_n d_R_findBest_5 rfl rfl ?_
  refine am_iconst (v := nI 0) d_R_findBest_6 (by decide) ?_
  refine am_put F_R 9 (by decide) d_R_findBest_7 w_147 rfl rfl (Nat.le_of_ble_eq_true rfl) rfl rfl ?_
  refine am_aload_n d_R_findBest_10 rfl rfl ?_
  refine am_lconst (v := 0) d_R_findBest_11 rfl ?_
  refine am_put F_R 8 (by decide) d_R_findBest_12 w_145 rfl rfl (Nat.le_of_ble_eq_true rfl) rfl rfl ?_
  refine am_iconst (v := nI 0) d_R_findBest_15 (by decide) ?_
  refine am_istore_n d_R_findBest_16 rfl (by decide) ?_
  refine am_lo (L' := [(0, .ref 21), (1, .int (nI n)), (2, .int (nI 0))]) rfl (c_R_findBest_l (R := R) hS hall 12 bc bs n (fun F => ?_) (sh_jb S + 1) 0 (Nat.zero_le _) (by omega) F)
  refine am_aload_n d_R_findBest_63 rfl rfl ?_
  refine am_callF 1 (am_recvV (z := m_R_orderByDue) rfl d_R_findBest_64 w_472 w_474 ws_6 w_475 F_R.1 rfl (by decide) np_R_orderByDue) (by decide) (by decide) (Nat.le_of_ble_eq_true rfl) (Nat.le_of_ble_eq_true rfl) (Nat.zero_le _) (Nat.zero_le _) (c_R_orderByDue (F := F) (R := (se_co R, n, se_sum S (sh_jb S), 0, se_als S (se_al R) (sh_jb S), se_be R, se_ib R, se_bs R)) hS _ _ _ hb) ?_
  refine am_aload_n d_R_findBest_67 rfl rfl ?_
  refine am_aload_n d_R_findBest_68 rfl rfl ?_
  refine am_get F_R 1 (by decide) d_R_findBest_69 w_137 rfl rfl ?_
  refine am_aload_n d_R_findBest_72 rfl rfl ?_
  refine am_get F_R 5 (by decide) d_R_findBest_73 w_141 rfl rfl ?_
  refine am_aload_n d_R_findBest_76 rfl rfl ?_
  refine am_get F_R 0 (by decide) d_R_findBest_77 w_136 rfl rfl ?_
  refine am_get F_S 5 (by decide) d_R_findBest_80 w_44 rfl rfl ?_
  refine am_callF 3 (am_recvV (z := m_F_costInOrder) rfl d_R_findBest_83 w_476 w_477 w_478 w_479 F_F.1 rfl (by decide) np_F_costInOrder) (by decide) (by decide) (Nat.le_of_ble_eq_true rfl) (Nat.le_of_ble_eq_true rfl) (Nat.zero_le _) (Nat.zero_le _) (am_rm (d := 4) (by omega) (c_F_costInOrderR (F := F) (R := se_wb (se_co R, n, se_sum S (sh_jb S), 0, se_als S (se_al R) (sh_jb S), se_be R, se_ib R, se_bs R) (se_ord (sh_du S) (se_bs R) (sh_jb S))) hS 0 _ _ _ s2 hg)) ?_
  rw [fl_co_eq hS _ hg]
  generalize hF1 : (fl_co S _ (fl_clear S F) (sh_jb S)).1 = F1
  refine am_put F_R 6 (by decide) d_R_findBest_86 w_143 rfl rfl (Nat.le_of_ble_eq_true rfl) rfl rfl ?_
  refine am_aload_n d_R_findBest_89 rfl rfl ?_
  refine am_get F_R 1 (by decide) d_R_findBest_90 w_137 rfl rfl ?_
  refine am_callF 1 (am_recvV (z := m_F_clear) rfl d_R_findBest_93 w_480 w_442 w_443 w_444 F_F.1 rfl (by decide) np_F_clear) (by decide) (by decide) (Nat.le_of_ble_eq_true rfl) (Nat.le_of_ble_eq_true rfl) (Nat.zero_le _) (Nat.zero_le _) (c_F_clear (R := se_st S R n) hS _ _ _) ?_
  refine am_aload_n d_R_findBest_96 rfl rfl ?_
  refine am_iconst (v := nI 0) d_R_findBest_97 (by decide) ?_
  refine am_lconst (v := lN 0) d_R_findBest_98 rfl ?_
  refine am_aload_n d_R_findBest_99 rfl rfl ?_
  refine am_get F_R 8 (by decide) d_R_findBest_100 w_145 rfl rfl ?_
  refine am_callQ 4 (am_recvV (z := m_R_goOn) rfl d_R_findBest_103 w_481 w_483 ws_7 w_484 F_R.1 rfl (by decide) np_R_goOn) (by decide) (by decide) (Nat.le_of_ble_eq_true rfl) (Nat.le_of_ble_eq_true rfl) (Nat.zero_le _) (Nat.zero_le _) (am_rm (d := 2 * sh_jb S + 4) (by omega) (c_R_goOn (R := se_st S R n) hS hk hall (sh_jb S) 0 (by omega) h1 (fl_clear S F1) 0 _ _ _ (hin F1) rfl ho)) (fun v103 h103 q103 => ?_) (fun x103 h103 q103 => ?_)
  · obtain ⟨F', q1, rfl, q3⟩ := q103
    cases q1
    refine am_zret d_R_findBest_106 rfl (zI_n _) ?_
    exact ⟨F', rfl, rfl⟩
  · obtain ⟨F', q1, -, -⟩ := q103
    cases q1
end CRB
end
section
/-! the plan: contracts -/
section CPA
variable {G : am_G} {x : Int64} {t : Bool} {S : sh_T} {F : fl_T} {R : se_T} {P : pl_T} {W : am_H} {jo : Nat → Nat}
/-- the plan's numbers -/
def pl_ok (P : pl_T) : Prop := pl_jb P ≤ 6 ∧ pl_ss P ≤ 24 ∧ pl_co P ≤ 4080000 ∧ (∀ k, pl_ja P k < 6) ∧ (∀ s, pl_bg P s ≤ 7000) ∧ (∀ s, pl_ma P s < 6)
def sp_hs (P : pl_T) (v : Int32) : Bool := decide (¬ v < 0) && decide (¬ nI (pl_ss P) ≤ v)
theorem sp_hs_N {P : pl_T} {s : Nat} (hP : pl_ok P) (hs : s < 2 ^ 31) : sp_hs P (nI s) = decide (s < pl_ss P) := by
  have h1 : ¬ nI s < 0 := nI_pos hs
  have h2 := nI_leI (a := pl_ss P) (b := s) (by have := hP.2.1; omega) hs
  unfold sp_hs
  rw [decide_eq_true h1, Bool.true_and]
  by_cases h : s < pl_ss P
  · rw [decide_eq_true h, decide_eq_true (show ¬ nI (pl_ss P) ≤ nI s from fun q => by have := h2.mp q; omega)]
  · rw [decide_eq_false h, decide_eq_false (show ¬ ¬ nI (pl_ss P) ≤ nI s from fun q => q (h2.mpr (by omega)))]
theorem sp_hs_1 {P : pl_T} {v : Int32} (h : v < 0) : sp_hs P v = false := by
  unfold sp_hs
  rw [decide_eq_false (show ¬ ¬ v < 0 from fun q => q h), Bool.false_and]
theorem sp_hs_2 {P : pl_T} {v : Int32} (h : nI (pl_ss P) ≤ v) : sp_hs P v = false := by
  unfold sp_hs
  rw [decide_eq_false (show ¬ ¬ nI (pl_ss P) ≤ v from fun q => q h), Bool.and_false]
theorem sp_hs_3 {P : pl_T} {v : Int32} (h : ¬ v < 0) (h2 : ¬ nI (pl_ss P) ≤ v) : sp_hs P v = true := by
  unfold sp_hs
  rw [decide_eq_true h, decide_eq_true h2]
  rfl
theorem sp_hs_m {P : pl_T} : sp_hs P (-1) = false := by
  unfold sp_hs
  rw [decide_eq_false (by decide), Bool.false_and]
theorem c_P_exists (hP : pl_ok P) (d bc bs : Nat) : am_Fn G m_P_exists d bc bs [.ref 26] (hx x t S F R P W) (some (.int (zI (decide (0 < pl_jb P))))) (hx x t S F R P W) := by
  obtain ⟨p1, p2, p3, p4, p5, p6⟩ := id hP
  refine am_aload_n d_P_exists_0 rfl rfl ?_
  refine am_get F_P 4 (by decide) d_P_exists_1 w_185 rfl rfl ?_
  refine am_ifN_le (tgt := 11) d_P_exists_4 (by decide) (by omega) (fun c4 => ?_) (fun c4 => ?_)
  · refine am_iconst (v := nI 0) d_P_exists_11 (by decide) ?_
    refine am_zret d_P_exists_12 rfl (by decide) ?_
    first
      | exact ⟨by rw [decide_eq_false (show ¬ 0 < pl_jb P by omega), zI_f], rfl⟩
      | exact ⟨by rw [decide_eq_true (show 0 < pl_jb P by omega), zI_t], rfl⟩
  · refine am_iconst (v := nI 1) d_P_exists_7 (by decide) ?_
    refine am_goto (tgt := 12) d_P_exists_8 (by decide) ?_
    refine am_zret d_P_exists_12 rfl (by decide) ?_
    first
      | exact ⟨by rw [decide_eq_false (show ¬ 0 < pl_jb P by omega), zI_f], rfl⟩
      | exact ⟨by rw [decide_eq_true (show 0 < pl_jb P by omega), zI_t], rfl⟩
theorem c_P_has (d bc bs : Nat) (v : Int32) : am_Fn G m_P_has d bc bs [.ref 26, .int v] (hx x t S F R P W) (some (.int (zI (sp_hs P v)))) (hx x t S F R P W) := by
  refine am_iload_n d_P_has_0 rfl rfl ?_
  refine am_if_lt (tgt := 16) d_P_has_1 (by decide) (fun c1 => ?_) (fun c1 => ?_)
  · refine am_iconst (v := nI 0) d_P_has_16 (by decide) ?_
    refine am_zret d_P_has_17 rfl (by decide) ?_
    exact ⟨by rw [sp_hs_1 c1, zI_f], rfl⟩
  · refine am_iload_n d_P_has_4 rfl rfl ?_
    refine am_aload_n d_P_has_5 rfl rfl ?_
    refine am_get F_P 5 (by decide) d_P_has_6 w_187 rfl rfl ?_
    refine am_icmp_ge (tgt := 16) d_P_has_9 (by decide) (fun c9 => ?_) (fun c9 => ?_)
    · refine am_iconst (v := nI 0) d_P_has_16 (by decide) ?_
      refine am_zret d_P_has_17 rfl (by decide) ?_
      exact ⟨by rw [sp_hs_2 c9, zI_f], rfl⟩
    · refine am_iconst (v := nI 1) d_P_has_12 (by decide) ?_
      refine am_goto (tgt := 17) d_P_has_13 (by decide) ?_
      refine am_zret d_P_has_17 rfl (by decide) ?_
      exact ⟨by rw [sp_hs_3 c1 c9, zI_t], rfl⟩
/-- the first n of f over g -/
def tk_u (f g : Nat → Nat) : Nat → Nat → Nat
  | 0 => g
  | n + 1 => nu (tk_u f g n) n (f n)
theorem tk_u_ge {f g : Nat → Nat} : ∀ {n k}, n ≤ k → tk_u f g n k = g k
  | 0, _, _ => rfl
  | n + 1, k, h => by
    unfold tk_u
    rw [nu_ne _ _ (by omega)]
    exact tk_u_ge (by omega)
theorem tk_u_lt {f g : Nat → Nat} : ∀ {n k}, k < n → tk_u f g n k = f k
  | 0, k, h => absurd h (Nat.not_lt_zero k)
  | n + 1, k, h => by
    unfold tk_u
    by_cases e : k = n
    · subst e; exact nu_eq _ _ _
    · rw [nu_ne _ _ e]; exact tk_u_lt (by omega)
/-- how many of the first n steps lie otherwise than before, or are new -/
def tk_m (P : pl_T) (f : fl_T) : Nat → Nat
  | 0 => 0
  | n + 1 => tk_m P f n + if n < pl_ss P ∧ pl_bg P n = fl_bg f n ∧ pl_ma P n = fl_ma f n then 0 else 1
theorem tk_m_1 {P : pl_T} {f : fl_T} {n : Nat} (h : ¬ (n < pl_ss P ∧ pl_bg P n = fl_bg f n ∧ pl_ma P n = fl_ma f n)) : tk_m P f (n + 1) = tk_m P f n + 1 := by
  rw [tk_m, if_neg h]
theorem tk_m_0 {P : pl_T} {f : fl_T} {n : Nat} (h : n < pl_ss P ∧ pl_bg P n = fl_bg f n ∧ pl_ma P n = fl_ma f n) : tk_m P f (n + 1) = tk_m P f n := by
  rw [tk_m, if_pos h]
  rfl
abbrev ptk (P : pl_T) (f : fl_T) (c n : Nat) : pl_T := (pl_jb P, pl_ss P, c, pl_bo P, pl_no P, tk_m P f n, pl_ja P, tk_u (fl_bg f) (pl_bg P) n, tk_u (fl_ma f) (pl_ma P) n)
/-- the plan of an order g, the floor being f when all its jobs are placed -/
def pl_take (S : sh_T) (g : Nat → Nat) (f : fl_T) (P : pl_T) : pl_T := (sh_jb S, sh_ss S, sp_co S g (sh_jb S), pl_bo P, pl_no P, tk_m P f (sh_ss S), va_cpy g (pl_ja P) 0 0 6, tk_u (fl_bg f) (pl_bg P) (sh_ss S), tk_u (fl_ma f) (pl_ma P) (sh_ss S))
set_option maxRecDepth 20000 in
theorem c_P_takeR_l {Q : am_O → am_H → Prop} (hS : sh_ok S) (hP : pl_ok P) (d bc bs c : Nat) (hc : c ≤ 4080000) (hb : ∀ s, s < sh_ss S → fl_bg F s ≤ 7000 ∧ fl_ma F s < 6) (hk : am_W G m_P_take (d + 1) bc bs Q 112 [(0, .ref 26), (1, .ref 25), (2, .ref 15), (3, .int (nI (sh_ss S)))] [] (hx x t S F R (ptk P F c (sh_ss S)) W)) : ∀ (n i : Nat), i ≤ sh_ss S → sh_ss S - i < n →
    am_W G m_P_take (d + 1) bc bs Q 23 [(0, .ref 26), (1, .ref 25), (2, .ref 15), (3, .int (nI i))] [] (hx x t S F R (ptk P F c i) W) := by
  intro n
  obtain ⟨p1, p2, p3, p4, p5, p6⟩ := id hP
  have s3 := hS.2.2.1
  induction n with
  | zero => intro i _ h; omega
  | succ n ih =>
    intro i hi hn
    have u1 : pl_bg (ptk P F c i) i = pl_bg P i := tk_u_ge (Nat.le_refl _)
    have u2 : pl_ma (ptk P F c i) i = pl_ma P i := tk_u_ge (Nat.le_refl _)
    have u3 : pl_ss (ptk P F c i) = pl_ss P := rfl
    have v1 := p5 i
    have v2 := p6 i
    have hbi := hb i
    have q5 : ∀ s, pl_bg (ptk P F c i) s ≤ 7000 := fun s => by
      rcases Nat.lt_or_ge s i with q | q
      · exact Nat.le_trans (Nat.le_of_eq (tk_u_lt q)) (hb s (by omega)).1
      · exact Nat.le_trans (Nat.le_of_eq (tk_u_ge q)) (p5 s)
    have q6 : ∀ s, pl_ma (ptk P F c i) s < 6 := fun s => by
      rcases Nat.lt_or_ge s i with q | q
      · exact Nat.lt_of_le_of_lt (Nat.le_of_eq (tk_u_lt q)) (hb s (by omega)).2
      · exact Nat.lt_of_le_of_lt (Nat.le_of_eq (tk_u_ge q)) (p6 s)
    refine am_iload_n d_P_take_23 rfl rfl ?_
    refine am_aload_n d_P_take_24 rfl rfl ?_
    refine am_get F_P 0 (by decide) d_P_take_25 w_178 rfl rfl ?_
    refine am_get F_S 10 (by decide) d_P_take_28 w_59 rfl rfl ?_
    refine am_icmpN_ge (tgt := 112) d_P_take_31 (by decide) (by omega) (by omega) (fun c31 => ?_) (fun c31 => ?_)
    · have e : i = sh_ss S := by omega
      subst e
      exact hk
    · refine am_aload_n d_P_take_34 rfl rfl ?_
      refine am_iload_n d_P_take_35 rfl rfl ?_
      refine am_callF 2 (am_recvV (z := m_P_has) rfl d_P_take_36 w_503 w_504 w_505 w_506 F_P.1 rfl (by decide) np_P_has) (by decide) (by decide) (Nat.le_of_ble_eq_true rfl) (Nat.le_of_ble_eq_true rfl) (Nat.zero_le _) (Nat.zero_le _) (c_P_has _ _ _ _) ?_
      rw [show sp_hs (ptk P F c i) (nI i) = decide (i < pl_ss P) from sp_hs_N (P := ptk P F c i) ⟨p1, p2, hc, p4, q5, q6⟩ (by omega)]
      refine am_ifZ_eq (tgt := 72) d_P_take_39 (by decide) (fun c39 => have c39 := of_decide_eq_false c39; ?_) (fun c39 => have c39 := of_decide_eq_true c39; ?_)
      · refine am_aload_n d_P_take_72 rfl rfl ?_
        refine am_dup d_P_take_73 rfl ?_
        refine am_get F_P 9 (by decide) d_P_take_74 w_194 rfl rfl ?_
        refine am_iconst (v := nI 1) d_P_take_77 (by decide) ?_
        refine am_iaddN d_P_take_78 ?_
        refine am_put F_P 9 (by decide) d_P_take_79 w_194 rfl rfl (Nat.le_of_ble_eq_true rfl) rfl rfl ?_
        refine am_aload_n d_P_take_82 rfl rfl ?_
        refine am_get F_P 2 (by decide) d_P_take_83 w_181 rfl rfl ?_
        refine am_iload_n d_P_take_86 rfl rfl ?_
        refine am_aload_n d_P_take_87 rfl rfl ?_
        refine am_get F_F 1 (by decide) d_P_take_88 w_111 rfl rfl ?_
        refine am_iload_n d_P_take_91 rfl rfl ?_
        refine am_ialdA d_P_take_92 rfl (by omega) (by decide) ?_
        refine am_iastA d_P_take_93 rfl (by omega) (by decide) ?_
        refine am_aload_n d_P_take_94 rfl rfl ?_
        refine am_get F_P 3 (by decide) d_P_take_95 w_183 rfl rfl ?_
        refine am_iload_n d_P_take_98 rfl rfl ?_
        refine am_aload_n d_P_take_99 rfl rfl ?_
        refine am_get F_F 2 (by decide) d_P_take_100 w_113 rfl rfl ?_
        refine am_iload_n d_P_take_103 rfl rfl ?_
        refine am_ialdA d_P_take_104 rfl (by omega) (by decide) ?_
        refine am_iastA d_P_take_105 rfl (by omega) (by decide) ?_
        refine am_iinc d_P_take_106 rfl (am_inc _) (by decide) ?_
        refine am_goto (tgt := 23) d_P_take_109 (by decide) ?_
        exact am_lo (L' := [(0, .ref 26), (1, .ref 25), (2, .ref 15), (3, .int (nI (i + 1)))]) rfl (am_hq (h2 := (hx x t S F R (ptk P F c (i + 1)) W)) (by show (hx x t S F R (pl_jb P, pl_ss P, c, pl_bo P, pl_no P, tk_m P F i + 1, pl_ja P, tk_u (fl_bg F) (pl_bg P) (i + 1), tk_u (fl_ma F) (pl_ma P) (i + 1)) W) = _; rw [← tk_m_1 (P := P) (f := F) (n := i) (by omega)]) (ih (i + 1) (by omega) (by omega)))
      · refine am_aload_n d_P_take_42 rfl rfl ?_
        refine am_get F_P 2 (by decide) d_P_take_43 w_181 rfl rfl ?_
        refine am_iload_n d_P_take_46 rfl rfl ?_
        refine am_ialdA d_P_take_47 rfl (by omega) (by decide) ?_
        refine am_aload_n d_P_take_48 rfl rfl ?_
        refine am_get F_F 1 (by decide) d_P_take_49 w_111 rfl rfl ?_
        refine am_iload_n d_P_take_52 rfl rfl ?_
        refine am_ialdA d_P_take_53 rfl (by omega) (by decide) ?_
        refine am_icmpN_ne (tgt := 72) d_P_take_54 (by decide) (by omega) (by omega) (fun c54 => ?_) (fun c54 => ?_)
        · refine am_aload_n d_P_take_72 rfl rfl ?_
          refine am_dup d_P_take_73 rfl ?_
          refine am_get F_P 9 (by decide) d_P_take_74 w_194 rfl rfl ?_
          refine am_iconst (v := nI 1) d_P_take_77 (by decide) ?_
          refine am_iaddN d_P_take_78 ?_
          refine am_put F_P 9 (by decide) d_P_take_79 w_194 rfl rfl (Nat.le_of_ble_eq_true rfl) rfl rfl ?_
          refine am_aload_n d_P_take_82 rfl rfl ?_
          refine am_get F_P 2 (by decide) d_P_take_83 w_181 rfl rfl ?_
          refine am_iload_n d_P_take_86 rfl rfl ?_
          refine am_aload_n d_P_take_87 rfl rfl ?_
          refine am_get F_F 1 (by decide) d_P_take_88 w_111 rfl rfl ?_
          refine am_iload_n d_P_take_91 rfl rfl ?_
          refine am_ialdA d_P_take_92 rfl (by omega) (by decide) ?_
          refine am_iastA d_P_take_93 rfl (by omega) (by decide) ?_
          refine am_aload_n d_P_take_94 rfl rfl ?_
          refine am_get F_P 3 (by decide) d_P_take_95 w_183 rfl rfl ?_
          refine am_iload_n d_P_take_98 rfl rfl ?_
          refine am_aload_n d_P_take_99 rfl rfl ?_
          refine am_get F_F 2 (by decide) d_P_take_100 w_113 rfl rfl ?_
          refine am_iload_n d_P_take_103 rfl rfl ?_
          refine am_ialdA d_P_take_104 rfl (by omega) (by decide) ?_
          refine am_iastA d_P_take_105 rfl (by omega) (by decide) ?_
          refine am_iinc d_P_take_106 rfl (am_inc _) (by decide) ?_
          refine am_goto (tgt := 23) d_P_take_109 (by decide) ?_
          exact am_lo (L' := [(0, .ref 26), (1, .ref 25), (2, .ref 15), (3, .int (nI (i + 1)))]) rfl (am_hq (h2 := (hx x t S F R (ptk P F c (i + 1)) W)) (by show (hx x t S F R (pl_jb P, pl_ss P, c, pl_bo P, pl_no P, tk_m P F i + 1, pl_ja P, tk_u (fl_bg F) (pl_bg P) (i + 1), tk_u (fl_ma F) (pl_ma P) (i + 1)) W) = _; rw [← tk_m_1 (P := P) (f := F) (n := i) (by omega)]) (ih (i + 1) (by omega) (by omega)))
        · refine am_aload_n d_P_take_57 rfl rfl ?_
          refine am_get F_P 3 (by decide) d_P_take_58 w_183 rfl rfl ?_
          refine am_iload_n d_P_take_61 rfl rfl ?_
          refine am_ialdA d_P_take_62 rfl (by omega) (by decide) ?_
          refine am_aload_n d_P_take_63 rfl rfl ?_
          refine am_get F_F 2 (by decide) d_P_take_64 w_113 rfl rfl ?_
          refine am_iload_n d_P_take_67 rfl rfl ?_
          refine am_ialdA d_P_take_68 rfl (by omega) (by decide) ?_
          refine am_icmpN_eq (tgt := 82) d_P_take_69 (by decide) (by omega) (by omega) (fun c69 => ?_) (fun c69 => ?_)
          · refine am_aload_n d_P_take_82 rfl rfl ?_
            refine am_get F_P 2 (by decide) d_P_take_83 w_181 rfl rfl ?_
            refine am_iload_n d_P_take_86 rfl rfl ?_
            refine am_aload_n d_P_take_87 rfl rfl ?_
            refine am_get F_F 1 (by decide) d_P_take_88 w_111 rfl rfl ?_
            refine am_iload_n d_P_take_91 rfl rfl ?_
            refine am_ialdA d_P_take_92 rfl (by omega) (by decide) ?_
            refine am_iastA d_P_take_93 rfl (by omega) (by decide) ?_
            refine am_aload_n d_P_take_94 rfl rfl ?_
            refine am_get F_P 3 (by decide) d_P_take_95 w_183 rfl rfl ?_
            refine am_iload_n d_P_take_98 rfl rfl ?_
            refine am_aload_n d_P_take_99 rfl rfl ?_
            refine am_get F_F 2 (by decide) d_P_take_100 w_113 rfl rfl ?_
            refine am_iload_n d_P_take_103 rfl rfl ?_
            refine am_ialdA d_P_take_104 rfl (by omega) (by decide) ?_
            refine am_iastA d_P_take_105 rfl (by omega) (by decide) ?_
            refine am_iinc d_P_take_106 rfl (am_inc _) (by decide) ?_
            refine am_goto (tgt := 23) d_P_take_109 (by decide) ?_
            exact am_lo (L' := [(0, .ref 26), (1, .ref 25), (2, .ref 15), (3, .int (nI (i + 1)))]) rfl (am_hq (h2 := (hx x t S F R (ptk P F c (i + 1)) W)) (by show (hx x t S F R (pl_jb P, pl_ss P, c, pl_bo P, pl_no P, tk_m P F i, pl_ja P, tk_u (fl_bg F) (pl_bg P) (i + 1), tk_u (fl_ma F) (pl_ma P) (i + 1)) W) = _; rw [← tk_m_0 (P := P) (f := F) (n := i) (by omega)]) (ih (i + 1) (by omega) (by omega)))
          · refine am_aload_n d_P_take_72 rfl rfl ?_
            refine am_dup d_P_take_73 rfl ?_
            refine am_get F_P 9 (by decide) d_P_take_74 w_194 rfl rfl ?_
            refine am_iconst (v := nI 1) d_P_take_77 (by decide) ?_
            refine am_iaddN d_P_take_78 ?_
            refine am_put F_P 9 (by decide) d_P_take_79 w_194 rfl rfl (Nat.le_of_ble_eq_true rfl) rfl rfl ?_
            refine am_aload_n d_P_take_82 rfl rfl ?_
            refine am_get F_P 2 (by decide) d_P_take_83 w_181 rfl rfl ?_
            refine am_iload_n d_P_take_86 rfl rfl ?_
            refine am_aload_n d_P_take_87 rfl rfl ?_
            refine am_get F_F 1 (by decide) d_P_take_88 w_111 rfl rfl ?_
            refine am_iload_n d_P_take_91 rfl rfl ?_
            refine am_ialdA d_P_take_92 rfl (by omega) (by decide) ?_
            refine am_iastA d_P_take_93 rfl (by omega) (by decide) ?_
            refine am_aload_n d_P_take_94 rfl rfl ?_
            refine am_get F_P 3 (by decide) d_P_take_95 w_183 rfl rfl ?_
            refine am_iload_n d_P_take_98 rfl rfl ?_
            refine am_aload_n d_P_take_99 rfl rfl ?_
            refine am_get F_F 2 (by decide) d_P_take_100 w_113 rfl rfl ?_
            refine am_iload_n d_P_take_103 rfl rfl ?_
            refine am_ialdA d_P_take_104 rfl (by omega) (by decide) ?_
            refine am_iastA d_P_take_105 rfl (by omega) (by decide) ?_
            refine am_iinc d_P_take_106 rfl (am_inc _) (by decide) ?_
            refine am_goto (tgt := 23) d_P_take_109 (by decide) ?_
            exact am_lo (L' := [(0, .ref 26), (1, .ref 25), (2, .ref 15), (3, .int (nI (i + 1)))]) rfl (am_hq (h2 := (hx x t S F R (ptk P F c (i + 1)) W)) (by show (hx x t S F R (pl_jb P, pl_ss P, c, pl_bo P, pl_no P, tk_m P F i + 1, pl_ja P, tk_u (fl_bg F) (pl_bg P) (i + 1), tk_u (fl_ma F) (pl_ma P) (i + 1)) W) = _; rw [← tk_m_1 (P := P) (f := F) (n := i) (by omega)]) (ih (i + 1) (by omega) (by omega)))
theorem c_P_takeR (hS : sh_ok S) (hP : pl_ok P) (d bc bs : Nat) (hg : ∀ k, k < sh_jb S → (se_bs R) k < 6 ∧ sp_fits S ((se_bs R) k) = true) (hb : ∀ s, s < sh_ss S → fl_bg (fl_co S (se_bs R) (fl_clear S F) (sh_jb S)).1 s ≤ 7000 ∧ fl_ma (fl_co S (se_bs R) (fl_clear S F) (sh_jb S)).1 s < 6) : am_Fn G m_P_take (d + 5) bc bs [.ref 26, .ref 25, .ref 15] (hx x t S F R P W) none (hx x t S (fl_co S (se_bs R) (fl_clear S F) (sh_jb S)).1 R (pl_take S (se_bs R) (fl_co S (se_bs R) (fl_clear S F) (sh_jb S)).1 P) W) := by
  have s2 := hS.2.1
  refine am_aload_n d_P_take_0 rfl rfl ?_
  refine am_aload_n d_P_take_1 rfl rfl ?_
  refine am_aload_n d_P_take_2 rfl rfl ?_
  refine am_aload_n d_P_take_3 rfl rfl ?_
  refine am_get F_P 0 (by decide) d_P_take_4 w_178 rfl rfl ?_
  refine am_get F_S 5 (by decide) d_P_take_7 w_45 rfl rfl ?_
  refine am_callF 3 (am_recvV (z := m_F_costInOrder) rfl d_P_take_10 w_502 w_477 w_478 w_479 F_F.1 rfl (by decide) np_F_costInOrder) (by decide) (by decide) (Nat.le_of_ble_eq_true rfl) (Nat.le_of_ble_eq_true rfl) (Nat.zero_le _) (Nat.zero_le _) (c_F_costInOrderR (F := F) (R := R) (P := P) hS _ _ _ _ s2 hg) ?_
  rw [fl_co_eq hS _ hg]
  refine am_put F_P 6 (by decide) d_P_take_13 w_188 rfl rfl (Nat.le_of_ble_eq_true rfl) rfl rfl ?_
  refine am_aload_n d_P_take_16 rfl rfl ?_
  refine am_iconst (v := nI 0) d_P_take_17 (by decide) ?_
  refine am_put F_P 9 (by decide) d_P_take_18 w_194 rfl rfl (Nat.le_of_ble_eq_true rfl) rfl rfl ?_
  refine am_iconst (v := nI 0) d_P_take_21 (by decide) ?_
  refine am_istore_n d_P_take_22 rfl (by decide) ?_
  have hk : am_W G m_P_take (d + 5) bc bs (fun o h' => o = .inl none ∧ h' = (hx x t S (fl_co S (se_bs R) (fl_clear S F) (sh_jb S)).1 R (pl_take S (se_bs R) (fl_co S (se_bs R) (fl_clear S F) (sh_jb S)).1 P) W)) 112 [(0, .ref 26), (1, .ref 25), (2, .ref 15), (3, .int (nI (sh_ss S)))] [] (hx x t S (fl_co S (se_bs R) (fl_clear S F) (sh_jb S)).1 R (ptk P (fl_co S (se_bs R) (fl_clear S F) (sh_jb S)).1 (sp_co S (se_bs R) (sh_jb S)) (sh_ss S)) W) := by
    refine am_aload_n d_P_take_112 rfl rfl ?_
    refine am_iconst (v := nI 0) d_P_take_113 (by decide) ?_
    refine am_aload_n d_P_take_114 rfl rfl ?_
    refine am_get F_P 1 (by decide) d_P_take_115 w_179 rfl rfl ?_
    refine am_iconst (v := nI 0) d_P_take_118 (by decide) ?_
    refine am_bipush (v := nI 6) d_P_take_119 (by decide) ?_
    refine am_copyA 0 0 6 d_P_take_121 w_507 w_493 w_492 w_13 rfl rfl (by decide) (by decide) (by decide) (by decide) (by omega) (by decide) ?_
    refine am_aload_n d_P_take_124 rfl rfl ?_
    refine am_aload_n d_P_take_125 rfl rfl ?_
    refine am_get F_P 0 (by decide) d_P_take_126 w_178 rfl rfl ?_
    refine am_get F_S 5 (by decide) d_P_take_129 w_45 rfl rfl ?_
    refine am_put F_P 4 (by decide) d_P_take_132 w_185 rfl rfl (Nat.le_of_ble_eq_true rfl) rfl rfl ?_
    refine am_aload_n d_P_take_135 rfl rfl ?_
    refine am_aload_n d_P_take_136 rfl rfl ?_
    refine am_get F_P 0 (by decide) d_P_take_137 w_178 rfl rfl ?_
    refine am_get F_S 10 (by decide) d_P_take_140 w_59 rfl rfl ?_
    refine am_put F_P 5 (by decide) d_P_take_143 w_187 rfl rfl (Nat.le_of_ble_eq_true rfl) rfl rfl ?_
    refine am_vret d_P_take_146 rfl ?_
    exact ⟨rfl, rfl⟩
  exact am_lo (L' := [(0, .ref 26), (1, .ref 25), (2, .ref 15), (3, .int (nI 0))]) rfl (c_P_takeR_l (P := P) hS hP (d + 4) bc bs _ (sp_co_bd hS s2 hg) hb hk (sh_ss S + 1) 0 (Nat.zero_le _) (by omega))
set_option maxRecDepth 20000 in
theorem c_P_takeP_l {Q : am_O → am_H → Prop} (hS : sh_ok S) (hP : pl_ok P) (d bc bs c : Nat) (hc : c ≤ 4080000) (hb : ∀ s, s < sh_ss S → fl_bg F s ≤ 7000 ∧ fl_ma F s < 6) (hk : am_W G m_P_take (d + 1) bc bs Q 112 [(0, .ref 26), (1, .ref 27), (2, .ref 15), (3, .int (nI (sh_ss S)))] [] (hx x t S F R (ptk P F c (sh_ss S)) W)) : ∀ (n i : Nat), i ≤ sh_ss S → sh_ss S - i < n →
    am_W G m_P_take (d + 1) bc bs Q 23 [(0, .ref 26), (1, .ref 27), (2, .ref 15), (3, .int (nI i))] [] (hx x t S F R (ptk P F c i) W) := by
  intro n
  obtain ⟨p1, p2, p3, p4, p5, p6⟩ := id hP
  have s3 := hS.2.2.1
  induction n with
  | zero => intro i _ h; omega
  | succ n ih =>
    intro i hi hn
    have u1 : pl_bg (ptk P F c i) i = pl_bg P i := tk_u_ge (Nat.le_refl _)
    have u2 : pl_ma (ptk P F c i) i = pl_ma P i := tk_u_ge (Nat.le_refl _)
    have u3 : pl_ss (ptk P F c i) = pl_ss P := rfl
    have v1 := p5 i
    have v2 := p6 i
    have hbi := hb i
    have q5 : ∀ s, pl_bg (ptk P F c i) s ≤ 7000 := fun s => by
      rcases Nat.lt_or_ge s i with q | q
      · exact Nat.le_trans (Nat.le_of_eq (tk_u_lt q)) (hb s (by omega)).1
      · exact Nat.le_trans (Nat.le_of_eq (tk_u_ge q)) (p5 s)
    have q6 : ∀ s, pl_ma (ptk P F c i) s < 6 := fun s => by
      rcases Nat.lt_or_ge s i with q | q
      · exact Nat.lt_of_le_of_lt (Nat.le_of_eq (tk_u_lt q)) (hb s (by omega)).2
      · exact Nat.lt_of_le_of_lt (Nat.le_of_eq (tk_u_ge q)) (p6 s)
    refine am_iload_n d_P_take_23 rfl rfl ?_
    refine am_aload_n d_P_take_24 rfl rfl ?_
    refine am_get F_P 0 (by decide) d_P_take_25 w_178 rfl rfl ?_
    refine am_get F_S 10 (by decide) d_P_take_28 w_59 rfl rfl ?_
    refine am_icmpN_ge (tgt := 112) d_P_take_31 (by decide) (by omega) (by omega) (fun c31 => ?_) (fun c31 => ?_)
    · have e : i = sh_ss S := by omega
      subst e
      exact hk
    · refine am_aload_n d_P_take_34 rfl rfl ?_
      refine am_iload_n d_P_take_35 rfl rfl ?_
      refine am_callF 2 (am_recvV (z := m_P_has) rfl d_P_take_36 w_503 w_504 w_505 w_506 F_P.1 rfl (by decide) np_P_has) (by decide) (by decide) (Nat.le_of_ble_eq_true rfl) (Nat.le_of_ble_eq_true rfl) (Nat.zero_le _) (Nat.zero_le _) (c_P_has _ _ _ _) ?_
      rw [show sp_hs (ptk P F c i) (nI i) = decide (i < pl_ss P) from sp_hs_N (P := ptk P F c i) ⟨p1, p2, hc, p4, q5, q6⟩ (by omega)]
      refine am_ifZ_eq (tgt := 72) d_P_take_39 (by decide) (fun c39 => have c39 := of_decide_eq_false c39; ?_) (fun c39 => have c39 := of_decide_eq_true c39; ?_)
      · refine am_aload_n d_P_take_72 rfl rfl ?_
        refine am_dup d_P_take_73 rfl ?_
        refine am_get F_P 9 (by decide) d_P_take_74 w_194 rfl rfl ?_
        refine am_iconst (v := nI 1) d_P_take_77 (by decide) ?_
        refine am_iaddN d_P_take_78 ?_
        refine am_put F_P 9 (by decide) d_P_take_79 w_194 rfl rfl (Nat.le_of_ble_eq_true rfl) rfl rfl ?_
        refine am_aload_n d_P_take_82 rfl rfl ?_
        refine am_get F_P 2 (by decide) d_P_take_83 w_181 rfl rfl ?_
        refine am_iload_n d_P_take_86 rfl rfl ?_
        refine am_aload_n d_P_take_87 rfl rfl ?_
        refine am_get F_F 1 (by decide) d_P_take_88 w_111 rfl rfl ?_
        refine am_iload_n d_P_take_91 rfl rfl ?_
        refine am_ialdA d_P_take_92 rfl (by omega) (by decide) ?_
        refine am_iastA d_P_take_93 rfl (by omega) (by decide) ?_
        refine am_aload_n d_P_take_94 rfl rfl ?_
        refine am_get F_P 3 (by decide) d_P_take_95 w_183 rfl rfl ?_
        refine am_iload_n d_P_take_98 rfl rfl ?_
        refine am_aload_n d_P_take_99 rfl rfl ?_
        refine am_get F_F 2 (by decide) d_P_take_100 w_113 rfl rfl ?_
        refine am_iload_n d_P_take_103 rfl rfl ?_
        refine am_ialdA d_P_take_104 rfl (by omega) (by decide) ?_
        refine am_iastA d_P_take_105 rfl (by omega) (by decide) ?_
        refine am_iinc d_P_take_106 rfl (am_inc _) (by decide) ?_
        refine am_goto (tgt := 23) d_P_take_109 (by decide) ?_
        exact am_lo (L' := [(0, .ref 26), (1, .ref 27), (2, .ref 15), (3, .int (nI (i + 1)))]) rfl (am_hq (h2 := (hx x t S F R (ptk P F c (i + 1)) W)) (by show (hx x t S F R (pl_jb P, pl_ss P, c, pl_bo P, pl_no P, tk_m P F i + 1, pl_ja P, tk_u (fl_bg F) (pl_bg P) (i + 1), tk_u (fl_ma F) (pl_ma P) (i + 1)) W) = _; rw [← tk_m_1 (P := P) (f := F) (n := i) (by omega)]) (ih (i + 1) (by omega) (by omega)))
      · refine am_aload_n d_P_take_42 rfl rfl ?_
        refine am_get F_P 2 (by decide) d_P_take_43 w_181 rfl rfl ?_
        refine am_iload_n d_P_take_46 rfl rfl ?_
        refine am_ialdA d_P_take_47 rfl (by omega) (by decide) ?_
        refine am_aload_n d_P_take_48 rfl rfl ?_
        refine am_get F_F 1 (by decide) d_P_take_49 w_111 rfl rfl ?_
        refine am_iload_n d_P_take_52 rfl rfl ?_
        refine am_ialdA d_P_take_53 rfl (by omega) (by decide) ?_
        refine am_icmpN_ne (tgt := 72) d_P_take_54 (by decide) (by omega) (by omega) (fun c54 => ?_) (fun c54 => ?_)
        · refine am_aload_n d_P_take_72 rfl rfl ?_
          refine am_dup d_P_take_73 rfl ?_
          refine am_get F_P 9 (by decide) d_P_take_74 w_194 rfl rfl ?_
          refine am_iconst (v := nI 1) d_P_take_77 (by decide) ?_
          refine am_iaddN d_P_take_78 ?_
          refine am_put F_P 9 (by decide) d_P_take_79 w_194 rfl rfl (Nat.le_of_ble_eq_true rfl) rfl rfl ?_
          refine am_aload_n d_P_take_82 rfl rfl ?_
          refine am_get F_P 2 (by decide) d_P_take_83 w_181 rfl rfl ?_
          refine am_iload_n d_P_take_86 rfl rfl ?_
          refine am_aload_n d_P_take_87 rfl rfl ?_
          refine am_get F_F 1 (by decide) d_P_take_88 w_111 rfl rfl ?_
          refine am_iload_n d_P_take_91 rfl rfl ?_
          refine am_ialdA d_P_take_92 rfl (by omega) (by decide) ?_
          refine am_iastA d_P_take_93 rfl (by omega) (by decide) ?_
          refine am_aload_n d_P_take_94 rfl rfl ?_
          refine am_get F_P 3 (by decide) d_P_take_95 w_183 rfl rfl ?_
          refine am_iload_n d_P_take_98 rfl rfl ?_
          refine am_aload_n d_P_take_99 rfl rfl ?_
          refine am_get F_F 2 (by decide) d_P_take_100 w_113 rfl rfl ?_
          refine am_iload_n d_P_take_103 rfl rfl ?_
          refine am_ialdA d_P_take_104 rfl (by omega) (by decide) ?_
          refine am_iastA d_P_take_105 rfl (by omega) (by decide) ?_
          refine am_iinc d_P_take_106 rfl (am_inc _) (by decide) ?_
          refine am_goto (tgt := 23) d_P_take_109 (by decide) ?_
          exact am_lo (L' := [(0, .ref 26), (1, .ref 27), (2, .ref 15), (3, .int (nI (i + 1)))]) rfl (am_hq (h2 := (hx x t S F R (ptk P F c (i + 1)) W)) (by show (hx x t S F R (pl_jb P, pl_ss P, c, pl_bo P, pl_no P, tk_m P F i + 1, pl_ja P, tk_u (fl_bg F) (pl_bg P) (i + 1), tk_u (fl_ma F) (pl_ma P) (i + 1)) W) = _; rw [← tk_m_1 (P := P) (f := F) (n := i) (by omega)]) (ih (i + 1) (by omega) (by omega)))
        · refine am_aload_n d_P_take_57 rfl rfl ?_
          refine am_get F_P 3 (by decide) d_P_take_58 w_183 rfl rfl ?_
          refine am_iload_n d_P_take_61 rfl rfl ?_
          refine am_ialdA d_P_take_62 rfl (by omega) (by decide) ?_
          refine am_aload_n d_P_take_63 rfl rfl ?_
          refine am_get F_F 2 (by decide) d_P_take_64 w_113 rfl rfl ?_
          refine am_iload_n d_P_take_67 rfl rfl ?_
          refine am_ialdA d_P_take_68 rfl (by omega) (by decide) ?_
          refine am_icmpN_eq (tgt := 82) d_P_take_69 (by decide) (by omega) (by omega) (fun c69 => ?_) (fun c69 => ?_)
          · refine am_aload_n d_P_take_82 rfl rfl ?_
            refine am_get F_P 2 (by decide) d_P_take_83 w_181 rfl rfl ?_
            refine am_iload_n d_P_take_86 rfl rfl ?_
            refine am_aload_n d_P_take_87 rfl rfl ?_
            refine am_get F_F 1 (by decide) d_P_take_88 w_111 rfl rfl ?_
            refine am_iload_n d_P_take_91 rfl rfl ?_
            refine am_ialdA d_P_take_92 rfl (by omega) (by decide) ?_
            refine am_iastA d_P_take_93 rfl (by omega) (by decide) ?_
            refine am_aload_n d_P_take_94 rfl rfl ?_
            refine am_get F_P 3 (by decide) d_P_take_95 w_183 rfl rfl ?_
            refine am_iload_n d_P_take_98 rfl rfl ?_
            refine am_aload_n d_P_take_99 rfl rfl ?_
            refine am_get F_F 2 (by decide) d_P_take_100 w_113 rfl rfl ?_
            refine am_iload_n d_P_take_103 rfl rfl ?_
            refine am_ialdA d_P_take_104 rfl (by omega) (by decide) ?_
            refine am_iastA d_P_take_105 rfl (by omega) (by decide) ?_
            refine am_iinc d_P_take_106 rfl (am_inc _) (by decide) ?_
            refine am_goto (tgt := 23) d_P_take_109 (by decide) ?_
            exact am_lo (L' := [(0, .ref 26), (1, .ref 27), (2, .ref 15), (3, .int (nI (i + 1)))]) rfl (am_hq (h2 := (hx x t S F R (ptk P F c (i + 1)) W)) (by show (hx x t S F R (pl_jb P, pl_ss P, c, pl_bo P, pl_no P, tk_m P F i, pl_ja P, tk_u (fl_bg F) (pl_bg P) (i + 1), tk_u (fl_ma F) (pl_ma P) (i + 1)) W) = _; rw [← tk_m_0 (P := P) (f := F) (n := i) (by omega)]) (ih (i + 1) (by omega) (by omega)))
          · refine am_aload_n d_P_take_72 rfl rfl ?_
            refine am_dup d_P_take_73 rfl ?_
            refine am_get F_P 9 (by decide) d_P_take_74 w_194 rfl rfl ?_
            refine am_iconst (v := nI 1) d_P_take_77 (by decide) ?_
            refine am_iaddN d_P_take_78 ?_
            refine am_put F_P 9 (by decide) d_P_take_79 w_194 rfl rfl (Nat.le_of_ble_eq_true rfl) rfl rfl ?_
            refine am_aload_n d_P_take_82 rfl rfl ?_
            refine am_get F_P 2 (by decide) d_P_take_83 w_181 rfl rfl ?_
            refine am_iload_n d_P_take_86 rfl rfl ?_
            refine am_aload_n d_P_take_87 rfl rfl ?_
            refine am_get F_F 1 (by decide) d_P_take_88 w_111 rfl rfl ?_
            refine am_iload_n d_P_take_91 rfl rfl ?_
            refine am_ialdA d_P_take_92 rfl (by omega) (by decide) ?_
            refine am_iastA d_P_take_93 rfl (by omega) (by decide) ?_
            refine am_aload_n d_P_take_94 rfl rfl ?_
            refine am_get F_P 3 (by decide) d_P_take_95 w_183 rfl rfl ?_
            refine am_iload_n d_P_take_98 rfl rfl ?_
            refine am_aload_n d_P_take_99 rfl rfl ?_
            refine am_get F_F 2 (by decide) d_P_take_100 w_113 rfl rfl ?_
            refine am_iload_n d_P_take_103 rfl rfl ?_
            refine am_ialdA d_P_take_104 rfl (by omega) (by decide) ?_
            refine am_iastA d_P_take_105 rfl (by omega) (by decide) ?_
            refine am_iinc d_P_take_106 rfl (am_inc _) (by decide) ?_
            refine am_goto (tgt := 23) d_P_take_109 (by decide) ?_
            exact am_lo (L' := [(0, .ref 26), (1, .ref 27), (2, .ref 15), (3, .int (nI (i + 1)))]) rfl (am_hq (h2 := (hx x t S F R (ptk P F c (i + 1)) W)) (by show (hx x t S F R (pl_jb P, pl_ss P, c, pl_bo P, pl_no P, tk_m P F i + 1, pl_ja P, tk_u (fl_bg F) (pl_bg P) (i + 1), tk_u (fl_ma F) (pl_ma P) (i + 1)) W) = _; rw [← tk_m_1 (P := P) (f := F) (n := i) (by omega)]) (ih (i + 1) (by omega) (by omega)))
theorem c_P_takeP (hS : sh_ok S) (hP : pl_ok P) (d bc bs : Nat) (hg : ∀ k, k < sh_jb S → (pl_ja P) k < 6 ∧ sp_fits S ((pl_ja P) k) = true) (hb : ∀ s, s < sh_ss S → fl_bg (fl_co S (pl_ja P) (fl_clear S F) (sh_jb S)).1 s ≤ 7000 ∧ fl_ma (fl_co S (pl_ja P) (fl_clear S F) (sh_jb S)).1 s < 6) : am_Fn G m_P_take (d + 5) bc bs [.ref 26, .ref 27, .ref 15] (hx x t S F R P W) none (hx x t S (fl_co S (pl_ja P) (fl_clear S F) (sh_jb S)).1 R (pl_take S (pl_ja P) (fl_co S (pl_ja P) (fl_clear S F) (sh_jb S)).1 P) W) := by
  have s2 := hS.2.1
  refine am_aload_n d_P_take_0 rfl rfl ?_
  refine am_aload_n d_P_take_1 rfl rfl ?_
  refine am_aload_n d_P_take_2 rfl rfl ?_
  refine am_aload_n d_P_take_3 rfl rfl ?_
  refine am_get F_P 0 (by decide) d_P_take_4 w_178 rfl rfl ?_
  refine am_get F_S 5 (by decide) d_P_take_7 w_45 rfl rfl ?_
  refine am_callF 3 (am_recvV (z := m_F_costInOrder) rfl d_P_take_10 w_502 w_477 w_478 w_479 F_F.1 rfl (by decide) np_F_costInOrder) (by decide) (by decide) (Nat.le_of_ble_eq_true rfl) (Nat.le_of_ble_eq_true rfl) (Nat.zero_le _) (Nat.zero_le _) (c_F_costInOrderP (F := F) (R := R) (P := P) hS _ _ _ _ s2 hg) ?_
  rw [fl_co_eq hS _ hg]
  refine am_put F_P 6 (by decide) d_P_take_13 w_188 rfl rfl (Nat.le_of_ble_eq_true rfl) rfl rfl ?_
  refine am_aload_n d_P_take_16 rfl rfl ?_
  refine am_iconst (v := nI 0) d_P_take_17 (by decide) ?_
  refine am_put F_P 9 (by decide) d_P_take_18 w_194 rfl rfl (Nat.le_of_ble_eq_true rfl) rfl rfl ?_
  refine am_iconst (v := nI 0) d_P_take_21 (by decide) ?_
  refine am_istore_n d_P_take_22 rfl (by decide) ?_
  have hk : am_W G m_P_take (d + 5) bc bs (fun o h' => o = .inl none ∧ h' = (hx x t S (fl_co S (pl_ja P) (fl_clear S F) (sh_jb S)).1 R (pl_take S (pl_ja P) (fl_co S (pl_ja P) (fl_clear S F) (sh_jb S)).1 P) W)) 112 [(0, .ref 26), (1, .ref 27), (2, .ref 15), (3, .int (nI (sh_ss S)))] [] (hx x t S (fl_co S (pl_ja P) (fl_clear S F) (sh_jb S)).1 R (ptk P (fl_co S (pl_ja P) (fl_clear S F) (sh_jb S)).1 (sp_co S (pl_ja P) (sh_jb S)) (sh_ss S)) W) := by
    refine am_aload_n d_P_take_112 rfl rfl ?_
    refine am_iconst (v := nI 0) d_P_take_113 (by decide) ?_
    refine am_aload_n d_P_take_114 rfl rfl ?_
    refine am_get F_P 1 (by decide) d_P_take_115 w_179 rfl rfl ?_
    refine am_iconst (v := nI 0) d_P_take_118 (by decide) ?_
    refine am_bipush (v := nI 6) d_P_take_119 (by decide) ?_
    refine am_copyA 0 0 6 d_P_take_121 w_507 w_493 w_492 w_13 rfl rfl (by decide) (by decide) (by decide) (by decide) (by omega) (by decide) ?_
    refine am_aload_n d_P_take_124 rfl rfl ?_
    refine am_aload_n d_P_take_125 rfl rfl ?_
    refine am_get F_P 0 (by decide) d_P_take_126 w_178 rfl rfl ?_
    refine am_get F_S 5 (by decide) d_P_take_129 w_45 rfl rfl ?_
    refine am_put F_P 4 (by decide) d_P_take_132 w_185 rfl rfl (Nat.le_of_ble_eq_true rfl) rfl rfl ?_
    refine am_aload_n d_P_take_135 rfl rfl ?_
    refine am_aload_n d_P_take_136 rfl rfl ?_
    refine am_get F_P 0 (by decide) d_P_take_137 w_178 rfl rfl ?_
    refine am_get F_S 10 (by decide) d_P_take_140 w_59 rfl rfl ?_
    refine am_put F_P 5 (by decide) d_P_take_143 w_187 rfl rfl (Nat.le_of_ble_eq_true rfl) rfl rfl ?_
    refine am_vret d_P_take_146 rfl ?_
    exact ⟨rfl, rfl⟩
  exact am_lo (L' := [(0, .ref 26), (1, .ref 27), (2, .ref 15), (3, .int (nI 0))]) rfl (c_P_takeP_l (P := P) hS hP (d + 4) bc bs _ (sp_co_bd hS s2 hg) hb hk (sh_ss S + 1) 0 (Nat.zero_le _) (by omega))
def sw (g : Nat → Nat) (a b : Nat) : Nat → Nat := nu (nu g a (g b)) b (g a)
theorem sw_sw (g : Nat → Nat) (a b : Nat) : sw (sw g a b) a b = g := by
  funext k
  by_cases e : a = b
  · subst e
    unfold sw nu
    split <;> simp_all
  · unfold sw nu
    by_cases h1 : k = b
    · subst h1; simp [e]
    · by_cases h2 : k = a
      · subst h2; simp [h1]
      · simp [h1, h2]
abbrev pl_wj (P : pl_T) (c : Nat) (g : Nat → Nat) : pl_T := (pl_jb P, pl_ss P, c, pl_bo P, pl_no P, pl_mv P, g, pl_bg P, pl_ma P)
theorem sw_bd {g : Nat → Nat} {a b : Nat} (h : ∀ k, g k < 6) (k : Nat) : sw g a b k < 6 := by
  unfold sw nu
  split
  · exact h a
  · split
    · exact h b
    · exact h k
theorem c_P_swap (d bc bs a b : Nat) (ha : a < 6) (hb : b < 6) : am_Fn G m_P_swap d bc bs [.ref 26, .int (nI a), .int (nI b)] (hx x t S F R P W) none (hx x t S F R (pl_wj P (pl_co P) (sw (pl_ja P) a b)) W) := by
  refine am_aload_n d_P_swap_0 rfl rfl ?_
  refine am_get F_P 1 (by decide) d_P_swap_1 w_179 rfl rfl ?_
  refine am_iload_n d_P_swap_4 rfl rfl ?_
  refine am_ialdA d_P_swap_5 rfl (by omega) (by decide) ?_
  refine am_istore_n d_P_swap_6 rfl (by decide) ?_
  refine am_aload_n d_P_swap_7 rfl rfl ?_
  refine am_get F_P 1 (by decide) d_P_swap_8 w_179 rfl rfl ?_
  refine am_iload_n d_P_swap_11 rfl rfl ?_
  refine am_aload_n d_P_swap_12 rfl rfl ?_
  refine am_get F_P 1 (by decide) d_P_swap_13 w_179 rfl rfl ?_
  refine am_iload_n d_P_swap_16 rfl rfl ?_
  refine am_ialdA d_P_swap_17 rfl (by omega) (by decide) ?_
  refine am_iastA d_P_swap_18 rfl (by omega) (by decide) ?_
  refine am_aload_n d_P_swap_19 rfl rfl ?_
  refine am_get F_P 1 (by decide) d_P_swap_20 w_179 rfl rfl ?_
  refine am_iload_n d_P_swap_23 rfl rfl ?_
  refine am_iload_n d_P_swap_24 rfl rfl ?_
  refine am_iastA d_P_swap_25 rfl (by omega) (by decide) ?_
  refine am_vret d_P_swap_26 rfl ?_
  exact ⟨rfl, rfl⟩
/-- two places changed, if the cost is less then -/
def pl_ch (S : sh_T) (P : pl_T) (a b : Nat) : Bool × pl_T := if sp_co S (sw (pl_ja P) a b) (pl_jb P) < pl_co P then (true, pl_wj P (sp_co S (sw (pl_ja P) a b) (pl_jb P)) (sw (pl_ja P) a b)) else (false, P)
theorem c_P_changeIfLess (hS : sh_ok S) (hP : pl_ok P) (d bc bs a b : Nat) (ha : a < 6) (hb : b < 6) (hg : ∀ k, k < pl_jb P → sw (pl_ja P) a b k < 6 ∧ sp_fits S (sw (pl_ja P) a b k) = true) :
    am_W G m_P_changeIfLess (d + 5) bc bs (fun o h' => ∃ F', o = .inl (some (.int (zI (pl_ch S P a b).1))) ∧ h' = (hx x t S F' R (pl_ch S P a b).2 W)) 0 (lv_args 0 [.ref 26, .int (nI a), .int (nI b), .ref 15]) [] (hx x t S F R P W) := by
  have hcb := sp_co_bd (g := sw (pl_ja P) a b) hS hP.1 hg
  have hp3 := hP.2.2.1
  have hp4 : pl_co (pl_wj P (pl_co P) (sw (pl_ja P) a b)) = pl_co P := rfl
  refine am_aload_n d_P_changeIfLess_0 rfl rfl ?_
  refine am_iload_n d_P_changeIfLess_1 rfl rfl ?_
  refine am_iload_n d_P_changeIfLess_2 rfl rfl ?_
  refine am_callF 3 (am_recvV (z := m_P_swap) rfl d_P_changeIfLess_3 w_535 w_537 ws_11 w_538 F_P.1 rfl (by decide) np_P_swap) (by decide) (by decide) (Nat.le_of_ble_eq_true rfl) (Nat.le_of_ble_eq_true rfl) (Nat.zero_le _) (Nat.zero_le _) (c_P_swap _ _ _ a b ha hb) ?_
  refine am_aload_n d_P_changeIfLess_6 rfl rfl ?_
  refine am_aload_n d_P_changeIfLess_7 rfl rfl ?_
  refine am_get F_P 1 (by decide) d_P_changeIfLess_8 w_179 rfl rfl ?_
  refine am_aload_n d_P_changeIfLess_11 rfl rfl ?_
  refine am_get F_P 4 (by decide) d_P_changeIfLess_12 w_185 rfl rfl ?_
  refine am_callF 3 (am_recvV (z := m_F_costInOrder) rfl d_P_changeIfLess_15 w_502 w_477 w_478 w_479 F_F.1 rfl (by decide) np_F_costInOrder) (by decide) (by decide) (Nat.le_of_ble_eq_true rfl) (Nat.le_of_ble_eq_true rfl) (Nat.zero_le _) (Nat.zero_le _) (c_F_costInOrderP (P := pl_wj P (pl_co P) (sw (pl_ja P) a b)) hS _ _ _ _ hP.1 hg) ?_
  rw [fl_co_eq hS _ hg]
  refine am_lstore d_P_changeIfLess_18 (by decide) ?_
  refine am_lload d_P_changeIfLess_20 rfl ?_
  refine am_aload_n d_P_changeIfLess_22 rfl rfl ?_
  refine am_get F_P 6 (by decide) d_P_changeIfLess_23 w_188 rfl rfl ?_
  refine am_lc_ge (tgt := 38) d_P_changeIfLess_26 d_P_changeIfLess_27 (by decide) (by omega) (by omega) (fun c27 => ?_) (fun c27 => ?_)
  · refine am_aload_n d_P_changeIfLess_38 rfl rfl ?_
    refine am_iload_n d_P_changeIfLess_39 rfl rfl ?_
    refine am_iload_n d_P_changeIfLess_40 rfl rfl ?_
    refine am_callF 3 (am_recvV (z := m_P_swap) rfl d_P_changeIfLess_41 w_535 w_537 ws_11 w_538 F_P.1 rfl (by decide) np_P_swap) (by decide) (by decide) (Nat.le_of_ble_eq_true rfl) (Nat.le_of_ble_eq_true rfl) (Nat.zero_le _) (Nat.zero_le _) (c_P_swap (P := pl_wj P (pl_co P) (sw (pl_ja P) a b)) _ _ _ a b ha hb) ?_
    refine am_iconst (v := zI false) d_P_changeIfLess_44 (by decide) ?_
    refine am_zret d_P_changeIfLess_45 rfl (zI_n _) ?_
    have e1 : pl_ch S P a b = (false, P) := if_neg (by omega)
    rw [e1]
    refine ⟨(fl_co S (sw (pl_ja P) a b) (fl_clear S F) (pl_jb P)).1, rfl, ?_⟩
    show hx x t S _ R (pl_wj P (pl_co P) (sw (sw (pl_ja P) a b) a b)) W = hx x t S _ R P W
    rw [sw_sw]
  · refine am_aload_n d_P_changeIfLess_30 rfl rfl ?_
    refine am_lload d_P_changeIfLess_31 rfl ?_
    refine am_put F_P 6 (by decide) d_P_changeIfLess_33 w_188 rfl rfl (Nat.le_of_ble_eq_true rfl) rfl rfl ?_
    refine am_iconst (v := zI true) d_P_changeIfLess_36 (by decide) ?_
    refine am_zret d_P_changeIfLess_37 rfl (zI_n _) ?_
    have e1 : pl_ch S P a b = (true, pl_wj P (sp_co S (sw (pl_ja P) a b) (pl_jb P)) (sw (pl_ja P) a b)) := if_pos (by omega)
    rw [e1]
    exact ⟨_, rfl, rfl⟩
/-- a job's steps laid as the plan has them -/
def ly_j (S : sh_T) (P : pl_T) (j : Nat) (f : fl_T) : Nat → fl_T
  | 0 => f
  | n + 1 => fl_put S (ly_j S P j f n) (sh_sa S (j * 4 + n)) (pl_ma P (sh_sa S (j * 4 + n))) (pl_bg P (sh_sa S (j * 4 + n)))
/-- all jobs below n but one -/
def ly (S : sh_T) (P : pl_T) (l : Nat) (f : fl_T) : Nat → fl_T
  | 0 => f
  | j + 1 => if j = l then ly S P l f j else ly_j S P j (ly S P l f j) (sh_so S j)
theorem ly_j_sm {S : sh_T} {P : pl_T} {j : Nat} {f : fl_T} (hS : sh_ok S) (hP : pl_ok P) (hm : ∀ i, i < sh_so S j → pl_ma P (sh_sa S (j * 4 + i)) < sh_mc S) (hF : fl_sm (sh_mc S) f 8000) : ∀ n, n ≤ sh_so S j → fl_sm (sh_mc S) (ly_j S P j f n) 8000
  | 0, _ => hF
  | n + 1, hn => by
    have h := ly_j_sm hS hP hm hF n (by omega)
    have h1 := hP.2.2.2.2.1 (sh_sa S (j * 4 + n))
    have h2 := hS.2.2.2.2.2.2.2.2.2.2.2.2.1 (sh_sa S (j * 4 + n))
    exact fl_sm_add (f := (nu (fl_bg (ly_j S P j f n)) _ _, nu (fl_ma (ly_j S P j f n)) _ _, (ly_j S P j f n).2.2)) h hS.1 (hm n (by omega)) (by omega) (by omega)
theorem ly_sm {S : sh_T} {P : pl_T} {l N : Nat} {f : fl_T} (hS : sh_ok S) (hP : pl_ok P) (hm : ∀ j i, j < N → i < sh_so S j → pl_ma P (sh_sa S (j * 4 + i)) < sh_mc S) (hF : fl_sm (sh_mc S) f 8000) : ∀ n, n ≤ N → fl_sm (sh_mc S) (ly S P l f n) 8000
  | 0, _ => hF
  | n + 1, hn => by
    have h := ly_sm (l := l) hS hP hm hF n (by omega)
    unfold ly
    split
    · exact h
    · exact ly_j_sm hS hP (fun i hi => hm n i (by omega) hi) h _ (Nat.le_refl _)
set_option maxRecDepth 20000 in
theorem c_P_layAllBut_i {Q : am_O → am_H → Prop} (hS : sh_ok S) (hP : pl_ok P) (d bc bs l j : Nat) (hl : l < 6) (hj : j < 6) (hlj : j ≠ l) (hm : ∀ i, i < sh_so S j → pl_ma P (sh_sa S (j * 4 + i)) < sh_mc S) (hF : fl_sm (sh_mc S) F 8000)
    (hk : am_W G m_P_layAllBut (d + 2) bc bs Q 78 [(0, .ref 26), (1, .int (nI l)), (2, .ref 15), (3, .int (nI j))] [] (hx x t S (ly_j S P j F (sh_so S j)) R P W)) : ∀ (n i : Nat), i ≤ sh_so S j → sh_so S j - i < n →
    am_W G m_P_layAllBut (d + 2) bc bs Q 17 [(0, .ref 26), (1, .int (nI l)), (2, .ref 15), (3, .int (nI j)), (4, .int (nI i))] [] (hx x t S (ly_j S P j F i) R P W) := by
  intro n
  obtain ⟨s1, s2, s3, s4, s5, s6, s7, s8, s9, s10, s11, s12, s13, s14⟩ := id hS
  obtain ⟨p1, p2, p3, p4, p5, p6⟩ := id hP
  have t10 := s10 j
  induction n with
  | zero => intro i _ h; omega
  | succ n ih =>
    intro i hi hn
    refine am_iload_n d_P_layAllBut_17 rfl rfl ?_
    refine am_iload_n d_P_layAllBut_18 rfl rfl ?_
    refine am_icmpN_eq (tgt := 78) d_P_layAllBut_19 (by decide) (by omega) (by omega) (fun c19 => ?_) (fun c19 => ?_)
    · exact absurd c19 (by omega)
    · refine am_iload d_P_layAllBut_22 rfl ?_
      refine am_aload_n d_P_layAllBut_24 rfl rfl ?_
      refine am_get F_P 0 (by decide) d_P_layAllBut_25 w_178 rfl rfl ?_
      refine am_get F_S 8 (by decide) d_P_layAllBut_28 w_53 rfl rfl ?_
      refine am_iload_n d_P_layAllBut_31 rfl rfl ?_
      refine am_ialdA d_P_layAllBut_32 rfl (by omega) (by decide) ?_
      refine am_icmpN_ge (tgt := 78) d_P_layAllBut_33 (by decide) (by omega) (by omega) (fun c33 => ?_) (fun c33 => ?_)
      · have e : i = sh_so S j := by omega
        subst e
        exact am_lo (L' := [(0, .ref 26), (1, .int (nI l)), (2, .ref 15), (3, .int (nI j))]) rfl hk
      · have t11 := s11 (j * 4 + i)
        have hm1 := hm i (by omega)
        have hsm := ly_j_sm (f := F) hS hP hm hF i (by omega)
        have hbc := hsm.1 _ hm1
        have hb7 := p5 (sh_sa S (j * 4 + i))
        have hm6 := p6 (sh_sa S (j * 4 + i))
        refine am_aload_n d_P_layAllBut_36 rfl rfl ?_
        refine am_get F_P 0 (by decide) d_P_layAllBut_37 w_178 rfl rfl ?_
        refine am_get F_S 9 (by decide) d_P_layAllBut_40 w_57 rfl rfl ?_
        refine am_iload_n d_P_layAllBut_43 rfl rfl ?_
        refine am_iconst (v := nI 4) d_P_layAllBut_44 (by decide) ?_
        refine am_imulN d_P_layAllBut_45 ?_
        refine am_iload d_P_layAllBut_46 rfl ?_
        refine am_iaddN d_P_layAllBut_48 ?_
        refine am_ialdA d_P_layAllBut_49 rfl (by omega) (by decide) ?_
        refine am_istore d_P_layAllBut_50 (by decide) ?_
        refine am_aload_n d_P_layAllBut_52 rfl rfl ?_
        refine am_iload d_P_layAllBut_53 rfl ?_
        refine am_aload_n d_P_layAllBut_55 rfl rfl ?_
        refine am_get F_P 3 (by decide) d_P_layAllBut_56 w_183 rfl rfl ?_
        refine am_iload d_P_layAllBut_59 rfl ?_
        refine am_ialdA d_P_layAllBut_61 rfl (by omega) (by decide) ?_
        refine am_aload_n d_P_layAllBut_62 rfl rfl ?_
        refine am_get F_P 2 (by decide) d_P_layAllBut_63 w_181 rfl rfl ?_
        refine am_iload d_P_layAllBut_66 rfl ?_
        refine am_ialdA d_P_layAllBut_68 rfl (by omega) (by decide) ?_
        refine am_callF 4 (am_recvV (z := m_F_put) rfl d_P_layAllBut_69 w_591 w_465 w_466 w_467 F_F.1 rfl (by decide) np_F_put) (by decide) (by decide) (Nat.le_of_ble_eq_true rfl) (Nat.le_of_ble_eq_true rfl) (Nat.zero_le _) (Nat.zero_le _) (c_F_put _ _ _ _ _ _ t11 (by omega) (by omega) (by omega)) ?_
        refine am_iinc d_P_layAllBut_72 rfl (am_inc _) (by decide) ?_
        refine am_goto (tgt := 17) d_P_layAllBut_75 (by decide) ?_
        exact am_lo (L' := [(0, .ref 26), (1, .int (nI l)), (2, .ref 15), (3, .int (nI j)), (4, .int (nI (i + 1)))]) rfl (ih (i + 1) (by omega) (by omega))
set_option maxRecDepth 20000 in
theorem c_P_layAllBut_o (hS : sh_ok S) (hP : pl_ok P) (d bc bs l : Nat) (hl : l < 6) (hm : ∀ j, j < pl_jb P → ∀ i, i < sh_so S j → pl_ma P (sh_sa S (j * 4 + i)) < sh_mc S) : ∀ (n i : Nat), i ≤ pl_jb P → pl_jb P - i < n →
    am_W G m_P_layAllBut (d + 2) bc bs (fun o h' => o = .inl none ∧ h' = (hx x t S (ly S P l (fl_clear S F) (pl_jb P)) R P W)) 6 [(0, .ref 26), (1, .int (nI l)), (2, .ref 15), (3, .int (nI i))] [] (hx x t S (ly S P l (fl_clear S F) i) R P W) := by
  intro n
  obtain ⟨s1, s2, s3, s4, s5, s6, s7, s8, s9, s10, s11, s12, s13, s14⟩ := id hS
  obtain ⟨p1, p2, p3, p4, p5, p6⟩ := id hP
  have hcl := fl_sm_mono (fl_clear_sm F hS) (B' := 8000) (by omega)
  induction n with
  | zero => intro i _ h; omega
  | succ n ih =>
    intro i hi hn
    refine am_iload_n d_P_layAllBut_6 rfl rfl ?_
    refine am_aload_n d_P_layAllBut_7 rfl rfl ?_
    refine am_get F_P 4 (by decide) d_P_layAllBut_8 w_185 rfl rfl ?_
    refine am_icmpN_ge (tgt := 84) d_P_layAllBut_11 (by decide) (by omega) (by omega) (fun c11 => ?_) (fun c11 => ?_)
    · refine am_vret d_P_layAllBut_84 rfl ?_
      have e : i = pl_jb P := by omega
      subst e
      exact ⟨rfl, rfl⟩
    · refine am_iconst (v := nI 0) d_P_layAllBut_14 (by decide) ?_
      refine am_istore d_P_layAllBut_15 (by decide) ?_
      by_cases e : i = l
      · refine am_iload_n d_P_layAllBut_17 rfl rfl ?_
        refine am_iload_n d_P_layAllBut_18 rfl rfl ?_
        refine am_icmpN_eq (tgt := 78) d_P_layAllBut_19 (by decide) (by omega) (by omega) (fun c19 => ?_) (fun c19 => ?_)
        · refine am_iinc d_P_layAllBut_78 rfl (am_inc _) (by decide) ?_
          refine am_goto (tgt := 6) d_P_layAllBut_81 (by decide) ?_
          exact am_lo (L' := [(0, .ref 26), (1, .int (nI l)), (2, .ref 15), (3, .int (nI (i + 1)))]) rfl (am_hq (h2 := (hx x t S (ly S P l (fl_clear S F) (i + 1)) R P W)) (by rw [ly, if_pos e]) (ih (i + 1) (by omega) (by omega)))
        · exact absurd e (by omega)
      · refine am_lo (L' := [(0, .ref 26), (1, .int (nI l)), (2, .ref 15), (3, .int (nI i)), (4, .int (nI 0))]) rfl (c_P_layAllBut_i hS hP d bc bs l i hl (by omega) e (hm i (by omega)) (ly_sm (l := l) hS hP (fun j i' h1 h2 => hm j (by omega) i' h2) hcl i (by omega)) ?_ (sh_so S i + 1) 0 (Nat.zero_le _) (by omega))
        refine am_iinc d_P_layAllBut_78 rfl (am_inc _) (by decide) ?_
        refine am_goto (tgt := 6) d_P_layAllBut_81 (by decide) ?_
        exact am_lo (L' := [(0, .ref 26), (1, .int (nI l)), (2, .ref 15), (3, .int (nI (i + 1)))]) rfl (am_hq (h2 := (hx x t S (ly S P l (fl_clear S F) (i + 1)) R P W)) (by rw [ly, if_neg e]) (ih (i + 1) (by omega) (by omega)))
theorem c_P_layAllBut (hS : sh_ok S) (hP : pl_ok P) (d bc bs l : Nat) (hl : l < 6) (hm : ∀ j, j < pl_jb P → ∀ i, i < sh_so S j → pl_ma P (sh_sa S (j * 4 + i)) < sh_mc S) : am_Fn G m_P_layAllBut (d + 2) bc bs [.ref 26, .int (nI l), .ref 15] (hx x t S F R P W) none (hx x t S (ly S P l (fl_clear S F) (pl_jb P)) R P W) := by
  refine am_aload_n d_P_layAllBut_0 rfl rfl ?_
  refine am_callF 1 (am_recvV (z := m_F_clear) rfl d_P_layAllBut_1 w_590 w_442 w_443 w_444 F_F.1 rfl (by decide) np_F_clear) (by decide) (by decide) (Nat.le_of_ble_eq_true rfl) (Nat.le_of_ble_eq_true rfl) (Nat.zero_le _) (Nat.zero_le _) (c_F_clear hS _ _ _) ?_
  refine am_iconst (v := nI 0) d_P_layAllBut_4 (by decide) ?_
  refine am_istore_n d_P_layAllBut_5 rfl (by decide) ?_
  exact am_lo (L' := [(0, .ref 26), (1, .int (nI l)), (2, .ref 15), (3, .int (nI 0))]) rfl (c_P_layAllBut_o hS hP d bc bs l hl hm (pl_jb P + 1) 0 (Nat.zero_le _) (by have := hP.1; omega))
theorem c_P_stepEnd (d bc bs s : Nat) (hs : s < 24) : am_Fn G m_P_stepEnd d bc bs [.ref 26, .int (nI s)] (hx x t S F R P W) (some (.int (nI (pl_bg P s + sh_sh S s)))) (hx x t S F R P W) := by
  refine am_aload_n d_P_stepEnd_0 rfl rfl ?_
  refine am_get F_P 2 (by decide) d_P_stepEnd_1 w_181 rfl rfl ?_
  refine am_iload_n d_P_stepEnd_4 rfl rfl ?_
  refine am_ialdA d_P_stepEnd_5 rfl (by omega) (by decide) ?_
  refine am_aload_n d_P_stepEnd_6 rfl rfl ?_
  refine am_get F_P 0 (by decide) d_P_stepEnd_7 w_178 rfl rfl ?_
  refine am_get F_S 12 (by decide) d_P_stepEnd_10 w_65 rfl rfl ?_
  refine am_iload_n d_P_stepEnd_13 rfl rfl ?_
  refine am_ialdA d_P_stepEnd_14 rfl (by omega) (by decide) ?_
  refine am_iaddN d_P_stepEnd_15 ?_
  refine am_iret d_P_stepEnd_16 rfl ?_
  exact ⟨rfl, rfl⟩
/-- rule 2: it begins before the step before it is through -/
def sp_r2 (S : sh_T) (P : pl_T) (s : Nat) : Option Nat → Bool
  | none => false
  | some b => decide (pl_bg P s < pl_bg P b + sh_sh S b + sh_sw S b)
theorem c_P_beginsTooEarly (hS : sh_ok S) (hP : pl_ok P) (d bc bs s : Nat) (hs : s < 24) (ob : Option Nat) (hsb : sh_sb S s = oI ob) (hob : ∀ b, ob = some b → b < 24) : am_Fn G m_P_beginsTooEarly (d + 1) bc bs [.ref 26, .int (nI s)] (hx x t S F R P W) (some (.int (zI (sp_r2 S P s ob)))) (hx x t S F R P W) := by
  obtain ⟨s1, s2, s3, s4, s5, s6, s7, s8, s9, s10, s11, s12, s13, s14⟩ := id hS
  obtain ⟨p1, p2, p3, p4, p5, p6⟩ := id hP
  refine am_aload_n d_P_beginsTooEarly_0 rfl rfl ?_
  refine am_get F_P 0 (by decide) d_P_beginsTooEarly_1 w_178 rfl rfl ?_
  refine am_get F_S 14 (by decide) d_P_beginsTooEarly_4 w_70 rfl rfl ?_
  refine am_iload_n d_P_beginsTooEarly_7 rfl rfl ?_
  refine am_ialdN s d_P_beginsTooEarly_8 rfl rfl hs (by decide) ?_
  refine am_istore_n d_P_beginsTooEarly_9 rfl (by decide) ?_
  rw [hsb]
  cases ob with
  | none =>
    refine am_iload_n d_P_beginsTooEarly_10 rfl rfl ?_
    refine am_iconst (v := -1) d_P_beginsTooEarly_11 (by decide) ?_
    refine am_icmp_eq (tgt := 43) d_P_beginsTooEarly_12 (by decide) (fun c12 => ?_) (fun c12 => ?_)
    · refine am_iconst (v := nI 0) d_P_beginsTooEarly_43 (by decide) ?_
      refine am_zret d_P_beginsTooEarly_44 rfl (by decide) ?_
      exact ⟨rfl, rfl⟩
    · exact absurd rfl c12
  | some b =>
    have hb := hob b rfl
    have t13 := s13 b
    have t14 := s14 b
    have v5 := p5 b
    have w5 := p5 s
    refine am_iload_n d_P_beginsTooEarly_10 rfl rfl ?_
    refine am_iconst (v := -1) d_P_beginsTooEarly_11 (by decide) ?_
    refine am_icmp_eq (tgt := 43) d_P_beginsTooEarly_12 (by decide) (fun c12 => ?_) (fun c12 => ?_)
    · refine am_iconst (v := nI 0) d_P_beginsTooEarly_43 (by decide) ?_
      refine am_zret d_P_beginsTooEarly_44 rfl (by decide) ?_
      exact absurd c12 (nI_m1 (by omega))
    · refine am_aload_n d_P_beginsTooEarly_15 rfl rfl ?_
      refine am_get F_P 2 (by decide) d_P_beginsTooEarly_16 w_181 rfl rfl ?_
      refine am_iload_n d_P_beginsTooEarly_19 rfl rfl ?_
      refine am_ialdA d_P_beginsTooEarly_20 rfl (by omega) (by decide) ?_
      refine am_aload_n d_P_beginsTooEarly_21 rfl rfl ?_
      refine am_iload_n d_P_beginsTooEarly_22 rfl rfl ?_
      refine am_callF 2 (am_recvV (z := m_P_stepEnd) rfl d_P_beginsTooEarly_23 w_626 w_628 ws_15 w_629 F_P.1 rfl (by decide) np_P_stepEnd) (by decide) (by decide) (Nat.le_of_ble_eq_true rfl) (Nat.le_of_ble_eq_true rfl) (Nat.zero_le _) (Nat.zero_le _) (c_P_stepEnd _ _ _ b hb) ?_
      refine am_aload_n d_P_beginsTooEarly_26 rfl rfl ?_
      refine am_get F_P 0 (by decide) d_P_beginsTooEarly_27 w_178 rfl rfl ?_
      refine am_get F_S 13 (by decide) d_P_beginsTooEarly_30 w_68 rfl rfl ?_
      refine am_iload_n d_P_beginsTooEarly_33 rfl rfl ?_
      refine am_ialdA d_P_beginsTooEarly_34 rfl (by omega) (by decide) ?_
      refine am_iaddN d_P_beginsTooEarly_35 ?_
      refine am_icmpN_ge (tgt := 43) d_P_beginsTooEarly_36 (by decide) (by omega) (by omega) (fun c36 => ?_) (fun c36 => ?_)
      · refine am_iconst (v := nI 0) d_P_beginsTooEarly_43 (by decide) ?_
        refine am_zret d_P_beginsTooEarly_44 rfl (by decide) ?_
        exact ⟨by rw [show sp_r2 S P s (some b) = false from decide_eq_false (by omega), zI_f], rfl⟩
      · refine am_iconst (v := nI 1) d_P_beginsTooEarly_39 (by decide) ?_
        refine am_goto (tgt := 44) d_P_beginsTooEarly_40 (by decide) ?_
        refine am_zret d_P_beginsTooEarly_44 rfl (by decide) ?_
        exact ⟨by rw [show sp_r2 S P s (some b) = true from decide_eq_true (by omega), zI_t], rfl⟩
/-- rule 3: it shares an hour of its machine with one of the first n steps -/
def sp_r3 (S : sh_T) (P : pl_T) (s : Nat) : Nat → Bool
  | 0 => false
  | n + 1 => sp_r3 S P s n || (decide (pl_ma P n = pl_ma P s) && sp_meets (pl_bg P s) (pl_bg P s + sh_sh S s) (pl_bg P n) (pl_bg P n + sh_sh S n))
theorem sp_r3_t {S : sh_T} {P : pl_T} {s i : Nat} (h1 : pl_ma P i = pl_ma P s) (h2 : sp_meets (pl_bg P s) (pl_bg P s + sh_sh S s) (pl_bg P i) (pl_bg P i + sh_sh S i) = true) : ∀ n, i < n → sp_r3 S P s n = true
  | 0, h => absurd h (Nat.not_lt_zero i)
  | n + 1, h => by
    unfold sp_r3
    rcases Nat.lt_or_ge i n with q | q
    · rw [sp_r3_t h1 h2 n q, Bool.true_or]
    · have e : i = n := by omega
      subst e
      rw [h2, decide_eq_true h1, Bool.and_self, Bool.or_true]
/-- rule 4: one of its machine's first n spans -/
def sp_r4 (S : sh_T) (P : pl_T) (s : Nat) : Nat → Bool
  | 0 => false
  | n + 1 => sp_r4 S P s n || sp_meets (pl_bg P s) (pl_bg P s + sh_sh S s) (sh_sf S (pl_ma P s * 8 + n)) (sh_st S (pl_ma P s * 8 + n))
theorem sp_r4_t {S : sh_T} {P : pl_T} {s i : Nat} (h2 : sp_meets (pl_bg P s) (pl_bg P s + sh_sh S s) (sh_sf S (pl_ma P s * 8 + i)) (sh_st S (pl_ma P s * 8 + i)) = true) : ∀ n, i < n → sp_r4 S P s n = true
  | 0, h => absurd h (Nat.not_lt_zero i)
  | n + 1, h => by
    unfold sp_r4
    rcases Nat.lt_or_ge i n with q | q
    · rw [sp_r4_t h2 n q, Bool.true_or]
    · have e : i = n := by omega
      subst e
      rw [h2, Bool.or_true]
set_option maxRecDepth 20000 in
theorem c_P_sharesWithStep_l (hS : sh_ok S) (hP : pl_ok P) (d bc bs s : Nat) (hs : s < 24) : ∀ (n i : Nat), i ≤ s → s - i < n → sp_r3 S P s i = false →
    am_W G m_P_sharesWithStep (d + 1) bc bs (fun o h' => o = .inl (some (.int (zI (sp_r3 S P s s)))) ∧ h' = (hx x t S F R P W)) 2 [(0, .ref 26), (1, .int (nI s)), (2, .int (nI i))] [] (hx x t S F R P W) := by
  intro n
  obtain ⟨s1, s2, s3, s4, s5, s6, s7, s8, s9, s10, s11, s12, s13, s14⟩ := id hS
  obtain ⟨p1, p2, p3, p4, p5, p6⟩ := id hP
  have w5 := p5 s
  have w6 := p6 s
  have w13 := s13 s
  induction n with
  | zero => intro i _ h; omega
  | succ n ih =>
    intro i hi hn hno
    have v5 := p5 i
    have v6 := p6 i
    have v13 := s13 i
    refine am_iload_n d_P_sharesWithStep_2 rfl rfl ?_
    refine am_iload_n d_P_sharesWithStep_3 rfl rfl ?_
    refine am_icmpN_ge (tgt := 58) d_P_sharesWithStep_4 (by decide) (by omega) (by omega) (fun c4 => ?_) (fun c4 => ?_)
    · refine am_iconst (v := nI 0) d_P_sharesWithStep_58 (by decide) ?_
      refine am_zret d_P_sharesWithStep_59 rfl (by decide) ?_
      have e : i = s := by omega
      subst e
      exact ⟨by rw [hno, zI_f], rfl⟩
    · refine am_aload_n d_P_sharesWithStep_7 rfl rfl ?_
      refine am_get F_P 3 (by decide) d_P_sharesWithStep_8 w_183 rfl rfl ?_
      refine am_iload_n d_P_sharesWithStep_11 rfl rfl ?_
      refine am_ialdA d_P_sharesWithStep_12 rfl (by omega) (by decide) ?_
      refine am_aload_n d_P_sharesWithStep_13 rfl rfl ?_
      refine am_get F_P 3 (by decide) d_P_sharesWithStep_14 w_183 rfl rfl ?_
      refine am_iload_n d_P_sharesWithStep_17 rfl rfl ?_
      refine am_ialdA d_P_sharesWithStep_18 rfl (by omega) (by decide) ?_
      refine am_icmpN_ne (tgt := 52) d_P_sharesWithStep_19 (by decide) (by omega) (by omega) (fun c19 => ?_) (fun c19 => ?_)
      · refine am_iinc d_P_sharesWithStep_52 rfl (am_inc _) (by decide) ?_
        refine am_goto (tgt := 2) d_P_sharesWithStep_55 (by decide) ?_
        exact am_lo (L' := [(0, .ref 26), (1, .int (nI s)), (2, .int (nI (i + 1)))]) rfl (ih (i + 1) (by omega) (by omega) (by rw [sp_r3, hno, Bool.false_or, decide_eq_false c19, Bool.false_and]))
      · refine am_aload_n d_P_sharesWithStep_22 rfl rfl ?_
        refine am_get F_P 2 (by decide) d_P_sharesWithStep_23 w_181 rfl rfl ?_
        refine am_iload_n d_P_sharesWithStep_26 rfl rfl ?_
        refine am_ialdA d_P_sharesWithStep_27 rfl (by omega) (by decide) ?_
        refine am_aload_n d_P_sharesWithStep_28 rfl rfl ?_
        refine am_iload_n d_P_sharesWithStep_29 rfl rfl ?_
        refine am_callF 2 (am_recvV (z := m_P_stepEnd) rfl d_P_sharesWithStep_30 w_626 w_628 ws_15 w_629 F_P.1 rfl (by decide) np_P_stepEnd) (by decide) (by decide) (Nat.le_of_ble_eq_true rfl) (Nat.le_of_ble_eq_true rfl) (Nat.zero_le _) (Nat.zero_le _) (c_P_stepEnd _ _ _ s hs) ?_
        refine am_aload_n d_P_sharesWithStep_33 rfl rfl ?_
        refine am_get F_P 2 (by decide) d_P_sharesWithStep_34 w_181 rfl rfl ?_
        refine am_iload_n d_P_sharesWithStep_37 rfl rfl ?_
        refine am_ialdA d_P_sharesWithStep_38 rfl (by omega) (by decide) ?_
        refine am_aload_n d_P_sharesWithStep_39 rfl rfl ?_
        refine am_iload_n d_P_sharesWithStep_40 rfl rfl ?_
        refine am_callF 2 (am_recvV (z := m_P_stepEnd) rfl d_P_sharesWithStep_41 w_626 w_628 ws_15 w_629 F_P.1 rfl (by decide) np_P_stepEnd) (by decide) (by decide) (Nat.le_of_ble_eq_true rfl) (Nat.le_of_ble_eq_true rfl) (Nat.zero_le _) (Nat.zero_le _) (c_P_stepEnd _ _ _ i (by omega)) ?_
        refine am_callF 4 (am_lkSN (host := "WorkPlans") (z := m_X_shareAnHour) d_P_sharesWithStep_44 (by decide +kernel) w_462 w_1 w_463 (by decide) np_X_shareAnHour) (by decide) (by decide) (Nat.le_of_ble_eq_true rfl) (Nat.le_of_ble_eq_true rfl) (Nat.zero_le _) (Nat.zero_le _) (c_X_shareAnHour _ _ _ _ _ _ _ (by omega) (by omega) (by omega) (by omega)) ?_
        refine am_ifZ_eq (tgt := 52) d_P_sharesWithStep_47 (by decide) (fun c47 => ?_) (fun c47 => ?_)
        · refine am_iinc d_P_sharesWithStep_52 rfl (am_inc _) (by decide) ?_
          refine am_goto (tgt := 2) d_P_sharesWithStep_55 (by decide) ?_
          exact am_lo (L' := [(0, .ref 26), (1, .int (nI s)), (2, .int (nI (i + 1)))]) rfl (ih (i + 1) (by omega) (by omega) (by rw [sp_r3, hno, Bool.false_or, c47, Bool.and_false]))
        · refine am_iconst (v := nI 1) d_P_sharesWithStep_50 (by decide) ?_
          refine am_zret d_P_sharesWithStep_51 rfl (by decide) ?_
          exact ⟨by rw [sp_r3_t c19 c47 s (by omega), zI_t], rfl⟩
theorem c_P_sharesWithStep (hS : sh_ok S) (hP : pl_ok P) (d bc bs s : Nat) (hs : s < 24) : am_Fn G m_P_sharesWithStep (d + 1) bc bs [.ref 26, .int (nI s)] (hx x t S F R P W) (some (.int (zI (sp_r3 S P s s)))) (hx x t S F R P W) := by
  refine am_iconst (v := nI 0) d_P_sharesWithStep_0 (by decide) ?_
  refine am_istore_n d_P_sharesWithStep_1 rfl (by decide) ?_
  exact am_lo (L' := [(0, .ref 26), (1, .int (nI s)), (2, .int (nI 0))]) rfl (c_P_sharesWithStep_l hS hP d bc bs s hs (s + 1) 0 (Nat.zero_le _) (by omega) rfl)
set_option maxRecDepth 20000 in
theorem c_P_sharesWithSpan_l (hS : sh_ok S) (hP : pl_ok P) (d bc bs s : Nat) (hs : s < 24) : ∀ (n i : Nat), i ≤ sh_sp S (pl_ma P s) → sh_sp S (pl_ma P s) - i < n → sp_r4 S P s i = false →
    am_W G m_P_sharesWithSpan (d + 1) bc bs (fun o h' => o = .inl (some (.int (zI (sp_r4 S P s (sh_sp S (pl_ma P s)))))) ∧ h' = (hx x t S F R P W)) 16 [(0, .ref 26), (1, .int (nI s)), (2, .int (nI (pl_ma P s))), (3, .int (nI i))] [] (hx x t S F R P W) := by
  intro n
  obtain ⟨s1, s2, s3, s4, s5, s6, s7, s8, s9, s10, s11, s12, s13, s14⟩ := id hS
  obtain ⟨p1, p2, p3, p4, p5, p6⟩ := id hP
  have w5 := p5 s
  have w6 := p6 s
  have w13 := s13 s
  have t5 := s5 (pl_ma P s)
  induction n with
  | zero => intro i _ h; omega
  | succ n ih =>
    intro i hi hn hno
    refine am_iload_n d_P_sharesWithSpan_16 rfl rfl ?_
    refine am_aload_n d_P_sharesWithSpan_17 rfl rfl ?_
    refine am_get F_P 0 (by decide) d_P_sharesWithSpan_18 w_178 rfl rfl ?_
    refine am_get F_S 2 (by decide) d_P_sharesWithSpan_21 w_36 rfl rfl ?_
    refine am_iload_n d_P_sharesWithSpan_24 rfl rfl ?_
    refine am_ialdA d_P_sharesWithSpan_25 rfl (by omega) (by decide) ?_
    refine am_icmpN_ge (tgt := 82) d_P_sharesWithSpan_26 (by decide) (by omega) (by omega) (fun c26 => ?_) (fun c26 => ?_)
    · refine am_iconst (v := nI 0) d_P_sharesWithSpan_82 (by decide) ?_
      refine am_zret d_P_sharesWithSpan_83 rfl (by decide) ?_
      have e : i = sh_sp S (pl_ma P s) := by omega
      subst e
      exact ⟨by rw [hno, zI_f], rfl⟩
    · have t6 := s6 (pl_ma P s * 8 + i)
      have t7 := s7 (pl_ma P s * 8 + i)
      refine am_iload_n d_P_sharesWithSpan_29 rfl rfl ?_
      refine am_bipush (v := nI 8) d_P_sharesWithSpan_30 (by decide) ?_
      refine am_imulN d_P_sharesWithSpan_32 ?_
      refine am_iload_n d_P_sharesWithSpan_33 rfl rfl ?_
      refine am_iaddN d_P_sharesWithSpan_34 ?_
      refine am_istore d_P_sharesWithSpan_35 (by decide) ?_
      refine am_aload_n d_P_sharesWithSpan_37 rfl rfl ?_
      refine am_get F_P 2 (by decide) d_P_sharesWithSpan_38 w_181 rfl rfl ?_
      refine am_iload_n d_P_sharesWithSpan_41 rfl rfl ?_
      refine am_ialdA d_P_sharesWithSpan_42 rfl (by omega) (by decide) ?_
      refine am_aload_n d_P_sharesWithSpan_43 rfl rfl ?_
      refine am_iload_n d_P_sharesWithSpan_44 rfl rfl ?_
      refine am_callF 2 (am_recvV (z := m_P_stepEnd) rfl d_P_sharesWithSpan_45 w_626 w_628 ws_15 w_629 F_P.1 rfl (by decide) np_P_stepEnd) (by decide) (by decide) (Nat.le_of_ble_eq_true rfl) (Nat.le_of_ble_eq_true rfl) (Nat.zero_le _) (Nat.zero_le _) (c_P_stepEnd _ _ _ s hs) ?_
      refine am_aload_n d_P_sharesWithSpan_48 rfl rfl ?_
      refine am_get F_P 0 (by decide) d_P_sharesWithSpan_49 w_178 rfl rfl ?_
      refine am_get F_S 3 (by decide) d_P_sharesWithSpan_52 w_39 rfl rfl ?_
      refine am_iload d_P_sharesWithSpan_55 rfl ?_
      refine am_ialdA d_P_sharesWithSpan_57 rfl (by omega) (by decide) ?_
      refine am_aload_n d_P_sharesWithSpan_58 rfl rfl ?_
      refine am_get F_P 0 (by decide) d_P_sharesWithSpan_59 w_178 rfl rfl ?_
      refine am_get F_S 4 (by decide) d_P_sharesWithSpan_62 w_42 rfl rfl ?_
      refine am_iload d_P_sharesWithSpan_65 rfl ?_
      refine am_ialdA d_P_sharesWithSpan_67 rfl (by omega) (by decide) ?_
      refine am_callF 4 (am_lkSN (host := "WorkPlans") (z := m_X_shareAnHour) d_P_sharesWithSpan_68 (by decide +kernel) w_462 w_1 w_463 (by decide) np_X_shareAnHour) (by decide) (by decide) (Nat.le_of_ble_eq_true rfl) (Nat.le_of_ble_eq_true rfl) (Nat.zero_le _) (Nat.zero_le _) (c_X_shareAnHour _ _ _ _ _ _ _ (by omega) (by omega) (by omega) (by omega)) ?_
      refine am_ifZ_eq (tgt := 76) d_P_sharesWithSpan_71 (by decide) (fun c71 => ?_) (fun c71 => ?_)
      · refine am_iinc d_P_sharesWithSpan_76 rfl (am_inc _) (by decide) ?_
        refine am_goto (tgt := 16) d_P_sharesWithSpan_79 (by decide) ?_
        exact am_lo (L' := [(0, .ref 26), (1, .int (nI s)), (2, .int (nI (pl_ma P s))), (3, .int (nI (i + 1)))]) rfl (ih (i + 1) (by omega) (by omega) (by rw [sp_r4, hno, Bool.false_or, c71]))
      · refine am_iconst (v := nI 1) d_P_sharesWithSpan_74 (by decide) ?_
        refine am_zret d_P_sharesWithSpan_75 rfl (by decide) ?_
        exact ⟨by rw [sp_r4_t c71 _ (by omega), zI_t], rfl⟩
theorem c_P_sharesWithSpan (hS : sh_ok S) (hP : pl_ok P) (d bc bs s : Nat) (hs : s < 24) : am_Fn G m_P_sharesWithSpan (d + 1) bc bs [.ref 26, .int (nI s)] (hx x t S F R P W) (some (.int (zI (sp_r4 S P s (sh_sp S (pl_ma P s)))))) (hx x t S F R P W) := by
  have w6 := hP.2.2.2.2.2 s
  refine am_aload_n d_P_sharesWithSpan_0 rfl rfl ?_
  refine am_get F_P 3 (by decide) d_P_sharesWithSpan_1 w_183 rfl rfl ?_
  refine am_iload_n d_P_sharesWithSpan_4 rfl rfl ?_
  refine am_ialdA d_P_sharesWithSpan_5 rfl (by omega) (by decide) ?_
  refine am_istore_n d_P_sharesWithSpan_6 rfl (by decide) ?_
  refine am_iload_n d_P_sharesWithSpan_7 rfl rfl ?_
  refine am_iconst (v := -1) d_P_sharesWithSpan_8 (by decide) ?_
  refine am_icmp_ne (tgt := 14) d_P_sharesWithSpan_9 (by decide) (fun c9 => ?_) (fun c9 => ?_)
  · refine am_iconst (v := nI 0) d_P_sharesWithSpan_14 (by decide) ?_
    refine am_istore_n d_P_sharesWithSpan_15 rfl (by decide) ?_
    exact am_lo (L' := [(0, .ref 26), (1, .int (nI s)), (2, .int (nI (pl_ma P s))), (3, .int (nI 0))]) rfl (c_P_sharesWithSpan_l hS hP d bc bs s hs (sh_sp S (pl_ma P s) + 1) 0 (Nat.zero_le _) (by omega) rfl)
  · exact absurd c9 (nI_m1 (by omega))
/-- the end of a job's last step, if the plan has it; else 0 -/
def sp_ed (S : sh_T) (P : pl_T) (j : Nat) : Nat := if sh_so S j = 0 then 0 else if sh_sa S (j * 4 + sh_so S j - 1) < pl_ss P then pl_bg P (sh_sa S (j * 4 + sh_so S j - 1)) + sh_sh S (sh_sa S (j * 4 + sh_so S j - 1)) else 0
theorem c_P_endOf (hS : sh_ok S) (hP : pl_ok P) (d bc bs j : Nat) (hj : j < 6) : am_Fn G m_P_endOf (d + 1) bc bs [.ref 26, .int (nI j)] (hx x t S F R P W) (some (.int (nI (sp_ed S P j)))) (hx x t S F R P W) := by
  have s11 := hS.2.2.2.2.2.2.2.2.2.2.1
  refine am_aload_n d_P_endOf_0 rfl rfl ?_
  refine am_get F_P 0 (by decide) d_P_endOf_1 w_178 rfl rfl ?_
  refine am_iload_n d_P_endOf_4 rfl rfl ?_
  refine am_callF 2 (am_recvV (z := m_S_lastStep) rfl d_P_endOf_5 w_643 w_409 w_410 w_411 F_S.1 rfl (by decide) np_S_lastStep) (by decide) (by decide) (Nat.le_of_ble_eq_true rfl) (Nat.le_of_ble_eq_true rfl) (Nat.zero_le _) (Nat.zero_le _) (c_S_lastStep hS _ _ _ j hj) ?_
  refine am_istore_n d_P_endOf_8 rfl (by decide) ?_
  refine am_aload_n d_P_endOf_9 rfl rfl ?_
  refine am_iload_n d_P_endOf_10 rfl rfl ?_
  refine am_callF 2 (am_recvV (z := m_P_has) rfl d_P_endOf_11 w_503 w_504 w_505 w_506 F_P.1 rfl (by decide) np_P_has) (by decide) (by decide) (Nat.le_of_ble_eq_true rfl) (Nat.le_of_ble_eq_true rfl) (Nat.zero_le _) (Nat.zero_le _) (c_P_has _ _ _ _) ?_
  by_cases e : sh_so S j = 0
  · rw [show sp_last S j = -1 from if_pos e, sp_hs_m]
    refine am_ifZ_eq (tgt := 25) d_P_endOf_14 (by decide) (fun c14 => ?_) (fun c14 => ?_)
    · refine am_iconst (v := nI 0) d_P_endOf_25 (by decide) ?_
      refine am_iret d_P_endOf_26 rfl ?_
      exact ⟨by rw [show sp_ed S P j = 0 from if_pos e], rfl⟩
    · exact absurd c14 (by decide)
  · rw [show sp_last S j = nI (sh_sa S (j * 4 + sh_so S j - 1)) from if_neg e, sp_hs_N hP (by have := s11 (j * 4 + sh_so S j - 1); omega)]
    refine am_ifZ_eq (tgt := 25) d_P_endOf_14 (by decide) (fun c14 => ?_) (fun c14 => ?_)
    · refine am_iconst (v := nI 0) d_P_endOf_25 (by decide) ?_
      refine am_iret d_P_endOf_26 rfl ?_
      exact ⟨by rw [show sp_ed S P j = 0 by unfold sp_ed; rw [if_neg e, if_neg (of_decide_eq_false c14)]], rfl⟩
    · refine am_aload_n d_P_endOf_17 rfl rfl ?_
      refine am_iload_n d_P_endOf_18 rfl rfl ?_
      refine am_callF 2 (am_recvV (z := m_P_stepEnd) rfl d_P_endOf_19 w_626 w_628 ws_15 w_629 F_P.1 rfl (by decide) np_P_stepEnd) (by decide) (by decide) (Nat.le_of_ble_eq_true rfl) (Nat.le_of_ble_eq_true rfl) (Nat.zero_le _) (Nat.zero_le _) (c_P_stepEnd _ _ _ _ (s11 _)) ?_
      refine am_goto (tgt := 26) d_P_endOf_22 (by decide) ?_
      refine am_iret d_P_endOf_26 rfl ?_
      exact ⟨by rw [show sp_ed S P j = pl_bg P (sh_sa S (j * 4 + sh_so S j - 1)) + sh_sh S (sh_sa S (j * 4 + sh_so S j - 1)) by unfold sp_ed; rw [if_neg e, if_pos (of_decide_eq_true c14)]], rfl⟩
/-- a step breaks a rule -/
def sp_br (S : sh_T) (P : pl_T) (ob : Option Nat) (s : Nat) : Nat → Bool
  | 1 => !decide (s < pl_ss P)
  | 2 => sp_r2 S P s ob
  | 3 => sp_r3 S P s s
  | 4 => sp_r4 S P s (sh_sp S (pl_ma P s))
  | _ => false
theorem c_P_breaks (hS : sh_ok S) (hP : pl_ok P) (d bc bs r s : Nat) (h1 : 1 ≤ r) (h4 : r ≤ 4) (hs : s < 24) (ob : Option Nat) (hsb : sh_sb S s = oI ob) (hob : ∀ b, ob = some b → b < 24) : am_Fn G m_P_breaks (d + 2) bc bs [.ref 26, .int (nI r), .int (nI s)] (hx x t S F R P W) (some (.int (zI (sp_br S P ob s r)))) (hx x t S F R P W) := by
  have hr : r = 1 ∨ r = 2 ∨ r = 3 ∨ r = 4 := by omega
  rcases hr with rfl | rfl | rfl | rfl
  · refine am_iload_n d_P_breaks_0 rfl rfl ?_
    refine am_tableIn (tgt := 32) d_P_breaks_1 (by decide) (by decide) rfl (by decide) ?_
    refine am_aload_n d_P_breaks_32 rfl rfl ?_
    refine am_iload_n d_P_breaks_33 rfl rfl ?_
    refine am_callF 2 (am_recvV (z := m_P_has) rfl d_P_breaks_34 w_503 w_504 w_505 w_506 F_P.1 rfl (by decide) np_P_has) (by decide) (by decide) (Nat.le_of_ble_eq_true rfl) (Nat.le_of_ble_eq_true rfl) (Nat.zero_le _) (Nat.zero_le _) (c_P_has _ _ _ _) ?_
    rw [sp_hs_N hP (by omega)]
    refine am_ifZ_ne (tgt := 44) d_P_breaks_37 (by decide) (fun c37 => ?_) (fun c37 => ?_)
    · refine am_iconst (v := nI 0) d_P_breaks_44 (by decide) ?_
      refine am_zret d_P_breaks_45 rfl (by decide) ?_
      exact ⟨by rw [show sp_br S P ob s 1 = false by unfold sp_br; rw [c37]; rfl, zI_f], rfl⟩
    · refine am_iconst (v := nI 1) d_P_breaks_40 (by decide) ?_
      refine am_goto (tgt := 45) d_P_breaks_41 (by decide) ?_
      refine am_zret d_P_breaks_45 rfl (by decide) ?_
      exact ⟨by rw [show sp_br S P ob s 1 = true by unfold sp_br; rw [c37]; rfl, zI_t], rfl⟩
  · refine am_iload_n d_P_breaks_0 rfl rfl ?_
    refine am_tableIn (tgt := 46) d_P_breaks_1 (by decide) (by decide) rfl (by decide) ?_
    refine am_aload_n d_P_breaks_46 rfl rfl ?_
    refine am_iload_n d_P_breaks_47 rfl rfl ?_
    refine am_callF 2 (am_recvV (z := m_P_beginsTooEarly) rfl d_P_breaks_48 w_622 w_624 ws_14 w_625 F_P.1 rfl (by decide) np_P_beginsTooEarly) (by decide) (by decide) (Nat.le_of_ble_eq_true rfl) (Nat.le_of_ble_eq_true rfl) (Nat.zero_le _) (Nat.zero_le _) (c_P_beginsTooEarly hS hP _ _ _ s hs ob hsb hob) ?_
    refine am_zret d_P_breaks_51 rfl (zI_n _) ?_
    exact ⟨rfl, rfl⟩
  · refine am_iload_n d_P_breaks_0 rfl rfl ?_
    refine am_tableIn (tgt := 52) d_P_breaks_1 (by decide) (by decide) rfl (by decide) ?_
    refine am_aload_n d_P_breaks_52 rfl rfl ?_
    refine am_iload_n d_P_breaks_53 rfl rfl ?_
    refine am_callF 2 (am_recvV (z := m_P_sharesWithStep) rfl d_P_breaks_54 w_630 w_632 ws_16 w_633 F_P.1 rfl (by decide) np_P_sharesWithStep) (by decide) (by decide) (Nat.le_of_ble_eq_true rfl) (Nat.le_of_ble_eq_true rfl) (Nat.zero_le _) (Nat.zero_le _) (c_P_sharesWithStep hS hP _ _ _ s hs) ?_
    refine am_zret d_P_breaks_57 rfl (zI_n _) ?_
    exact ⟨rfl, rfl⟩
  · refine am_iload_n d_P_breaks_0 rfl rfl ?_
    refine am_tableIn (tgt := 58) d_P_breaks_1 (by decide) (by decide) rfl (by decide) ?_
    refine am_aload_n d_P_breaks_58 rfl rfl ?_
    refine am_iload_n d_P_breaks_59 rfl rfl ?_
    refine am_callF 2 (am_recvV (z := m_P_sharesWithSpan) rfl d_P_breaks_60 w_635 w_637 ws_17 w_638 F_P.1 rfl (by decide) np_P_sharesWithSpan) (by decide) (by decide) (Nat.le_of_ble_eq_true rfl) (Nat.le_of_ble_eq_true rfl) (Nat.zero_le _) (Nat.zero_le _) (c_P_sharesWithSpan hS hP _ _ _ s hs) ?_
    refine am_zret d_P_breaks_63 rfl (zI_n _) ?_
    exact ⟨rfl, rfl⟩
end CPA
end
section
/-! the face: contracts -/
theorem oA_6 : am_oA "WorkPlans" 57 "java/lang/IllegalArgumentException" := by unfold am_oA; decide +kernel
theorem oA_7 : am_oA "WorkPlans" 68 "java/lang/IllegalStateException" := by unfold am_oA; decide +kernel
theorem oA_8 : am_oA "WorkPlans" 77 "java/lang/IndexOutOfBoundsException" := by unfold am_oA; decide +kernel
theorem hx_app (x : Int64) (t : Bool) (S : sh_T) (F : fl_T) (R : se_T) (P : pl_T) (W : am_H) (e : am_E) : hx x t S F R P W ++ [e] = hx x t S F R P (W ++ [e]) := rfl
/-- how a call of the face ends: cd is the document's case, 0 if it answers; cs are the exceptions' kinds -/
def fQ (cs : List Nat) (cd : Nat) (h : am_H) (K : Option Value → am_H → Prop) : am_O → am_H → Prop := fun o h' =>
  match cd with
  | 0 => ∃ v, o = .inl v ∧ K v h'
  | c + 1 => ∃ ci, cs[c]? = some ci ∧ o = .inr (ci, h.length + 1) ∧ h' = h ++ [.inr (ci, [])]
theorem nI_rg {v : Int32} {a b : Nat} (ha : nI a ≤ v) (hb : v ≤ nI b) (hb2 : b < 2 ^ 31) (hab : a < 2 ^ 31) : ∃ n, v = nI n ∧ a ≤ n ∧ n ≤ b := by
  have h1 := Int32.le_iff_toInt_le.mp ha
  have h2 := Int32.le_iff_toInt_le.mp hb
  rw [nI_toInt hab] at h1
  rw [nI_toInt hb2] at h2
  refine ⟨v.toInt.toNat, ?_, by omega, by omega⟩
  apply Int32.toInt_inj.mp
  rw [nI_toInt (by omega)]
  omega
theorem i_nlt {a b : Int32} (h : ¬ a < b) : b ≤ a := by
  rw [Int32.lt_iff_toInt_lt] at h
  exact Int32.le_iff_toInt_le.mpr (by omega)
theorem i_nle {a b : Int32} (h : ¬ a ≤ b) : b < a := by
  rw [Int32.le_iff_toInt_le] at h
  exact Int32.lt_iff_toInt_lt.mpr (by omega)
theorem sp_in_t {v : Int32} {a b : Nat} (h : sp_in v (nI a) (nI b) = true) (ha : a < 2 ^ 31) (hb : b < 2 ^ 31) : ∃ n, v = nI n ∧ a ≤ n ∧ n ≤ b := by
  unfold sp_in at h
  rw [Bool.and_eq_true, decide_eq_true_iff, decide_eq_true_iff] at h
  exact nI_rg (i_nlt h.1) (i_nlt h.2) hb ha
theorem sp_ix_t {v : Int32} {a : Nat} (h : sp_in v (nI 0) (nI a - nI 1) = true) (ha : a < 2 ^ 31) : ∃ n, v = nI n ∧ n < a := by
  rcases Nat.eq_zero_or_pos a with e | e
  · subst e
    unfold sp_in at h
    rw [Bool.and_eq_true, decide_eq_true_iff, decide_eq_true_iff] at h
    have h1 := Int32.le_iff_toInt_le.mp (i_nlt h.1)
    have h2 := Int32.le_iff_toInt_le.mp (i_nlt h.2)
    have e1 : (nI 0 - nI 1).toInt = -1 := by decide
    have e2 : (nI 0).toInt = 0 := by decide
    omega
  · rw [pk_sub e] at h
    obtain ⟨n, h1, -, h3⟩ := sp_in_t h (by decide) (by omega)
    exact ⟨n, h1, by omega⟩
/-- the sum of the numbers of steps -/
def sh_su (S : sh_T) : Prop := sh_ss S = sh_so S 0 + sh_so S 1 + sh_so S 2 + sh_so S 3 + sh_so S 4 + sh_so S 5
theorem sh_su_lt {S : sh_T} (hS : sh_ok S) (hu : sh_su S) {j : Nat} (hj : j < 6) (h : sh_so S j < 4) : sh_ss S < 24 := by
  have s10 := hS.2.2.2.2.2.2.2.2.2.1
  have a0 := s10 0
  have a1 := s10 1
  have a2 := s10 2
  have a3 := s10 3
  have a4 := s10 4
  have a5 := s10 5
  unfold sh_su at hu
  have hc : j = 0 ∨ j = 1 ∨ j = 2 ∨ j = 3 ∨ j = 4 ∨ j = 5 := by omega
  rcases hc with rfl | rfl | rfl | rfl | rfl | rfl <;> omega
/-! the cases of a call, in the document's order -/
def cd_machine (S : sh_T) (k : Int32) : Nat := if sp_in k (nI 0) (nI 3) = true then if 6 ≤ sh_mc S then 2 else 0 else 1
def cd_out (S : sh_T) (m a b : Int32) : Nat := if sp_in m (nI 0) (nI (sh_mc S) - nI 1) = true then if sp_in a (nI 0) (nI 1000) = true ∧ ¬ b ≤ a ∧ b ≤ nI 2000 then if 8 ≤ sh_sp S m.toNatClampNeg then 3 else 0 else 2 else 1
def cd_job (S : sh_T) (a b : Int32) : Nat := if sp_in a (nI 0) (nI 10000) = true ∧ sp_in b (nI 0) (nI 100) = true then if 6 ≤ sh_jb S then 2 else 0 else 1
def cd_due (S : sh_T) (j a : Int32) : Nat := if sp_in j (nI 0) (nI (sh_jb S) - nI 1) = true then if sp_in a (nI 0) (nI 10000) = true then 0 else 2 else 1
def cd_step (S : sh_T) (j k h w : Int32) : Nat := if sp_in j (nI 0) (nI (sh_jb S) - nI 1) = true then if sp_in k (nI 0) (nI 3) = true ∧ sp_in h (nI 1) (nI 100) = true ∧ sp_in w (nI 0) (nI 100) = true then if 4 ≤ sh_so S j.toNatClampNeg then 3 else 0 else 2 else 1
def cd_run (S : sh_T) (n : Int32) : Nat := if sp_in n (nI 1) (nI 2000) = true then if sh_jb S = 0 ∨ sp_all S (sh_jb S) = false then 2 else 0 else 1
def cd_improve (P : pl_T) (t : Bool) (n : Int32) : Nat := if sp_in n (nI 0) (nI 100) = true then if 0 < pl_jb P ∧ t = false then 0 else 2 else 1
def cd_at (S : sh_T) (P : pl_T) (s w : Int32) : Nat := if sp_in s (nI 0) (nI (sh_ss S) - nI 1) = true ∧ sp_in w (nI 0) (nI 1) = true then if 0 < pl_jb P then 0 else 2 else 1
def cd_order (P : pl_T) (k : Int32) : Nat := if 0 < pl_jb P then if sp_in k (nI 0) (nI (pl_jb P) - nI 1) = true then 0 else 2 else 1
def cd_about (P : pl_T) (w : Int32) : Nat := if sp_in w (nI 0) (nI 3) = true then if 0 < pl_jb P then 0 else 2 else 1
def cd_alone (S : sh_T) (j : Int32) : Nat := if sp_in j (nI 0) (nI (sh_jb S) - nI 1) = true then if sp_fits S j.toNatClampNeg = true then 0 else 2 else 1
def cd_promise (S : sh_T) (P : pl_T) (t : Bool) (j : Int32) : Nat := if sp_in j (nI 0) (nI (sh_jb S) - nI 1) = true then if 0 < pl_jb P ∧ t = false then 0 else 2 else 1
def cd_clash (S : sh_T) (k : Int32) : Nat := if k < 0 then 1 else if sp_all S (sh_jb S) = true then 0 else 2
def cd_check (P : pl_T) : Nat := if 0 < pl_jb P then 0 else 1
section CXA
variable {G : am_G} {x : Int64} {t : Bool} {S : sh_T} {F : fl_T} {R : se_T} {P : pl_T} {W : am_H} {jo : Nat → Nat}
theorem c_X_demandJob_1 (d bc bs : Nat) (hd : 6 ≤ d) (hb1 : 1 ≤ bc) (hb2 : 6 ≤ bs) (j : Int32) (hj : sp_in j (nI 0) (nI (sh_jb S) - nI 1) = false) : am_Tn G m_X_demandJob (d + 1) bc bs [.ref 1, .int j] (hx x t S F R P W) 8 := by
  refine am_iload_n d_X_demandJob_0 rfl rfl ?_
  refine am_iconst (v := nI 0) d_X_demandJob_1 (by decide) ?_
  refine am_aload_n d_X_demandJob_2 rfl rfl ?_
  refine am_get F_X 0 (by decide) d_X_demandJob_3 w_217 rfl rfl ?_
  refine am_get F_S 5 (by decide) d_X_demandJob_6 w_46 rfl rfl ?_
  refine am_iconst (v := nI 1) d_X_demandJob_9 (by decide) ?_
  refine am_isub d_X_demandJob_10 ?_
  refine am_callF 3 (am_lkS (z := m_X_isWithin) d_X_demandJob_11 w_248 w_249 w_1 w_250 (by decide) np_X_isWithin) (by decide) (by decide) (Nat.le_of_ble_eq_true rfl) (Nat.le_of_ble_eq_true rfl) (Nat.zero_le _) (Nat.zero_le _) (c_X_isWithin _ _ _ _ _ _) ?_
  refine am_ifZ_ne (tgt := 27) d_X_demandJob_14 (by decide) (fun c14 => ?_) (fun c14 => ?_)
  · exact absurd (hj.symm.trans c14) (by decide)
  · refine am_throwS (ci := 8) (tx := "no such job") d_X_demandJob_17 d_X_demandJob_20 d_X_demandJob_21 d_X_demandJob_23 d_X_demandJob_26 rfl rfl w_347 w_348 w_12 (by decide) oA_8 (by decide +kernel) (by omega) (by omega) (by omega) (Nat.le_of_ble_eq_true rfl) rfl ?_
    exact ⟨rfl, rfl⟩
theorem c_X_demandJob_0 (d bc bs : Nat) (j : Int32) (hj : sp_in j (nI 0) (nI (sh_jb S) - nI 1) = true) : am_Fn G m_X_demandJob (d + 1) bc bs [.ref 1, .int j] (hx x t S F R P W) none (hx x t S F R P W) := by
  refine am_iload_n d_X_demandJob_0 rfl rfl ?_
  refine am_iconst (v := nI 0) d_X_demandJob_1 (by decide) ?_
  refine am_aload_n d_X_demandJob_2 rfl rfl ?_
  refine am_get F_X 0 (by decide) d_X_demandJob_3 w_217 rfl rfl ?_
  refine am_get F_S 5 (by decide) d_X_demandJob_6 w_46 rfl rfl ?_
  refine am_iconst (v := nI 1) d_X_demandJob_9 (by decide) ?_
  refine am_isub d_X_demandJob_10 ?_
  refine am_callF 3 (am_lkS (z := m_X_isWithin) d_X_demandJob_11 w_248 w_249 w_1 w_250 (by decide) np_X_isWithin) (by decide) (by decide) (Nat.le_of_ble_eq_true rfl) (Nat.le_of_ble_eq_true rfl) (Nat.zero_le _) (Nat.zero_le _) (c_X_isWithin _ _ _ _ _ _) ?_
  refine am_ifZ_ne (tgt := 27) d_X_demandJob_14 (by decide) (fun c14 => ?_) (fun c14 => ?_)
  · refine am_vret d_X_demandJob_27 rfl ?_
    exact ⟨rfl, rfl⟩
  · exact absurd (hj.symm.trans c14) (by decide)
theorem c_X_demandPlan_1 (hP : pl_ok P) (d bc bs : Nat) (hd : 6 ≤ d) (hb1 : 1 ≤ bc) (hb2 : 6 ≤ bs) (hj : pl_jb P = 0) : am_Tn G m_X_demandPlan (d + 1) bc bs [.ref 1] (hx x t S F R P W) 7 := by
  refine am_aload_n d_X_demandPlan_0 rfl rfl ?_
  refine am_get F_X 3 (by decide) d_X_demandPlan_1 w_220 rfl rfl ?_
  refine am_callF 1 (am_recvV (z := m_P_exists) rfl d_X_demandPlan_4 w_520 w_521 w_522 w_523 F_P.1 rfl (by decide) np_P_exists) (by decide) (by decide) (Nat.le_of_ble_eq_true rfl) (Nat.le_of_ble_eq_true rfl) (Nat.zero_le _) (Nat.zero_le _) (c_P_exists hP _ _ _) ?_
  refine am_ifZ_ne (tgt := 20) d_X_demandPlan_7 (by decide) (fun c7 => ?_) (fun c7 => ?_)
  · exact absurd (of_decide_eq_true c7) (by omega)
  · refine am_throwS (ci := 7) (tx := "no plan") d_X_demandPlan_10 d_X_demandPlan_13 d_X_demandPlan_14 d_X_demandPlan_16 d_X_demandPlan_19 rfl rfl w_319 w_320 w_11 (by decide) oA_7 (by decide +kernel) (by omega) (by omega) (by omega) (Nat.le_of_ble_eq_true rfl) rfl ?_
    exact ⟨rfl, rfl⟩
theorem c_X_demandPlan_0 (hP : pl_ok P) (d bc bs : Nat) (hj : 0 < pl_jb P) : am_Fn G m_X_demandPlan (d + 1) bc bs [.ref 1] (hx x t S F R P W) none (hx x t S F R P W) := by
  refine am_aload_n d_X_demandPlan_0 rfl rfl ?_
  refine am_get F_X 3 (by decide) d_X_demandPlan_1 w_220 rfl rfl ?_
  refine am_callF 1 (am_recvV (z := m_P_exists) rfl d_X_demandPlan_4 w_520 w_521 w_522 w_523 F_P.1 rfl (by decide) np_P_exists) (by decide) (by decide) (Nat.le_of_ble_eq_true rfl) (Nat.le_of_ble_eq_true rfl) (Nat.zero_le _) (Nat.zero_le _) (c_P_exists hP _ _ _) ?_
  refine am_ifZ_ne (tgt := 20) d_X_demandPlan_7 (by decide) (fun c7 => ?_) (fun c7 => ?_)
  · refine am_vret d_X_demandPlan_20 rfl ?_
    exact ⟨rfl, rfl⟩
  · exact absurd (of_decide_eq_false c7) (by omega)
theorem c_X_demandFreshPlan_1 (hP : pl_ok P) (d bc bs : Nat) (hd : 6 ≤ d) (hb1 : 1 ≤ bc) (hb2 : 6 ≤ bs) (hj : ¬ (0 < pl_jb P ∧ t = false)) : am_Tn G m_X_demandFreshPlan (d + 1) bc bs [.ref 1] (hx x t S F R P W) 7 := by
  refine am_aload_n d_X_demandFreshPlan_0 rfl rfl ?_
  refine am_get F_X 3 (by decide) d_X_demandFreshPlan_1 w_220 rfl rfl ?_
  refine am_callF 1 (am_recvV (z := m_P_exists) rfl d_X_demandFreshPlan_4 w_520 w_521 w_522 w_523 F_P.1 rfl (by decide) np_P_exists) (by decide) (by decide) (Nat.le_of_ble_eq_true rfl) (Nat.le_of_ble_eq_true rfl) (Nat.zero_le _) (Nat.zero_le _) (c_P_exists hP _ _ _) ?_
  refine am_ifZ_eq (tgt := 17) d_X_demandFreshPlan_7 (by decide) (fun c7 => ?_) (fun c7 => ?_)
  · refine am_throwS (ci := 7) (tx := "no plan, or something was told since") d_X_demandFreshPlan_17 d_X_demandFreshPlan_20 d_X_demandFreshPlan_21 d_X_demandFreshPlan_23 d_X_demandFreshPlan_26 rfl rfl w_319 w_320 w_11 (by decide) oA_7 (by decide +kernel) (by omega) (by omega) (by omega) (Nat.le_of_ble_eq_true rfl) rfl ?_
    exact ⟨rfl, rfl⟩
  · refine am_aload_n d_X_demandFreshPlan_10 rfl rfl ?_
    refine am_get F_X 5 (by decide) d_X_demandFreshPlan_11 w_222 rfl rfl ?_
    refine am_ifZ_eq (tgt := 27) d_X_demandFreshPlan_14 (by decide) (fun c14 => ?_) (fun c14 => ?_)
    · exact absurd ⟨of_decide_eq_true c7, c14⟩ hj
    · refine am_throwS (ci := 7) (tx := "no plan, or something was told since") d_X_demandFreshPlan_17 d_X_demandFreshPlan_20 d_X_demandFreshPlan_21 d_X_demandFreshPlan_23 d_X_demandFreshPlan_26 rfl rfl w_319 w_320 w_11 (by decide) oA_7 (by decide +kernel) (by omega) (by omega) (by omega) (Nat.le_of_ble_eq_true rfl) rfl ?_
      exact ⟨rfl, rfl⟩
theorem c_X_demandFreshPlan_0 (hP : pl_ok P) (d bc bs : Nat) (hj : 0 < pl_jb P ∧ t = false) : am_Fn G m_X_demandFreshPlan (d + 1) bc bs [.ref 1] (hx x t S F R P W) none (hx x t S F R P W) := by
  refine am_aload_n d_X_demandFreshPlan_0 rfl rfl ?_
  refine am_get F_X 3 (by decide) d_X_demandFreshPlan_1 w_220 rfl rfl ?_
  refine am_callF 1 (am_recvV (z := m_P_exists) rfl d_X_demandFreshPlan_4 w_520 w_521 w_522 w_523 F_P.1 rfl (by decide) np_P_exists) (by decide) (by decide) (Nat.le_of_ble_eq_true rfl) (Nat.le_of_ble_eq_true rfl) (Nat.zero_le _) (Nat.zero_le _) (c_P_exists hP _ _ _) ?_
  refine am_ifZ_eq (tgt := 17) d_X_demandFreshPlan_7 (by decide) (fun c7 => ?_) (fun c7 => ?_)
  · exact absurd (of_decide_eq_false c7) (by omega)
  · refine am_aload_n d_X_demandFreshPlan_10 rfl rfl ?_
    refine am_get F_X 5 (by decide) d_X_demandFreshPlan_11 w_222 rfl rfl ?_
    refine am_ifZ_eq (tgt := 27) d_X_demandFreshPlan_14 (by decide) (fun c14 => ?_) (fun c14 => ?_)
    · refine am_vret d_X_demandFreshPlan_27 rfl ?_
      exact ⟨rfl, rfl⟩
    · exact absurd (hj.2.symm.trans c14) (by decide)
set_option maxRecDepth 20000 in
theorem c_X_machine (hS : sh_ok S) (d bc bs : Nat) (hd : 6 ≤ d) (hb1 : 1 ≤ bc) (hb2 : 6 ≤ bs) (k : Int32) : am_W G m_X_machine (d + 1) bc bs (fQ [6, 7] (cd_machine S k) (hx x t S F R P W) (fun v h' => ∃ n, k = nI n ∧ n ≤ 3 ∧ v = some (.int (nI (sh_mc S))) ∧ h' = (hx x true (sh_mc S + 1, nu (sh_kd S) (sh_mc S) n, S.2.2) F R P W))) 0 (lv_args 0 [.ref 1, .int k]) [] (hx x t S F R P W) := by
  obtain ⟨s1, s2, s3, s4, s5, s6, s7, s8, s9, s10, s11, s12, s13, s14⟩ := id hS
  refine am_iload_n d_X_machine_0 rfl rfl ?_
  refine am_iconst (v := nI 0) d_X_machine_1 (by decide) ?_
  refine am_iconst (v := nI 3) d_X_machine_2 (by decide) ?_
  refine am_callF 3 (am_lkS (z := m_X_isWithin) d_X_machine_3 w_248 w_249 w_1 w_250 (by decide) np_X_isWithin) (by decide) (by decide) (Nat.le_of_ble_eq_true rfl) (Nat.le_of_ble_eq_true rfl) (Nat.zero_le _) (Nat.zero_le _) (c_X_isWithin _ _ _ _ _ _) ?_
  refine am_ifZ_ne (tgt := 19) d_X_machine_6 (by decide) (fun c6 => ?_) (fun c6 => ?_)
  · refine am_aload_n d_X_machine_19 rfl rfl ?_
    refine am_get F_X 0 (by decide) d_X_machine_20 w_217 rfl rfl ?_
    refine am_get F_S 0 (by decide) d_X_machine_23 w_30 rfl rfl ?_
    refine am_bipush (v := nI 6) d_X_machine_26 (by decide) ?_
    refine am_icmpN_lt (tgt := 41) d_X_machine_28 (by decide) (by omega) (by omega) (fun c28 => ?_) (fun c28 => ?_)
    · obtain ⟨n, rfl, -, h3⟩ := sp_in_t c6 (by decide) (by decide)
      refine am_aload_n d_X_machine_41 rfl rfl ?_
      refine am_iconst (v := zI true) d_X_machine_42 (by decide) ?_
      refine am_put F_X 5 (by decide) d_X_machine_43 w_222 rfl rfl (Nat.le_of_ble_eq_true rfl) rfl rfl ?_
      refine am_aload_n d_X_machine_46 rfl rfl ?_
      refine am_get F_X 0 (by decide) d_X_machine_47 w_217 rfl rfl ?_
      refine am_iload_n d_X_machine_50 rfl rfl ?_
      refine am_callF 2 (am_recvV (z := m_S_addMachine) rfl d_X_machine_51 w_335 w_336 w_337 w_338 F_S.1 rfl (by decide) np_S_addMachine) (by decide) (by decide) (Nat.le_of_ble_eq_true rfl) (Nat.le_of_ble_eq_true rfl) (Nat.zero_le _) (Nat.zero_le _) (c_S_addMachine (t := true) hS _ _ _ n (by omega)) ?_
      refine am_iret d_X_machine_54 rfl ?_
      have ec : cd_machine S (nI n) = 0 := by unfold cd_machine; (try simp only [ek]); (repeat' split) <;> first | rfl | omega | simp_all
      rw [ec]
      exact ⟨_, rfl, n, rfl, h3, rfl, rfl⟩
    · refine am_throwS (ci := 7) (tx := "no room for a machine") d_X_machine_31 d_X_machine_34 d_X_machine_35 d_X_machine_37 d_X_machine_40 rfl rfl w_319 w_320 w_11 (by decide) oA_7 (by decide +kernel) (by omega) (by omega) (by omega) (Nat.le_of_ble_eq_true rfl) rfl ?_
      have ec : cd_machine S k = 2 := by unfold cd_machine; (try simp only [ek]); (repeat' split) <;> first | rfl | omega | simp_all
      rw [ec]
      exact ⟨_, rfl, rfl, rfl⟩
  · refine am_throwS (ci := 6) (tx := "no such kind") d_X_machine_9 d_X_machine_12 d_X_machine_13 d_X_machine_15 d_X_machine_18 rfl rfl w_251 w_252 w_10 (by decide) oA_6 (by decide +kernel) (by omega) (by omega) (by omega) (Nat.le_of_ble_eq_true rfl) rfl ?_
    have ec : cd_machine S k = 1 := by unfold cd_machine; (try simp only [ek]); (repeat' split) <;> first | rfl | omega | simp_all
    rw [ec]
    exact ⟨_, rfl, rfl, rfl⟩
theorem nI_rg2 {v : Int32} {a b : Nat} (ha : ¬ v ≤ nI a) (hb : v ≤ nI b) (ha2 : a < 2 ^ 30) (hb2 : b < 2 ^ 30) : ∃ n, v = nI n ∧ a < n ∧ n ≤ b := by
  have h1 := Int32.lt_iff_toInt_lt.mp (i_nle ha)
  rw [nI_toInt (by omega)] at h1
  have h2 : nI (a + 1) ≤ v := Int32.le_iff_toInt_le.mpr (by rw [nI_toInt (by omega)]; omega)
  obtain ⟨n, e1, e2, e3⟩ := nI_rg h2 hb (by omega) (by omega)
  exact ⟨n, e1, by omega, e3⟩
set_option maxRecDepth 20000 in
theorem c_X_out (hS : sh_ok S) (d bc bs : Nat) (hd : 6 ≤ d) (hb1 : 1 ≤ bc) (hb2 : 6 ≤ bs) (m u w : Int32) : am_W G m_X_out (d + 1) bc bs (fQ [8, 6, 7] (cd_out S m u w) (hx x t S F R P W) (fun v h' => ∃ i a b, m = nI i ∧ u = nI a ∧ w = nI b ∧ i < sh_mc S ∧ a ≤ 1000 ∧ b ≤ 2000 ∧ v = some (.int (nI (sh_sp S i + 1))) ∧ h' = (hx x true (sh_mc S, sh_kd S, nu (sh_sp S) i (sh_sp S i + 1), nu (sh_sf S) (i * 8 + sh_sp S i) a, nu (sh_st S) (i * 8 + sh_sp S i) b, S.2.2.2.2.2) F R P W))) 0 (lv_args 0 [.ref 1, .int m, .int u, .int w]) [] (hx x t S F R P W) := by
  obtain ⟨s1, s2, s3, s4, s5, s6, s7, s8, s9, s10, s11, s12, s13, s14⟩ := id hS
  refine am_iload_n d_X_out_0 rfl rfl ?_
  refine am_iconst (v := nI 0) d_X_out_1 (by decide) ?_
  refine am_aload_n d_X_out_2 rfl rfl ?_
  refine am_get F_X 0 (by decide) d_X_out_3 w_217 rfl rfl ?_
  refine am_get F_S 0 (by decide) d_X_out_6 w_30 rfl rfl ?_
  refine am_iconst (v := nI 1) d_X_out_9 (by decide) ?_
  refine am_isub d_X_out_10 ?_
  refine am_callF 3 (am_lkS (z := m_X_isWithin) d_X_out_11 w_248 w_249 w_1 w_250 (by decide) np_X_isWithin) (by decide) (by decide) (Nat.le_of_ble_eq_true rfl) (Nat.le_of_ble_eq_true rfl) (Nat.zero_le _) (Nat.zero_le _) (c_X_isWithin _ _ _ _ _ _) ?_
  refine am_ifZ_ne (tgt := 27) d_X_out_14 (by decide) (fun c14 => ?_) (fun c14 => ?_)
  · obtain ⟨i, rfl, hi⟩ := sp_ix_t c14 (by omega)
    have ek : (nI i).toNatClampNeg = i := nI_clamp (by omega)
    have t5 := s5 i
    refine am_iload_n d_X_out_27 rfl rfl ?_
    refine am_iconst (v := nI 0) d_X_out_28 (by decide) ?_
    refine am_sipush (v := nI 1000) d_X_out_29 (by decide) ?_
    refine am_callF 3 (am_lkS (z := m_X_isWithin) d_X_out_32 w_248 w_249 w_1 w_250 (by decide) np_X_isWithin) (by decide) (by decide) (Nat.le_of_ble_eq_true rfl) (Nat.le_of_ble_eq_true rfl) (Nat.zero_le _) (Nat.zero_le _) (c_X_isWithin _ _ _ _ _ _) ?_
    refine am_ifZ_eq (tgt := 50) d_X_out_35 (by decide) (fun c35 => ?_) (fun c35 => ?_)
    · refine am_throwS (ci := 6) (tx := "no such span") d_X_out_50 d_X_out_53 d_X_out_54 d_X_out_56 d_X_out_59 rfl rfl w_251 w_252 w_10 (by decide) oA_6 (by decide +kernel) (by omega) (by omega) (by omega) (Nat.le_of_ble_eq_true rfl) rfl ?_
      have ec : cd_out S (nI i) u w = 2 := by unfold cd_out; (try simp only [ek]); (repeat' split) <;> first | rfl | omega | simp_all
      rw [ec]
      exact ⟨_, rfl, rfl, rfl⟩
    · refine am_iload_n d_X_out_38 rfl rfl ?_
      refine am_iload_n d_X_out_39 rfl rfl ?_
      refine am_icmp_le (tgt := 50) d_X_out_40 (by decide) (fun c40 => ?_) (fun c40 => ?_)
      · refine am_throwS (ci := 6) (tx := "no such span") d_X_out_50 d_X_out_53 d_X_out_54 d_X_out_56 d_X_out_59 rfl rfl w_251 w_252 w_10 (by decide) oA_6 (by decide +kernel) (by omega) (by omega) (by omega) (Nat.le_of_ble_eq_true rfl) rfl ?_
        have ec : cd_out S (nI i) u w = 2 := by unfold cd_out; (try simp only [ek]); (repeat' split) <;> first | rfl | omega | simp_all
        rw [ec]
        exact ⟨_, rfl, rfl, rfl⟩
      · refine am_iload_n d_X_out_43 rfl rfl ?_
        refine am_sipush (v := nI 2000) d_X_out_44 (by decide) ?_
        refine am_icmp_le (tgt := 60) d_X_out_47 (by decide) (fun c47 => ?_) (fun c47 => ?_)
        · obtain ⟨a, rfl, -, ha⟩ := sp_in_t c35 (by decide) (by decide)
          obtain ⟨b, rfl, hb⟩ := nI_rg2 c40 c47 (by omega) (by decide)
          refine am_aload_n d_X_out_60 rfl rfl ?_
          refine am_get F_X 0 (by decide) d_X_out_61 w_217 rfl rfl ?_
          refine am_get F_S 2 (by decide) d_X_out_64 w_35 rfl rfl ?_
          refine am_iload_n d_X_out_67 rfl rfl ?_
          refine am_ialdA d_X_out_68 rfl (by omega) (by decide) ?_
          refine am_bipush (v := nI 8) d_X_out_69 (by decide) ?_
          refine am_icmpN_lt (tgt := 84) d_X_out_71 (by decide) (by omega) (by omega) (fun c71 => ?_) (fun c71 => ?_)
          · refine am_aload_n d_X_out_84 rfl rfl ?_
            refine am_iconst (v := zI true) d_X_out_85 (by decide) ?_
            refine am_put F_X 5 (by decide) d_X_out_86 w_222 rfl rfl (Nat.le_of_ble_eq_true rfl) rfl rfl ?_
            refine am_aload_n d_X_out_89 rfl rfl ?_
            refine am_get F_X 0 (by decide) d_X_out_90 w_217 rfl rfl ?_
            refine am_iload_n d_X_out_93 rfl rfl ?_
            refine am_iload_n d_X_out_94 rfl rfl ?_
            refine am_iload_n d_X_out_95 rfl rfl ?_
            refine am_callF 4 (am_recvV (z := m_S_addSpan) rfl d_X_out_96 w_365 w_366 w_367 w_368 F_S.1 rfl (by decide) np_S_addSpan) (by decide) (by decide) (Nat.le_of_ble_eq_true rfl) (Nat.le_of_ble_eq_true rfl) (Nat.zero_le _) (Nat.zero_le _) (c_S_addSpan (t := true) hS _ _ _ i a b (by omega) (by omega)) ?_
            refine am_iret d_X_out_99 rfl ?_
            have ec : cd_out S (nI i) (nI a) (nI b) = 0 := by unfold cd_out; (try simp only [ek]); (repeat' split) <;> first | rfl | omega | simp_all
            rw [ec]
            exact ⟨_, rfl, i, a, b, rfl, rfl, rfl, hi, by omega, by omega, rfl, rfl⟩
          · refine am_throwS (ci := 7) (tx := "no room for a span") d_X_out_74 d_X_out_77 d_X_out_78 d_X_out_80 d_X_out_83 rfl rfl w_319 w_320 w_11 (by decide) oA_7 (by decide +kernel) (by omega) (by omega) (by omega) (Nat.le_of_ble_eq_true rfl) rfl ?_
            have ec : cd_out S (nI i) (nI a) (nI b) = 3 := by unfold cd_out; (try simp only [ek]); (repeat' split) <;> first | rfl | omega | simp_all
            rw [ec]
            exact ⟨_, rfl, rfl, rfl⟩
        · refine am_throwS (ci := 6) (tx := "no such span") d_X_out_50 d_X_out_53 d_X_out_54 d_X_out_56 d_X_out_59 rfl rfl w_251 w_252 w_10 (by decide) oA_6 (by decide +kernel) (by omega) (by omega) (by omega) (Nat.le_of_ble_eq_true rfl) rfl ?_
          have ec : cd_out S (nI i) u w = 2 := by unfold cd_out; (try simp only [ek]); (repeat' split) <;> first | rfl | omega | simp_all
          rw [ec]
          exact ⟨_, rfl, rfl, rfl⟩
  · refine am_throwS (ci := 8) (tx := "no such machine") d_X_out_17 d_X_out_20 d_X_out_21 d_X_out_23 d_X_out_26 rfl rfl w_347 w_348 w_12 (by decide) oA_8 (by decide +kernel) (by omega) (by omega) (by omega) (Nat.le_of_ble_eq_true rfl) rfl ?_
    have ec : cd_out S m u w = 1 := by unfold cd_out; (try simp only [ek]); (repeat' split) <;> first | rfl | omega | simp_all
    rw [ec]
    exact ⟨_, rfl, rfl, rfl⟩
set_option maxRecDepth 20000 in
theorem c_X_job (hS : sh_ok S) (d bc bs : Nat) (hd : 6 ≤ d) (hb1 : 1 ≤ bc) (hb2 : 6 ≤ bs) (u w : Int32) : am_W G m_X_job (d + 1) bc bs (fQ [6, 7] (cd_job S u w) (hx x t S F R P W) (fun v h' => ∃ a b, u = nI a ∧ w = nI b ∧ a ≤ 10000 ∧ b ≤ 100 ∧ v = some (.int (nI (sh_jb S))) ∧ h' = (hx x true (sh_mc S, sh_kd S, sh_sp S, sh_sf S, sh_st S, sh_jb S + 1, nu (sh_du S) (sh_jb S) a, nu (sh_we S) (sh_jb S) b, S.2.2.2.2.2.2.2.2) F R P W))) 0 (lv_args 0 [.ref 1, .int u, .int w]) [] (hx x t S F R P W) := by
  obtain ⟨s1, s2, s3, s4, s5, s6, s7, s8, s9, s10, s11, s12, s13, s14⟩ := id hS
  refine am_iload_n d_X_job_0 rfl rfl ?_
  refine am_iconst (v := nI 0) d_X_job_1 (by decide) ?_
  refine am_sipush (v := nI 10000) d_X_job_2 (by decide) ?_
  refine am_callF 3 (am_lkS (z := m_X_isWithin) d_X_job_5 w_248 w_249 w_1 w_250 (by decide) np_X_isWithin) (by decide) (by decide) (Nat.le_of_ble_eq_true rfl) (Nat.le_of_ble_eq_true rfl) (Nat.zero_le _) (Nat.zero_le _) (c_X_isWithin _ _ _ _ _ _) ?_
  refine am_ifZ_eq (tgt := 21) d_X_job_8 (by decide) (fun c8 => ?_) (fun c8 => ?_)
  · refine am_throwS (ci := 6) (tx := "no such due hour or weight") d_X_job_21 d_X_job_24 d_X_job_25 d_X_job_27 d_X_job_30 rfl rfl w_251 w_252 w_10 (by decide) oA_6 (by decide +kernel) (by omega) (by omega) (by omega) (Nat.le_of_ble_eq_true rfl) rfl ?_
    have ec : cd_job S u w = 1 := by unfold cd_job; (try simp only [ek]); (repeat' split) <;> first | rfl | omega | simp_all
    rw [ec]
    exact ⟨_, rfl, rfl, rfl⟩
  · refine am_iload_n d_X_job_11 rfl rfl ?_
    refine am_iconst (v := nI 0) d_X_job_12 (by decide) ?_
    refine am_bipush (v := nI 100) d_X_job_13 (by decide) ?_
    refine am_callF 3 (am_lkS (z := m_X_isWithin) d_X_job_15 w_248 w_249 w_1 w_250 (by decide) np_X_isWithin) (by decide) (by decide) (Nat.le_of_ble_eq_true rfl) (Nat.le_of_ble_eq_true rfl) (Nat.zero_le _) (Nat.zero_le _) (c_X_isWithin _ _ _ _ _ _) ?_
    refine am_ifZ_ne (tgt := 31) d_X_job_18 (by decide) (fun c18 => ?_) (fun c18 => ?_)
    · refine am_aload_n d_X_job_31 rfl rfl ?_
      refine am_get F_X 0 (by decide) d_X_job_32 w_217 rfl rfl ?_
      refine am_get F_S 5 (by decide) d_X_job_35 w_46 rfl rfl ?_
      refine am_bipush (v := nI 6) d_X_job_38 (by decide) ?_
      refine am_icmpN_lt (tgt := 53) d_X_job_40 (by decide) (by omega) (by omega) (fun c40 => ?_) (fun c40 => ?_)
      · obtain ⟨a, rfl, -, ha⟩ := sp_in_t c8 (by decide) (by decide)
        obtain ⟨b, rfl, -, hb⟩ := sp_in_t c18 (by decide) (by decide)
        refine am_aload_n d_X_job_53 rfl rfl ?_
        refine am_iconst (v := zI true) d_X_job_54 (by decide) ?_
        refine am_put F_X 5 (by decide) d_X_job_55 w_222 rfl rfl (Nat.le_of_ble_eq_true rfl) rfl rfl ?_
        refine am_aload_n d_X_job_58 rfl rfl ?_
        refine am_get F_X 0 (by decide) d_X_job_59 w_217 rfl rfl ?_
        refine am_iload_n d_X_job_62 rfl rfl ?_
        refine am_iload_n d_X_job_63 rfl rfl ?_
        refine am_callF 3 (am_recvV (z := m_S_addJob) rfl d_X_job_64 w_378 w_379 w_380 w_381 F_S.1 rfl (by decide) np_S_addJob) (by decide) (by decide) (Nat.le_of_ble_eq_true rfl) (Nat.le_of_ble_eq_true rfl) (Nat.zero_le _) (Nat.zero_le _) (c_S_addJob (t := true) hS _ _ _ a b (by omega)) ?_
        refine am_iret d_X_job_67 rfl ?_
        have ec : cd_job S (nI a) (nI b) = 0 := by unfold cd_job; (try simp only [ek]); (repeat' split) <;> first | rfl | omega | simp_all
        rw [ec]
        exact ⟨_, rfl, a, b, rfl, rfl, ha, hb, rfl, rfl⟩
      · refine am_throwS (ci := 7) (tx := "no room for a job") d_X_job_43 d_X_job_46 d_X_job_47 d_X_job_49 d_X_job_52 rfl rfl w_319 w_320 w_11 (by decide) oA_7 (by decide +kernel) (by omega) (by omega) (by omega) (Nat.le_of_ble_eq_true rfl) rfl ?_
        have ec : cd_job S u w = 2 := by unfold cd_job; (try simp only [ek]); (repeat' split) <;> first | rfl | omega | simp_all
        rw [ec]
        exact ⟨_, rfl, rfl, rfl⟩
    · refine am_throwS (ci := 6) (tx := "no such due hour or weight") d_X_job_21 d_X_job_24 d_X_job_25 d_X_job_27 d_X_job_30 rfl rfl w_251 w_252 w_10 (by decide) oA_6 (by decide +kernel) (by omega) (by omega) (by omega) (Nat.le_of_ble_eq_true rfl) rfl ?_
      have ec : cd_job S u w = 1 := by unfold cd_job; (try simp only [ek]); (repeat' split) <;> first | rfl | omega | simp_all
      rw [ec]
      exact ⟨_, rfl, rfl, rfl⟩
set_option maxRecDepth 20000 in
theorem c_X_due (hS : sh_ok S) (d bc bs : Nat) (hd : 6 ≤ d) (hb1 : 1 ≤ bc) (hb2 : 6 ≤ bs) (j u : Int32) : am_W G m_X_due (d + 2) bc bs (fQ [8, 6] (cd_due S j u) (hx x t S F R P W) (fun v h' => ∃ i a, j = nI i ∧ u = nI a ∧ i < sh_jb S ∧ a ≤ 10000 ∧ v = none ∧ h' = (hx x true (sh_mc S, sh_kd S, sh_sp S, sh_sf S, sh_st S, sh_jb S, nu (sh_du S) i a, S.2.2.2.2.2.2.2) F R P W))) 0 (lv_args 0 [.ref 1, .int j, .int u]) [] (hx x t S F R P W) := by
  obtain ⟨s1, s2, s3, s4, s5, s6, s7, s8, s9, s10, s11, s12, s13, s14⟩ := id hS
  cases hj : sp_in j (nI 0) (nI (sh_jb S) - nI 1) with
  | false =>
    refine am_aload_n d_X_due_0 rfl rfl ?_
    refine am_iload_n d_X_due_1 rfl rfl ?_
    refine am_callT 2 (am_recvV (z := m_X_demandJob) rfl d_X_due_2 w_389 w_391 ws_1 w_392 F_X.1 rfl (by decide) np_X_demandJob) (by decide) (by decide) (Nat.le_of_ble_eq_true rfl) (Nat.le_of_ble_eq_true rfl) (Nat.le_refl _) (Nat.le_refl _) (c_X_demandJob_1 d bc bs hd hb1 hb2 _ hj) ?_
    refine am_thr_out rfl ?_
    have ec : cd_due S j u = 1 := by unfold cd_due; (try simp only [ek]); (repeat' split) <;> first | rfl | omega | simp_all
    rw [ec]
    exact ⟨_, rfl, rfl, rfl⟩
  | true =>
    refine am_aload_n d_X_due_0 rfl rfl ?_
    refine am_iload_n d_X_due_1 rfl rfl ?_
    refine am_callF 2 (am_recvV (z := m_X_demandJob) rfl d_X_due_2 w_389 w_391 ws_1 w_392 F_X.1 rfl (by decide) np_X_demandJob) (by decide) (by decide) (Nat.le_of_ble_eq_true rfl) (Nat.le_of_ble_eq_true rfl) (Nat.zero_le _) (Nat.zero_le _) (c_X_demandJob_0 d _ _ _ hj) ?_
    refine am_iload_n d_X_due_5 rfl rfl ?_
    refine am_iconst (v := nI 0) d_X_due_6 (by decide) ?_
    refine am_sipush (v := nI 10000) d_X_due_7 (by decide) ?_
    refine am_callF 3 (am_lkS (z := m_X_isWithin) d_X_due_10 w_248 w_249 w_1 w_250 (by decide) np_X_isWithin) (by decide) (by decide) (Nat.le_of_ble_eq_true rfl) (Nat.le_of_ble_eq_true rfl) (Nat.zero_le _) (Nat.zero_le _) (c_X_isWithin _ _ _ _ _ _) ?_
    refine am_ifZ_ne (tgt := 26) d_X_due_13 (by decide) (fun c13 => ?_) (fun c13 => ?_)
    · obtain ⟨i, rfl, hi⟩ := sp_ix_t hj (by omega)
      obtain ⟨a, rfl, -, ha⟩ := sp_in_t c13 (by decide) (by decide)
      refine am_aload_n d_X_due_26 rfl rfl ?_
      refine am_iconst (v := zI true) d_X_due_27 (by decide) ?_
      refine am_put F_X 5 (by decide) d_X_due_28 w_222 rfl rfl (Nat.le_of_ble_eq_true rfl) rfl rfl ?_
      refine am_aload_n d_X_due_31 rfl rfl ?_
      refine am_get F_X 0 (by decide) d_X_due_32 w_217 rfl rfl ?_
      refine am_get F_S 6 (by decide) d_X_due_35 w_49 rfl rfl ?_
      refine am_iload_n d_X_due_38 rfl rfl ?_
      refine am_iload_n d_X_due_39 rfl rfl ?_
      refine am_iastA d_X_due_40 rfl (by omega) (by decide) ?_
      refine am_vret d_X_due_41 rfl ?_
      have ec : cd_due S (nI i) (nI a) = 0 := by unfold cd_due; (try simp only [ek]); (repeat' split) <;> first | rfl | omega | simp_all
      rw [ec]
      exact ⟨_, rfl, i, a, rfl, rfl, hi, ha, rfl, rfl⟩
    · refine am_throwS (ci := 6) (tx := "no such due hour") d_X_due_16 d_X_due_19 d_X_due_20 d_X_due_22 d_X_due_25 rfl rfl w_251 w_252 w_10 (by decide) oA_6 (by decide +kernel) (by omega) (by omega) (by omega) (Nat.le_of_ble_eq_true rfl) rfl ?_
      have ec : cd_due S j u = 2 := by unfold cd_due; (try simp only [ek]); (repeat' split) <;> first | rfl | omega | simp_all
      rw [ec]
      exact ⟨_, rfl, rfl, rfl⟩
set_option maxRecDepth 20000 in
theorem c_X_step (hS : sh_ok S) (hu : sh_su S) (d bc bs : Nat) (hd : 6 ≤ d) (hb1 : 1 ≤ bc) (hb2 : 6 ≤ bs) (j k h w : Int32) : am_W G m_X_step (d + 2) bc bs (fQ [8, 6, 7] (cd_step S j k h w) (hx x t S F R P W) (fun v h' => ∃ i a b c, j = nI i ∧ k = nI a ∧ h = nI b ∧ w = nI c ∧ i < sh_jb S ∧ a ≤ 3 ∧ 1 ≤ b ∧ b ≤ 100 ∧ c ≤ 100 ∧ v = some (.int (nI (sh_ss S))) ∧ h' = (hx x true (sp_addStep S i a b c) F R P W))) 0 (lv_args 0 [.ref 1, .int j, .int k, .int h, .int w]) [] (hx x t S F R P W) := by
  obtain ⟨s1, s2, s3, s4, s5, s6, s7, s8, s9, s10, s11, s12, s13, s14⟩ := id hS
  cases hj : sp_in j (nI 0) (nI (sh_jb S) - nI 1) with
  | false =>
    refine am_aload_n d_X_step_0 rfl rfl ?_
    refine am_iload_n d_X_step_1 rfl rfl ?_
    refine am_callT 2 (am_recvV (z := m_X_demandJob) rfl d_X_step_2 w_389 w_391 ws_1 w_392 F_X.1 rfl (by decide) np_X_demandJob) (by decide) (by decide) (Nat.le_of_ble_eq_true rfl) (Nat.le_of_ble_eq_true rfl) (Nat.le_refl _) (Nat.le_refl _) (c_X_demandJob_1 d bc bs hd hb1 hb2 _ hj) ?_
    refine am_thr_out rfl ?_
    have ec : cd_step S j k h w = 1 := by unfold cd_step; (try simp only [ek]); (repeat' split) <;> first | rfl | omega | simp_all
    rw [ec]
    exact ⟨_, rfl, rfl, rfl⟩
  | true =>
    refine am_aload_n d_X_step_0 rfl rfl ?_
    refine am_iload_n d_X_step_1 rfl rfl ?_
    refine am_callF 2 (am_recvV (z := m_X_demandJob) rfl d_X_step_2 w_389 w_391 ws_1 w_392 F_X.1 rfl (by decide) np_X_demandJob) (by decide) (by decide) (Nat.le_of_ble_eq_true rfl) (Nat.le_of_ble_eq_true rfl) (Nat.zero_le _) (Nat.zero_le _) (c_X_demandJob_0 d _ _ _ hj) ?_
    refine am_iload_n d_X_step_5 rfl rfl ?_
    refine am_iconst (v := nI 0) d_X_step_6 (by decide) ?_
    refine am_iconst (v := nI 3) d_X_step_7 (by decide) ?_
    refine am_callF 3 (am_lkS (z := m_X_isWithin) d_X_step_8 w_248 w_249 w_1 w_250 (by decide) np_X_isWithin) (by decide) (by decide) (Nat.le_of_ble_eq_true rfl) (Nat.le_of_ble_eq_true rfl) (Nat.zero_le _) (Nat.zero_le _) (c_X_isWithin _ _ _ _ _ _) ?_
    refine am_ifZ_eq (tgt := 35) d_X_step_11 (by decide) (fun c11 => ?_) (fun c11 => ?_)
    · refine am_throwS (ci := 6) (tx := "no such kind, hours or wait") d_X_step_35 d_X_step_38 d_X_step_39 d_X_step_41 d_X_step_44 rfl rfl w_251 w_252 w_10 (by decide) oA_6 (by decide +kernel) (by omega) (by omega) (by omega) (Nat.le_of_ble_eq_true rfl) rfl ?_
      have ec : cd_step S j k h w = 2 := by unfold cd_step; (try simp only [ek]); (repeat' split) <;> first | rfl | omega | simp_all
      rw [ec]
      exact ⟨_, rfl, rfl, rfl⟩
    · refine am_iload_n d_X_step_14 rfl rfl ?_
      refine am_iconst (v := nI 1) d_X_step_15 (by decide) ?_
      refine am_bipush (v := nI 100) d_X_step_16 (by decide) ?_
      refine am_callF 3 (am_lkS (z := m_X_isWithin) d_X_step_18 w_248 w_249 w_1 w_250 (by decide) np_X_isWithin) (by decide) (by decide) (Nat.le_of_ble_eq_true rfl) (Nat.le_of_ble_eq_true rfl) (Nat.zero_le _) (Nat.zero_le _) (c_X_isWithin _ _ _ _ _ _) ?_
      refine am_ifZ_eq (tgt := 35) d_X_step_21 (by decide) (fun c21 => ?_) (fun c21 => ?_)
      · refine am_throwS (ci := 6) (tx := "no such kind, hours or wait") d_X_step_35 d_X_step_38 d_X_step_39 d_X_step_41 d_X_step_44 rfl rfl w_251 w_252 w_10 (by decide) oA_6 (by decide +kernel) (by omega) (by omega) (by omega) (Nat.le_of_ble_eq_true rfl) rfl ?_
        have ec : cd_step S j k h w = 2 := by unfold cd_step; (try simp only [ek]); (repeat' split) <;> first | rfl | omega | simp_all
        rw [ec]
        exact ⟨_, rfl, rfl, rfl⟩
      · refine am_iload d_X_step_24 rfl ?_
        refine am_iconst (v := nI 0) d_X_step_26 (by decide) ?_
        refine am_bipush (v := nI 100) d_X_step_27 (by decide) ?_
        refine am_callF 3 (am_lkS (z := m_X_isWithin) d_X_step_29 w_248 w_249 w_1 w_250 (by decide) np_X_isWithin) (by decide) (by decide) (Nat.le_of_ble_eq_true rfl) (Nat.le_of_ble_eq_true rfl) (Nat.zero_le _) (Nat.zero_le _) (c_X_isWithin _ _ _ _ _ _) ?_
        refine am_ifZ_ne (tgt := 45) d_X_step_32 (by decide) (fun c32 => ?_) (fun c32 => ?_)
        · obtain ⟨i, rfl, hi⟩ := sp_ix_t hj (by omega)
          have ek : (nI i).toNatClampNeg = i := nI_clamp (by omega)
          have t10 := s10 i
          refine am_aload_n d_X_step_45 rfl rfl ?_
          refine am_get F_X 0 (by decide) d_X_step_46 w_217 rfl rfl ?_
          refine am_get F_S 8 (by decide) d_X_step_49 w_54 rfl rfl ?_
          refine am_iload_n d_X_step_52 rfl rfl ?_
          refine am_ialdA d_X_step_53 rfl (by omega) (by decide) ?_
          refine am_iconst (v := nI 4) d_X_step_54 (by decide) ?_
          refine am_icmpN_ge (tgt := 70) d_X_step_55 (by decide) (by omega) (by omega) (fun c55 => ?_) (fun c55 => ?_)
          · refine am_throwS (ci := 7) (tx := "no room for a step") d_X_step_70 d_X_step_73 d_X_step_74 d_X_step_76 d_X_step_79 rfl rfl w_319 w_320 w_11 (by decide) oA_7 (by decide +kernel) (by omega) (by omega) (by omega) (Nat.le_of_ble_eq_true rfl) rfl ?_
            have ec : cd_step S (nI i) k h w = 3 := by unfold cd_step; (try simp only [ek]); (repeat' split) <;> first | rfl | omega | simp_all
            rw [ec]
            exact ⟨_, rfl, rfl, rfl⟩
          · refine am_aload_n d_X_step_58 rfl rfl ?_
            refine am_get F_X 0 (by decide) d_X_step_59 w_217 rfl rfl ?_
            refine am_get F_S 10 (by decide) d_X_step_62 w_60 rfl rfl ?_
            refine am_bipush (v := nI 24) d_X_step_65 (by decide) ?_
            refine am_icmpN_lt (tgt := 80) d_X_step_67 (by decide) (by omega) (by omega) (fun c67 => ?_) (fun c67 => ?_)
            · obtain ⟨a, rfl, -, ha⟩ := sp_in_t c11 (by decide) (by decide)
              obtain ⟨b, rfl, hb0, hb⟩ := sp_in_t c21 (by decide) (by decide)
              obtain ⟨c, rfl, -, hc⟩ := sp_in_t c32 (by decide) (by decide)
              refine am_aload_n d_X_step_80 rfl rfl ?_
              refine am_iconst (v := zI true) d_X_step_81 (by decide) ?_
              refine am_put F_X 5 (by decide) d_X_step_82 w_222 rfl rfl (Nat.le_of_ble_eq_true rfl) rfl rfl ?_
              refine am_aload_n d_X_step_85 rfl rfl ?_
              refine am_get F_X 0 (by decide) d_X_step_86 w_217 rfl rfl ?_
              refine am_iload_n d_X_step_89 rfl rfl ?_
              refine am_iload_n d_X_step_90 rfl rfl ?_
              refine am_iload_n d_X_step_91 rfl rfl ?_
              refine am_iload d_X_step_92 rfl ?_
              refine am_callF 5 (am_recvV (z := m_S_addStep) rfl d_X_step_94 w_404 w_405 w_406 w_407 F_S.1 rfl (by decide) np_S_addStep) (by decide) (by decide) (Nat.le_of_ble_eq_true rfl) (Nat.le_of_ble_eq_true rfl) (Nat.zero_le _) (Nat.zero_le _) (c_S_addStep (t := true) hS _ _ _ i a b c (by omega) (by omega) (by omega) (by omega) hb hc) ?_
              refine am_iret d_X_step_97 rfl ?_
              have ec : cd_step S (nI i) (nI a) (nI b) (nI c) = 0 := by unfold cd_step; (try simp only [ek]); (repeat' split) <;> first | rfl | omega | simp_all
              rw [ec]
              exact ⟨_, rfl, i, a, b, c, rfl, rfl, rfl, rfl, hi, by omega, hb0, hb, hc, rfl, rfl⟩
            · refine am_throwS (ci := 7) (tx := "no room for a step") d_X_step_70 d_X_step_73 d_X_step_74 d_X_step_76 d_X_step_79 rfl rfl w_319 w_320 w_11 (by decide) oA_7 (by decide +kernel) (by omega) (by omega) (by omega) (Nat.le_of_ble_eq_true rfl) rfl ?_
              exact absurd c67 (by have := sh_su_lt hS hu (show i < 6 by omega) (by omega); omega)
        · refine am_throwS (ci := 6) (tx := "no such kind, hours or wait") d_X_step_35 d_X_step_38 d_X_step_39 d_X_step_41 d_X_step_44 rfl rfl w_251 w_252 w_10 (by decide) oA_6 (by decide +kernel) (by omega) (by omega) (by omega) (Nat.le_of_ble_eq_true rfl) rfl ?_
          have ec : cd_step S j k h w = 2 := by unfold cd_step; (try simp only [ek]); (repeat' split) <;> first | rfl | omega | simp_all
          rw [ec]
          exact ⟨_, rfl, rfl, rfl⟩
set_option maxRecDepth 20000 in
theorem c_X_at (hS : sh_ok S) (hP : pl_ok P) (d bc bs : Nat) (hd : 6 ≤ d) (hb1 : 1 ≤ bc) (hb2 : 6 ≤ bs) (s w : Int32) : am_W G m_X_at (d + 2) bc bs (fQ [8, 7] (cd_at S P s w) (hx x t S F R P W) (fun v h' => ∃ i a, s = nI i ∧ w = nI a ∧ i < sh_ss S ∧ a ≤ 1 ∧ v = some (.int (if i < pl_ss P then if a = 0 then nI (pl_bg P i) else nI (pl_ma P i) else -1)) ∧ h' = (hx x t S F R P W))) 0 (lv_args 0 [.ref 1, .int s, .int w]) [] (hx x t S F R P W) := by
  obtain ⟨s1, s2, s3, s4, s5, s6, s7, s8, s9, s10, s11, s12, s13, s14⟩ := id hS
  rcases Nat.eq_zero_or_pos (pl_jb P) with hp | hp
  · refine am_iload_n d_X_at_0 rfl rfl ?_
    refine am_iconst (v := nI 0) d_X_at_1 (by decide) ?_
    refine am_aload_n d_X_at_2 rfl rfl ?_
    refine am_get F_X 0 (by decide) d_X_at_3 w_217 rfl rfl ?_
    refine am_get F_S 10 (by decide) d_X_at_6 w_60 rfl rfl ?_
    refine am_iconst (v := nI 1) d_X_at_9 (by decide) ?_
    refine am_isub d_X_at_10 ?_
    refine am_callF 3 (am_lkS (z := m_X_isWithin) d_X_at_11 w_248 w_249 w_1 w_250 (by decide) np_X_isWithin) (by decide) (by decide) (Nat.le_of_ble_eq_true rfl) (Nat.le_of_ble_eq_true rfl) (Nat.zero_le _) (Nat.zero_le _) (c_X_isWithin _ _ _ _ _ _) ?_
    refine am_ifZ_eq (tgt := 26) d_X_at_14 (by decide) (fun c14 => ?_) (fun c14 => ?_)
    · refine am_throwS (ci := 8) (tx := "no such step or what") d_X_at_26 d_X_at_29 d_X_at_30 d_X_at_32 d_X_at_35 rfl rfl w_347 w_348 w_12 (by decide) oA_8 (by decide +kernel) (by omega) (by omega) (by omega) (Nat.le_of_ble_eq_true rfl) rfl ?_
      have ec : cd_at S P s w = 1 := by unfold cd_at; (try simp only [ek]); (repeat' split) <;> first | rfl | omega | simp_all
      rw [ec]
      exact ⟨_, rfl, rfl, rfl⟩
    · refine am_iload_n d_X_at_17 rfl rfl ?_
      refine am_iconst (v := nI 0) d_X_at_18 (by decide) ?_
      refine am_iconst (v := nI 1) d_X_at_19 (by decide) ?_
      refine am_callF 3 (am_lkS (z := m_X_isWithin) d_X_at_20 w_248 w_249 w_1 w_250 (by decide) np_X_isWithin) (by decide) (by decide) (Nat.le_of_ble_eq_true rfl) (Nat.le_of_ble_eq_true rfl) (Nat.zero_le _) (Nat.zero_le _) (c_X_isWithin _ _ _ _ _ _) ?_
      refine am_ifZ_ne (tgt := 36) d_X_at_23 (by decide) (fun c23 => ?_) (fun c23 => ?_)
      · refine am_aload_n d_X_at_36 rfl rfl ?_
        refine am_callT 1 (am_recvV (z := m_X_demandPlan) rfl d_X_at_37 w_547 w_549 ws_12 w_550 F_X.1 rfl (by decide) np_X_demandPlan) (by decide) (by decide) (Nat.le_of_ble_eq_true rfl) (Nat.le_of_ble_eq_true rfl) (Nat.le_refl _) (Nat.le_refl _) (c_X_demandPlan_1 hP d bc bs hd hb1 hb2 hp) ?_
        refine am_thr_out rfl ?_
        have ec : cd_at S P s w = 2 := by unfold cd_at; (try simp only [ek]); (repeat' split) <;> first | rfl | omega | simp_all
        rw [ec]
        exact ⟨_, rfl, rfl, rfl⟩
      · refine am_throwS (ci := 8) (tx := "no such step or what") d_X_at_26 d_X_at_29 d_X_at_30 d_X_at_32 d_X_at_35 rfl rfl w_347 w_348 w_12 (by decide) oA_8 (by decide +kernel) (by omega) (by omega) (by omega) (Nat.le_of_ble_eq_true rfl) rfl ?_
        have ec : cd_at S P s w = 1 := by unfold cd_at; (try simp only [ek]); (repeat' split) <;> first | rfl | omega | simp_all
        rw [ec]
        exact ⟨_, rfl, rfl, rfl⟩
  · refine am_iload_n d_X_at_0 rfl rfl ?_
    refine am_iconst (v := nI 0) d_X_at_1 (by decide) ?_
    refine am_aload_n d_X_at_2 rfl rfl ?_
    refine am_get F_X 0 (by decide) d_X_at_3 w_217 rfl rfl ?_
    refine am_get F_S 10 (by decide) d_X_at_6 w_60 rfl rfl ?_
    refine am_iconst (v := nI 1) d_X_at_9 (by decide) ?_
    refine am_isub d_X_at_10 ?_
    refine am_callF 3 (am_lkS (z := m_X_isWithin) d_X_at_11 w_248 w_249 w_1 w_250 (by decide) np_X_isWithin) (by decide) (by decide) (Nat.le_of_ble_eq_true rfl) (Nat.le_of_ble_eq_true rfl) (Nat.zero_le _) (Nat.zero_le _) (c_X_isWithin _ _ _ _ _ _) ?_
    refine am_ifZ_eq (tgt := 26) d_X_at_14 (by decide) (fun c14 => ?_) (fun c14 => ?_)
    · refine am_throwS (ci := 8) (tx := "no such step or what") d_X_at_26 d_X_at_29 d_X_at_30 d_X_at_32 d_X_at_35 rfl rfl w_347 w_348 w_12 (by decide) oA_8 (by decide +kernel) (by omega) (by omega) (by omega) (Nat.le_of_ble_eq_true rfl) rfl ?_
      have ec : cd_at S P s w = 1 := by unfold cd_at; (try simp only [ek]); (repeat' split) <;> first | rfl | omega | simp_all
      rw [ec]
      exact ⟨_, rfl, rfl, rfl⟩
    · refine am_iload_n d_X_at_17 rfl rfl ?_
      refine am_iconst (v := nI 0) d_X_at_18 (by decide) ?_
      refine am_iconst (v := nI 1) d_X_at_19 (by decide) ?_
      refine am_callF 3 (am_lkS (z := m_X_isWithin) d_X_at_20 w_248 w_249 w_1 w_250 (by decide) np_X_isWithin) (by decide) (by decide) (Nat.le_of_ble_eq_true rfl) (Nat.le_of_ble_eq_true rfl) (Nat.zero_le _) (Nat.zero_le _) (c_X_isWithin _ _ _ _ _ _) ?_
      refine am_ifZ_ne (tgt := 36) d_X_at_23 (by decide) (fun c23 => ?_) (fun c23 => ?_)
      · obtain ⟨i, rfl, hi⟩ := sp_ix_t c14 (by omega)
        obtain ⟨a, rfl, -, ha⟩ := sp_in_t c23 (by decide) (by decide)
        refine am_aload_n d_X_at_36 rfl rfl ?_
        refine am_callF 1 (am_recvV (z := m_X_demandPlan) rfl d_X_at_37 w_547 w_549 ws_12 w_550 F_X.1 rfl (by decide) np_X_demandPlan) (by decide) (by decide) (Nat.le_of_ble_eq_true rfl) (Nat.le_of_ble_eq_true rfl) (Nat.zero_le _) (Nat.zero_le _) (c_X_demandPlan_0 hP d _ _ hp) ?_
        refine am_aload_n d_X_at_40 rfl rfl ?_
        refine am_get F_X 3 (by decide) d_X_at_41 w_220 rfl rfl ?_
        refine am_iload_n d_X_at_44 rfl rfl ?_
        refine am_callF 2 (am_recvV (z := m_P_has) rfl d_X_at_45 w_552 w_504 w_505 w_506 F_P.1 rfl (by decide) np_P_has) (by decide) (by decide) (Nat.le_of_ble_eq_true rfl) (Nat.le_of_ble_eq_true rfl) (Nat.zero_le _) (Nat.zero_le _) (c_P_has _ _ _ _) ?_
        rw [sp_hs_N hP (by omega)]
        refine am_ifZ_ne (tgt := 53) d_X_at_48 (by decide) (fun c48 => ?_) (fun c48 => ?_)
        · refine am_iload_n d_X_at_53 rfl rfl ?_
          refine am_ifN_ne (tgt := 69) d_X_at_54 (by decide) (by omega) (fun c54 => ?_) (fun c54 => ?_)
          · refine am_aload_n d_X_at_69 rfl rfl ?_
            refine am_get F_X 3 (by decide) d_X_at_70 w_220 rfl rfl ?_
            refine am_get F_P 3 (by decide) d_X_at_73 w_184 rfl rfl ?_
            refine am_iload_n d_X_at_76 rfl rfl ?_
            refine am_ialdA d_X_at_77 rfl (by omega) (by decide) ?_
            refine am_iret d_X_at_78 rfl ?_
            have ec : cd_at S P (nI i) (nI a) = 0 := by unfold cd_at; (try simp only [ek]); (repeat' split) <;> first | rfl | omega | simp_all
            rw [ec]
            exact ⟨_, rfl, i, a, rfl, rfl, hi, ha, by rw [if_pos (of_decide_eq_true c48), if_neg (by omega)], rfl⟩
          · refine am_aload_n d_X_at_57 rfl rfl ?_
            refine am_get F_X 3 (by decide) d_X_at_58 w_220 rfl rfl ?_
            refine am_get F_P 2 (by decide) d_X_at_61 w_182 rfl rfl ?_
            refine am_iload_n d_X_at_64 rfl rfl ?_
            refine am_ialdA d_X_at_65 rfl (by omega) (by decide) ?_
            refine am_goto (tgt := 78) d_X_at_66 (by decide) ?_
            refine am_iret d_X_at_78 rfl ?_
            have ec : cd_at S P (nI i) (nI a) = 0 := by unfold cd_at; (try simp only [ek]); (repeat' split) <;> first | rfl | omega | simp_all
            rw [ec]
            exact ⟨_, rfl, i, a, rfl, rfl, hi, ha, by rw [if_pos (of_decide_eq_true c48), if_pos (by omega)], rfl⟩
        · refine am_iconst (v := -1) d_X_at_51 (by decide) ?_
          refine am_iret d_X_at_52 rfl ?_
          have ec : cd_at S P (nI i) (nI a) = 0 := by unfold cd_at; (try simp only [ek]); (repeat' split) <;> first | rfl | omega | simp_all
          rw [ec]
          exact ⟨_, rfl, i, a, rfl, rfl, hi, ha, by rw [if_neg (of_decide_eq_false c48)], rfl⟩
      · refine am_throwS (ci := 8) (tx := "no such step or what") d_X_at_26 d_X_at_29 d_X_at_30 d_X_at_32 d_X_at_35 rfl rfl w_347 w_348 w_12 (by decide) oA_8 (by decide +kernel) (by omega) (by omega) (by omega) (Nat.le_of_ble_eq_true rfl) rfl ?_
        have ec : cd_at S P s w = 1 := by unfold cd_at; (try simp only [ek]); (repeat' split) <;> first | rfl | omega | simp_all
        rw [ec]
        exact ⟨_, rfl, rfl, rfl⟩
set_option maxRecDepth 20000 in
theorem c_X_order (hS : sh_ok S) (hP : pl_ok P) (d bc bs : Nat) (hd : 6 ≤ d) (hb1 : 1 ≤ bc) (hb2 : 6 ≤ bs) (k : Int32) : am_W G m_X_order (d + 2) bc bs (fQ [7, 8] (cd_order P k) (hx x t S F R P W) (fun v h' => ∃ i, k = nI i ∧ i < pl_jb P ∧ v = some (.int (nI (pl_ja P i))) ∧ h' = (hx x t S F R P W))) 0 (lv_args 0 [.ref 1, .int k]) [] (hx x t S F R P W) := by
  obtain ⟨s1, s2, s3, s4, s5, s6, s7, s8, s9, s10, s11, s12, s13, s14⟩ := id hS
  have p1 := hP.1
  rcases Nat.eq_zero_or_pos (pl_jb P) with hp | hp
  · refine am_aload_n d_X_order_0 rfl rfl ?_
    refine am_callT 1 (am_recvV (z := m_X_demandPlan) rfl d_X_order_1 w_547 w_549 ws_12 w_550 F_X.1 rfl (by decide) np_X_demandPlan) (by decide) (by decide) (Nat.le_of_ble_eq_true rfl) (Nat.le_of_ble_eq_true rfl) (Nat.le_refl _) (Nat.le_refl _) (c_X_demandPlan_1 hP d bc bs hd hb1 hb2 hp) ?_
    refine am_thr_out rfl ?_
    have ec : cd_order P k = 1 := by unfold cd_order; (try simp only [ek]); (repeat' split) <;> first | rfl | omega | simp_all
    rw [ec]
    exact ⟨_, rfl, rfl, rfl⟩
  · refine am_aload_n d_X_order_0 rfl rfl ?_
    refine am_callF 1 (am_recvV (z := m_X_demandPlan) rfl d_X_order_1 w_547 w_549 ws_12 w_550 F_X.1 rfl (by decide) np_X_demandPlan) (by decide) (by decide) (Nat.le_of_ble_eq_true rfl) (Nat.le_of_ble_eq_true rfl) (Nat.zero_le _) (Nat.zero_le _) (c_X_demandPlan_0 hP d _ _ hp) ?_
    refine am_iload_n d_X_order_4 rfl rfl ?_
    refine am_iconst (v := nI 0) d_X_order_5 (by decide) ?_
    refine am_aload_n d_X_order_6 rfl rfl ?_
    refine am_get F_X 3 (by decide) d_X_order_7 w_220 rfl rfl ?_
    refine am_get F_P 4 (by decide) d_X_order_10 w_186 rfl rfl ?_
    refine am_iconst (v := nI 1) d_X_order_13 (by decide) ?_
    refine am_isub d_X_order_14 ?_
    refine am_callF 3 (am_lkS (z := m_X_isWithin) d_X_order_15 w_248 w_249 w_1 w_250 (by decide) np_X_isWithin) (by decide) (by decide) (Nat.le_of_ble_eq_true rfl) (Nat.le_of_ble_eq_true rfl) (Nat.zero_le _) (Nat.zero_le _) (c_X_isWithin _ _ _ _ _ _) ?_
    refine am_ifZ_ne (tgt := 31) d_X_order_18 (by decide) (fun c18 => ?_) (fun c18 => ?_)
    · obtain ⟨i, rfl, hi⟩ := sp_ix_t c18 (by omega)
      refine am_aload_n d_X_order_31 rfl rfl ?_
      refine am_get F_X 3 (by decide) d_X_order_32 w_220 rfl rfl ?_
      refine am_get F_P 1 (by decide) d_X_order_35 w_180 rfl rfl ?_
      refine am_iload_n d_X_order_38 rfl rfl ?_
      refine am_ialdA d_X_order_39 rfl (by omega) (by decide) ?_
      refine am_iret d_X_order_40 rfl ?_
      have ec : cd_order P (nI i) = 0 := by unfold cd_order; (try simp only [ek]); (repeat' split) <;> first | rfl | omega | simp_all
      rw [ec]
      exact ⟨_, rfl, i, rfl, hi, rfl, rfl⟩
    · refine am_throwS (ci := 8) (tx := "no such place") d_X_order_21 d_X_order_24 d_X_order_25 d_X_order_27 d_X_order_30 rfl rfl w_347 w_348 w_12 (by decide) oA_8 (by decide +kernel) (by omega) (by omega) (by omega) (Nat.le_of_ble_eq_true rfl) rfl ?_
      have ec : cd_order P k = 2 := by unfold cd_order; (try simp only [ek]); (repeat' split) <;> first | rfl | omega | simp_all
      rw [ec]
      exact ⟨_, rfl, rfl, rfl⟩
set_option maxRecDepth 20000 in
theorem c_X_about (hS : sh_ok S) (hP : pl_ok P) (hno : pl_no P < 2 ^ 31) (hmv : pl_mv P < 2 ^ 31) (d bc bs : Nat) (hd : 6 ≤ d) (hb1 : 1 ≤ bc) (hb2 : 6 ≤ bs) (w : Int32) : am_W G m_X_about (d + 2) bc bs (fQ [8, 7] (cd_about P w) (hx x t S F R P W) (fun v h' => ∃ a, w = nI a ∧ a ≤ 3 ∧ v = some (.long (lN (if a = 0 then pl_co P else if a = 1 then pl_bo P else if a = 2 then pl_no P else pl_mv P))) ∧ h' = (hx x t S F R P W))) 0 (lv_args 0 [.ref 1, .int w]) [] (hx x t S F R P W) := by
  obtain ⟨s1, s2, s3, s4, s5, s6, s7, s8, s9, s10, s11, s12, s13, s14⟩ := id hS
  rcases Nat.eq_zero_or_pos (pl_jb P) with hp | hp
  · refine am_iload_n d_X_about_0 rfl rfl ?_
    refine am_iconst (v := nI 0) d_X_about_1 (by decide) ?_
    refine am_iconst (v := nI 3) d_X_about_2 (by decide) ?_
    refine am_callF 3 (am_lkS (z := m_X_isWithin) d_X_about_3 w_248 w_249 w_1 w_250 (by decide) np_X_isWithin) (by decide) (by decide) (Nat.le_of_ble_eq_true rfl) (Nat.le_of_ble_eq_true rfl) (Nat.zero_le _) (Nat.zero_le _) (c_X_isWithin _ _ _ _ _ _) ?_
    refine am_ifZ_ne (tgt := 19) d_X_about_6 (by decide) (fun c6 => ?_) (fun c6 => ?_)
    · refine am_aload_n d_X_about_19 rfl rfl ?_
      refine am_callT 1 (am_recvV (z := m_X_demandPlan) rfl d_X_about_20 w_547 w_549 ws_12 w_550 F_X.1 rfl (by decide) np_X_demandPlan) (by decide) (by decide) (Nat.le_of_ble_eq_true rfl) (Nat.le_of_ble_eq_true rfl) (Nat.le_refl _) (Nat.le_refl _) (c_X_demandPlan_1 hP d bc bs hd hb1 hb2 hp) ?_
      refine am_thr_out rfl ?_
      have ec : cd_about P w = 2 := by unfold cd_about; (try simp only [ek]); (repeat' split) <;> first | rfl | omega | simp_all
      rw [ec]
      exact ⟨_, rfl, rfl, rfl⟩
    · refine am_throwS (ci := 8) (tx := "no such what") d_X_about_9 d_X_about_12 d_X_about_13 d_X_about_15 d_X_about_18 rfl rfl w_347 w_348 w_12 (by decide) oA_8 (by decide +kernel) (by omega) (by omega) (by omega) (Nat.le_of_ble_eq_true rfl) rfl ?_
      have ec : cd_about P w = 1 := by unfold cd_about; (try simp only [ek]); (repeat' split) <;> first | rfl | omega | simp_all
      rw [ec]
      exact ⟨_, rfl, rfl, rfl⟩
  · refine am_iload_n d_X_about_0 rfl rfl ?_
    refine am_iconst (v := nI 0) d_X_about_1 (by decide) ?_
    refine am_iconst (v := nI 3) d_X_about_2 (by decide) ?_
    refine am_callF 3 (am_lkS (z := m_X_isWithin) d_X_about_3 w_248 w_249 w_1 w_250 (by decide) np_X_isWithin) (by decide) (by decide) (Nat.le_of_ble_eq_true rfl) (Nat.le_of_ble_eq_true rfl) (Nat.zero_le _) (Nat.zero_le _) (c_X_isWithin _ _ _ _ _ _) ?_
    refine am_ifZ_ne (tgt := 19) d_X_about_6 (by decide) (fun c6 => ?_) (fun c6 => ?_)
    · refine am_aload_n d_X_about_19 rfl rfl ?_
      refine am_callF 1 (am_recvV (z := m_X_demandPlan) rfl d_X_about_20 w_547 w_549 ws_12 w_550 F_X.1 rfl (by decide) np_X_demandPlan) (by decide) (by decide) (Nat.le_of_ble_eq_true rfl) (Nat.le_of_ble_eq_true rfl) (Nat.zero_le _) (Nat.zero_le _) (c_X_demandPlan_0 hP d _ _ hp) ?_
      obtain ⟨a, rfl, -, ha⟩ := sp_in_t c6 (by decide) (by decide)
      have ec : cd_about P (nI a) = 0 := by unfold cd_about; rw [if_pos c6, if_pos hp]
      rw [ec]
      have hc : a = 0 ∨ a = 1 ∨ a = 2 ∨ a = 3 := by omega
      rcases hc with rfl | rfl | rfl | rfl
      · refine am_iload_n d_X_about_23 rfl rfl ?_
        refine am_tableIn (tgt := 52) d_X_about_24 (by decide) (by decide) rfl (by decide) ?_
        refine am_aload_n d_X_about_52 rfl rfl ?_
        refine am_get F_X 3 (by decide) d_X_about_53 w_220 rfl rfl ?_
        refine am_get F_P 6 (by decide) d_X_about_56 w_189 rfl rfl ?_
        refine am_lret d_X_about_59 rfl ?_
        exact ⟨_, rfl, 0, rfl, by omega, rfl, rfl⟩
      · refine am_iload_n d_X_about_23 rfl rfl ?_
        refine am_tableIn (tgt := 60) d_X_about_24 (by decide) (by decide) rfl (by decide) ?_
        refine am_aload_n d_X_about_60 rfl rfl ?_
        refine am_get F_X 3 (by decide) d_X_about_61 w_220 rfl rfl ?_
        refine am_get F_P 7 (by decide) d_X_about_64 w_191 rfl rfl ?_
        refine am_lret d_X_about_67 rfl ?_
        exact ⟨_, rfl, 1, rfl, by omega, rfl, rfl⟩
      · refine am_iload_n d_X_about_23 rfl rfl ?_
        refine am_tableIn (tgt := 68) d_X_about_24 (by decide) (by decide) rfl (by decide) ?_
        refine am_aload_n d_X_about_68 rfl rfl ?_
        refine am_get F_X 3 (by decide) d_X_about_69 w_220 rfl rfl ?_
        refine am_get F_P 8 (by decide) d_X_about_72 w_193 rfl rfl ?_
        refine am_i2lN d_X_about_75 (by omega) ?_
        refine am_lret d_X_about_76 rfl ?_
        exact ⟨_, rfl, 2, rfl, by omega, rfl, rfl⟩
      · refine am_iload_n d_X_about_23 rfl rfl ?_
        refine am_tableOut (tgt := 77) d_X_about_24 (Or.inr (by decide)) (by decide) ?_
        refine am_aload_n d_X_about_77 rfl rfl ?_
        refine am_get F_X 3 (by decide) d_X_about_78 w_220 rfl rfl ?_
        refine am_get F_P 9 (by decide) d_X_about_81 w_195 rfl rfl ?_
        refine am_i2lN d_X_about_84 (by omega) ?_
        refine am_lret d_X_about_85 rfl ?_
        exact ⟨_, rfl, 3, rfl, by omega, rfl, rfl⟩
    · refine am_throwS (ci := 8) (tx := "no such what") d_X_about_9 d_X_about_12 d_X_about_13 d_X_about_15 d_X_about_18 rfl rfl w_347 w_348 w_12 (by decide) oA_8 (by decide +kernel) (by omega) (by omega) (by omega) (Nat.le_of_ble_eq_true rfl) rfl ?_
      have ec : cd_about P w = 1 := by unfold cd_about; (try simp only [ek]); (repeat' split) <;> first | rfl | omega | simp_all
      rw [ec]
      exact ⟨_, rfl, rfl, rfl⟩
set_option maxRecDepth 20000 in
theorem c_X_alone (hS : sh_ok S) (d bc bs : Nat) (hd : 6 ≤ d) (hb1 : 1 ≤ bc) (hb2 : 6 ≤ bs) (j : Int32) : am_W G m_X_alone (d + 5) bc bs (fQ [8, 7] (cd_alone S j) (hx x t S F R P W) (fun v h' => ∃ i F', j = nI i ∧ i < sh_jb S ∧ sp_fits S i = true ∧ v = some (.long (lN (sp_al S i))) ∧ h' = (hx x t S F' R P W))) 0 (lv_args 0 [.ref 1, .int j]) [] (hx x t S F R P W) := by
  obtain ⟨s1, s2, s3, s4, s5, s6, s7, s8, s9, s10, s11, s12, s13, s14⟩ := id hS
  cases hj : sp_in j (nI 0) (nI (sh_jb S) - nI 1) with
  | false =>
    refine am_aload_n d_X_alone_0 rfl rfl ?_
    refine am_iload_n d_X_alone_1 rfl rfl ?_
    refine am_callT 2 (am_recvV (z := m_X_demandJob) rfl d_X_alone_2 w_389 w_391 ws_1 w_392 F_X.1 rfl (by decide) np_X_demandJob) (by decide) (by decide) (Nat.le_of_ble_eq_true rfl) (Nat.le_of_ble_eq_true rfl) (Nat.le_refl _) (Nat.le_refl _) (am_rm (d := d + 1) (by omega) (c_X_demandJob_1 d bc bs hd hb1 hb2 _ hj)) ?_
    refine am_thr_out rfl ?_
    have ec : cd_alone S j = 1 := by unfold cd_alone; (try simp only [ek]); (repeat' split) <;> first | rfl | omega | simp_all
    rw [ec]
    exact ⟨_, rfl, rfl, rfl⟩
  | true =>
    refine am_aload_n d_X_alone_0 rfl rfl ?_
    refine am_iload_n d_X_alone_1 rfl rfl ?_
    refine am_callF 2 (am_recvV (z := m_X_demandJob) rfl d_X_alone_2 w_389 w_391 ws_1 w_392 F_X.1 rfl (by decide) np_X_demandJob) (by decide) (by decide) (Nat.le_of_ble_eq_true rfl) (Nat.le_of_ble_eq_true rfl) (Nat.zero_le _) (Nat.zero_le _) (am_rm (d := d + 1) (by omega) (c_X_demandJob_0 d _ _ _ hj)) ?_
    obtain ⟨i, rfl, hi⟩ := sp_ix_t hj (by omega)
    have ek : (nI i).toNatClampNeg = i := nI_clamp (by omega)
    refine am_aload_n d_X_alone_5 rfl rfl ?_
    refine am_get F_X 0 (by decide) d_X_alone_6 w_217 rfl rfl ?_
    refine am_iload_n d_X_alone_9 rfl rfl ?_
    refine am_callF 2 (am_recvV (z := m_S_fits) rfl d_X_alone_10 w_576 w_425 w_426 w_427 F_S.1 rfl (by decide) np_S_fits) (by decide) (by decide) (Nat.le_of_ble_eq_true rfl) (Nat.le_of_ble_eq_true rfl) (Nat.zero_le _) (Nat.zero_le _) (am_rm (d := 1) (by omega) (c_S_fits hS 0 _ _ i (by omega))) ?_
    refine am_ifZ_ne (tgt := 26) d_X_alone_13 (by decide) (fun c13 => ?_) (fun c13 => ?_)
    · refine am_aload_n d_X_alone_26 rfl rfl ?_
      refine am_get F_X 1 (by decide) d_X_alone_27 w_218 rfl rfl ?_
      refine am_iload_n d_X_alone_30 rfl rfl ?_
      refine am_callF 2 (am_recvV (z := m_F_costAlone) rfl d_X_alone_31 w_578 w_438 w_439 w_440 F_F.1 rfl (by decide) np_F_costAlone) (by decide) (by decide) (Nat.le_of_ble_eq_true rfl) (Nat.le_of_ble_eq_true rfl) (Nat.zero_le _) (Nat.zero_le _) (am_rm (d := 4) (by omega) (c_F_costAlone hS 0 _ _ i (by omega) c13)) ?_
      rw [fl_al_eq hS _ c13]
      refine am_lret d_X_alone_34 rfl ?_
      have ec : cd_alone S (nI i) = 0 := by unfold cd_alone; (try simp only [ek]); (repeat' split) <;> first | rfl | omega | simp_all
      rw [ec]
      exact ⟨_, rfl, i, _, rfl, hi, c13, rfl, rfl⟩
    · refine am_throwS (ci := 7) (tx := "the job does not fit") d_X_alone_16 d_X_alone_19 d_X_alone_20 d_X_alone_22 d_X_alone_25 rfl rfl w_319 w_320 w_11 (by decide) oA_7 (by decide +kernel) (by omega) (by omega) (by omega) (Nat.le_of_ble_eq_true rfl) rfl ?_
      have ec : cd_alone S (nI i) = 2 := by unfold cd_alone; (try simp only [ek]); (repeat' split) <;> first | rfl | omega | simp_all
      rw [ec]
      exact ⟨_, rfl, rfl, rfl⟩
end CXA
end
section
/-! PURE: steps that are placed; orders of all jobs; draws -/
theorem fl_put_D {S : sh_T} {f g : fl_T} {D : Nat → Prop} {N B s m b : Nat} (hD : ∀ k, D k → fl_bg f k = fl_bg g k ∧ fl_ma f k = fl_ma g k ∧ fl_bg f k ≤ B ∧ fl_ma f k < N) (hm : m < N) (hb : b ≤ B) :
    ∀ k, (D k ∨ k = s) → fl_bg (fl_put S f s m b) k = fl_bg (fl_put S g s m b) k ∧ fl_ma (fl_put S f s m b) k = fl_ma (fl_put S g s m b) k ∧ fl_bg (fl_put S f s m b) k ≤ B ∧ fl_ma (fl_put S f s m b) k < N := by
  have e1 : ∀ h : fl_T, fl_bg (fl_put S h s m b) = nu (fl_bg h) s b := fun h => by unfold fl_put fl_add; split <;> rfl
  have e2 : ∀ h : fl_T, fl_ma (fl_put S h s m b) = nu (fl_ma h) s m := fun h => by unfold fl_put fl_add; split <;> rfl
  intro k hk
  rw [e1, e1, e2, e2]
  by_cases e : k = s
  · subst e
    simp only [nu_eq]
    exact ⟨trivial, trivial, hb, hm⟩
  · rw [nu_ne _ _ e, nu_ne _ _ e, nu_ne _ _ e, nu_ne _ _ e]
    rcases hk with h | h
    · exact hD k h
    · exact absurd h e
theorem fl_pj_D {S : sh_T} {j B : Nat} {f g : fl_T} {D : Nat → Prop} (hS : sh_ok S) (hf : sp_fits S j = true) (hF : fl_sm (sh_mc S) f B) (he : fl_eqv (sh_mc S) f g)
    (hD : ∀ k, D k → fl_bg f k = fl_bg g k ∧ fl_ma f k = fl_ma g k ∧ fl_bg f k ≤ B ∧ fl_ma f k < sh_mc S) : ∀ n, n ≤ sh_so S j →
    ∀ k, (D k ∨ ∃ i, i < n ∧ k = sh_sa S (j * 4 + i)) → fl_bg (fl_pj S j f n).1 k = fl_bg (fl_pj S j g n).1 k ∧ fl_ma (fl_pj S j f n).1 k = fl_ma (fl_pj S j g n).1 k ∧ fl_bg (fl_pj S j f n).1 k ≤ B + 200 * n ∧ fl_ma (fl_pj S j f n).1 k < sh_mc S
  | 0, _, k, hk => by
    rcases hk with h | ⟨i, hi, -⟩
    · exact hD k h
    · exact absurd hi (Nat.not_lt_zero i)
  | n + 1, hn, k, hk => by
    have ih := fl_pj_D hS hf hF he hD n (by omega)
    obtain ⟨g1, -, g3⟩ := fl_pj_sm hS hf hF n (by omega)
    obtain ⟨q1, q2⟩ := fl_pj_eqv hS hf hF he n (by omega)
    obtain ⟨hb1, hb2⟩ := fl_try_bd (S := S) (s := sh_sa S (j * 4 + n)) g1 g3 (sh_mc S) (Nat.le_refl _)
    have hso := fl_try_some (S := S) (f := (fl_pj S j f n).1) (s := sh_sa S (j * 4 + n)) (r := (fl_pj S j f n).2.2) (sh_mc S) (sp_fit_has hf (by omega))
    obtain ⟨m0, hq⟩ := Option.ne_none_iff_exists'.mp hso
    have ht : fl_try S (fl_pj S j g n).1 (sh_sa S (j * 4 + n)) (fl_pj S j g n).2.2 (sh_mc S) = fl_try S (fl_pj S j f n).1 (sh_sa S (j * 4 + n)) (fl_pj S j f n).2.2 (sh_mc S) := by
      rw [← q2]
      exact (fl_try_eqv q1 _ _ _ (Nat.le_refl _)).symm
    have hk' : (D k ∨ ∃ i, i < n ∧ k = sh_sa S (j * 4 + i)) ∨ k = sh_sa S (j * 4 + n) := by
      rcases hk with h | ⟨i, hi, e⟩
      · exact Or.inl (Or.inl h)
      · rcases Nat.lt_or_ge i n with q | q
        · exact Or.inl (Or.inr ⟨i, q, e⟩)
        · have : i = n := by omega
          subst this
          exact Or.inr e
    rw [fl_pj, fl_pj]
    unfold fl_stp
    rw [ht, hq]
    have h2 := fl_put_D (S := S) (s := sh_sa S (j * 4 + n)) (b := (fl_try S (fl_pj S j f n).1 (sh_sa S (j * 4 + n)) (fl_pj S j f n).2.2 (sh_mc S)).1) (B := B + 200 * n) (N := sh_mc S) (D := fun k => D k ∨ ∃ i, i < n ∧ k = sh_sa S (j * 4 + i)) ih (hb2 m0 hq) hb1 k hk'
    exact ⟨h2.1, h2.2.1, Nat.le_trans h2.2.2.1 (by omega), h2.2.2.2⟩
/-- what is placed after n jobs -/
def fl_in (S : sh_T) (g : Nat → Nat) (n : Nat) (s : Nat) : Prop := ∃ k, k < n ∧ ∃ i, i < sh_so S (g k) ∧ s = sh_sa S (g k * 4 + i)
theorem fl_co_D {S : sh_T} {f g : fl_T} {h : Nat → Nat} {B : Nat} (hS : sh_ok S) (hF : fl_sm (sh_mc S) f B) (he : fl_eqv (sh_mc S) f g) : ∀ n, (∀ k, k < n → h k < 6 ∧ sp_fits S (h k) = true) →
    ∀ k, fl_in S h n k → fl_bg (fl_co S h f n).1 k = fl_bg (fl_co S h g n).1 k ∧ fl_ma (fl_co S h f n).1 k = fl_ma (fl_co S h g n).1 k ∧ fl_bg (fl_co S h f n).1 k ≤ B + 800 * n ∧ fl_ma (fl_co S h f n).1 k < sh_mc S
  | 0, _, k, hk => by
    obtain ⟨i, hi, -⟩ := hk
    exact absurd hi (Nat.not_lt_zero i)
  | n + 1, hg, k, hk => by
    have ih := fl_co_D hS hF he n (fun k hk => hg k (by omega))
    obtain ⟨h1, -⟩ := fl_co_eqv hS hF he n (fun k hk => hg k (by omega))
    have h3 := fl_co_sm (g := h) hS hF n (fun k hk => hg k (by omega))
    have h4 := fl_pj_D hS (hg n (by omega)).2 h3 h1 ih (sh_so S (h n)) (Nat.le_refl _) k (by
      obtain ⟨q, hq, i, hi, e⟩ := hk
      rcases Nat.lt_or_ge q n with w | w
      · exact Or.inl ⟨q, w, i, hi, e⟩
      · have : q = n := by omega
        subst this
        exact Or.inr ⟨i, hi, e⟩)
    have h5 := hS.2.2.2.2.2.2.2.2.2.1 (h n)
    exact ⟨h4.1, h4.2.1, Nat.le_trans h4.2.2.1 (by omega), h4.2.2.2⟩
/-- an order of all jobs -/
def se_ij (b : Nat → Nat) (n : Nat) : Prop := ∀ i k, i < k → k < n → b i ≠ b k
def se_pm (S : sh_T) (b : Nat → Nat) : Prop := (∀ k, k < sh_jb S → b k < sh_jb S) ∧ (∀ j, j < sh_jb S → ∃ k, k < sh_jb S ∧ b k = j) ∧ se_ij b (sh_jb S)
theorem se_pm_in {S : sh_T} {jo b : Nat → Nat} (hk : sh_k S jo) (h : se_pm S b) {s : Nat} (hs : s < sh_ss S) : fl_in S b (sh_jb S) s := by
  obtain ⟨h1, i, h2, h3⟩ := hk.2.2.1 s hs
  obtain ⟨k, h4, h5⟩ := h.2.1 _ h1
  exact ⟨k, h4, i, by rw [h5]; exact h2, by rw [h5]; exact h3.symm⟩
/-- the floor when an order's jobs are placed on a floor on which nothing lay -/
def fl_C (S : sh_T) (g : Nat → Nat) : fl_T := (fl_co S g (fl_clear S fl_0) (sh_jb S)).1
theorem fl_C_D {S : sh_T} {jo g : Nat → Nat} (hS : sh_ok S) (hk : sh_k S jo) (hall : ∀ j, j < sh_jb S → sp_fits S j = true) (h : se_pm S g) (f : fl_T) {s : Nat} (hs : s < sh_ss S) :
    fl_bg (fl_co S g (fl_clear S f) (sh_jb S)).1 s = fl_bg (fl_C S g) s ∧ fl_ma (fl_co S g (fl_clear S f) (sh_jb S)).1 s = fl_ma (fl_C S g) s ∧ fl_bg (fl_C S g) s ≤ 7000 ∧ fl_ma (fl_C S g) s < sh_mc S := by
  have s2 := hS.2.1
  have hg : ∀ k, k < sh_jb S → g k < 6 ∧ sp_fits S (g k) = true := fun k hk => ⟨by have := h.1 k hk; omega, hall _ (h.1 k hk)⟩
  have h1 := fl_co_D hS (fl_clear_sm f hS) (fl_clear_eqv hS f fl_0) (sh_jb S) hg s (se_pm_in hk h hs)
  have h2 : 2000 + 800 * sh_jb S ≤ 7000 := by omega
  exact ⟨h1.1, h1.2.1, by have := h1.2.2.1; rw [h1.1] at this; exact Nat.le_trans this h2, by have := h1.2.2.2; rw [h1.2.1] at this; exact this⟩
theorem tk_u_congr {f f' g : Nat → Nat} : ∀ {n}, (∀ s, s < n → f s = f' s) → tk_u f g n = tk_u f' g n
  | 0, _ => rfl
  | n + 1, h => by
    unfold tk_u
    rw [tk_u_congr (fun s hs => h s (by omega)), h n (by omega)]
theorem tk_m_congr {P : pl_T} {f f' : fl_T} : ∀ {n}, (∀ s, s < n → fl_bg f s = fl_bg f' s ∧ fl_ma f s = fl_ma f' s) → tk_m P f n = tk_m P f' n
  | 0, _ => rfl
  | n + 1, h => by
    unfold tk_m
    rw [tk_m_congr (fun s hs => h s (by omega)), (h n (by omega)).1, (h n (by omega)).2]
theorem pl_take_congr {S : sh_T} {g : Nat → Nat} {f f' : fl_T} {P : pl_T} (h : ∀ s, s < sh_ss S → fl_bg f s = fl_bg f' s ∧ fl_ma f s = fl_ma f' s) : pl_take S g f P = pl_take S g f' P := by
  unfold pl_take
  rw [tk_m_congr h, tk_u_congr (fun s hs => (h s hs).1), tk_u_congr (f := fl_ma f) (fun s hs => (h s hs).2)]
/-! the best order stays an order of all jobs -/
theorem se_ij_up {S : sh_T} {p j : Nat} {R : se_T} (hx : se_px S R p) (hij : se_ij (se_be R) p) (hb : se_ib R j = false) : se_ij (nu (se_be R) p j) (p + 1) := by
  intro i k h1 h2
  rw [nu_ne _ _ (show i ≠ p by omega)]
  by_cases e : k = p
  · subst e
    rw [nu_eq]
    intro e2
    have := (hx.1 i h1).2
    rw [e2, hb] at this
    cases this
  · rw [nu_ne _ _ e]
    exact hij i k h1 (by omega)
theorem se_fo_pm {S : sh_T} {f : se_T → Bool × se_T} {p j : Nat} {R : se_T} (hpb : p + 1 ≤ sh_jb S) (hs6 : sh_jb S ≤ 6) (hx : se_px S R p) (hij : se_ij (se_be R) p) (hj : j < sh_jb S) (hb : se_ib R j = false) (hpm : se_pm S (se_bs R))
    (hf : p + 1 < sh_jb S → ∀ Q, se_px S Q (p + 1) → se_pm S (se_bs Q) → se_pm S (se_bs (f Q).2)) : se_pm S (se_bs (se_fo S f p (se_nd R p j)).2) := by
  have hu := se_px_up hx hj hb
  unfold se_fo
  split
  · exact hpm
  · split
    · have e : p + 1 = sh_jb S := by omega
      obtain ⟨u1, u2, u3⟩ := hu
      have hcp : ∀ k, k < sh_jb S → va_cpy (nu (se_be R) p j) (se_bs R) 0 0 6 k = nu (se_be R) p j k := fun k hk => by
        unfold va_cpy
        rw [if_pos ⟨Nat.zero_le _, by omega⟩, Nat.zero_add, Nat.sub_zero]
      refine ⟨fun k hk => ?_, fun i hi => ?_, fun i k h1 h2 => ?_⟩
      · show va_cpy (nu (se_be R) p j) (se_bs R) 0 0 6 k < _
        rw [hcp k hk]
        exact (u1 k (by omega)).1
      rotate_left
      · show va_cpy (nu (se_be R) p j) (se_bs R) 0 0 6 i ≠ va_cpy (nu (se_be R) p j) (se_bs R) 0 0 6 k
        rw [hcp i (by omega), hcp k h2]
        exact se_ij_up hx hij hb i k h1 (by omega)
      · have h1 := zc_n_all (u2.trans e) i hi
        obtain ⟨k, h2, h3⟩ := u3 i hi h1
        exact ⟨k, by omega, (hcp k (by omega)).trans h3⟩
    · exact hf (by omega) _ hu hpm
theorem se_lp_pm {S : sh_T} {f : se_T → Bool × se_T} {p : Nat} (hS : sh_ok S) (hall : ∀ j, j < sh_jb S → sp_fits S j = true) (hpb : p + 1 ≤ sh_jb S)
    (hf0 : p + 1 < sh_jb S → ∀ Q, se_ok S Q → se_px S Q (p + 1) → se_ok S (f Q).2 ∧ se_sm (p + 1) Q (f Q).2)
    (hf : p + 1 < sh_jb S → ∀ Q, se_px S Q (p + 1) → se_ij (se_be Q) (p + 1) → se_pm S (se_bs Q) → se_ok S Q → se_pm S (se_bs (f Q).2)) : ∀ k j R, j + k ≤ sh_jb S → se_ok S R → se_px S R p → se_ij (se_be R) p → se_pm S (se_bs R) → se_pm S (se_bs (se_lp S f p k j R).2)
  | 0, j, R, _, _, _, _, h => h
  | k + 1, j, R, hj, hR, hx, hij, h => by
    have h1 := se_lp_ok hS hall hpb hf0 1 j R (by omega) hR hx
    cases hb : se_ib R j with
    | true =>
      rw [se_lp_1 hb]
      exact se_lp_pm hS hall hpb hf0 hf k (j + 1) R (by omega) hR hx hij h
    | false =>
      by_cases hl : se_li R ≤ se_no R
      · rw [se_lp_2 hb hl]; exact h
      · have hR1 : se_ok S (se_nd R p j) := ⟨hR.1, by show se_no R + 1 ≤ se_li R; omega, hR.2.2.1, hR.2.2.2.1, fun i => by
          have := hS.2.1
          show nu _ _ _ i < 6
          unfold nu
          split
          · omega
          · exact hR.2.2.2.2.1 i, hR.2.2.2.2.2⟩
        have h2 : se_pm S (se_bs (se_fo S f p (se_nd R p j)).2) := by
          unfold se_fo
          split
          · exact h
          · split
            · have h3 := se_fo_pm (f := f) hpb hS.2.1 hx hij (show j < sh_jb S by omega) hb h (fun hlt => by omega)
              rename_i c1 c2
              rw [se_fo_2 c1 c2] at h3
              exact h3
            · exact hf (by omega) _ (se_px_up hx (by omega) hb) (se_ij_up hx hij hb) h ⟨hR1.1, hR1.2.1, hR1.2.2.1, hR1.2.2.2.1, hR1.2.2.2.2.1, hR1.2.2.2.2.2⟩
        cases hc : (se_fo S f p (se_nd R p j)).1 with
        | true =>
          rw [se_lp_3 hb hl hc] at h1 ⊢
          obtain ⟨z1, z2⟩ : se_ok S (se_fo S f p (se_nd R p j)).2 ∧ se_sm p R (se_fo S f p (se_nd R p j)).2 := h1
          exact se_lp_pm hS hall hpb hf0 hf k (j + 1) _ (by omega) z1 (se_px_sm hx z2) (fun i k h1 h2 => by rw [z2.2.2.2.2 i (by omega), z2.2.2.2.2 k h2]; exact hij i k h1 h2) h2
        | false => rw [se_lp_4 hb hl hc]; exact h2
theorem se_go_pm {S : sh_T} (hS : sh_ok S) (hall : ∀ j, j < sh_jb S → sp_fits S j = true) : ∀ r p R, p + r = sh_jb S → se_ok S R → se_px S R p → se_ij (se_be R) p → se_pm S (se_bs R) → se_pm S (se_bs (se_go S r p R).2)
  | 0, p, R, _, _, _, _, h => h
  | r + 1, p, R, hr, hR, hx, hij, h => se_lp_pm hS hall (by omega) (fun _ Q hQ hx' => se_go_ok hS hall r (p + 1) Q (by omega) hQ hx') (fun _ Q hx' hij' hp' hQ => se_go_pm hS hall r (p + 1) Q (by omega) hQ hx' hij' hp') (sh_jb S) 0 R (by omega) hR hx hij h
/-! the order by due hours: sorted by the due hour, then the job -/
def se_sd (du b : Nat → Nat) (n : Nat) : Prop := (∀ i, i < n → b i < n) ∧ (∀ j, j < n → ∃ i, i < n ∧ b i = j) ∧ (∀ i k, i < k → k < n → du (b i) < du (b k) ∨ (du (b i) = du (b k) ∧ b i < b k))
theorem se_ins_at (du : Nat → Nat) (j : Nat) : ∀ (p : Nat) (b : Nat → Nat), ∃ q, q ≤ p ∧ (∀ i, i < q → se_ins du j p b i = b i) ∧ se_ins du j p b q = j ∧ (∀ i, q < i → i ≤ p → se_ins du j p b i = b (i - 1)) ∧ (∀ i, p < i → se_ins du j p b i = b i) ∧ (∀ i, q ≤ i → i < p → du j < du (b i)) ∧ (0 < q → du (b (q - 1)) ≤ du j)
  | 0, b => ⟨0, Nat.le_refl _, fun i hi => absurd hi (Nat.not_lt_zero i), nu_eq _ _ _, fun i h1 h2 => absurd h1 (by omega), fun i hi => nu_ne _ _ (by omega), fun i h1 h2 => absurd h2 (by omega), fun h => absurd h (by omega)⟩
  | p + 1, b => by
    unfold se_ins
    split
    · rename_i hc
      obtain ⟨q, h1, h2, h3, h4, h5, h6, h7⟩ := se_ins_at du j p (nu b (p + 1) (b p))
      refine ⟨q, by omega, fun i hi => ?_, h3, fun i hi hi2 => ?_, fun i hi => ?_, fun i hi hi2 => ?_, fun hq => ?_⟩
      · rw [h2 i hi, nu_ne _ _ (by omega)]
      · rcases Nat.lt_or_ge p i with w | w
        · have e : i = p + 1 := by omega
          subst e
          rw [h5 _ w, nu_eq]
          rfl
        · rw [h4 i hi w, nu_ne _ _ (by omega)]
      · rw [h5 i (by omega), nu_ne _ _ (by omega)]
      · rcases Nat.lt_or_ge i p with w | w
        · have := h6 i hi w
          rw [nu_ne _ _ (by omega)] at this
          exact this
        · have e : i = p := by omega
          subst e
          exact hc
      · have := h7 hq
        rw [nu_ne _ _ (by omega)] at this
        exact this
    · rename_i hc
      exact ⟨p + 1, Nat.le_refl _, fun i hi => nu_ne _ _ (by omega), nu_eq _ _ _, fun i hi hi2 => absurd hi (by omega), fun i hi => nu_ne _ _ (by omega), fun i hi hi2 => absurd hi (by omega), fun _ => by rw [Nat.add_sub_cancel]; omega⟩
theorem se_ord_sd (du b : Nat → Nat) : ∀ n, se_sd du (se_ord du b n) n
  | 0 => ⟨fun i hi => absurd hi (Nat.not_lt_zero i), fun i hi => absurd hi (Nat.not_lt_zero i), fun i k _ hk => absurd hk (Nat.not_lt_zero k)⟩
  | n + 1 => by
    obtain ⟨a1, a2, a3⟩ := se_ord_sd du b n
    unfold se_ord
    obtain ⟨q, h1, h2, h3, h4, -, h6, h7⟩ := se_ins_at du n n (se_ord du b n)
    generalize se_ord du b n = c at *
    generalize se_ins du n n c = r at *
    refine ⟨fun i hi => ?_, fun j hj => ?_, fun i k hik hk => ?_⟩
    · rcases Nat.lt_trichotomy i q with w | w | w
      · rw [h2 i w]; have := a1 i (by omega); omega
      · subst w; omega
      · rw [h4 i w (by omega)]; have := a1 (i - 1) (by omega); omega
    · rcases Nat.lt_or_ge j n with w | w
      · obtain ⟨i, g1, g2⟩ := a2 j w
        rcases Nat.lt_or_ge i q with z | z
        · exact ⟨i, by omega, by rw [h2 i z]; exact g2⟩
        · exact ⟨i + 1, by omega, by rw [h4 (i + 1) (by omega) (by omega)]; exact g2⟩
      · exact ⟨q, by omega, by omega⟩
    · rcases Nat.lt_trichotomy k q with w | w | w
      · rw [h2 k w, h2 i (by omega)]; exact a3 i k hik (by omega)
      · subst w
        rw [h3, h2 i hik]
        have g := a1 i (by omega)
        have g7 := h7 (by omega)
        rcases Nat.lt_or_ge i (k - 1) with z | z
        · have g3 := a3 i (k - 1) z (by omega)
          omega
        · have e : i = k - 1 := by omega
          rw [e] at g ⊢
          omega
      · rw [h4 k w (by omega)]
        rcases Nat.lt_trichotomy i q with z | z | z
        · rw [h2 i z]; exact a3 i (k - 1) (by omega) (by omega)
        · subst z
          rw [h3]
          have g6 := h6 (k - 1) (by omega) (by omega)
          omega
        · rw [h4 i z (by omega)]; exact a3 (i - 1) (k - 1) (by omega) (by omega)
theorem se_sd_pm {S : sh_T} {b : Nat → Nat} (h : se_sd (sh_du S) b (sh_jb S)) : se_pm S b := ⟨h.1, h.2.1, fun i k h1 h2 e => by have := h.2.2 i k h1 h2; rw [e] at this; omega⟩
theorem se_pm_sw {S : sh_T} {g : Nat → Nat} {a b : Nat} (h : se_pm S g) (ha : a < sh_jb S) (hb : b < sh_jb S) : se_pm S (sw g a b) := by
  have hin : ∀ i k, i < sh_jb S → k < sh_jb S → g i = g k → i = k := fun i k hi hk e => by
    rcases Nat.lt_trichotomy i k with q | q | q
    · exact absurd e (h.2.2 i k q hk)
    · exact q
    · exact absurd e.symm (h.2.2 k i q hi)
  refine ⟨fun k hk => ?_, fun j hj => ?_, fun i k h1 h2 e => ?_⟩
  · unfold sw nu
    split
    · exact h.1 a ha
    · split
      · exact h.1 b hb
      · exact h.1 k hk
  rotate_left
  · have hi : i < sh_jb S := by omega
    unfold sw nu at e
    by_cases e1 : i = b
    · have e2 : ¬ k = b := by omega
      rw [if_pos e1, if_neg e2] at e
      by_cases e3 : k = a
      · rw [if_pos e3] at e
        have := hin _ _ ha hb e
        omega
      · rw [if_neg e3] at e
        have := hin _ _ ha h2 e
        omega
    · rw [if_neg e1] at e
      by_cases e2 : k = b
      · rw [if_pos e2] at e
        by_cases e3 : i = a
        · rw [if_pos e3] at e
          have := hin _ _ hb ha e
          omega
        · rw [if_neg e3] at e
          have := hin _ _ hi ha e
          omega
      · rw [if_neg e2] at e
        by_cases e3 : i = a
        · by_cases e4 : k = a
          · omega
          · rw [if_pos e3, if_neg e4] at e
            have := hin _ _ hb h2 e
            omega
        · rw [if_neg e3] at e
          by_cases e4 : k = a
          · rw [if_pos e4] at e
            have := hin _ _ hi hb e
            omega
          · rw [if_neg e4] at e
            exact h.2.2 i k h1 h2 e
  · obtain ⟨k, h1, h2⟩ := h.2.1 j hj
    by_cases e1 : k = a
    · exact ⟨b, hb, by subst e1; unfold sw; rw [nu_eq]; exact h2⟩
    · by_cases e2 : k = b
      · subst e2
        by_cases e3 : a = k
        · exact absurd e3.symm e1
        · exact ⟨a, ha, by unfold sw; rw [nu_ne _ _ e3, nu_eq]; exact h2⟩
      · exact ⟨k, h1, by unfold sw; rw [nu_ne _ _ e2, nu_ne _ _ e1]; exact h2⟩
theorem se_pm_cpy {S : sh_T} {g h : Nat → Nat} (hS : sh_ok S) (hp : se_pm S g) : se_pm S (va_cpy g h 0 0 6) := by
  have s2 := hS.2.1
  have hcp : ∀ k, k < sh_jb S → va_cpy g h 0 0 6 k = g k := fun k hk => by
    unfold va_cpy
    rw [if_pos ⟨Nat.zero_le _, by omega⟩, Nat.zero_add, Nat.sub_zero]
  refine ⟨fun k hk => by rw [hcp k hk]; exact hp.1 k hk, fun j hj => ?_, fun i k h1 h2 => by rw [hcp i (by omega), hcp k h2]; exact hp.2.2 i k h1 h2⟩
  obtain ⟨k, h1, h2⟩ := hp.2.1 j hj
  exact ⟨k, h1, by rw [hcp k h1]; exact h2⟩
theorem va_cpy_lt {g h : Nat → Nat} {k : Nat} (hk : k < 6) : va_cpy g h 0 0 6 k = g k := by
  unfold va_cpy
  rw [if_pos ⟨Nat.zero_le _, by omega⟩, Nat.zero_add, Nat.sub_zero]
/-! draws -/
def im_x (x : Int64) : Int64 := x * 6364136223846793005 + 1442695040888963407
def im_a (x : Int64) (n : Nat) : Nat := (x.toUInt64.toNat / 2 ^ 33) % n
theorem im_sh (x : Int64) : (x.toUInt64 >>> ((nI 33).toInt64.toUInt64 &&& Int64.toUInt64 63)).toInt64 = lN (x.toUInt64.toNat / 2 ^ 33) := by
  have e : (nI 33).toInt64.toUInt64 &&& Int64.toUInt64 63 = 33 := by decide
  rw [e]
  have e2 : (x.toUInt64 >>> (33 : UInt64)).toNat = x.toUInt64.toNat / 2 ^ 33 := by
    rw [UInt64.toNat_shiftRight, Nat.shiftRight_eq_div_pow]
    rfl
  rw [← e2]
  apply Int64.toBitVec_inj.mp
  show (x.toUInt64 >>> (33 : UInt64)).toBitVec = BitVec.ofNat 64 (x.toUInt64 >>> (33 : UInt64)).toBitVec.toNat
  generalize (x.toUInt64 >>> (33 : UInt64)).toBitVec = v
  simp
theorem lN_div {k n : Nat} (hk : k < 2 ^ 31) (hn : n < 2 ^ 31) : lN k / lN n = lN (k / n) := by
  have h := Nat.div_le_self k n
  apply Int64.toInt_inj.mp
  rw [Int64.toInt_div, lN_toInt hk, lN_toInt hn, lN_toInt (by omega), ← Int.ofNat_tdiv]
  generalize k / n = q at h ⊢
  exact Int.bmod_eq_of_le (by omega) (by omega)
theorem im_rem (x : Int64) {n : Nat} (hn : n < 2 ^ 31) : (lN (x.toUInt64.toNat / 2 ^ 33) - lN (x.toUInt64.toNat / 2 ^ 33) / lN n * lN n).toInt32 = nI (im_a x n) := by
  have h : x.toUInt64.toNat < 2 ^ 64 := x.toUInt64.toNat_lt
  have hk : x.toUInt64.toNat / 2 ^ 33 < 2 ^ 31 := by omega
  rw [lN_div hk hn, lN_mul, lN_sub (Nat.div_mul_le_self _ _), lN_i]
  unfold im_a
  rw [Nat.mod_eq_sub_div_mul]
end
section
/-! the face, the longer calls -/
section CXB
variable {G : am_G} {x : Int64} {t : Bool} {S : sh_T} {F : fl_T} {R : se_T} {P : pl_T} {W : am_H} {jo : Nat → Nat}
theorem c_X_nextPlace (d bc bs n : Nat) (h1 : 1 ≤ n) (h6 : n ≤ 6) : am_Fn G m_X_nextPlace d bc bs [.ref 1, .int (nI n)] (hx x t S F R P W) (some (.int (nI (im_a (im_x x) n)))) (hx (im_x x) t S F R P W) := by
  refine am_aload_n d_X_nextPlace_0 rfl rfl ?_
  refine am_aload_n d_X_nextPlace_1 rfl rfl ?_
  refine am_get F_X 4 (by decide) d_X_nextPlace_2 w_221 rfl rfl ?_
  refine am_ldc2 d_X_nextPlace_5 w_529 ?_
  refine am_lmul d_X_nextPlace_8 ?_
  refine am_ldc2 d_X_nextPlace_9 w_530 ?_
  refine am_ladd d_X_nextPlace_12 ?_
  refine am_put F_X 4 (by decide) d_X_nextPlace_13 w_221 rfl rfl (Nat.le_of_ble_eq_true rfl) rfl rfl ?_
  refine am_iload_n d_X_nextPlace_16 rfl rfl ?_
  refine am_ifN_le (tgt := 34) d_X_nextPlace_17 (by decide) (by omega) (fun c17 => ?_) (fun c17 => ?_)
  · exact absurd c17 (by omega)
  · refine am_aload_n d_X_nextPlace_20 rfl rfl ?_
    refine am_get F_X 4 (by decide) d_X_nextPlace_21 w_221 rfl rfl ?_
    refine am_bipush (v := nI 33) d_X_nextPlace_24 (by decide) ?_
    refine am_lushr d_X_nextPlace_26 ?_
    rw [im_sh]
    refine am_iload_n d_X_nextPlace_27 rfl rfl ?_
    refine am_i2lN d_X_nextPlace_28 (by omega) ?_
    refine am_lrem d_X_nextPlace_29 (fun e => by have := (lN_eq (a := n) (b := 0) (by omega) (by omega)).mp e; omega) ?_
    refine am_l2i d_X_nextPlace_30 ?_
    rw [im_rem _ (by omega)]
    refine am_goto (tgt := 35) d_X_nextPlace_31 (by decide) ?_
    refine am_iret d_X_nextPlace_35 rfl ?_
    exact ⟨rfl, rfl⟩
abbrev rn_q (S : sh_T) (R : se_T) (n : Nat) : Bool × se_T := se_go S (sh_jb S) 0 (se_st S R n)
/-- the plan after a run -/
def rn_P (S : sh_T) (R : se_T) (P : pl_T) (n : Nat) : pl_T := (sh_jb S, sh_ss S, sp_co S (se_bs (rn_q S R n).2) (sh_jb S), se_bo (rn_q S R n).2, se_no (rn_q S R n).2, tk_m P (fl_C S (se_bs (rn_q S R n).2)) (sh_ss S), va_cpy (se_bs (rn_q S R n).2) (pl_ja P) 0 0 6, tk_u (fl_bg (fl_C S (se_bs (rn_q S R n).2))) (pl_bg P) (sh_ss S), tk_u (fl_ma (fl_C S (se_bs (rn_q S R n).2))) (pl_ma P) (sh_ss S))
theorem sp_all_at {S : sh_T} : ∀ {n}, sp_all S n = true → ∀ j, j < n → sp_fits S j = true
  | 0, _, j, h => absurd h (Nat.not_lt_zero j)
  | n + 1, e, j, h => by
    cases hf : sp_fits S j with
    | true => rfl
    | false => rw [sp_all_f hf (n + 1) h] at e; cases e
theorem se_st_ok {S : sh_T} {R : se_T} {n : Nat} (hS : sh_ok S) (hall : ∀ j, j < sh_jb S → sp_fits S j = true) (hn : n ≤ 2000) (hr : se_r R) : se_ok S (se_st S R n) ∧ se_px S (se_st S R n) 0 ∧ se_pm S (se_bs (se_st S R n)) := by
  have s2 := hS.2.1
  have hob := se_ord_bd (sh_du S) (se_bs R) hr.2.1 (sh_jb S) s2
  have hg : ∀ k, k < sh_jb S → se_ord (sh_du S) (se_bs R) (sh_jb S) k < 6 ∧ sp_fits S (se_ord (sh_du S) (se_bs R) (sh_jb S) k) = true := fun k hk => ⟨hob k, hall _ (se_ord_lt (sh_du S) (se_bs R) (sh_jb S) k hk)⟩
  exact ⟨⟨fun j hj => se_als_at S _ _ j hj, Nat.zero_le _, hn, sp_co_bd hS s2 hg, hr.1, hob⟩, ⟨fun k hk => absurd hk (Nat.not_lt_zero k), zc_n_0 _ (fun k _ => hr.2.2 k), fun j _ h => by have := hr.2.2 j; rw [show se_ib (se_st S R n) j = se_ib R j from rfl, this] at h; cases h⟩, se_sd_pm (se_ord_sd (sh_du S) (se_bs R) (sh_jb S))⟩
theorem rn_ok {S : sh_T} {R : se_T} {n : Nat} (hS : sh_ok S) (hall : ∀ j, j < sh_jb S → sp_fits S j = true) (hn : n ≤ 2000) (hr : se_r R) : se_ok S (rn_q S R n).2 ∧ se_sm 0 (se_st S R n) (rn_q S R n).2 ∧ se_pm S (se_bs (rn_q S R n).2) := by
  obtain ⟨a, b, c⟩ := se_st_ok hS hall hn hr
  obtain ⟨e, f⟩ := se_go_ok hS hall (sh_jb S) 0 (se_st S R n) (by omega) a b
  exact ⟨e, f, se_go_pm hS hall (sh_jb S) 0 (se_st S R n) (by omega) a b (fun i k _ hk => absurd hk (Nat.not_lt_zero k)) c⟩
set_option maxRecDepth 20000 in
theorem c_X_run (hS : sh_ok S) (hk : sh_k S jo) (hr : se_r R) (hP : pl_ok P) (d bc bs : Nat) (hd : 6 ≤ d) (hb1 : 1 ≤ bc) (hb2 : 6 ≤ bs) (n : Int32) : am_W G m_X_run (d + 18) bc bs (fQ [6, 7] (cd_run S n) (hx x t S F R P W) (fun v h' => ∃ i F', n = nI i ∧ 1 ≤ i ∧ i ≤ 2000 ∧ 0 < sh_jb S ∧ sp_all S (sh_jb S) = true ∧ v = some (.int (if (rn_q S R i).1 then nI 0 else nI 1)) ∧ h' = (hx x false S F' (rn_q S R i).2 (rn_P S R P i) W))) 0 (lv_args 0 [.ref 1, .int n]) [] (hx x t S F R P W) := by
  obtain ⟨s1, s2, s3, s4, s5, s6, s7, s8, s9, s10, s11, s12, s13, s14⟩ := id hS
  refine am_iload_n d_X_run_0 rfl rfl ?_
  refine am_iconst (v := nI 1) d_X_run_1 (by decide) ?_
  refine am_sipush (v := nI 2000) d_X_run_2 (by decide) ?_
  refine am_callF 3 (am_lkS (z := m_X_isWithin) d_X_run_5 w_248 w_249 w_1 w_250 (by decide) np_X_isWithin) (by decide) (by decide) (Nat.le_of_ble_eq_true rfl) (Nat.le_of_ble_eq_true rfl) (Nat.zero_le _) (Nat.zero_le _) (c_X_isWithin _ _ _ _ _ _) ?_
  refine am_ifZ_ne (tgt := 21) d_X_run_8 (by decide) (fun c8 => ?_) (fun c8 => ?_)
  · refine am_aload_n d_X_run_21 rfl rfl ?_
    refine am_get F_X 0 (by decide) d_X_run_22 w_217 rfl rfl ?_
    refine am_get F_S 5 (by decide) d_X_run_25 w_46 rfl rfl ?_
    refine am_ifN_eq (tgt := 41) d_X_run_28 (by decide) (by omega) (fun c28 => ?_) (fun c28 => ?_)
    · refine am_throwS (ci := 7) (tx := "no jobs, or one does not fit") d_X_run_41 d_X_run_44 d_X_run_45 d_X_run_47 d_X_run_50 rfl rfl w_319 w_320 w_11 (by decide) oA_7 (by decide +kernel) (by omega) (by omega) (by omega) (Nat.le_of_ble_eq_true rfl) rfl ?_
      have ec : cd_run S n = 2 := by unfold cd_run; (try simp only [ek]); (repeat' split) <;> first | rfl | omega | simp_all
      rw [ec]
      exact ⟨_, rfl, rfl, rfl⟩
    · refine am_aload_n d_X_run_31 rfl rfl ?_
      refine am_get F_X 0 (by decide) d_X_run_32 w_217 rfl rfl ?_
      refine am_callF 1 (am_recvV (z := m_S_allFit) rfl d_X_run_35 w_420 w_421 w_422 w_423 F_S.1 rfl (by decide) np_S_allFit) (by decide) (by decide) (Nat.le_of_ble_eq_true rfl) (Nat.le_of_ble_eq_true rfl) (Nat.zero_le _) (Nat.zero_le _) (am_rm (d := 2) (by omega) (c_S_allFit hS 0 _ _)) ?_
      refine am_ifZ_ne (tgt := 51) d_X_run_38 (by decide) (fun c38 => ?_) (fun c38 => ?_)
      · obtain ⟨i, rfl, hi1, hi2⟩ := sp_in_t c8 (by decide) (by decide)
        have hall := sp_all_at c38
        have ec : cd_run S (nI i) = 0 := by unfold cd_run; (try simp only [ek]); (repeat' split) <;> first | rfl | omega | simp_all
        rw [ec]
        obtain ⟨r1, r2, r3⟩ := rn_ok (n := i) hS hall hi2 hr
        have hg : ∀ k, k < sh_jb S → se_bs (rn_q S R i).2 k < 6 ∧ sp_fits S (se_bs (rn_q S R i).2 k) = true := fun k hk => ⟨r1.2.2.2.2.2 k, hall _ (r3.1 k hk)⟩
        refine am_aload_n d_X_run_51 rfl rfl ?_
        refine am_get F_X 2 (by decide) d_X_run_52 w_219 rfl rfl ?_
        refine am_iload_n d_X_run_55 rfl rfl ?_
        refine am_callQ 2 (am_recvV (z := m_R_findBest) rfl d_X_run_56 w_433 w_434 w_435 w_436 F_R.1 rfl (by decide) np_R_findBest) (by decide) (by decide) (Nat.le_of_ble_eq_true rfl) (Nat.le_of_ble_eq_true rfl) (Nat.zero_le _) (Nat.zero_le _) (am_rm (d := 17) (by omega) (c_R_findBest hS hk hall (by omega) _ _ i hi2 hr)) (fun v56 h56 q56 => ?_) (fun x56 h56 q56 => ?_)
        · obtain ⟨F1, q1, rfl⟩ := q56
          cases q1
          have hC := fun s (hs : s < sh_ss S) => fl_C_D hS hk hall r3 F1 hs
          refine am_istore_n d_X_run_59 rfl (by decide) ?_
          refine am_aload_n d_X_run_60 rfl rfl ?_
          refine am_get F_X 3 (by decide) d_X_run_61 w_220 rfl rfl ?_
          refine am_aload_n d_X_run_64 rfl rfl ?_
          refine am_get F_X 2 (by decide) d_X_run_65 w_219 rfl rfl ?_
          refine am_get F_R 5 (by decide) d_X_run_68 w_142 rfl rfl ?_
          refine am_aload_n d_X_run_71 rfl rfl ?_
          refine am_get F_X 1 (by decide) d_X_run_72 w_218 rfl rfl ?_
          refine am_callF 3 (am_recvV (z := m_P_take) rfl d_X_run_75 w_498 w_499 w_500 w_501 F_P.1 rfl (by decide) np_P_take) (by decide) (by decide) (Nat.le_of_ble_eq_true rfl) (Nat.le_of_ble_eq_true rfl) (Nat.zero_le _) (Nat.zero_le _) (am_rm (d := 5) (by omega) (c_P_takeR (F := F1) hS hP 0 _ _ hg (fun s hs => ⟨by rw [(hC s hs).1]; exact (hC s hs).2.2.1, by rw [(hC s hs).2.1]; have := (hC s hs).2.2.2; omega⟩))) ?_
          rw [pl_take_congr (fun s hs => ⟨(hC s hs).1, (hC s hs).2.1⟩)]
          refine am_aload_n d_X_run_78 rfl rfl ?_
          refine am_get F_X 3 (by decide) d_X_run_79 w_220 rfl rfl ?_
          refine am_aload_n d_X_run_82 rfl rfl ?_
          refine am_get F_X 2 (by decide) d_X_run_83 w_219 rfl rfl ?_
          refine am_get F_R 8 (by decide) d_X_run_86 w_146 rfl rfl ?_
          refine am_put F_P 7 (by decide) d_X_run_89 w_191 rfl rfl (Nat.le_of_ble_eq_true rfl) rfl rfl ?_
          refine am_aload_n d_X_run_92 rfl rfl ?_
          refine am_get F_X 3 (by decide) d_X_run_93 w_220 rfl rfl ?_
          refine am_aload_n d_X_run_96 rfl rfl ?_
          refine am_get F_X 2 (by decide) d_X_run_97 w_219 rfl rfl ?_
          refine am_get F_R 9 (by decide) d_X_run_100 w_148 rfl rfl ?_
          refine am_put F_P 8 (by decide) d_X_run_103 w_193 rfl rfl (Nat.le_of_ble_eq_true rfl) rfl rfl ?_
          refine am_aload_n d_X_run_106 rfl rfl ?_
          refine am_iconst (v := zI false) d_X_run_107 (by decide) ?_
          refine am_put F_X 5 (by decide) d_X_run_108 w_222 rfl rfl (Nat.le_of_ble_eq_true rfl) rfl rfl ?_
          refine am_iload_n d_X_run_111 rfl rfl ?_
          refine am_ifZ_eq (tgt := 119) d_X_run_112 (by decide) (fun c112 => ?_) (fun c112 => ?_)
          · refine am_iconst (v := nI 1) d_X_run_119 (by decide) ?_
            refine am_iret d_X_run_120 rfl ?_
            exact ⟨_, rfl, i, _, rfl, hi1, hi2, by omega, c38, by rw [if_neg (by rw [c112]; decide)], rfl⟩
          · refine am_iconst (v := nI 0) d_X_run_115 (by decide) ?_
            refine am_goto (tgt := 120) d_X_run_116 (by decide) ?_
            refine am_iret d_X_run_120 rfl ?_
            exact ⟨_, rfl, i, _, rfl, hi1, hi2, by omega, c38, by rw [if_pos c112], rfl⟩
        · obtain ⟨F1, q1, -⟩ := q56
          cases q1
      · refine am_throwS (ci := 7) (tx := "no jobs, or one does not fit") d_X_run_41 d_X_run_44 d_X_run_45 d_X_run_47 d_X_run_50 rfl rfl w_319 w_320 w_11 (by decide) oA_7 (by decide +kernel) (by omega) (by omega) (by omega) (Nat.le_of_ble_eq_true rfl) rfl ?_
        have ec : cd_run S n = 2 := by unfold cd_run; (try simp only [ek]); (repeat' split) <;> first | rfl | omega | simp_all
        rw [ec]
        exact ⟨_, rfl, rfl, rfl⟩
  · refine am_throwS (ci := 6) (tx := "no such number of nodes") d_X_run_11 d_X_run_14 d_X_run_15 d_X_run_17 d_X_run_20 rfl rfl w_251 w_252 w_10 (by decide) oA_6 (by decide +kernel) (by omega) (by omega) (by omega) (Nat.le_of_ble_eq_true rfl) rfl ?_
    have ec : cd_run S n = 1 := by unfold cd_run; (try simp only [ek]); (repeat' split) <;> first | rfl | omega | simp_all
    rw [ec]
    exact ⟨_, rfl, rfl, rfl⟩
/-- one change: two draws -/
def im_st (S : sh_T) (q : Int64 × pl_T × Nat) : Int64 × pl_T × Nat := (im_x (im_x q.1), (pl_ch S q.2.1 (im_a (im_x q.1) (pl_jb q.2.1)) (im_a (im_x (im_x q.1)) (pl_jb q.2.1))).2, if (pl_ch S q.2.1 (im_a (im_x q.1) (pl_jb q.2.1)) (im_a (im_x (im_x q.1)) (pl_jb q.2.1))).1 then q.2.2 + 1 else q.2.2)
def im_it (S : sh_T) (q : Int64 × pl_T × Nat) : Nat → Int64 × pl_T × Nat
  | 0 => q
  | n + 1 => im_st S (im_it S q n)
def im_I (S : sh_T) (P : pl_T) : Prop := pl_ok P ∧ se_pm S (pl_ja P) ∧ pl_jb P = sh_jb S
theorem pl_ch_I {S : sh_T} {P : pl_T} {a b : Nat} (hS : sh_ok S) (hall : ∀ j, j < sh_jb S → sp_fits S j = true) (h : im_I S P) (ha : a < sh_jb S) (hb : b < sh_jb S) : im_I S (pl_ch S P a b).2 := by
  obtain ⟨⟨p1, p2, p3, p4, p5, p6⟩, h2, h3⟩ := id h
  have s2 := hS.2.1
  unfold pl_ch
  split
  · have hpm := se_pm_sw h2 ha hb
    refine ⟨⟨p1, p2, ?_, sw_bd p4, p5, p6⟩, hpm, h3⟩
    show sp_co S _ (pl_jb P) ≤ _
    rw [h3]
    exact sp_co_bd hS s2 (fun k hk => ⟨sw_bd p4 k, hall _ (hpm.1 k hk)⟩)
  · exact h
theorem im_a_lt (x : Int64) {n : Nat} (h : 1 ≤ n) : im_a x n < n := Nat.mod_lt _ h
theorem im_it_I {S : sh_T} {q : Int64 × pl_T × Nat} (hS : sh_ok S) (hall : ∀ j, j < sh_jb S → sp_fits S j = true) (h1 : 1 ≤ sh_jb S) (h : im_I S q.2.1) : ∀ n, im_I S (im_it S q n).2.1 ∧ (im_it S q n).2.2 ≤ q.2.2 + n
  | 0 => ⟨h, Nat.le_refl _⟩
  | n + 1 => by
    obtain ⟨g1, g2⟩ := im_it_I hS hall h1 h n
    refine ⟨pl_ch_I hS hall g1 (by rw [g1.2.2]; exact im_a_lt _ h1) (by rw [g1.2.2]; exact im_a_lt _ h1), ?_⟩
    show (if _ then (im_it S q n).2.2 + 1 else (im_it S q n).2.2) ≤ _
    split
    · exact Nat.succ_le_succ g2
    · exact Nat.le_succ_of_le g2
/-- what an improve comes to -/
def im_P (S : sh_T) (P : pl_T) : pl_T := pl_take S (pl_ja P) (fl_C S (pl_ja P)) P
theorem am_lq {y : am_M} {d bc bs : Nat} {Q : am_O → am_H → Prop} {pc : Nat} {L L2 : List (Nat × Value)} {st : List Value} {h : am_H} (e : L = L2) (k : am_W G y d bc bs Q pc L2 st h) : am_W G y d bc bs Q pc L st h := e ▸ k
set_option maxRecDepth 20000 in
set_option maxHeartbeats 1000000 in
theorem c_X_improve_l {Q : am_O → am_H → Prop} (hS : sh_ok S) (hall : ∀ j, j < sh_jb S → sp_fits S j = true) (h1 : 1 ≤ sh_jb S) (hI : im_I S P) (d bc bs n : Nat) (hn : n ≤ 100) (hk : ∀ F, am_W G m_X_improve (d + 6) bc bs Q 86 [(0, .ref 1), (1, .int (nI n)), (2, .int (nI (im_it S (x, P, 0) n).2.2)), (3, .int (nI n))] [] (hx (im_it S (x, P, 0) n).1 t S F R (im_it S (x, P, 0) n).2.1 W)) : ∀ (g i : Nat), i ≤ n → n - i < g → ∀ F,
    am_W G m_X_improve (d + 6) bc bs Q 28 [(0, .ref 1), (1, .int (nI n)), (2, .int (nI (im_it S (x, P, 0) i).2.2)), (3, .int (nI i))] [] (hx (im_it S (x, P, 0) i).1 t S F R (im_it S (x, P, 0) i).2.1 W) := by
  intro g
  have s2 := hS.2.1
  induction g with
  | zero => intro i _ h; omega
  | succ g ih =>
    intro i hi hg F
    obtain ⟨g1, g2⟩ := im_it_I (q := (x, P, 0)) hS hall h1 hI i
    have g3 := g1.2.2
    refine am_iload_n d_X_improve_28 rfl rfl ?_
    refine am_iload_n d_X_improve_29 rfl rfl ?_
    refine am_icmpN_ge (tgt := 86) d_X_improve_30 (by decide) (by omega) (by omega) (fun c30 => ?_) (fun c30 => ?_)
    · have e : i = n := by omega
      subst e
      exact hk F
    · have ha := im_a_lt (im_x (im_it S (x, P, 0) i).1) h1
      have hb := im_a_lt (im_x (im_x (im_it S (x, P, 0) i).1)) h1
      rw [← g1.2.2] at ha hb
      have hpm := se_pm_sw g1.2.1 (a := im_a (im_x (im_it S (x, P, 0) i).1) (pl_jb (im_it S (x, P, 0) i).2.1)) (b := im_a (im_x (im_x (im_it S (x, P, 0) i).1)) (pl_jb (im_it S (x, P, 0) i).2.1)) (by omega) (by omega)
      have hgk : ∀ k, k < pl_jb (im_it S (x, P, 0) i).2.1 → sw (pl_ja (im_it S (x, P, 0) i).2.1) (im_a (im_x (im_it S (x, P, 0) i).1) (pl_jb (im_it S (x, P, 0) i).2.1)) (im_a (im_x (im_x (im_it S (x, P, 0) i).1)) (pl_jb (im_it S (x, P, 0) i).2.1)) k < 6 ∧ sp_fits S (sw (pl_ja (im_it S (x, P, 0) i).2.1) (im_a (im_x (im_it S (x, P, 0) i).1) (pl_jb (im_it S (x, P, 0) i).2.1)) (im_a (im_x (im_x (im_it S (x, P, 0) i).1)) (pl_jb (im_it S (x, P, 0) i).2.1)) k) = true := fun k hk => ⟨sw_bd g1.1.2.2.2.1 k, hall _ (hpm.1 k (by omega))⟩
      have hz1 : ∀ (c : (pl_ch S (im_it S (x, P, 0) i).2.1 (im_a (im_x (im_it S (x, P, 0) i).1) (pl_jb (im_it S (x, P, 0) i).2.1)) (im_a (im_x (im_x (im_it S (x, P, 0) i).1)) (pl_jb (im_it S (x, P, 0) i).2.1))).1 = true), (im_it S (x, P, 0) (i + 1)).2.2 = (im_it S (x, P, 0) i).2.2 + 1 := fun c => if_pos c
      have hz0 : ∀ (c : (pl_ch S (im_it S (x, P, 0) i).2.1 (im_a (im_x (im_it S (x, P, 0) i).1) (pl_jb (im_it S (x, P, 0) i).2.1)) (im_a (im_x (im_x (im_it S (x, P, 0) i).1)) (pl_jb (im_it S (x, P, 0) i).2.1))).1 = false), (im_it S (x, P, 0) (i + 1)).2.2 = (im_it S (x, P, 0) i).2.2 := fun c => if_neg (by rw [c]; decide)
      refine am_aload_n d_X_improve_33 rfl rfl ?_
      refine am_aload_n d_X_improve_34 rfl rfl ?_
      refine am_get F_X 3 (by decide) d_X_improve_35 w_220 rfl rfl ?_
      refine am_get F_P 4 (by decide) d_X_improve_38 w_186 rfl rfl ?_
      refine am_callF 2 (am_recvV (z := m_X_nextPlace) rfl d_X_improve_41 w_525 w_527 ws_10 w_528 F_X.1 rfl (by decide) np_X_nextPlace) (by decide) (by decide) (Nat.le_of_ble_eq_true rfl) (Nat.le_of_ble_eq_true rfl) (Nat.zero_le _) (Nat.zero_le _) (c_X_nextPlace _ _ _ _ (by omega) (by omega)) ?_
      refine am_istore d_X_improve_44 (by decide) ?_
      refine am_aload_n d_X_improve_46 rfl rfl ?_
      refine am_aload_n d_X_improve_47 rfl rfl ?_
      refine am_get F_X 3 (by decide) d_X_improve_48 w_220 rfl rfl ?_
      refine am_get F_P 4 (by decide) d_X_improve_51 w_186 rfl rfl ?_
      refine am_callF 2 (am_recvV (z := m_X_nextPlace) rfl d_X_improve_54 w_525 w_527 ws_10 w_528 F_X.1 rfl (by decide) np_X_nextPlace) (by decide) (by decide) (Nat.le_of_ble_eq_true rfl) (Nat.le_of_ble_eq_true rfl) (Nat.zero_le _) (Nat.zero_le _) (c_X_nextPlace _ _ _ _ (by omega) (by omega)) ?_
      refine am_istore d_X_improve_57 (by decide) ?_
      refine am_aload_n d_X_improve_59 rfl rfl ?_
      refine am_get F_X 3 (by decide) d_X_improve_60 w_220 rfl rfl ?_
      refine am_iload d_X_improve_63 rfl ?_
      refine am_iload d_X_improve_65 rfl ?_
      refine am_aload_n d_X_improve_67 rfl rfl ?_
      refine am_get F_X 1 (by decide) d_X_improve_68 w_218 rfl rfl ?_
      refine am_callQ 4 (am_recvV (z := m_P_changeIfLess) rfl d_X_improve_71 w_531 w_532 w_533 w_534 F_P.1 rfl (by decide) np_P_changeIfLess) (by decide) (by decide) (Nat.le_of_ble_eq_true rfl) (Nat.le_of_ble_eq_true rfl) (Nat.zero_le _) (Nat.zero_le _) (am_rm (d := 5) (by omega) (c_P_changeIfLess (P := (im_it S (x, P, 0) i).2.1) hS g1.1 0 _ _ _ _ (by omega) (by omega) hgk)) (fun v71 h71 q71 => ?_) (fun x71 h71 q71 => ?_)
      · obtain ⟨F1, q1, rfl⟩ := q71
        cases q1
        refine am_ifZ_eq (tgt := 80) d_X_improve_74 (by decide) (fun c74 => ?_) (fun c74 => ?_)
        · refine am_iinc d_X_improve_80 rfl (am_inc _) (by decide) ?_
          refine am_goto (tgt := 28) d_X_improve_83 (by decide) ?_
          exact am_lo (L' := [(0, .ref 1), (1, .int (nI n)), (2, .int (nI (im_it S (x, P, 0) i).2.2)), (3, .int (nI (i + 1)))]) rfl (am_lq (L2 := [(0, .ref 1), (1, .int (nI n)), (2, .int (nI (im_it S (x, P, 0) (i + 1)).2.2)), (3, .int (nI (i + 1)))]) (by rw [hz0 c74]) (ih (i + 1) (by omega) (by omega) F1))
        · refine am_iinc d_X_improve_77 rfl (am_inc _) (by decide) ?_
          refine am_iinc d_X_improve_80 rfl (am_inc _) (by decide) ?_
          refine am_goto (tgt := 28) d_X_improve_83 (by decide) ?_
          exact am_lo (L' := [(0, .ref 1), (1, .int (nI n)), (2, .int (nI ((im_it S (x, P, 0) i).2.2 + 1))), (3, .int (nI (i + 1)))]) rfl (am_lq (L2 := [(0, .ref 1), (1, .int (nI n)), (2, .int (nI (im_it S (x, P, 0) (i + 1)).2.2)), (3, .int (nI (i + 1)))]) (by rw [hz1 c74]) (ih (i + 1) (by omega) (by omega) F1))
      · obtain ⟨F1, q1, -⟩ := q71
        cases q1
set_option maxRecDepth 20000 in
theorem c_X_improve (hS : sh_ok S) (hk : sh_k S jo) (hP : pl_ok P) (hfr : 0 < pl_jb P → t = false → im_I S P ∧ sp_all S (sh_jb S) = true) (d bc bs : Nat) (hd : 6 ≤ d) (hb1 : 1 ≤ bc) (hb2 : 6 ≤ bs) (n : Int32) : am_W G m_X_improve (d + 7) bc bs (fQ [6, 7] (cd_improve P t n) (hx x t S F R P W) (fun v h' => ∃ i F', n = nI i ∧ i ≤ 100 ∧ 0 < pl_jb P ∧ t = false ∧ v = some (.int (nI (im_it S (x, P, 0) i).2.2)) ∧ h' = (hx (im_it S (x, P, 0) i).1 t S F' R (im_P S (im_it S (x, P, 0) i).2.1) W))) 0 (lv_args 0 [.ref 1, .int n]) [] (hx x t S F R P W) := by
  obtain ⟨s1, s2, s3, s4, s5, s6, s7, s8, s9, s10, s11, s12, s13, s14⟩ := id hS
  by_cases hp : 0 < pl_jb P ∧ t = false
  · refine am_iload_n d_X_improve_0 rfl rfl ?_
    refine am_iconst (v := nI 0) d_X_improve_1 (by decide) ?_
    refine am_bipush (v := nI 100) d_X_improve_2 (by decide) ?_
    refine am_callF 3 (am_lkS (z := m_X_isWithin) d_X_improve_4 w_248 w_249 w_1 w_250 (by decide) np_X_isWithin) (by decide) (by decide) (Nat.le_of_ble_eq_true rfl) (Nat.le_of_ble_eq_true rfl) (Nat.zero_le _) (Nat.zero_le _) (c_X_isWithin _ _ _ _ _ _) ?_
    refine am_ifZ_ne (tgt := 20) d_X_improve_7 (by decide) (fun c7 => ?_) (fun c7 => ?_)
    · refine am_aload_n d_X_improve_20 rfl rfl ?_
      refine am_callF 1 (am_recvV (z := m_X_demandFreshPlan) rfl d_X_improve_21 w_516 w_518 ws_9 w_519 F_X.1 rfl (by decide) np_X_demandFreshPlan) (by decide) (by decide) (Nat.le_of_ble_eq_true rfl) (Nat.le_of_ble_eq_true rfl) (Nat.zero_le _) (Nat.zero_le _) (am_rm (d := 1) (by omega) (c_X_demandFreshPlan_0 hP 0 _ _ hp)) ?_
      obtain ⟨i, rfl, -, hi⟩ := sp_in_t c7 (by decide) (by decide)
      obtain ⟨hI, hal⟩ := hfr hp.1 hp.2
      have hall := sp_all_at hal
      have h1 : 1 ≤ sh_jb S := by rw [← hI.2.2]; exact hp.1
      have ec : cd_improve P t (nI i) = 0 := by unfold cd_improve; (try simp only [ek]); (repeat' split) <;> first | rfl | omega | simp_all
      rw [ec]
      refine am_iconst (v := nI 0) d_X_improve_24 (by decide) ?_
      refine am_istore_n d_X_improve_25 rfl (by decide) ?_
      refine am_iconst (v := nI 0) d_X_improve_26 (by decide) ?_
      refine am_istore_n d_X_improve_27 rfl (by decide) ?_
      refine am_lo (L' := [(0, .ref 1), (1, .int (nI i)), (2, .int (nI (im_it S (x, P, 0) 0).2.2)), (3, .int (nI 0))]) rfl (c_X_improve_l (x := x) (P := P) hS hall h1 hI (d + 1) bc bs i hi (fun F => ?_) (i + 1) 0 (Nat.zero_le _) (by omega) F)
      obtain ⟨g1, -⟩ := im_it_I (q := (x, P, 0)) hS hall h1 hI i
      have hg : ∀ k, k < sh_jb S → pl_ja (im_it S (x, P, 0) i).2.1 k < 6 ∧ sp_fits S (pl_ja (im_it S (x, P, 0) i).2.1 k) = true := fun k hk => ⟨g1.1.2.2.2.1 k, hall _ (g1.2.1.1 k hk)⟩
      have hC := fun s (hs : s < sh_ss S) => fl_C_D hS hk hall g1.2.1 F hs
      refine am_aload_n d_X_improve_86 rfl rfl ?_
      refine am_get F_X 3 (by decide) d_X_improve_87 w_220 rfl rfl ?_
      refine am_aload_n d_X_improve_90 rfl rfl ?_
      refine am_get F_X 3 (by decide) d_X_improve_91 w_220 rfl rfl ?_
      refine am_get F_P 1 (by decide) d_X_improve_94 w_180 rfl rfl ?_
      refine am_aload_n d_X_improve_97 rfl rfl ?_
      refine am_get F_X 1 (by decide) d_X_improve_98 w_218 rfl rfl ?_
      refine am_callF 3 (am_recvV (z := m_P_take) rfl d_X_improve_101 w_498 w_499 w_500 w_501 F_P.1 rfl (by decide) np_P_take) (by decide) (by decide) (Nat.le_of_ble_eq_true rfl) (Nat.le_of_ble_eq_true rfl) (Nat.zero_le _) (Nat.zero_le _) (am_rm (d := 5) (by omega) (c_P_takeP (P := (im_it S (x, P, 0) i).2.1) (F := F) hS g1.1 0 _ _ hg (fun s hs => ⟨by rw [(hC s hs).1]; exact (hC s hs).2.2.1, by rw [(hC s hs).2.1]; have := (hC s hs).2.2.2; omega⟩))) ?_
      rw [pl_take_congr (fun s hs => ⟨(hC s hs).1, (hC s hs).2.1⟩)]
      refine am_iload_n d_X_improve_104 rfl rfl ?_
      refine am_iret d_X_improve_105 rfl ?_
      exact ⟨_, rfl, i, _, rfl, hi, hp.1, hp.2, rfl, rfl⟩
    · refine am_throwS (ci := 6) (tx := "no such number of changes") d_X_improve_10 d_X_improve_13 d_X_improve_14 d_X_improve_16 d_X_improve_19 rfl rfl w_251 w_252 w_10 (by decide) oA_6 (by decide +kernel) (by omega) (by omega) (by omega) (Nat.le_of_ble_eq_true rfl) rfl ?_
      have ec : cd_improve P t n = 1 := by unfold cd_improve; (try simp only [ek]); (repeat' split) <;> first | rfl | omega | simp_all
      rw [ec]
      exact ⟨_, rfl, rfl, rfl⟩
  · refine am_iload_n d_X_improve_0 rfl rfl ?_
    refine am_iconst (v := nI 0) d_X_improve_1 (by decide) ?_
    refine am_bipush (v := nI 100) d_X_improve_2 (by decide) ?_
    refine am_callF 3 (am_lkS (z := m_X_isWithin) d_X_improve_4 w_248 w_249 w_1 w_250 (by decide) np_X_isWithin) (by decide) (by decide) (Nat.le_of_ble_eq_true rfl) (Nat.le_of_ble_eq_true rfl) (Nat.zero_le _) (Nat.zero_le _) (c_X_isWithin _ _ _ _ _ _) ?_
    refine am_ifZ_ne (tgt := 20) d_X_improve_7 (by decide) (fun c7 => ?_) (fun c7 => ?_)
    · refine am_aload_n d_X_improve_20 rfl rfl ?_
      refine am_callT 1 (am_recvV (z := m_X_demandFreshPlan) rfl d_X_improve_21 w_516 w_518 ws_9 w_519 F_X.1 rfl (by decide) np_X_demandFreshPlan) (by decide) (by decide) (Nat.le_of_ble_eq_true rfl) (Nat.le_of_ble_eq_true rfl) (Nat.le_refl _) (Nat.le_refl _) (am_rm (d := d + 1) (by omega) (c_X_demandFreshPlan_1 hP d bc bs hd hb1 hb2 hp)) ?_
      refine am_thr_out rfl ?_
      have ec : cd_improve P t n = 2 := by unfold cd_improve; (try simp only [ek]); (repeat' split) <;> first | rfl | omega | simp_all
      rw [ec]
      exact ⟨_, rfl, rfl, rfl⟩
    · refine am_throwS (ci := 6) (tx := "no such number of changes") d_X_improve_10 d_X_improve_13 d_X_improve_14 d_X_improve_16 d_X_improve_19 rfl rfl w_251 w_252 w_10 (by decide) oA_6 (by decide +kernel) (by omega) (by omega) (by omega) (Nat.le_of_ble_eq_true rfl) rfl ?_
      have ec : cd_improve P t n = 1 := by unfold cd_improve; (try simp only [ek]); (repeat' split) <;> first | rfl | omega | simp_all
      rw [ec]
      exact ⟨_, rfl, rfl, rfl⟩
theorem ly_j_eqv {S : sh_T} {P : pl_T} {j : Nat} {f g : fl_T} (hS : sh_ok S) (hP : pl_ok P) (hm : ∀ i, i < sh_so S j → pl_ma P (sh_sa S (j * 4 + i)) < sh_mc S) (hF : fl_sm (sh_mc S) f 8000) (he : fl_eqv (sh_mc S) f g) : ∀ n, n ≤ sh_so S j → fl_eqv (sh_mc S) (ly_j S P j f n) (ly_j S P j g n)
  | 0, _ => he
  | n + 1, hn => fl_put_eqv (ly_j_eqv hS hP hm hF he n (by omega)) (ly_j_sm hS hP hm hF n (by omega)).1 _ (hm n (by omega)) _
theorem ly_eqv {S : sh_T} {P : pl_T} {l N : Nat} {f g : fl_T} (hS : sh_ok S) (hP : pl_ok P) (hm : ∀ j i, j < N → i < sh_so S j → pl_ma P (sh_sa S (j * 4 + i)) < sh_mc S) (hF : fl_sm (sh_mc S) f 8000) (he : fl_eqv (sh_mc S) f g) : ∀ n, n ≤ N → fl_eqv (sh_mc S) (ly S P l f n) (ly S P l g n)
  | 0, _ => he
  | n + 1, hn => by
    have h := ly_eqv (l := l) hS hP hm hF he n (by omega)
    unfold ly
    split
    · exact h
    · exact ly_j_eqv hS hP (fun i hi => hm n i (by omega) hi) (ly_sm hS hP hm hF n (by omega)) h _ (Nat.le_refl _)
/-- what PROMISE answers -/
def pr_v (S : sh_T) (P : pl_T) (j : Nat) : Nat := fl_end S j (ly S P j (fl_clear S fl_0) (pl_jb P))
set_option maxRecDepth 20000 in
theorem c_X_promise (hS : sh_ok S) (hk : sh_k S jo) (hP : pl_ok P) (hfr : 0 < pl_jb P → t = false → pl_jb P = sh_jb S ∧ sp_all S (sh_jb S) = true ∧ ∀ s, s < sh_ss S → pl_ma P s < sh_mc S) (d bc bs : Nat) (hd : 6 ≤ d) (hb1 : 1 ≤ bc) (hb2 : 6 ≤ bs) (j : Int32) : am_W G m_X_promise (d + 4) bc bs (fQ [8, 7] (cd_promise S P t j) (hx x t S F R P W) (fun v h' => ∃ i F', j = nI i ∧ i < sh_jb S ∧ 0 < pl_jb P ∧ t = false ∧ v = some (.int (nI (pr_v S P i))) ∧ h' = (hx x t S F' R P W))) 0 (lv_args 0 [.ref 1, .int j]) [] (hx x t S F R P W) := by
  obtain ⟨s1, s2, s3, s4, s5, s6, s7, s8, s9, s10, s11, s12, s13, s14⟩ := id hS
  cases hj : sp_in j (nI 0) (nI (sh_jb S) - nI 1) with
  | false =>
    refine am_aload_n d_X_promise_0 rfl rfl ?_
    refine am_iload_n d_X_promise_1 rfl rfl ?_
    refine am_callT 2 (am_recvV (z := m_X_demandJob) rfl d_X_promise_2 w_389 w_391 ws_1 w_392 F_X.1 rfl (by decide) np_X_demandJob) (by decide) (by decide) (Nat.le_of_ble_eq_true rfl) (Nat.le_of_ble_eq_true rfl) (Nat.le_refl _) (Nat.le_refl _) (am_rm (d := d + 1) (by omega) (c_X_demandJob_1 d bc bs hd hb1 hb2 _ hj)) ?_
    refine am_thr_out rfl ?_
    have ec : cd_promise S P t j = 1 := by unfold cd_promise; (try simp only [ek]); (repeat' split) <;> first | rfl | omega | simp_all
    rw [ec]
    exact ⟨_, rfl, rfl, rfl⟩
  | true =>
    by_cases hp : 0 < pl_jb P ∧ t = false
    · refine am_aload_n d_X_promise_0 rfl rfl ?_
      refine am_iload_n d_X_promise_1 rfl rfl ?_
      refine am_callF 2 (am_recvV (z := m_X_demandJob) rfl d_X_promise_2 w_389 w_391 ws_1 w_392 F_X.1 rfl (by decide) np_X_demandJob) (by decide) (by decide) (Nat.le_of_ble_eq_true rfl) (Nat.le_of_ble_eq_true rfl) (Nat.zero_le _) (Nat.zero_le _) (am_rm (d := 1) (by omega) (c_X_demandJob_0 0 _ _ _ hj)) ?_
      refine am_aload_n d_X_promise_5 rfl rfl ?_
      refine am_callF 1 (am_recvV (z := m_X_demandFreshPlan) rfl d_X_promise_6 w_516 w_518 ws_9 w_519 F_X.1 rfl (by decide) np_X_demandFreshPlan) (by decide) (by decide) (Nat.le_of_ble_eq_true rfl) (Nat.le_of_ble_eq_true rfl) (Nat.zero_le _) (Nat.zero_le _) (am_rm (d := 1) (by omega) (c_X_demandFreshPlan_0 hP 0 _ _ hp)) ?_
      obtain ⟨i, rfl, hi⟩ := sp_ix_t hj (by omega)
      obtain ⟨h1, h2, h3⟩ := hfr hp.1 hp.2
      have hall := sp_all_at h2
      have hm2 : ∀ j, j < pl_jb P → ∀ i, i < sh_so S j → pl_ma P (sh_sa S (j * 4 + i)) < sh_mc S := fun j hj i hi => h3 _ (hk.1 j i (by omega) hi).1
      have hsm0 := fl_sm_mono (fl_clear_sm F hS) (B' := 8000) (by omega)
      have hsm := ly_sm (l := i) hS hP (N := pl_jb P) (fun j i h1 h2 => hm2 j h1 i h2) hsm0 (pl_jb P) (Nat.le_refl _)
      have hev := ly_eqv (l := i) hS hP (N := pl_jb P) (fun j i h1 h2 => hm2 j h1 i h2) hsm0 (fl_clear_eqv hS F fl_0) (pl_jb P) (Nat.le_refl _)
      have hend : fl_end S i (ly S P i (fl_clear S F) (pl_jb P)) = pr_v S P i := (fl_place_eqv hS (hall i hi) hsm hev).2
      refine am_aload_n d_X_promise_9 rfl rfl ?_
      refine am_get F_X 3 (by decide) d_X_promise_10 w_220 rfl rfl ?_
      refine am_iload_n d_X_promise_13 rfl rfl ?_
      refine am_aload_n d_X_promise_14 rfl rfl ?_
      refine am_get F_X 1 (by decide) d_X_promise_15 w_218 rfl rfl ?_
      refine am_callF 3 (am_recvV (z := m_P_layAllBut) rfl d_X_promise_18 w_586 w_587 w_588 w_589 F_P.1 rfl (by decide) np_P_layAllBut) (by decide) (by decide) (Nat.le_of_ble_eq_true rfl) (Nat.le_of_ble_eq_true rfl) (Nat.zero_le _) (Nat.zero_le _) (am_rm (d := 2) (by omega) (c_P_layAllBut hS hP 0 _ _ i (by omega) hm2)) ?_
      refine am_aload_n d_X_promise_21 rfl rfl ?_
      refine am_get F_X 1 (by decide) d_X_promise_22 w_218 rfl rfl ?_
      refine am_iload_n d_X_promise_25 rfl rfl ?_
      refine am_callF 2 (am_recvV (z := m_F_place) rfl d_X_promise_26 w_592 w_450 w_451 w_452 F_F.1 rfl (by decide) np_F_place) (by decide) (by decide) (Nat.le_of_ble_eq_true rfl) (Nat.le_of_ble_eq_true rfl) (Nat.zero_le _) (Nat.zero_le _) (am_rm (d := 3) (by omega) (c_F_place hS 0 _ _ i 8000 (by omega) (hall i hi) hsm (by omega))) ?_
      rw [hend]
      refine am_iret d_X_promise_29 rfl ?_
      have ec : cd_promise S P t (nI i) = 0 := by unfold cd_promise; (try simp only [ek]); (repeat' split) <;> first | rfl | omega | simp_all
      rw [ec]
      exact ⟨_, rfl, i, _, rfl, hi, hp.1, hp.2, rfl, rfl⟩
    · refine am_aload_n d_X_promise_0 rfl rfl ?_
      refine am_iload_n d_X_promise_1 rfl rfl ?_
      refine am_callF 2 (am_recvV (z := m_X_demandJob) rfl d_X_promise_2 w_389 w_391 ws_1 w_392 F_X.1 rfl (by decide) np_X_demandJob) (by decide) (by decide) (Nat.le_of_ble_eq_true rfl) (Nat.le_of_ble_eq_true rfl) (Nat.zero_le _) (Nat.zero_le _) (am_rm (d := 1) (by omega) (c_X_demandJob_0 0 _ _ _ hj)) ?_
      refine am_aload_n d_X_promise_5 rfl rfl ?_
      refine am_callT 1 (am_recvV (z := m_X_demandFreshPlan) rfl d_X_promise_6 w_516 w_518 ws_9 w_519 F_X.1 rfl (by decide) np_X_demandFreshPlan) (by decide) (by decide) (Nat.le_of_ble_eq_true rfl) (Nat.le_of_ble_eq_true rfl) (Nat.le_refl _) (Nat.le_refl _) (am_rm (d := d + 1) (by omega) (c_X_demandFreshPlan_1 hP d bc bs hd hb1 hb2 hp)) ?_
      refine am_thr_out rfl ?_
      have ec : cd_promise S P t j = 2 := by unfold cd_promise; (try simp only [ek]); (repeat' split) <;> first | rfl | omega | simp_all
      rw [ec]
      exact ⟨_, rfl, rfl, rfl⟩
/-- pairs of one lesser job: n left, o the next; s were seen -/
def cl_in (S : sh_T) (k l : Nat) : Nat → Nat → Nat → Nat ⊕ Nat
  | 0, _, s => .inl s
  | n + 1, o, s => if sp_cl S l o = true then if s = k then .inr (8 * l + o) else cl_in S k l n (o + 1) (s + 1) else cl_in S k l n (o + 1) s
def cl_out (S : sh_T) (k : Nat) : Nat → Nat → Nat → Option Nat
  | 0, _, _ => none
  | n + 1, l, s => match cl_in S k l (sh_jb S - (l + 1)) (l + 1) s with
    | .inr v => some v
    | .inl s' => cl_out S k n (l + 1) s'
/-- what CLASH answers -/
def cl_v (S : sh_T) (k : Nat) : Int32 := oI (cl_out S k (sh_jb S) 0 0)
theorem cl_1 {S : sh_T} {k l n o s : Nat} (h : sp_cl S l o = false) : cl_in S k l (n + 1) o s = cl_in S k l n (o + 1) s := if_neg (by rw [h]; decide)
theorem cl_2 {S : sh_T} {k l n o s : Nat} (h : sp_cl S l o = true) (h2 : s ≠ k) : cl_in S k l (n + 1) o s = cl_in S k l n (o + 1) (s + 1) := by rw [cl_in, if_pos h, if_neg h2]
theorem cl_3 {S : sh_T} {k l n o s : Nat} (h : sp_cl S l o = true) (h2 : s = k) : cl_in S k l (n + 1) o s = .inr (8 * l + o) := by rw [cl_in, if_pos h, if_pos h2]
set_option maxRecDepth 20000 in
theorem c_X_clash_i {Q : am_O → am_H → Prop} (hS : sh_ok S) (hall : ∀ j, j < sh_jb S → sp_fits S j = true) (d bc bs k l : Nat) (hk31 : k < 2 ^ 31) (hl : l < sh_jb S) : ∀ (n o s : Nat), o + n = sh_jb S → s ≤ 8 * l + o → ∀ F,
    (∀ F s', cl_in S k l n o s = .inl s' → s' ≤ 8 * l + 8 → am_W G m_X_clash (d + 6) bc bs Q 101 [(0, .ref 1), (1, .int (nI k)), (2, .int (nI s')), (3, .int (nI l))] [] (hx x t S F R P W)) → (∀ v, cl_in S k l n o s = .inr v → ∀ F, Q (.inl (some (.int (nI v)))) (hx x t S F R P W)) →
    am_W G m_X_clash (d + 6) bc bs Q 54 [(0, .ref 1), (1, .int (nI k)), (2, .int (nI s)), (3, .int (nI l)), (4, .int (nI o))] [] (hx x t S F R P W) := by
  intro n
  have s2 := hS.2.1
  induction n with
  | zero =>
    intro o s ho hs F hk hq
    refine am_iload d_X_clash_54 rfl ?_
    refine am_aload_n d_X_clash_56 rfl rfl ?_
    refine am_get F_X 0 (by decide) d_X_clash_57 w_217 rfl rfl ?_
    refine am_get F_S 5 (by decide) d_X_clash_60 w_46 rfl rfl ?_
    refine am_icmpN_ge (tgt := 101) d_X_clash_63 (by decide) (by omega) (by omega) (fun c63 => ?_) (fun c63 => ?_)
    · exact am_lo (L' := [(0, .ref 1), (1, .int (nI k)), (2, .int (nI s)), (3, .int (nI l))]) rfl (hk F s rfl (by omega))
    · exact absurd c63 (by omega)
  | succ n ih =>
    intro o s ho hs F hk hq
    refine am_iload d_X_clash_54 rfl ?_
    refine am_aload_n d_X_clash_56 rfl rfl ?_
    refine am_get F_X 0 (by decide) d_X_clash_57 w_217 rfl rfl ?_
    refine am_get F_S 5 (by decide) d_X_clash_60 w_46 rfl rfl ?_
    refine am_icmpN_ge (tgt := 101) d_X_clash_63 (by decide) (by omega) (by omega) (fun c63 => ?_) (fun c63 => ?_)
    · exact absurd c63 (by omega)
    · refine am_aload_n d_X_clash_66 rfl rfl ?_
      refine am_get F_X 1 (by decide) d_X_clash_67 w_218 rfl rfl ?_
      refine am_iload_n d_X_clash_70 rfl rfl ?_
      refine am_iload d_X_clash_71 rfl ?_
      refine am_callQ 3 (am_recvV (z := m_F_doClash) rfl d_X_clash_73 w_602 w_603 w_604 w_605 F_F.1 rfl (by decide) np_F_doClash) (by decide) (by decide) (Nat.le_of_ble_eq_true rfl) (Nat.le_of_ble_eq_true rfl) (Nat.zero_le _) (Nat.zero_le _) (am_rm (d := 5) (by omega) (c_F_doClash hS 0 _ _ l o (by omega) (by omega) (hall l (by omega)) (hall o (by omega)))) (fun v73 h73 q73 => ?_) (fun x73 h73 q73 => ?_)
      · obtain ⟨F1, q1, rfl⟩ := q73
        cases q1
        refine am_ifZ_eq (tgt := 95) d_X_clash_76 (by decide) (fun c76 => ?_) (fun c76 => ?_)
        · refine am_iinc d_X_clash_95 rfl (am_inc _) (by decide) ?_
          refine am_goto (tgt := 54) d_X_clash_98 (by decide) ?_
          exact am_lo (L' := [(0, .ref 1), (1, .int (nI k)), (2, .int (nI s)), (3, .int (nI l)), (4, .int (nI (o + 1)))]) rfl (ih (o + 1) s (by omega) (by omega) F1 (fun F s2 e => hk F s2 ((cl_1 c76).trans e)) (fun v e => hq v ((cl_1 c76).trans e)))
        · refine am_iload_n d_X_clash_79 rfl rfl ?_
          refine am_iload_n d_X_clash_80 rfl rfl ?_
          refine am_icmpN_ne (tgt := 92) d_X_clash_81 (by decide) (by omega) (by omega) (fun c81 => ?_) (fun c81 => ?_)
          · refine am_iinc d_X_clash_92 rfl (am_inc _) (by decide) ?_
            refine am_iinc d_X_clash_95 rfl (am_inc _) (by decide) ?_
            refine am_goto (tgt := 54) d_X_clash_98 (by decide) ?_
            exact am_lo (L' := [(0, .ref 1), (1, .int (nI k)), (2, .int (nI (s + 1))), (3, .int (nI l)), (4, .int (nI (o + 1)))]) rfl (ih (o + 1) (s + 1) (by omega) (by omega) F1 (fun F s2 e => hk F s2 ((cl_2 c76 c81).trans e)) (fun v e => hq v ((cl_2 c76 c81).trans e)))
          · refine am_bipush (v := nI 8) d_X_clash_84 (by decide) ?_
            refine am_iload_n d_X_clash_86 rfl rfl ?_
            refine am_imulN d_X_clash_87 ?_
            refine am_iload d_X_clash_88 rfl ?_
            refine am_iaddN d_X_clash_90 ?_
            refine am_iret d_X_clash_91 rfl ?_
            exact hq _ (cl_3 c76 c81) F1
      · obtain ⟨F1, q1, -⟩ := q73
        cases q1
theorem cl_o1 {S : sh_T} {k n l s s' : Nat} (h : cl_in S k l (sh_jb S - (l + 1)) (l + 1) s = .inl s') : cl_out S k (n + 1) l s = cl_out S k n (l + 1) s' := by rw [cl_out, h]
theorem cl_o2 {S : sh_T} {k n l s v : Nat} (h : cl_in S k l (sh_jb S - (l + 1)) (l + 1) s = .inr v) : cl_out S k (n + 1) l s = some v := by rw [cl_out, h]
set_option maxRecDepth 20000 in
theorem c_X_clash_o {Q : am_O → am_H → Prop} (hS : sh_ok S) (hall : ∀ j, j < sh_jb S → sp_fits S j = true) (d bc bs k : Nat) (hk31 : k < 2 ^ 31) : ∀ (m l s : Nat), l + m = sh_jb S → s ≤ 8 * l → ∀ F,
    (∀ F, Q (.inl (some (.int (oI (cl_out S k m l s))))) (hx x t S F R P W)) → am_W G m_X_clash (d + 6) bc bs Q 38 [(0, .ref 1), (1, .int (nI k)), (2, .int (nI s)), (3, .int (nI l))] [] (hx x t S F R P W) := by
  intro m
  have s2 := hS.2.1
  induction m with
  | zero =>
    intro l s hl hs F hq
    refine am_iload_n d_X_clash_38 rfl rfl ?_
    refine am_aload_n d_X_clash_39 rfl rfl ?_
    refine am_get F_X 0 (by decide) d_X_clash_40 w_217 rfl rfl ?_
    refine am_get F_S 5 (by decide) d_X_clash_43 w_46 rfl rfl ?_
    refine am_icmpN_ge (tgt := 107) d_X_clash_46 (by decide) (by omega) (by omega) (fun c46 => ?_) (fun c46 => ?_)
    · refine am_iconst (v := -1) d_X_clash_107 (by decide) ?_
      refine am_iret d_X_clash_108 rfl ?_
      exact hq F
    · exact absurd c46 (by omega)
  | succ m ih =>
    intro l s hl hs F hq
    refine am_iload_n d_X_clash_38 rfl rfl ?_
    refine am_aload_n d_X_clash_39 rfl rfl ?_
    refine am_get F_X 0 (by decide) d_X_clash_40 w_217 rfl rfl ?_
    refine am_get F_S 5 (by decide) d_X_clash_43 w_46 rfl rfl ?_
    refine am_icmpN_ge (tgt := 107) d_X_clash_46 (by decide) (by omega) (by omega) (fun c46 => ?_) (fun c46 => ?_)
    · exact absurd c46 (by omega)
    · refine am_iload_n d_X_clash_49 rfl rfl ?_
      refine am_iconst (v := nI 1) d_X_clash_50 (by decide) ?_
      refine am_iaddN d_X_clash_51 ?_
      refine am_istore d_X_clash_52 (by decide) ?_
      refine am_lo (L' := [(0, .ref 1), (1, .int (nI k)), (2, .int (nI s)), (3, .int (nI l)), (4, .int (nI (l + 1)))]) rfl (c_X_clash_i hS hall d bc bs k l hk31 (by omega) (sh_jb S - (l + 1)) (l + 1) s (by omega) (by omega) F (fun F2 s' e hs2 => ?_) (fun v e F2 => ?_))
      · refine am_iinc d_X_clash_101 rfl (am_inc _) (by decide) ?_
        refine am_goto (tgt := 38) d_X_clash_104 (by decide) ?_
        exact am_lo (L' := [(0, .ref 1), (1, .int (nI k)), (2, .int (nI s')), (3, .int (nI (l + 1)))]) rfl (ih (l + 1) s' (by omega) (by omega) F2 (fun F => by have h := hq F; rw [cl_o1 e] at h; exact h))
      · have h := hq F2
        rw [cl_o2 e] at h
        exact h
set_option maxRecDepth 20000 in
theorem c_X_clash (hS : sh_ok S) (d bc bs : Nat) (hd : 6 ≤ d) (hb1 : 1 ≤ bc) (hb2 : 6 ≤ bs) (k : Int32) : am_W G m_X_clash (d + 6) bc bs (fQ [6, 7] (cd_clash S k) (hx x t S F R P W) (fun v h' => ∃ i F', k = nI i ∧ i < 2 ^ 31 ∧ sp_all S (sh_jb S) = true ∧ v = some (.int (cl_v S i)) ∧ h' = (hx x t S F' R P W))) 0 (lv_args 0 [.ref 1, .int k]) [] (hx x t S F R P W) := by
  obtain ⟨s1, s2, s3, s4, s5, s6, s7, s8, s9, s10, s11, s12, s13, s14⟩ := id hS
  refine am_iload_n d_X_clash_0 rfl rfl ?_
  refine am_if_ge (tgt := 14) d_X_clash_1 (by decide) (fun c1 => ?_) (fun c1 => ?_)
  · have hk0 : ¬ k < 0 := fun q => by rw [Int32.lt_iff_toInt_lt] at q; rw [Int32.le_iff_toInt_le] at c1; omega
    refine am_aload_n d_X_clash_14 rfl rfl ?_
    refine am_get F_X 0 (by decide) d_X_clash_15 w_217 rfl rfl ?_
    refine am_callF 1 (am_recvV (z := m_S_allFit) rfl d_X_clash_18 w_420 w_421 w_422 w_423 F_S.1 rfl (by decide) np_S_allFit) (by decide) (by decide) (Nat.le_of_ble_eq_true rfl) (Nat.le_of_ble_eq_true rfl) (Nat.zero_le _) (Nat.zero_le _) (am_rm (d := 2) (by omega) (c_S_allFit hS 0 _ _)) ?_
    refine am_ifZ_ne (tgt := 34) d_X_clash_21 (by decide) (fun c21 => ?_) (fun c21 => ?_)
    · obtain ⟨i, hi, rfl⟩ := nI_of hk0
      have ec : cd_clash S (nI i) = 0 := by unfold cd_clash; rw [if_neg hk0, if_pos c21]
      rw [ec]
      refine am_iconst (v := nI 0) d_X_clash_34 (by decide) ?_
      refine am_istore_n d_X_clash_35 rfl (by decide) ?_
      refine am_iconst (v := nI 0) d_X_clash_36 (by decide) ?_
      refine am_istore_n d_X_clash_37 rfl (by decide) ?_
      exact am_lo (L' := [(0, .ref 1), (1, .int (nI i)), (2, .int (nI 0)), (3, .int (nI 0))]) rfl (c_X_clash_o hS (sp_all_at c21) d bc bs i hi (sh_jb S) 0 0 (by omega) (by omega) F (fun F2 => ⟨_, rfl, i, F2, rfl, hi, c21, rfl, rfl⟩))
    · refine am_throwS (ci := 7) (tx := "a job does not fit") d_X_clash_24 d_X_clash_27 d_X_clash_28 d_X_clash_30 d_X_clash_33 rfl rfl w_319 w_320 w_11 (by decide) oA_7 (by decide +kernel) (by omega) (by omega) (by omega) (Nat.le_of_ble_eq_true rfl) rfl ?_
      have ec : cd_clash S k = 2 := by unfold cd_clash; rw [if_neg hk0, if_neg (by rw [c21]; decide)]
      rw [ec]
      exact ⟨_, rfl, rfl, rfl⟩
  · refine am_throwS (ci := 6) (tx := "no such clash") d_X_clash_4 d_X_clash_7 d_X_clash_8 d_X_clash_10 d_X_clash_13 rfl rfl w_251 w_252 w_10 (by decide) oA_6 (by decide +kernel) (by omega) (by omega) (by omega) (Nat.le_of_ble_eq_true rfl) rfl ?_
    have ec : cd_clash S k = 1 := if_pos (i_nle c1)
    rw [ec]
    exact ⟨_, rfl, rfl, rfl⟩
/-- the first of n numbers that f says -/
def fs (f : Nat → Bool) : Nat → Option Nat
  | 0 => none
  | n + 1 => match fs f n with
    | some s => some s
    | none => if f n = true then some n else none
theorem fs_no {f : Nat → Bool} {n : Nat} (h : fs f n = none) (hf : f n = false) : fs f (n + 1) = none := by rw [fs, h]; exact if_neg (by rw [hf]; decide)
theorem fs_hit {f : Nat → Bool} {i : Nat} (h : fs f i = none) (hf : f i = true) : ∀ n, i < n → fs f n = some i
  | 0, hn => absurd hn (Nat.not_lt_zero i)
  | n + 1, hn => by
    rcases Nat.lt_or_ge i n with q | q
    · rw [fs, fs_hit h hf n q]
    · have e : i = n := by omega
      subst e
      rw [fs, h]
      exact if_pos hf
theorem fs_congr {f g : Nat → Bool} : ∀ {n}, (∀ s, s < n → f s = g s) → fs f n = fs g n
  | 0, _ => rfl
  | n + 1, h => by
    unfold fs
    rw [fs_congr (fun s hs => h s (by omega)), h n (by omega)]
theorem fs_none {f : Nat → Bool} : ∀ {n}, fs f n = none → ∀ s, s < n → f s = false
  | 0, _, s, h => absurd h (Nat.not_lt_zero s)
  | n + 1, e, s, h => by
    cases hq : fs f n with
    | some q => rw [fs, hq] at e; cases e
    | none =>
      rcases Nat.lt_or_ge s n with w | w
      · exact fs_none hq s w
      · have e2 : s = n := by omega
        subst e2
        cases hf : f s with
        | false => rfl
        | true => rw [fs_hit hq hf (s + 1) (by omega)] at e; cases e
/-- the rules from r on, n of them -/
def ck_r (S : sh_T) (P : pl_T) (ob : Nat → Option Nat) : Nat → Nat → Option Nat
  | 0, _ => none
  | n + 1, r => match fs (fun s => sp_br S P (ob s) s r) (sh_ss S) with
    | some s => some (100 * r + s)
    | none => ck_r S P ob n (r + 1)
def ck_l (S : sh_T) (P : pl_T) : Option Nat := fs (fun j => decide (sh_du S j < sp_ed S P j)) (sh_jb S)
/-- what CHECK answers -/
def ck_v (S : sh_T) (P : pl_T) (ob : Nat → Option Nat) : Nat := match ck_r S P ob 4 1 with
  | some v => v
  | none => match ck_l S P with
    | some j => 500 + j
    | none => 0
theorem ck_r1 {S : sh_T} {P : pl_T} {ob : Nat → Option Nat} {n r s : Nat} (h : fs (fun s => sp_br S P (ob s) s r) (sh_ss S) = some s) : ck_r S P ob (n + 1) r = some (100 * r + s) := by rw [ck_r, h]
theorem ck_r0 {S : sh_T} {P : pl_T} {ob : Nat → Option Nat} {n r : Nat} (h : fs (fun s => sp_br S P (ob s) s r) (sh_ss S) = none) : ck_r S P ob (n + 1) r = ck_r S P ob n (r + 1) := by rw [ck_r, h]
set_option maxRecDepth 20000 in
theorem c_X_check_i {Q : am_O → am_H → Prop} (hS : sh_ok S) (hP : pl_ok P) (ob : Nat → Option Nat) (hob : ∀ s, s < sh_ss S → sh_sb S s = oI (ob s) ∧ ∀ b, ob s = some b → b < 24) (d bc bs r : Nat) (h1 : 1 ≤ r) (h4 : r ≤ 4)
    (hk : fs (fun s => sp_br S P (ob s) s r) (sh_ss S) = none → am_W G m_X_check (d + 3) bc bs Q 49 [(0, .ref 1), (1, .int (nI r))] [] (hx x t S F R P W)) (hq : ∀ s, fs (fun s => sp_br S P (ob s) s r) (sh_ss S) = some s → Q (.inl (some (.int (nI (100 * r + s))))) (hx x t S F R P W)) : ∀ (n i : Nat), i ≤ sh_ss S → sh_ss S - i < n → fs (fun s => sp_br S P (ob s) s r) i = none →
    am_W G m_X_check (d + 3) bc bs Q 13 [(0, .ref 1), (1, .int (nI r)), (2, .int (nI i))] [] (hx x t S F R P W) := by
  intro n
  have s3 := hS.2.2.1
  induction n with
  | zero => intro i _ h; omega
  | succ n ih =>
    intro i hi hn hno
    refine am_iload_n d_X_check_13 rfl rfl ?_
    refine am_aload_n d_X_check_14 rfl rfl ?_
    refine am_get F_X 0 (by decide) d_X_check_15 w_217 rfl rfl ?_
    refine am_get F_S 10 (by decide) d_X_check_18 w_60 rfl rfl ?_
    refine am_icmpN_ge (tgt := 49) d_X_check_21 (by decide) (by omega) (by omega) (fun c21 => ?_) (fun c21 => ?_)
    · have e : i = sh_ss S := by omega
      subst e
      exact am_lo (L' := [(0, .ref 1), (1, .int (nI r))]) rfl (hk hno)
    · refine am_aload_n d_X_check_24 rfl rfl ?_
      refine am_get F_X 3 (by decide) d_X_check_25 w_220 rfl rfl ?_
      refine am_iload_n d_X_check_28 rfl rfl ?_
      refine am_iload_n d_X_check_29 rfl rfl ?_
      refine am_callF 3 (am_recvV (z := m_P_breaks) rfl d_X_check_30 w_618 w_619 w_620 w_621 F_P.1 rfl (by decide) np_P_breaks) (by decide) (by decide) (Nat.le_of_ble_eq_true rfl) (Nat.le_of_ble_eq_true rfl) (Nat.zero_le _) (Nat.zero_le _) (am_rm (d := 2) (by omega) (c_P_breaks hS hP 0 _ _ r i h1 h4 (by omega) (ob i) (hob i (by omega)).1 (hob i (by omega)).2)) ?_
      refine am_ifZ_eq (tgt := 43) d_X_check_33 (by decide) (fun c33 => ?_) (fun c33 => ?_)
      · refine am_iinc d_X_check_43 rfl (am_inc _) (by decide) ?_
        refine am_goto (tgt := 13) d_X_check_46 (by decide) ?_
        exact am_lo (L' := [(0, .ref 1), (1, .int (nI r)), (2, .int (nI (i + 1)))]) rfl (ih (i + 1) (by omega) (by omega) (fs_no hno c33))
      · refine am_bipush (v := nI 100) d_X_check_36 (by decide) ?_
        refine am_iload_n d_X_check_38 rfl rfl ?_
        refine am_imulN d_X_check_39 ?_
        refine am_iload_n d_X_check_40 rfl rfl ?_
        refine am_iaddN d_X_check_41 ?_
        refine am_iret d_X_check_42 rfl ?_
        exact hq i (fs_hit hno c33 _ (by omega))
theorem sp_ed_bd (hS : sh_ok S) (hP : pl_ok P) (j : Nat) : sp_ed S P j ≤ 7100 := by
  unfold sp_ed
  split
  · omega
  · split
    · have h1 := hP.2.2.2.2.1 (sh_sa S (j * 4 + sh_so S j - 1))
      have h2 := hS.2.2.2.2.2.2.2.2.2.2.2.2.1 (sh_sa S (j * 4 + sh_so S j - 1))
      omega
    · omega
set_option maxRecDepth 20000 in
theorem c_X_check_l {Q : am_O → am_H → Prop} (hS : sh_ok S) (hP : pl_ok P) (d bc bs : Nat)
    (hk : ck_l S P = none → Q (.inl (some (.int (nI 0)))) (hx x t S F R P W)) (hq : ∀ j, ck_l S P = some j → Q (.inl (some (.int (nI (500 + j))))) (hx x t S F R P W)) : ∀ (n i : Nat), i ≤ sh_jb S → sh_jb S - i < n → fs (fun j => decide (sh_du S j < sp_ed S P j)) i = none →
    am_W G m_X_check (d + 3) bc bs Q 57 [(0, .ref 1), (1, .int (nI i))] [] (hx x t S F R P W) := by
  intro n
  have s2 := hS.2.1
  induction n with
  | zero => intro i _ h; omega
  | succ n ih =>
    intro i hi hn hno
    have hed := sp_ed_bd hS hP i
    have t8 := hS.2.2.2.2.2.2.2.1 i
    refine am_iload_n d_X_check_57 rfl rfl ?_
    refine am_aload_n d_X_check_58 rfl rfl ?_
    refine am_get F_X 0 (by decide) d_X_check_59 w_217 rfl rfl ?_
    refine am_get F_S 5 (by decide) d_X_check_62 w_46 rfl rfl ?_
    refine am_icmpN_ge (tgt := 100) d_X_check_65 (by decide) (by omega) (by omega) (fun c65 => ?_) (fun c65 => ?_)
    · refine am_iconst (v := nI 0) d_X_check_100 (by decide) ?_
      refine am_iret d_X_check_101 rfl ?_
      have e : i = sh_jb S := by omega
      subst e
      exact hk hno
    · refine am_aload_n d_X_check_68 rfl rfl ?_
      refine am_get F_X 3 (by decide) d_X_check_69 w_220 rfl rfl ?_
      refine am_iload_n d_X_check_72 rfl rfl ?_
      refine am_callF 2 (am_recvV (z := m_P_endOf) rfl d_X_check_73 w_639 w_640 w_641 w_642 F_P.1 rfl (by decide) np_P_endOf) (by decide) (by decide) (Nat.le_of_ble_eq_true rfl) (Nat.le_of_ble_eq_true rfl) (Nat.zero_le _) (Nat.zero_le _) (am_rm (d := 1) (by omega) (c_P_endOf hS hP 0 _ _ i (by omega))) ?_
      refine am_aload_n d_X_check_76 rfl rfl ?_
      refine am_get F_X 0 (by decide) d_X_check_77 w_217 rfl rfl ?_
      refine am_get F_S 6 (by decide) d_X_check_80 w_49 rfl rfl ?_
      refine am_iload_n d_X_check_83 rfl rfl ?_
      refine am_ialdA d_X_check_84 rfl (by omega) (by decide) ?_
      refine am_icmpN_le (tgt := 94) d_X_check_85 (by decide) (by omega) (by omega) (fun c85 => ?_) (fun c85 => ?_)
      · refine am_iinc d_X_check_94 rfl (am_inc _) (by decide) ?_
        refine am_goto (tgt := 57) d_X_check_97 (by decide) ?_
        exact am_lo (L' := [(0, .ref 1), (1, .int (nI (i + 1)))]) rfl (ih (i + 1) (by omega) (by omega) (fs_no hno (decide_eq_false (by omega))))
      · refine am_sipush (v := nI 500) d_X_check_88 (by decide) ?_
        refine am_iload_n d_X_check_91 rfl rfl ?_
        refine am_iaddN d_X_check_92 ?_
        refine am_iret d_X_check_93 rfl ?_
        exact hq i (fs_hit hno (decide_eq_true (by omega)) _ (by omega))
set_option maxRecDepth 20000 in
theorem c_X_check_r {Q : am_O → am_H → Prop} (hS : sh_ok S) (hP : pl_ok P) (ob : Nat → Option Nat) (hob : ∀ s, s < sh_ss S → sh_sb S s = oI (ob s) ∧ ∀ b, ob s = some b → b < 24) (d bc bs : Nat) : ∀ (n r : Nat), 1 ≤ r → r + n = 5 →
    (ck_r S P ob n r = none → am_W G m_X_check (d + 3) bc bs Q 55 [(0, .ref 1), (1, .int (nI 5))] [] (hx x t S F R P W)) → (∀ v, ck_r S P ob n r = some v → Q (.inl (some (.int (nI v)))) (hx x t S F R P W)) →
    am_W G m_X_check (d + 3) bc bs Q 6 [(0, .ref 1), (1, .int (nI r))] [] (hx x t S F R P W) := by
  intro n
  have s3 := hS.2.2.1
  induction n with
  | zero =>
    intro r h1 hr hk hq
    have e5 : r = 5 := by omega
    subst e5
    refine am_iload_n d_X_check_6 rfl rfl ?_
    refine am_iconst (v := nI 4) d_X_check_7 (by decide) ?_
    refine am_icmpN_gt (tgt := 55) d_X_check_8 (by decide) (by omega) (by omega) (fun c8 => ?_) (fun c8 => ?_)
    · exact am_lo (L' := [(0, .ref 1), (1, .int (nI 5))]) rfl (hk rfl)
    · exact absurd c8 (by omega)
  | succ n ih =>
    intro r h1 hr hk hq
    refine am_iload_n d_X_check_6 rfl rfl ?_
    refine am_iconst (v := nI 4) d_X_check_7 (by decide) ?_
    refine am_icmpN_gt (tgt := 55) d_X_check_8 (by decide) (by omega) (by omega) (fun c8 => ?_) (fun c8 => ?_)
    · exact absurd c8 (by omega)
    · refine am_iconst (v := nI 0) d_X_check_11 (by decide) ?_
      refine am_istore_n d_X_check_12 rfl (by decide) ?_
      refine am_lo (L' := [(0, .ref 1), (1, .int (nI r)), (2, .int (nI 0))]) rfl (c_X_check_i hS hP ob hob d bc bs r (by omega) (by omega) (fun e => ?_) (fun s e => hq _ (ck_r1 e)) (sh_ss S + 1) 0 (Nat.zero_le _) (by omega) rfl)
      refine am_iinc d_X_check_49 rfl (am_inc _) (by decide) ?_
      refine am_goto (tgt := 6) d_X_check_52 (by decide) ?_
      exact am_lo (L' := [(0, .ref 1), (1, .int (nI (r + 1)))]) rfl (ih (r + 1) (by omega) (by omega) (fun e2 => hk ((ck_r0 e).trans e2)) (fun v e2 => hq v ((ck_r0 e).trans e2)))
set_option maxRecDepth 20000 in
theorem c_X_check (hS : sh_ok S) (hP : pl_ok P) (d bc bs : Nat) (hd : 6 ≤ d) (hb1 : 1 ≤ bc) (hb2 : 6 ≤ bs) (ob : Nat → Option Nat) (hob : ∀ s, s < sh_ss S → sh_sb S s = oI (ob s) ∧ ∀ b, ob s = some b → b < 24) : am_W G m_X_check (d + 3) bc bs (fQ [7] (cd_check P) (hx x t S F R P W) (fun v h' => v = some (.int (nI (ck_v S P ob))) ∧ h' = (hx x t S F R P W))) 0 (lv_args 0 [.ref 1]) [] (hx x t S F R P W) := by
  obtain ⟨s1, s2, s3, s4, s5, s6, s7, s8, s9, s10, s11, s12, s13, s14⟩ := id hS
  rcases Nat.eq_zero_or_pos (pl_jb P) with hp | hp
  · refine am_aload_n d_X_check_0 rfl rfl ?_
    refine am_callT 1 (am_recvV (z := m_X_demandPlan) rfl d_X_check_1 w_547 w_549 ws_12 w_550 F_X.1 rfl (by decide) np_X_demandPlan) (by decide) (by decide) (Nat.le_of_ble_eq_true rfl) (Nat.le_of_ble_eq_true rfl) (Nat.le_refl _) (Nat.le_refl _) (am_rm (d := d + 1) (by omega) (c_X_demandPlan_1 hP d bc bs hd hb1 hb2 hp)) ?_
    refine am_thr_out rfl ?_
    have ec : cd_check P = 1 := by unfold cd_check; (try simp only [ek]); (repeat' split) <;> first | rfl | omega | simp_all
    rw [ec]
    exact ⟨_, rfl, rfl, rfl⟩
  · have ec : cd_check P = 0 := if_pos hp
    rw [ec]
    refine am_aload_n d_X_check_0 rfl rfl ?_
    refine am_callF 1 (am_recvV (z := m_X_demandPlan) rfl d_X_check_1 w_547 w_549 ws_12 w_550 F_X.1 rfl (by decide) np_X_demandPlan) (by decide) (by decide) (Nat.le_of_ble_eq_true rfl) (Nat.le_of_ble_eq_true rfl) (Nat.zero_le _) (Nat.zero_le _) (am_rm (d := 1) (by omega) (c_X_demandPlan_0 hP 0 _ _ hp)) ?_
    refine am_iconst (v := nI 1) d_X_check_4 (by decide) ?_
    refine am_istore_n d_X_check_5 rfl (by decide) ?_
    refine am_lo (L' := [(0, .ref 1), (1, .int (nI 1))]) rfl (c_X_check_r hS hP ob hob d bc bs 4 1 (by omega) (by omega) (fun e => ?_) (fun v e => ⟨_, rfl, by unfold ck_v; rw [e], rfl⟩))
    refine am_iconst (v := nI 0) d_X_check_55 (by decide) ?_
    refine am_istore_n d_X_check_56 rfl (by decide) ?_
    exact am_lo (L' := [(0, .ref 1), (1, .int (nI 0))]) rfl (c_X_check_l hS hP d bc bs (fun e2 => ⟨_, rfl, by unfold ck_v; rw [e, e2], rfl⟩) (fun j e2 => ⟨_, rfl, by unfold ck_v; rw [e, e2], rfl⟩) (sh_jb S + 1) 0 (Nat.zero_le _) (by omega) rfl)
end CXB
end
