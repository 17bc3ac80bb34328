section
-- ===== PART A: goes FIRST, ahead of the names: the tables' words, and 'selects' of the private methods out of them =====
/-- a private method of a class that the tables say can be made, by its rows of tables_1 -/
def lw_okq (q : MethodName × Nat) : Prop := (q.1.cls ≠ "java/lang/invoke/MethodHandle" ∧ q.1.cls ≠ "java/lang/invoke/VarHandle") ∧ Cond.instantiable q.1.cls q.2 ∈ tables_1 ∧ Cond.privateMethod q.1 ∈ tables_1 ∧ Cond.instanceMethod q.1 ∈ tables_1
theorem lw_p0 : lw_okq (⟨"SuccessionClerk$Ledger", "forget", "()V"⟩, 8) := ⟨⟨by decide +kernel, by decide +kernel⟩, List.mem_of_getElem? (i := 175) (by decide +kernel), List.mem_of_getElem? (i := 232) (by decide +kernel), List.mem_of_getElem? (i := 233) (by decide +kernel)⟩
theorem lw_p1 : lw_okq (⟨"SuccessionClerk$Ledger", "earliestUnsettled", "()I"⟩, 8) := ⟨⟨by decide +kernel, by decide +kernel⟩, List.mem_of_getElem? (i := 175) (by decide +kernel), List.mem_of_getElem? (i := 239) (by decide +kernel), List.mem_of_getElem? (i := 240) (by decide +kernel)⟩
theorem lw_p2 : lw_okq (⟨"SuccessionClerk$Ledger", "settleOne", "(I)V"⟩, 8) := ⟨⟨by decide +kernel, by decide +kernel⟩, List.mem_of_getElem? (i := 175) (by decide +kernel), List.mem_of_getElem? (i := 247) (by decide +kernel), List.mem_of_getElem? (i := 248) (by decide +kernel)⟩
theorem lw_p3 : lw_okq (⟨"SuccessionClerk$Survey", "findStems", "()V"⟩, 8) := ⟨⟨by decide +kernel, by decide +kernel⟩, List.mem_of_getElem? (i := 77) (by decide +kernel), List.mem_of_getElem? (i := 255) (by decide +kernel), List.mem_of_getElem? (i := 256) (by decide +kernel)⟩
theorem lw_p4 : lw_okq (⟨"SuccessionClerk$Survey", "addBranch", "(I)V"⟩, 8) := ⟨⟨by decide +kernel, by decide +kernel⟩, List.mem_of_getElem? (i := 77) (by decide +kernel), List.mem_of_getElem? (i := 271) (by decide +kernel), List.mem_of_getElem? (i := 272) (by decide +kernel)⟩
theorem lw_p5 : lw_okq (⟨"SuccessionClerk$Survey", "findLines", "()V"⟩, 8) := ⟨⟨by decide +kernel, by decide +kernel⟩, List.mem_of_getElem? (i := 77) (by decide +kernel), List.mem_of_getElem? (i := 275) (by decide +kernel), List.mem_of_getElem? (i := 276) (by decide +kernel)⟩
theorem lw_p6 : lw_okq (⟨"SuccessionClerk$Survey", "findTaker", "()I"⟩, 8) := ⟨⟨by decide +kernel, by decide +kernel⟩, List.mem_of_getElem? (i := 77) (by decide +kernel), List.mem_of_getElem? (i := 283) (by decide +kernel), List.mem_of_getElem? (i := 284) (by decide +kernel)⟩
theorem lw_p7 : lw_okq (⟨"SuccessionClerk$Ledger", "pay", "(IIJ)V"⟩, 8) := ⟨⟨by decide +kernel, by decide +kernel⟩, List.mem_of_getElem? (i := 175) (by decide +kernel), List.mem_of_getElem? (i := 287) (by decide +kernel), List.mem_of_getElem? (i := 288) (by decide +kernel)⟩
theorem lw_p8 : lw_okq (⟨"SuccessionClerk$Hotchpot", "findOneAbove", "()I"⟩, 6) := ⟨⟨by decide +kernel, by decide +kernel⟩, List.mem_of_getElem? (i := 123) (by decide +kernel), List.mem_of_getElem? (i := 313) (by decide +kernel), List.mem_of_getElem? (i := 314) (by decide +kernel)⟩
theorem lw_p9 : lw_okq (⟨"SuccessionClerk$Division", "branchProduct", "()J"⟩, 7) := ⟨⟨by decide +kernel, by decide +kernel⟩, List.mem_of_getElem? (i := 117) (by decide +kernel), List.mem_of_getElem? (i := 321) (by decide +kernel), List.mem_of_getElem? (i := 322) (by decide +kernel)⟩
theorem lw_p10 : lw_okq (⟨"SuccessionClerk$Division", "startWith", "(JJ)V"⟩, 7) := ⟨⟨by decide +kernel, by decide +kernel⟩, List.mem_of_getElem? (i := 117) (by decide +kernel), List.mem_of_getElem? (i := 326) (by decide +kernel), List.mem_of_getElem? (i := 327) (by decide +kernel)⟩
theorem lw_p11 : lw_okq (⟨"SuccessionClerk$Division", "lowerParts", "()V"⟩, 7) := ⟨⟨by decide +kernel, by decide +kernel⟩, List.mem_of_getElem? (i := 117) (by decide +kernel), List.mem_of_getElem? (i := 332) (by decide +kernel), List.mem_of_getElem? (i := 333) (by decide +kernel)⟩
theorem lw_p12 : lw_okq (⟨"SuccessionClerk$Division", "lowerPart", "(IJ)V"⟩, 7) := ⟨⟨by decide +kernel, by decide +kernel⟩, List.mem_of_getElem? (i := 117) (by decide +kernel), List.mem_of_getElem? (i := 336) (by decide +kernel), List.mem_of_getElem? (i := 337) (by decide +kernel)⟩
theorem lw_p13 : lw_okq (⟨"SuccessionClerk$Division", "raiseParts", "(I)V"⟩, 7) := ⟨⟨by decide +kernel, by decide +kernel⟩, List.mem_of_getElem? (i := 117) (by decide +kernel), List.mem_of_getElem? (i := 347) (by decide +kernel), List.mem_of_getElem? (i := 348) (by decide +kernel)⟩
theorem lw_p14 : lw_okq (⟨"SuccessionClerk$Division", "raisePart", "(II)V"⟩, 7) := ⟨⟨by decide +kernel, by decide +kernel⟩, List.mem_of_getElem? (i := 117) (by decide +kernel), List.mem_of_getElem? (i := 351) (by decide +kernel), List.mem_of_getElem? (i := 352) (by decide +kernel)⟩
theorem lw_p15 : lw_okq (⟨"SuccessionClerk$Ledger", "payDues", "(I)V"⟩, 8) := ⟨⟨by decide +kernel, by decide +kernel⟩, List.mem_of_getElem? (i := 175) (by decide +kernel), List.mem_of_getElem? (i := 359) (by decide +kernel), List.mem_of_getElem? (i := 360) (by decide +kernel)⟩
def lw_privs_1 : List (MethodName × Nat) := [(⟨"SuccessionClerk$Ledger", "forget", "()V"⟩, 8), (⟨"SuccessionClerk$Ledger", "earliestUnsettled", "()I"⟩, 8), (⟨"SuccessionClerk$Ledger", "settleOne", "(I)V"⟩, 8), (⟨"SuccessionClerk$Survey", "findStems", "()V"⟩, 8), (⟨"SuccessionClerk$Survey", "addBranch", "(I)V"⟩, 8), (⟨"SuccessionClerk$Survey", "findLines", "()V"⟩, 8), (⟨"SuccessionClerk$Survey", "findTaker", "()I"⟩, 8), (⟨"SuccessionClerk$Ledger", "pay", "(IIJ)V"⟩, 8), (⟨"SuccessionClerk$Hotchpot", "findOneAbove", "()I"⟩, 6), (⟨"SuccessionClerk$Division", "branchProduct", "()J"⟩, 7), (⟨"SuccessionClerk$Division", "startWith", "(JJ)V"⟩, 7), (⟨"SuccessionClerk$Division", "lowerParts", "()V"⟩, 7), (⟨"SuccessionClerk$Division", "lowerPart", "(IJ)V"⟩, 7), (⟨"SuccessionClerk$Division", "raiseParts", "(I)V"⟩, 7), (⟨"SuccessionClerk$Division", "raisePart", "(II)V"⟩, 7), (⟨"SuccessionClerk$Ledger", "payDues", "(I)V"⟩, 8)]
theorem lw_r1 : ∀ q ∈ lw_privs_1, lw_okq q := List.forall_mem_cons.mpr ⟨lw_p0, List.forall_mem_cons.mpr ⟨lw_p1, List.forall_mem_cons.mpr ⟨lw_p2, List.forall_mem_cons.mpr ⟨lw_p3, List.forall_mem_cons.mpr ⟨lw_p4, List.forall_mem_cons.mpr ⟨lw_p5, List.forall_mem_cons.mpr ⟨lw_p6, List.forall_mem_cons.mpr ⟨lw_p7, List.forall_mem_cons.mpr ⟨lw_p8, List.forall_mem_cons.mpr ⟨lw_p9, List.forall_mem_cons.mpr ⟨lw_p10, List.forall_mem_cons.mpr ⟨lw_p11, List.forall_mem_cons.mpr ⟨lw_p12, List.forall_mem_cons.mpr ⟨lw_p13, List.forall_mem_cons.mpr ⟨lw_p14, List.forall_mem_cons.mpr ⟨lw_p15, fun _ h => absurd h List.not_mem_nil⟩⟩⟩⟩⟩⟩⟩⟩⟩⟩⟩⟩⟩⟩⟩⟩
theorem lw_p16 : lw_okq (⟨"SuccessionClerk$Ledger", "greatestRest", "()I"⟩, 8) := ⟨⟨by decide +kernel, by decide +kernel⟩, List.mem_of_getElem? (i := 175) (by decide +kernel), List.mem_of_getElem? (i := 363) (by decide +kernel), List.mem_of_getElem? (i := 364) (by decide +kernel)⟩
theorem lw_p17 : lw_okq (⟨"java/lang/Throwable", "fillInStackTrace", "(I)Ljava/lang/Throwable;"⟩, 6) := ⟨⟨by decide +kernel, by decide +kernel⟩, List.mem_of_getElem? (i := 416) (by decide +kernel), List.mem_of_getElem? (i := 414) (by decide +kernel), List.mem_of_getElem? (i := 415) (by decide +kernel)⟩
theorem lw_p18 : lw_okq (⟨"SuccessionClerk", "requirePerson", "(I)V"⟩, 4) := ⟨⟨by decide +kernel, by decide +kernel⟩, List.mem_of_getElem? (i := 16) (by decide +kernel), List.mem_of_getElem? (i := 474) (by decide +kernel), List.mem_of_getElem? (i := 475) (by decide +kernel)⟩
theorem lw_p19 : lw_okq (⟨"SuccessionClerk", "requireDead", "(I)V"⟩, 4) := ⟨⟨by decide +kernel, by decide +kernel⟩, List.mem_of_getElem? (i := 16) (by decide +kernel), List.mem_of_getElem? (i := 555) (by decide +kernel), List.mem_of_getElem? (i := 556) (by decide +kernel)⟩
theorem lw_p20 : lw_okq (⟨"SuccessionClerk$Survey", "beginsOrder", "(I)Z"⟩, 8) := ⟨⟨by decide +kernel, by decide +kernel⟩, List.mem_of_getElem? (i := 77) (by decide +kernel), List.mem_of_getElem? (i := 609) (by decide +kernel), List.mem_of_getElem? (i := 610) (by decide +kernel)⟩
theorem lw_p21 : lw_okq (⟨"SuccessionClerk$Survey", "stemReaches", "(II)Z"⟩, 8) := ⟨⟨by decide +kernel, by decide +kernel⟩, List.mem_of_getElem? (i := 77) (by decide +kernel), List.mem_of_getElem? (i := 617) (by decide +kernel), List.mem_of_getElem? (i := 618) (by decide +kernel)⟩
theorem lw_p22 : lw_okq (⟨"SuccessionClerk$Survey", "passesOn", "(I)Z"⟩, 8) := ⟨⟨by decide +kernel, by decide +kernel⟩, List.mem_of_getElem? (i := 77) (by decide +kernel), List.mem_of_getElem? (i := 621) (by decide +kernel), List.mem_of_getElem? (i := 622) (by decide +kernel)⟩
theorem lw_p23 : lw_okq (⟨"SuccessionClerk", "placeOf", "(I)I"⟩, 4) := ⟨⟨by decide +kernel, by decide +kernel⟩, List.mem_of_getElem? (i := 16) (by decide +kernel), List.mem_of_getElem? (i := 632) (by decide +kernel), List.mem_of_getElem? (i := 633) (by decide +kernel)⟩
theorem lw_p24 : lw_okq (⟨"SuccessionClerkModel", "no", "(I)Z"⟩, 23) := ⟨⟨by decide +kernel, by decide +kernel⟩, List.mem_of_getElem? (i := 650) (by decide +kernel), List.mem_of_getElem? (i := 734) (by decide +kernel), List.mem_of_getElem? (i := 735) (by decide +kernel)⟩
theorem lw_p25 : lw_okq (⟨"SuccessionClerkModel", "isMarried", "(I)Z"⟩, 23) := ⟨⟨by decide +kernel, by decide +kernel⟩, List.mem_of_getElem? (i := 650) (by decide +kernel), List.mem_of_getElem? (i := 746) (by decide +kernel), List.mem_of_getElem? (i := 747) (by decide +kernel)⟩
theorem lw_p26 : lw_okq (⟨"SuccessionClerkModel", "unsettled", "(I)I"⟩, 23) := ⟨⟨by decide +kernel, by decide +kernel⟩, List.mem_of_getElem? (i := 650) (by decide +kernel), List.mem_of_getElem? (i := 779) (by decide +kernel), List.mem_of_getElem? (i := 780) (by decide +kernel)⟩
theorem lw_p27 : lw_okq (⟨"SuccessionClerkModel", "divide", "(I)V"⟩, 23) := ⟨⟨by decide +kernel, by decide +kernel⟩, List.mem_of_getElem? (i := 650) (by decide +kernel), List.mem_of_getElem? (i := 783) (by decide +kernel), List.mem_of_getElem? (i := 784) (by decide +kernel)⟩
theorem lw_p28 : lw_okq (⟨"SuccessionClerkModel", "look", "(I)V"⟩, 23) := ⟨⟨by decide +kernel, by decide +kernel⟩, List.mem_of_getElem? (i := 650) (by decide +kernel), List.mem_of_getElem? (i := 787) (by decide +kernel), List.mem_of_getElem? (i := 788) (by decide +kernel)⟩
theorem lw_p29 : lw_okq (⟨"SuccessionClerkModel", "isChild", "(II)Z"⟩, 23) := ⟨⟨by decide +kernel, by decide +kernel⟩, List.mem_of_getElem? (i := 650) (by decide +kernel), List.mem_of_getElem? (i := 791) (by decide +kernel), List.mem_of_getElem? (i := 792) (by decide +kernel)⟩
theorem lw_p30 : lw_okq (⟨"SuccessionClerkModel", "hasLine", "(II)Z"⟩, 23) := ⟨⟨by decide +kernel, by decide +kernel⟩, List.mem_of_getElem? (i := 650) (by decide +kernel), List.mem_of_getElem? (i := 795) (by decide +kernel), List.mem_of_getElem? (i := 796) (by decide +kernel)⟩
theorem lw_p31 : lw_okq (⟨"SuccessionClerkModel", "clear", "()V"⟩, 23) := ⟨⟨by decide +kernel, by decide +kernel⟩, List.mem_of_getElem? (i := 650) (by decide +kernel), List.mem_of_getElem? (i := 799) (by decide +kernel), List.mem_of_getElem? (i := 800) (by decide +kernel)⟩
def lw_privs_2 : List (MethodName × Nat) := [(⟨"SuccessionClerk$Ledger", "greatestRest", "()I"⟩, 8), (⟨"java/lang/Throwable", "fillInStackTrace", "(I)Ljava/lang/Throwable;"⟩, 6), (⟨"SuccessionClerk", "requirePerson", "(I)V"⟩, 4), (⟨"SuccessionClerk", "requireDead", "(I)V"⟩, 4), (⟨"SuccessionClerk$Survey", "beginsOrder", "(I)Z"⟩, 8), (⟨"SuccessionClerk$Survey", "stemReaches", "(II)Z"⟩, 8), (⟨"SuccessionClerk$Survey", "passesOn", "(I)Z"⟩, 8), (⟨"SuccessionClerk", "placeOf", "(I)I"⟩, 4), (⟨"SuccessionClerkModel", "no", "(I)Z"⟩, 23), (⟨"SuccessionClerkModel", "isMarried", "(I)Z"⟩, 23), (⟨"SuccessionClerkModel", "unsettled", "(I)I"⟩, 23), (⟨"SuccessionClerkModel", "divide", "(I)V"⟩, 23), (⟨"SuccessionClerkModel", "look", "(I)V"⟩, 23), (⟨"SuccessionClerkModel", "isChild", "(II)Z"⟩, 23), (⟨"SuccessionClerkModel", "hasLine", "(II)Z"⟩, 23), (⟨"SuccessionClerkModel", "clear", "()V"⟩, 23)]
theorem lw_r2 : ∀ q ∈ lw_privs_2, lw_okq q := List.forall_mem_cons.mpr ⟨lw_p16, List.forall_mem_cons.mpr ⟨lw_p17, List.forall_mem_cons.mpr ⟨lw_p18, List.forall_mem_cons.mpr ⟨lw_p19, List.forall_mem_cons.mpr ⟨lw_p20, List.forall_mem_cons.mpr ⟨lw_p21, List.forall_mem_cons.mpr ⟨lw_p22, List.forall_mem_cons.mpr ⟨lw_p23, List.forall_mem_cons.mpr ⟨lw_p24, List.forall_mem_cons.mpr ⟨lw_p25, List.forall_mem_cons.mpr ⟨lw_p26, List.forall_mem_cons.mpr ⟨lw_p27, List.forall_mem_cons.mpr ⟨lw_p28, List.forall_mem_cons.mpr ⟨lw_p29, List.forall_mem_cons.mpr ⟨lw_p30, List.forall_mem_cons.mpr ⟨lw_p31, fun _ h => absurd h List.not_mem_nil⟩⟩⟩⟩⟩⟩⟩⟩⟩⟩⟩⟩⟩⟩⟩⟩
theorem lw_p32 : lw_okq (⟨"SuccessionClerkModel", "climb", "(I)V"⟩, 23) := ⟨⟨by decide +kernel, by decide +kernel⟩, List.mem_of_getElem? (i := 650) (by decide +kernel), List.mem_of_getElem? (i := 806) (by decide +kernel), List.mem_of_getElem? (i := 807) (by decide +kernel)⟩
theorem lw_p33 : lw_okq (⟨"SuccessionClerkModel", "descend", "()V"⟩, 23) := ⟨⟨by decide +kernel, by decide +kernel⟩, List.mem_of_getElem? (i := 650) (by decide +kernel), List.mem_of_getElem? (i := 810) (by decide +kernel), List.mem_of_getElem? (i := 811) (by decide +kernel)⟩
theorem lw_p34 : lw_okq (⟨"SuccessionClerkModel", "settleOne", "(I)V"⟩, 23) := ⟨⟨by decide +kernel, by decide +kernel⟩, List.mem_of_getElem? (i := 650) (by decide +kernel), List.mem_of_getElem? (i := 838) (by decide +kernel), List.mem_of_getElem? (i := 839) (by decide +kernel)⟩
theorem lw_p35 : lw_okq (⟨"SuccessionClerkModel", "due", "(IJ)V"⟩, 23) := ⟨⟨by decide +kernel, by decide +kernel⟩, List.mem_of_getElem? (i := 650) (by decide +kernel), List.mem_of_getElem? (i := 842) (by decide +kernel), List.mem_of_getElem? (i := 843) (by decide +kernel)⟩
theorem lw_p36 : lw_okq (⟨"SuccessionClerkModel", "sift", "(J)I"⟩, 23) := ⟨⟨by decide +kernel, by decide +kernel⟩, List.mem_of_getElem? (i := 650) (by decide +kernel), List.mem_of_getElem? (i := 847) (by decide +kernel), List.mem_of_getElem? (i := 848) (by decide +kernel)⟩
theorem lw_p37 : lw_okq (⟨"SuccessionClerkModel", "giftsIn", "()J"⟩, 23) := ⟨⟨by decide +kernel, by decide +kernel⟩, List.mem_of_getElem? (i := 650) (by decide +kernel), List.mem_of_getElem? (i := 851) (by decide +kernel), List.mem_of_getElem? (i := 852) (by decide +kernel)⟩
theorem lw_p38 : lw_okq (⟨"SuccessionClerkModel", "pay", "(IIJ)V"⟩, 23) := ⟨⟨by decide +kernel, by decide +kernel⟩, List.mem_of_getElem? (i := 650) (by decide +kernel), List.mem_of_getElem? (i := 855) (by decide +kernel), List.mem_of_getElem? (i := 856) (by decide +kernel)⟩
def lw_privs_3 : List (MethodName × Nat) := [(⟨"SuccessionClerkModel", "climb", "(I)V"⟩, 23), (⟨"SuccessionClerkModel", "descend", "()V"⟩, 23), (⟨"SuccessionClerkModel", "settleOne", "(I)V"⟩, 23), (⟨"SuccessionClerkModel", "due", "(IJ)V"⟩, 23), (⟨"SuccessionClerkModel", "sift", "(J)I"⟩, 23), (⟨"SuccessionClerkModel", "giftsIn", "()J"⟩, 23), (⟨"SuccessionClerkModel", "pay", "(IIJ)V"⟩, 23)]
theorem lw_r3 : ∀ q ∈ lw_privs_3, lw_okq q := List.forall_mem_cons.mpr ⟨lw_p32, List.forall_mem_cons.mpr ⟨lw_p33, List.forall_mem_cons.mpr ⟨lw_p34, List.forall_mem_cons.mpr ⟨lw_p35, List.forall_mem_cons.mpr ⟨lw_p36, List.forall_mem_cons.mpr ⟨lw_p37, List.forall_mem_cons.mpr ⟨lw_p38, fun _ h => absurd h List.not_mem_nil⟩⟩⟩⟩⟩⟩⟩
def lw_privs : List (MethodName × Nat) := lw_privs_1 ++ (lw_privs_2 ++ (lw_privs_3))
def lw_tbl : List Cond := k2_sels lw_privs ++ tables_1
theorem lw_privs_ok : ∀ q ∈ lw_privs, lw_okq q := by
  show ∀ q ∈ lw_privs_1 ++ (lw_privs_2 ++ (lw_privs_3)), lw_okq q
  exact List.forall_mem_append.mpr ⟨lw_r1, List.forall_mem_append.mpr ⟨lw_r2, lw_r3⟩⟩
end
section
/-! Names: classes, their fields in the order of the slots, methods, the words of the tables. Written by wip/whole/tools/names.py out of javap's listing and the Statement. -/
def R_S : String := "SuccessionClerk"
def T_S : u_T := fun k => match k with
  | 0 => ("SuccessionClerk", "family", "LSuccessionClerk$Family;", true)
  | 1 => ("SuccessionClerk", "survey", "LSuccessionClerk$Survey;", true)
  | 2 => ("SuccessionClerk", "division", "LSuccessionClerk$Division;", true)
  | _ => ("SuccessionClerk", "ledger", "LSuccessionClerk$Ledger;", true)
def t_S : Nat → FieldType := fun k => match k with
  | 0 => .object "SuccessionClerk$Family"
  | 1 => .object "SuccessionClerk$Survey"
  | 2 => .object "SuccessionClerk$Division"
  | _ => .object "SuccessionClerk$Ledger"
theorem nm_S : ∀ a, a < 4 → ∀ b, b < 4 → a ≠ b → (T_S a).2.1 ≠ (T_S b).2.1 := by decide +kernel
theorem ty_S : ∀ k, k < 4 → parseFieldDescriptor (T_S k).2.2.1 = some (t_S k) := by decide +kernel
def R_F : String := "SuccessionClerk$Family"
def T_F : u_T := fun k => match k with
  | 0 => ("SuccessionClerk$Family", "count", "I", false)
  | 1 => ("SuccessionClerk$Family", "first", "[I", true)
  | 2 => ("SuccessionClerk$Family", "second", "[I", true)
  | 3 => ("SuccessionClerk$Family", "spouseOf", "[I", true)
  | 4 => ("SuccessionClerk$Family", "deathDay", "[I", true)
  | 5 => ("SuccessionClerk$Family", "ownCents", "[I", true)
  | 6 => ("SuccessionClerk$Family", "gifts", "[[I", true)
  | _ => ("SuccessionClerk$Family", "excluded", "[I", true)
def t_F : Nat → FieldType := fun k => match k with
  | 0 => .int
  | 1 => .array .int
  | 2 => .array .int
  | 3 => .array .int
  | 4 => .array .int
  | 5 => .array .int
  | 6 => .array (.array .int)
  | _ => .array .int
theorem nm_F : ∀ a, a < 8 → ∀ b, b < 8 → a ≠ b → (T_F a).2.1 ≠ (T_F b).2.1 := by decide +kernel
theorem ty_F : ∀ k, k < 8 → parseFieldDescriptor (T_F k).2.2.1 = some (t_F k) := by decide +kernel
def R_V : String := "SuccessionClerk$Survey"
def T_V : u_T := fun k => match k with
  | 0 => ("SuccessionClerk$Survey", "family", "LSuccessionClerk$Family;", true)
  | 1 => ("SuccessionClerk$Survey", "deceased", "I", false)
  | 2 => ("SuccessionClerk$Survey", "widowed", "I", false)
  | 3 => ("SuccessionClerk$Survey", "taker", "I", false)
  | 4 => ("SuccessionClerk$Survey", "left", "[Z", true)
  | 5 => ("SuccessionClerk$Survey", "branches", "[I", true)
  | 6 => ("SuccessionClerk$Survey", "lines", "[Z", true)
  | _ => ("SuccessionClerk$Survey", "reached", "[Z", true)
def t_V : Nat → FieldType := fun k => match k with
  | 0 => .object "SuccessionClerk$Family"
  | 1 => .int
  | 2 => .int
  | 3 => .int
  | 4 => .array .boolean
  | 5 => .array .int
  | 6 => .array .boolean
  | _ => .array .boolean
theorem nm_V : ∀ a, a < 8 → ∀ b, b < 8 → a ≠ b → (T_V a).2.1 ≠ (T_V b).2.1 := by decide +kernel
theorem ty_V : ∀ k, k < 8 → parseFieldDescriptor (T_V k).2.2.1 = some (t_V k) := by decide +kernel
def R_D : String := "SuccessionClerk$Division"
def T_D : u_T := fun k => match k with
  | 0 => ("SuccessionClerk$Division", "family", "LSuccessionClerk$Family;", true)
  | 1 => ("SuccessionClerk$Division", "survey", "LSuccessionClerk$Survey;", true)
  | 2 => ("SuccessionClerk$Division", "hotchpot", "LSuccessionClerk$Hotchpot;", true)
  | 3 => ("SuccessionClerk$Division", "takes", "[J", true)
  | 4 => ("SuccessionClerk$Division", "denominator", "J", false)
  | 5 => ("SuccessionClerk$Division", "parts", "[J", true)
  | _ => ("SuccessionClerk$Division", "higher", "[J", true)
def t_D : Nat → FieldType := fun k => match k with
  | 0 => .object "SuccessionClerk$Family"
  | 1 => .object "SuccessionClerk$Survey"
  | 2 => .object "SuccessionClerk$Hotchpot"
  | 3 => .array .long
  | 4 => .long
  | 5 => .array .long
  | _ => .array .long
theorem nm_D : ∀ a, a < 7 → ∀ b, b < 7 → a ≠ b → (T_D a).2.1 ≠ (T_D b).2.1 := by decide +kernel
theorem ty_D : ∀ k, k < 7 → parseFieldDescriptor (T_D k).2.2.1 = some (t_D k) := by decide +kernel
def R_H : String := "SuccessionClerk$Hotchpot"
def T_H : u_T := fun k => match k with
  | 0 => ("SuccessionClerk$Hotchpot", "family", "LSuccessionClerk$Family;", true)
  | 1 => ("SuccessionClerk$Hotchpot", "survey", "LSuccessionClerk$Survey;", true)
  | 2 => ("SuccessionClerk$Hotchpot", "in", "[Z", true)
  | 3 => ("SuccessionClerk$Hotchpot", "size", "I", false)
  | 4 => ("SuccessionClerk$Hotchpot", "amount", "J", false)
  | _ => ("SuccessionClerk$Hotchpot", "gifts", "[J", true)
def t_H : Nat → FieldType := fun k => match k with
  | 0 => .object "SuccessionClerk$Family"
  | 1 => .object "SuccessionClerk$Survey"
  | 2 => .array .boolean
  | 3 => .int
  | 4 => .long
  | _ => .array .long
theorem nm_H : ∀ a, a < 6 → ∀ b, b < 6 → a ≠ b → (T_H a).2.1 ≠ (T_H b).2.1 := by decide +kernel
theorem ty_H : ∀ k, k < 6 → parseFieldDescriptor (T_H k).2.2.1 = some (t_H k) := by decide +kernel
def R_L : String := "SuccessionClerk$Ledger"
def T_L : u_T := fun k => match k with
  | 0 => ("SuccessionClerk$Ledger", "family", "LSuccessionClerk$Family;", true)
  | 1 => ("SuccessionClerk$Ledger", "survey", "LSuccessionClerk$Survey;", true)
  | 2 => ("SuccessionClerk$Ledger", "division", "LSuccessionClerk$Division;", true)
  | 3 => ("SuccessionClerk$Ledger", "payments", "[[J", true)
  | 4 => ("SuccessionClerk$Ledger", "totals", "[J", true)
  | 5 => ("SuccessionClerk$Ledger", "receipts", "[J", true)
  | 6 => ("SuccessionClerk$Ledger", "settled", "[Z", true)
  | _ => ("SuccessionClerk$Ledger", "rests", "[J", true)
def t_L : Nat → FieldType := fun k => match k with
  | 0 => .object "SuccessionClerk$Family"
  | 1 => .object "SuccessionClerk$Survey"
  | 2 => .object "SuccessionClerk$Division"
  | 3 => .array (.array .long)
  | 4 => .array .long
  | 5 => .array .long
  | 6 => .array .boolean
  | _ => .array .long
theorem nm_L : ∀ a, a < 8 → ∀ b, b < 8 → a ≠ b → (T_L a).2.1 ≠ (T_L b).2.1 := by decide +kernel
theorem ty_L : ∀ k, k < 8 → parseFieldDescriptor (T_L k).2.2.1 = some (t_L k) := by decide +kernel
def R_M : String := "SuccessionClerkModel"
def T_M : u_T := fun k => match k with
  | 0 => ("SuccessionClerkModel", "thrown", "I", false)
  | 1 => ("SuccessionClerkModel", "persons", "I", false)
  | 2 => ("SuccessionClerkModel", "firsts", "[I", true)
  | 3 => ("SuccessionClerkModel", "seconds", "[I", true)
  | 4 => ("SuccessionClerkModel", "spouses", "[I", true)
  | 5 => ("SuccessionClerkModel", "days", "[I", true)
  | 6 => ("SuccessionClerkModel", "estates", "[I", true)
  | 7 => ("SuccessionClerkModel", "gifts", "[I", true)
  | 8 => ("SuccessionClerkModel", "excluded", "[Z", true)
  | 9 => ("SuccessionClerkModel", "of", "I", false)
  | 10 => ("SuccessionClerkModel", "left", "[Z", true)
  | 11 => ("SuccessionClerkModel", "many", "[I", true)
  | 12 => ("SuccessionClerkModel", "lines", "[Z", true)
  | 13 => ("SuccessionClerkModel", "parts", "[J", true)
  | 14 => ("SuccessionClerkModel", "takes", "[J", true)
  | 15 => ("SuccessionClerkModel", "product", "J", false)
  | 16 => ("SuccessionClerkModel", "whole", "J", false)
  | 17 => ("SuccessionClerkModel", "code", "I", false)
  | 18 => ("SuccessionClerkModel", "widow", "Z", false)
  | 19 => ("SuccessionClerkModel", "in", "[Z", true)
  | 20 => ("SuccessionClerkModel", "paid", "[J", true)
  | 21 => ("SuccessionClerkModel", "totals", "[J", true)
  | _ => ("SuccessionClerkModel", "gots", "[J", true)
def t_M : Nat → FieldType := fun k => match k with
  | 0 => .int
  | 1 => .int
  | 2 => .array .int
  | 3 => .array .int
  | 4 => .array .int
  | 5 => .array .int
  | 6 => .array .int
  | 7 => .array .int
  | 8 => .array .boolean
  | 9 => .int
  | 10 => .array .boolean
  | 11 => .array .int
  | 12 => .array .boolean
  | 13 => .array .long
  | 14 => .array .long
  | 15 => .long
  | 16 => .long
  | 17 => .int
  | 18 => .boolean
  | 19 => .array .boolean
  | 20 => .array .long
  | 21 => .array .long
  | _ => .array .long
theorem nm_M : ∀ a, a < 23 → ∀ b, b < 23 → a ≠ b → (T_M a).2.1 ≠ (T_M b).2.1 := by decide +kernel
theorem ty_M : ∀ k, k < 23 → parseFieldDescriptor (T_M k).2.2.1 = some (t_M k) := by decide +kernel
def R_W : String := "SuccessionClerkLaw"
def vwCl : List vw_C := [(R_S, T_S, 4), (R_F, T_F, 8), (R_V, T_V, 8), (R_D, T_D, 7), (R_H, T_H, 6), (R_L, T_L, 8), (R_M, T_M, 23)]
/-- the words that every method here has: those of the tables that stay -/
def TT : List Cond := lw_tbl.filter goodWord
theorem tm {w : Cond} (i : Nat) (h : tables_1[i]? = some w) (hg : goodWord w = true) : w ∈ TT := List.mem_filter.mpr ⟨List.mem_append_right _ (List.mem_of_getElem? h), hg⟩
theorem ts {w : Cond} (i : Nat) (h : (k2_sels lw_privs)[i]? = some w) (hg : goodWord w = true) : w ∈ TT := List.mem_filter.mpr ⟨List.mem_append_left _ (List.mem_of_getElem? h), hg⟩
theorem gT {c1 c2 : Cond} (h : c2 ∈ TT) : GoodIn (c1 :: TT) (c2 :: TT) := by
  intro w hw
  rcases List.mem_cons.mp hw with rfl | hw
  · exact ⟨List.mem_cons_of_mem _ h, good_of_word (List.mem_filter.mp h).2⟩
  · exact ⟨List.mem_cons_of_mem _ hw, good_of_word (List.mem_filter.mp hw).2⟩
theorem in_S : ∀ w ∈ u_ws R_S T_S 4, w ∈ TT := by
  have h : ∀ w ∈ u_ws R_S T_S 4, w ∈ tables_1 ∧ goodWord w = true := by decide +kernel
  exact fun w hw => List.mem_filter.mpr ⟨List.mem_append_right _ (h w hw).1, (h w hw).2⟩
theorem in_F : ∀ w ∈ u_ws R_F T_F 8, w ∈ TT := by
  have h : ∀ w ∈ u_ws R_F T_F 8, w ∈ tables_1 ∧ goodWord w = true := by decide +kernel
  exact fun w hw => List.mem_filter.mpr ⟨List.mem_append_right _ (h w hw).1, (h w hw).2⟩
theorem in_V : ∀ w ∈ u_ws R_V T_V 8, w ∈ TT := by
  have h : ∀ w ∈ u_ws R_V T_V 8, w ∈ tables_1 ∧ goodWord w = true := by decide +kernel
  exact fun w hw => List.mem_filter.mpr ⟨List.mem_append_right _ (h w hw).1, (h w hw).2⟩
theorem in_D : ∀ w ∈ u_ws R_D T_D 7, w ∈ TT := by
  have h : ∀ w ∈ u_ws R_D T_D 7, w ∈ tables_1 ∧ goodWord w = true := by decide +kernel
  exact fun w hw => List.mem_filter.mpr ⟨List.mem_append_right _ (h w hw).1, (h w hw).2⟩
theorem in_H : ∀ w ∈ u_ws R_H T_H 6, w ∈ TT := by
  have h : ∀ w ∈ u_ws R_H T_H 6, w ∈ tables_1 ∧ goodWord w = true := by decide +kernel
  exact fun w hw => List.mem_filter.mpr ⟨List.mem_append_right _ (h w hw).1, (h w hw).2⟩
theorem in_L : ∀ w ∈ u_ws R_L T_L 8, w ∈ TT := by
  have h : ∀ w ∈ u_ws R_L T_L 8, w ∈ tables_1 ∧ goodWord w = true := by decide +kernel
  exact fun w hw => List.mem_filter.mpr ⟨List.mem_append_right _ (h w hw).1, (h w hw).2⟩
theorem in_M : ∀ w ∈ u_ws R_M T_M 23, w ∈ TT := by
  have h : ∀ w ∈ u_ws R_M T_M 23, w ∈ tables_1 ∧ goodWord w = true := by decide +kernel
  exact fun w hw => List.mem_filter.mpr ⟨List.mem_append_right _ (h w hw).1, (h w hw).2⟩
abbrev c_S_init : ByteArray := prog_1_method_1_code
def y_S_init : MethodName := ⟨R_S, "<init>", "()V"⟩
abbrev c_F_init : ByteArray := prog_3_method_1_code
def y_F_init : MethodName := ⟨R_F, "<init>", "()V"⟩
abbrev c_V_init : ByteArray := prog_6_method_1_code
def y_V_init : MethodName := ⟨R_V, "<init>", "(LSuccessionClerk$Family;)V"⟩
abbrev c_D_init : ByteArray := prog_2_method_1_code
def y_D_init : MethodName := ⟨R_D, "<init>", "(LSuccessionClerk$Family;LSuccessionClerk$Survey;)V"⟩
abbrev c_H_init : ByteArray := prog_4_method_1_code
def y_H_init : MethodName := ⟨R_H, "<init>", "(LSuccessionClerk$Family;LSuccessionClerk$Survey;)V"⟩
abbrev c_L_init : ByteArray := prog_5_method_1_code
def y_L_init : MethodName := ⟨R_L, "<init>", "(LSuccessionClerk$Family;LSuccessionClerk$Survey;LSuccessionClerk$Division;)V"⟩
abbrev c_S_settle : ByteArray := prog_1_method_16_code
def y_S_settle : MethodName := ⟨R_S, "settle", "()I"⟩
abbrev c_L_settleAll : ByteArray := prog_5_method_2_code
def y_L_settleAll : MethodName := ⟨R_L, "settleAll", "()I"⟩
abbrev c_L_forget : ByteArray := prog_5_method_3_code
def y_L_forget : MethodName := ⟨R_L, "forget", "()V"⟩
abbrev c_A_fillJ : ByteArray := prog_16_method_101_code
def y_A_fillJ : MethodName := ⟨"java/util/Arrays", "fill", "([JJ)V"⟩
abbrev c_L_earliestUnsettled : ByteArray := prog_5_method_4_code
def y_L_earliestUnsettled : MethodName := ⟨R_L, "earliestUnsettled", "()I"⟩
abbrev c_F_died : ByteArray := prog_3_method_3_code
def y_F_died : MethodName := ⟨R_F, "died", "(I)Z"⟩
abbrev c_L_settleOne : ByteArray := prog_5_method_5_code
def y_L_settleOne : MethodName := ⟨R_L, "settleOne", "(I)V"⟩
abbrev c_V_look : ByteArray := prog_6_method_2_code
def y_V_look : MethodName := ⟨R_V, "look", "(I)V"⟩
abbrev c_V_findStems : ByteArray := prog_6_method_5_code
def y_V_findStems : MethodName := ⟨R_V, "findStems", "()V"⟩
abbrev c_A_fillI : ByteArray := prog_16_method_103_code
def y_A_fillI : MethodName := ⟨"java/util/Arrays", "fill", "([II)V"⟩
abbrev c_F_isLeft : ByteArray := prog_3_method_8_code
def y_F_isLeft : MethodName := ⟨R_F, "isLeft", "(II)Z"⟩
abbrev c_F_isExcluded : ByteArray := prog_3_method_6_code
def y_F_isExcluded : MethodName := ⟨R_F, "isExcluded", "(II)Z"⟩
abbrev c_V_addBranch : ByteArray := prog_6_method_6_code
def y_V_addBranch : MethodName := ⟨R_V, "addBranch", "(I)V"⟩
abbrev c_V_findLines : ByteArray := prog_6_method_7_code
def y_V_findLines : MethodName := ⟨R_V, "findLines", "()V"⟩
abbrev c_V_hasHeirs : ByteArray := prog_6_method_3_code
def y_V_hasHeirs : MethodName := ⟨R_V, "hasHeirs", "(II)Z"⟩
abbrev c_V_findTaker : ByteArray := prog_6_method_8_code
def y_V_findTaker : MethodName := ⟨R_V, "findTaker", "()I"⟩
abbrev c_L_pay : ByteArray := prog_5_method_8_code
def y_L_pay : MethodName := ⟨R_L, "pay", "(IIJ)V"⟩
abbrev c_D_divideWithGifts : ByteArray := prog_2_method_3_code
def y_D_divideWithGifts : MethodName := ⟨R_D, "divideWithGifts", "(J)V"⟩
abbrev c_V_spouseQuarters : ByteArray := prog_6_method_4_code
def y_V_spouseQuarters : MethodName := ⟨R_V, "spouseQuarters", "()I"⟩
abbrev c_H_gather : ByteArray := prog_4_method_2_code
def y_H_gather : MethodName := ⟨R_H, "gather", "(J)V"⟩
abbrev c_F_isChild : ByteArray := prog_3_method_5_code
def y_F_isChild : MethodName := ⟨R_F, "isChild", "(II)Z"⟩
abbrev c_H_releaseThoseAbove : ByteArray := prog_4_method_3_code
def y_H_releaseThoseAbove : MethodName := ⟨R_H, "releaseThoseAbove", "()V"⟩
abbrev c_H_findOneAbove : ByteArray := prog_4_method_4_code
def y_H_findOneAbove : MethodName := ⟨R_H, "findOneAbove", "()I"⟩
abbrev c_H_partTimesSize : ByteArray := prog_4_method_5_code
def y_H_partTimesSize : MethodName := ⟨R_H, "partTimesSize", "(I)J"⟩
abbrev c_D_branchProduct : ByteArray := prog_2_method_4_code
def y_D_branchProduct : MethodName := ⟨R_D, "branchProduct", "()J"⟩
abbrev c_D_startWith : ByteArray := prog_2_method_5_code
def y_D_startWith : MethodName := ⟨R_D, "startWith", "(JJ)V"⟩
abbrev c_D_lowerParts : ByteArray := prog_2_method_8_code
def y_D_lowerParts : MethodName := ⟨R_D, "lowerParts", "()V"⟩
abbrev c_D_lowerPart : ByteArray := prog_2_method_9_code
def y_D_lowerPart : MethodName := ⟨R_D, "lowerPart", "(IJ)V"⟩
abbrev c_D_divideByShares : ByteArray := prog_2_method_2_code
def y_D_divideByShares : MethodName := ⟨R_D, "divideByShares", "(J)V"⟩
abbrev c_D_raiseParts : ByteArray := prog_2_method_6_code
def y_D_raiseParts : MethodName := ⟨R_D, "raiseParts", "(I)V"⟩
abbrev c_D_raisePart : ByteArray := prog_2_method_7_code
def y_D_raisePart : MethodName := ⟨R_D, "raisePart", "(II)V"⟩
abbrev c_L_payDues : ByteArray := prog_5_method_6_code
def y_L_payDues : MethodName := ⟨R_L, "payDues", "(I)V"⟩
abbrev c_L_greatestRest : ByteArray := prog_5_method_7_code
def y_L_greatestRest : MethodName := ⟨R_L, "greatestRest", "()I"⟩
abbrev c_W_person : ByteArray := method_3_code
def y_W_person : MethodName := ⟨R_W, "person", "(LSuccessionClerk;II[J)I"⟩
abbrev c_S_person : ByteArray := prog_1_method_2_code
def y_S_person : MethodName := ⟨R_S, "person", "(II)I"⟩
abbrev c_S_requireParents : ByteArray := prog_1_method_22_code
def y_S_requireParents : MethodName := ⟨R_S, "requireParents", "(III)V"⟩
abbrev c_F_enter : ByteArray := prog_3_method_2_code
def y_F_enter : MethodName := ⟨R_F, "enter", "(II)I"⟩
abbrev c_W_amend : ByteArray := method_4_code
def y_W_amend : MethodName := ⟨R_W, "amend", "(LSuccessionClerk;III)I"⟩
abbrev c_S_amend : ByteArray := prog_1_method_3_code
def y_S_amend : MethodName := ⟨R_S, "amend", "(III)V"⟩
abbrev c_S_requirePerson : ByteArray := prog_1_method_20_code
def y_S_requirePerson : MethodName := ⟨R_S, "requirePerson", "(I)V"⟩
abbrev c_W_marry : ByteArray := method_5_code
def y_W_marry : MethodName := ⟨R_W, "marry", "(LSuccessionClerk;II)I"⟩
abbrev c_S_marry : ByteArray := prog_1_method_4_code
def y_S_marry : MethodName := ⟨R_S, "marry", "(II)V"⟩
abbrev c_F_isFree : ByteArray := prog_3_method_4_code
def y_F_isFree : MethodName := ⟨R_F, "isFree", "(I)Z"⟩
abbrev c_W_divorce : ByteArray := method_6_code
def y_W_divorce : MethodName := ⟨R_W, "divorce", "(LSuccessionClerk;I[J)I"⟩
abbrev c_S_divorce : ByteArray := prog_1_method_5_code
def y_S_divorce : MethodName := ⟨R_S, "divorce", "(I)Z"⟩
abbrev c_W_spouse : ByteArray := method_7_code
def y_W_spouse : MethodName := ⟨R_W, "spouse", "(LSuccessionClerk;I[J)I"⟩
abbrev c_S_spouse : ByteArray := prog_1_method_6_code
def y_S_spouse : MethodName := ⟨R_S, "spouse", "(I)I"⟩
abbrev c_W_dies : ByteArray := method_8_code
def y_W_dies : MethodName := ⟨R_W, "dies", "(LSuccessionClerk;II)I"⟩
abbrev c_S_dies : ByteArray := prog_1_method_7_code
def y_S_dies : MethodName := ⟨R_S, "dies", "(II)V"⟩
abbrev c_W_exclude : ByteArray := method_9_code
def y_W_exclude : MethodName := ⟨R_W, "exclude", "(LSuccessionClerk;IIZ[J)I"⟩
abbrev c_S_exclude : ByteArray := prog_1_method_8_code
def y_S_exclude : MethodName := ⟨R_S, "exclude", "(IIZ)Z"⟩
abbrev c_F_setExcluded : ByteArray := prog_3_method_7_code
def y_F_setExcluded : MethodName := ⟨R_F, "setExcluded", "(IIZ)V"⟩
abbrev c_W_gift : ByteArray := method_10_code
def y_W_gift : MethodName := ⟨R_W, "gift", "(LSuccessionClerk;III[J)I"⟩
abbrev c_S_gift : ByteArray := prog_1_method_9_code
def y_S_gift : MethodName := ⟨R_S, "gift", "(III)I"⟩
abbrev c_W_estate : ByteArray := method_11_code
def y_W_estate : MethodName := ⟨R_W, "estate", "(LSuccessionClerk;II)I"⟩
abbrev c_S_estate : ByteArray := prog_1_method_10_code
def y_S_estate : MethodName := ⟨R_S, "estate", "(II)V"⟩
abbrev c_W_heirs : ByteArray := method_12_code
def y_W_heirs : MethodName := ⟨R_W, "heirs", "(LSuccessionClerk;I[J)I"⟩
abbrev c_S_heirs : ByteArray := prog_1_method_11_code
def y_S_heirs : MethodName := ⟨R_S, "heirs", "(I)I"⟩
abbrev c_S_requireDead : ByteArray := prog_1_method_21_code
def y_S_requireDead : MethodName := ⟨R_S, "requireDead", "(I)V"⟩
abbrev c_D_countTakers : ByteArray := prog_2_method_10_code
def y_D_countTakers : MethodName := ⟨R_D, "countTakers", "()I"⟩
abbrev c_W_heir : ByteArray := method_13_code
def y_W_heir : MethodName := ⟨R_W, "heir", "(LSuccessionClerk;II[J)I"⟩
abbrev c_S_heir : ByteArray := prog_1_method_12_code
def y_S_heir : MethodName := ⟨R_S, "heir", "(II)I"⟩
abbrev c_D_takerAt : ByteArray := prog_2_method_11_code
def y_D_takerAt : MethodName := ⟨R_D, "takerAt", "(I)I"⟩
abbrev c_W_share : ByteArray := method_14_code
def y_W_share : MethodName := ⟨R_W, "share", "(LSuccessionClerk;II[J)I"⟩
abbrev c_S_share : ByteArray := prog_1_method_13_code
def y_S_share : MethodName := ⟨R_S, "share", "(II)J"⟩
abbrev c_D_inLowestTerms : ByteArray := prog_2_method_12_code
def y_D_inLowestTerms : MethodName := ⟨R_D, "inLowestTerms", "(I)J"⟩
abbrev c_D_commonDivisor : ByteArray := prog_2_method_13_code
def y_D_commonDivisor : MethodName := ⟨R_D, "commonDivisor", "(JJ)J"⟩
abbrev c_W_order : ByteArray := method_15_code
def y_W_order : MethodName := ⟨R_W, "order", "(LSuccessionClerk;I[J)I"⟩
abbrev c_S_order : ByteArray := prog_1_method_14_code
def y_S_order : MethodName := ⟨R_S, "order", "(I)I"⟩
abbrev c_W_stem : ByteArray := method_16_code
def y_W_stem : MethodName := ⟨R_W, "stem", "(LSuccessionClerk;II[J)I"⟩
abbrev c_S_stem : ByteArray := prog_1_method_15_code
def y_S_stem : MethodName := ⟨R_S, "stem", "(II)I"⟩
abbrev c_V_leastStemOver : ByteArray := prog_6_method_9_code
def y_V_leastStemOver : MethodName := ⟨R_V, "leastStemOver", "(I)I"⟩
abbrev c_V_beginsOrder : ByteArray := prog_6_method_10_code
def y_V_beginsOrder : MethodName := ⟨R_V, "beginsOrder", "(I)Z"⟩
abbrev c_V_isAncestor : ByteArray := prog_6_method_11_code
def y_V_isAncestor : MethodName := ⟨R_V, "isAncestor", "(LSuccessionClerk$Family;III)Z"⟩
abbrev c_V_stemReaches : ByteArray := prog_6_method_12_code
def y_V_stemReaches : MethodName := ⟨R_V, "stemReaches", "(II)Z"⟩
abbrev c_V_passesOn : ByteArray := prog_6_method_13_code
def y_V_passesOn : MethodName := ⟨R_V, "passesOn", "(I)Z"⟩
abbrev c_W_paid : ByteArray := method_17_code
def y_W_paid : MethodName := ⟨R_W, "paid", "(LSuccessionClerk;II[J)I"⟩
abbrev c_S_paid : ByteArray := prog_1_method_17_code
def y_S_paid : MethodName := ⟨R_S, "paid", "(II)J"⟩
abbrev c_S_placeOf : ByteArray := prog_1_method_23_code
def y_S_placeOf : MethodName := ⟨R_S, "placeOf", "(I)I"⟩
abbrev c_W_total : ByteArray := method_18_code
def y_W_total : MethodName := ⟨R_W, "total", "(LSuccessionClerk;I[J)I"⟩
abbrev c_S_total : ByteArray := prog_1_method_18_code
def y_S_total : MethodName := ⟨R_S, "total", "(I)J"⟩
abbrev c_W_got : ByteArray := method_19_code
def y_W_got : MethodName := ⟨R_W, "got", "(LSuccessionClerk;I[J)I"⟩
abbrev c_S_got : ByteArray := prog_1_method_19_code
def y_S_got : MethodName := ⟨R_S, "got", "(I)J"⟩
abbrev c_M_init : ByteArray := prog_8_method_1_code
def y_M_init : MethodName := ⟨R_M, "<init>", "()V"⟩
abbrev c_M_thrown : ByteArray := prog_8_method_2_code
def y_M_thrown : MethodName := ⟨R_M, "thrown", "()I"⟩
abbrev c_M_person : ByteArray := prog_8_method_4_code
def y_M_person : MethodName := ⟨R_M, "person", "(II)I"⟩
abbrev c_M_no : ByteArray := prog_8_method_3_code
def y_M_no : MethodName := ⟨R_M, "no", "(I)Z"⟩
abbrev c_M_amend : ByteArray := prog_8_method_5_code
def y_M_amend : MethodName := ⟨R_M, "amend", "(III)V"⟩
abbrev c_M_marry : ByteArray := prog_8_method_7_code
def y_M_marry : MethodName := ⟨R_M, "marry", "(II)V"⟩
abbrev c_M_isMarried : ByteArray := prog_8_method_6_code
def y_M_isMarried : MethodName := ⟨R_M, "isMarried", "(I)Z"⟩
abbrev c_M_divorce : ByteArray := prog_8_method_8_code
def y_M_divorce : MethodName := ⟨R_M, "divorce", "(I)Z"⟩
abbrev c_M_spouse : ByteArray := prog_8_method_9_code
def y_M_spouse : MethodName := ⟨R_M, "spouse", "(I)I"⟩
abbrev c_M_dies : ByteArray := prog_8_method_10_code
def y_M_dies : MethodName := ⟨R_M, "dies", "(II)V"⟩
abbrev c_M_exclude : ByteArray := prog_8_method_11_code
def y_M_exclude : MethodName := ⟨R_M, "exclude", "(IIZ)Z"⟩
abbrev c_M_gift : ByteArray := prog_8_method_12_code
def y_M_gift : MethodName := ⟨R_M, "gift", "(III)I"⟩
abbrev c_M_estate : ByteArray := prog_8_method_13_code
def y_M_estate : MethodName := ⟨R_M, "estate", "(II)V"⟩
abbrev c_M_heirs : ByteArray := prog_8_method_22_code
def y_M_heirs : MethodName := ⟨R_M, "heirs", "(I)I"⟩
abbrev c_M_unsettled : ByteArray := prog_8_method_21_code
def y_M_unsettled : MethodName := ⟨R_M, "unsettled", "(I)I"⟩
abbrev c_M_divide : ByteArray := prog_8_method_20_code
def y_M_divide : MethodName := ⟨R_M, "divide", "(I)V"⟩
abbrev c_M_look : ByteArray := prog_8_method_15_code
def y_M_look : MethodName := ⟨R_M, "look", "(I)V"⟩
abbrev c_M_isChild : ByteArray := prog_8_method_14_code
def y_M_isChild : MethodName := ⟨R_M, "isChild", "(II)Z"⟩
abbrev c_M_hasLine : ByteArray := prog_8_method_16_code
def y_M_hasLine : MethodName := ⟨R_M, "hasLine", "(II)Z"⟩
abbrev c_M_clear : ByteArray := prog_8_method_17_code
def y_M_clear : MethodName := ⟨R_M, "clear", "()V"⟩
abbrev c_M_climb : ByteArray := prog_8_method_18_code
def y_M_climb : MethodName := ⟨R_M, "climb", "(I)V"⟩
abbrev c_M_descend : ByteArray := prog_8_method_19_code
def y_M_descend : MethodName := ⟨R_M, "descend", "()V"⟩
abbrev c_M_heir : ByteArray := prog_8_method_23_code
def y_M_heir : MethodName := ⟨R_M, "heir", "(II)I"⟩
abbrev c_M_share : ByteArray := prog_8_method_25_code
def y_M_share : MethodName := ⟨R_M, "share", "(II)J"⟩
abbrev c_M_divisor : ByteArray := prog_8_method_24_code
def y_M_divisor : MethodName := ⟨R_M, "divisor", "(JJ)J"⟩
abbrev c_M_order : ByteArray := prog_8_method_26_code
def y_M_order : MethodName := ⟨R_M, "order", "(I)I"⟩
abbrev c_M_stem : ByteArray := prog_8_method_27_code
def y_M_stem : MethodName := ⟨R_M, "stem", "(II)I"⟩
abbrev c_M_settle : ByteArray := prog_8_method_33_code
def y_M_settle : MethodName := ⟨R_M, "settle", "()I"⟩
abbrev c_M_settleOne : ByteArray := prog_8_method_32_code
def y_M_settleOne : MethodName := ⟨R_M, "settleOne", "(I)V"⟩
abbrev c_M_due : ByteArray := prog_8_method_30_code
def y_M_due : MethodName := ⟨R_M, "due", "(IJ)V"⟩
abbrev c_M_sift : ByteArray := prog_8_method_28_code
def y_M_sift : MethodName := ⟨R_M, "sift", "(J)I"⟩
abbrev c_M_giftsIn : ByteArray := prog_8_method_29_code
def y_M_giftsIn : MethodName := ⟨R_M, "giftsIn", "()J"⟩
abbrev c_M_pay : ByteArray := prog_8_method_31_code
def y_M_pay : MethodName := ⟨R_M, "pay", "(IIJ)V"⟩
abbrev c_M_paid : ByteArray := prog_8_method_34_code
def y_M_paid : MethodName := ⟨R_M, "paid", "(II)J"⟩
abbrev c_M_total : ByteArray := prog_8_method_35_code
def y_M_total : MethodName := ⟨R_M, "total", "(I)J"⟩
abbrev c_M_got : ByteArray := prog_8_method_36_code
def y_M_got : MethodName := ⟨R_M, "got", "(I)J"⟩
theorem w_0 : Cond.initialized "SuccessionClerkLaw" ∈ TT := tm 0 (by decide +kernel) (by decide +kernel)
theorem w_1 : Cond.initialized "SuccessionClerk" ∈ TT := tm 1 (by decide +kernel) (by decide +kernel)
theorem w_2 : Cond.initialized "SuccessionClerk$Family" ∈ TT := tm 2 (by decide +kernel) (by decide +kernel)
theorem w_3 : Cond.initialized "SuccessionClerk$Survey" ∈ TT := tm 3 (by decide +kernel) (by decide +kernel)
theorem w_4 : Cond.initialized "SuccessionClerk$Division" ∈ TT := tm 4 (by decide +kernel) (by decide +kernel)
theorem w_5 : Cond.initialized "SuccessionClerk$Hotchpot" ∈ TT := tm 5 (by decide +kernel) (by decide +kernel)
theorem w_6 : Cond.initialized "SuccessionClerk$Ledger" ∈ TT := tm 6 (by decide +kernel) (by decide +kernel)
theorem w_7 : Cond.initialized "SuccessionClerkModel" ∈ TT := tm 7 (by decide +kernel) (by decide +kernel)
theorem w_8 : Cond.initialized "java/lang/Throwable" ∈ TT := tm 8 (by decide +kernel) (by decide +kernel)
theorem w_9 : Cond.initialized "java/lang/Exception" ∈ TT := tm 9 (by decide +kernel) (by decide +kernel)
theorem w_10 : Cond.initialized "java/lang/RuntimeException" ∈ TT := tm 10 (by decide +kernel) (by decide +kernel)
theorem w_11 : Cond.initialized "java/lang/IllegalArgumentException" ∈ TT := tm 11 (by decide +kernel) (by decide +kernel)
theorem w_12 : Cond.initialized "java/lang/IllegalStateException" ∈ TT := tm 12 (by decide +kernel) (by decide +kernel)
theorem w_13 : Cond.initialized "java/util/Arrays" ∈ TT := tm 13 (by decide +kernel) (by decide +kernel)
theorem w_14 : Cond.initialized "java/lang/System" ∈ TT := tm 14 (by decide +kernel) (by decide +kernel)
theorem w_15 : Cond.classLink "SuccessionClerkLaw" (8 : Nat) "SuccessionClerk" ∈ TT := tm 15 (by decide +kernel) (by decide +kernel)
theorem w_16 : Cond.instantiable "SuccessionClerk" (4 : Nat) ∈ TT := tm 16 (by decide +kernel) (by decide +kernel)
theorem w_17 : Cond.methodLink "SuccessionClerkLaw" (73 : Nat) ({ cls := "SuccessionClerk", name := "<init>", desc := "()V" } : MethodName) ∈ TT := tm 17 (by decide +kernel) (by decide +kernel)
theorem w_18 : Cond.instanceMethod ({ cls := "SuccessionClerk", name := "<init>", desc := "()V" } : MethodName) ∈ TT := tm 18 (by decide +kernel) (by decide +kernel)
theorem w_19 : Cond.code ({ cls := "SuccessionClerk", name := "<init>", desc := "()V" } : MethodName) prog_1_method_1_code (1 : Nat) (Option.none : Option FieldType) ∈ TT := tm 19 (by decide +kernel) (by decide +kernel)
theorem w_20 : Cond.methodLink "SuccessionClerk" (3 : Nat) ({ cls := "java/lang/Object", name := "<init>", desc := "()V" } : MethodName) ∈ TT := tm 20 (by decide +kernel) (by decide +kernel)
theorem w_21 : Cond.instanceMethod ({ cls := "java/lang/Object", name := "<init>", desc := "()V" } : MethodName) ∈ TT := tm 21 (by decide +kernel) (by decide +kernel)
theorem w_22 : Cond.code ({ cls := "java/lang/Object", name := "<init>", desc := "()V" } : MethodName) object_method_1_code (1 : Nat) (Option.none : Option FieldType) ∈ TT := tm 22 (by decide +kernel) (by decide +kernel)
theorem w_23 : Cond.classLink "SuccessionClerk" (9 : Nat) "SuccessionClerk$Family" ∈ TT := tm 23 (by decide +kernel) (by decide +kernel)
theorem w_24 : Cond.instantiable "SuccessionClerk$Family" (8 : Nat) ∈ TT := tm 24 (by decide +kernel) (by decide +kernel)
theorem w_26 : Cond.instanceMethod ({ cls := "SuccessionClerk$Family", name := "<init>", desc := "()V" } : MethodName) ∈ TT := tm 26 (by decide +kernel) (by decide +kernel)
theorem w_27 : Cond.code ({ cls := "SuccessionClerk$Family", name := "<init>", desc := "()V" } : MethodName) prog_3_method_1_code (1 : Nat) (Option.none : Option FieldType) ∈ TT := tm 27 (by decide +kernel) (by decide +kernel)
theorem w_28 : Cond.methodLink "SuccessionClerk$Family" (3 : Nat) ({ cls := "java/lang/Object", name := "<init>", desc := "()V" } : MethodName) ∈ TT := tm 28 (by decide +kernel) (by decide +kernel)
theorem w_29 : Cond.classLink "SuccessionClerk$Family" (27 : Nat) "[[I" ∈ TT := tm 29 (by decide +kernel) (by decide +kernel)
theorem w_31 : Cond.fieldLink "SuccessionClerk$Family" (35 : Nat) "SuccessionClerk$Family" "count" "I" ∈ TT := tm 31 (by decide +kernel) (by decide +kernel)
theorem w_32 : Cond.fieldLink "SuccessionClerk" (43 : Nat) "SuccessionClerk$Family" "count" "I" ∈ TT := tm 32 (by decide +kernel) (by decide +kernel)
theorem w_33 : Cond.fieldLink "SuccessionClerk$Ledger" (45 : Nat) "SuccessionClerk$Family" "count" "I" ∈ TT := tm 33 (by decide +kernel) (by decide +kernel)
theorem w_34 : Cond.fieldLink "SuccessionClerk$Hotchpot" (35 : Nat) "SuccessionClerk$Family" "count" "I" ∈ TT := tm 34 (by decide +kernel) (by decide +kernel)
theorem w_35 : Cond.fieldLink "SuccessionClerk$Division" (84 : Nat) "SuccessionClerk$Family" "count" "I" ∈ TT := tm 35 (by decide +kernel) (by decide +kernel)
theorem w_36 : Cond.fieldLink "SuccessionClerk$Survey" (60 : Nat) "SuccessionClerk$Family" "count" "I" ∈ TT := tm 36 (by decide +kernel) (by decide +kernel)
theorem w_37 : Cond.fieldLink "SuccessionClerk$Family" (9 : Nat) "SuccessionClerk$Family" "first" "[I" ∈ TT := tm 37 (by decide +kernel) (by decide +kernel)
theorem w_38 : Cond.fieldLink "SuccessionClerk" (66 : Nat) "SuccessionClerk$Family" "first" "[I" ∈ TT := tm 38 (by decide +kernel) (by decide +kernel)
theorem w_39 : Cond.fieldLink "SuccessionClerk$Survey" (67 : Nat) "SuccessionClerk$Family" "first" "[I" ∈ TT := tm 39 (by decide +kernel) (by decide +kernel)
theorem w_40 : Cond.fieldLink "SuccessionClerk$Division" (123 : Nat) "SuccessionClerk$Family" "first" "[I" ∈ TT := tm 40 (by decide +kernel) (by decide +kernel)
theorem w_41 : Cond.fieldLink "SuccessionClerk$Family" (15 : Nat) "SuccessionClerk$Family" "second" "[I" ∈ TT := tm 41 (by decide +kernel) (by decide +kernel)
theorem w_42 : Cond.fieldLink "SuccessionClerk" (70 : Nat) "SuccessionClerk$Family" "second" "[I" ∈ TT := tm 42 (by decide +kernel) (by decide +kernel)
theorem w_43 : Cond.fieldLink "SuccessionClerk$Survey" (74 : Nat) "SuccessionClerk$Family" "second" "[I" ∈ TT := tm 43 (by decide +kernel) (by decide +kernel)
theorem w_44 : Cond.fieldLink "SuccessionClerk$Division" (126 : Nat) "SuccessionClerk$Family" "second" "[I" ∈ TT := tm 44 (by decide +kernel) (by decide +kernel)
theorem w_45 : Cond.fieldLink "SuccessionClerk$Family" (18 : Nat) "SuccessionClerk$Family" "spouseOf" "[I" ∈ TT := tm 45 (by decide +kernel) (by decide +kernel)
theorem w_46 : Cond.fieldLink "SuccessionClerk$Survey" (39 : Nat) "SuccessionClerk$Family" "spouseOf" "[I" ∈ TT := tm 46 (by decide +kernel) (by decide +kernel)
theorem w_47 : Cond.fieldLink "SuccessionClerk" (84 : Nat) "SuccessionClerk$Family" "spouseOf" "[I" ∈ TT := tm 47 (by decide +kernel) (by decide +kernel)
theorem w_48 : Cond.fieldLink "SuccessionClerk$Family" (21 : Nat) "SuccessionClerk$Family" "deathDay" "[I" ∈ TT := tm 48 (by decide +kernel) (by decide +kernel)
theorem w_49 : Cond.fieldLink "SuccessionClerk$Ledger" (69 : Nat) "SuccessionClerk$Family" "deathDay" "[I" ∈ TT := tm 49 (by decide +kernel) (by decide +kernel)
theorem w_50 : Cond.fieldLink "SuccessionClerk" (94 : Nat) "SuccessionClerk$Family" "deathDay" "[I" ∈ TT := tm 50 (by decide +kernel) (by decide +kernel)
theorem w_51 : Cond.fieldLink "SuccessionClerk$Family" (24 : Nat) "SuccessionClerk$Family" "ownCents" "[I" ∈ TT := tm 51 (by decide +kernel) (by decide +kernel)
theorem w_52 : Cond.fieldLink "SuccessionClerk$Ledger" (73 : Nat) "SuccessionClerk$Family" "ownCents" "[I" ∈ TT := tm 52 (by decide +kernel) (by decide +kernel)
theorem w_53 : Cond.fieldLink "SuccessionClerk" (121 : Nat) "SuccessionClerk$Family" "ownCents" "[I" ∈ TT := tm 53 (by decide +kernel) (by decide +kernel)
theorem w_54 : Cond.fieldLink "SuccessionClerk$Family" (29 : Nat) "SuccessionClerk$Family" "gifts" "[[I" ∈ TT := tm 54 (by decide +kernel) (by decide +kernel)
theorem w_55 : Cond.fieldLink "SuccessionClerk$Hotchpot" (54 : Nat) "SuccessionClerk$Family" "gifts" "[[I" ∈ TT := tm 55 (by decide +kernel) (by decide +kernel)
theorem w_56 : Cond.fieldLink "SuccessionClerk" (113 : Nat) "SuccessionClerk$Family" "gifts" "[[I" ∈ TT := tm 56 (by decide +kernel) (by decide +kernel)
theorem w_57 : Cond.fieldLink "SuccessionClerk$Family" (32 : Nat) "SuccessionClerk$Family" "excluded" "[I" ∈ TT := tm 57 (by decide +kernel) (by decide +kernel)
theorem w_75 : Cond.arrayClass FieldType.int ∈ TT := tm 75 (by decide +kernel) (by decide +kernel)
theorem w_76 : Cond.classLink "SuccessionClerk" (16 : Nat) "SuccessionClerk$Survey" ∈ TT := tm 76 (by decide +kernel) (by decide +kernel)
theorem w_77 : Cond.instantiable "SuccessionClerk$Survey" (8 : Nat) ∈ TT := tm 77 (by decide +kernel) (by decide +kernel)
theorem w_78 : Cond.methodLink "SuccessionClerk" (18 : Nat) ({ cls := "SuccessionClerk$Survey", name := "<init>", desc := "(LSuccessionClerk$Family;)V" } : MethodName) ∈ TT := tm 78 (by decide +kernel) (by decide +kernel)
theorem w_79 : Cond.instanceMethod ({ cls := "SuccessionClerk$Survey", name := "<init>", desc := "(LSuccessionClerk$Family;)V" } : MethodName) ∈ TT := tm 79 (by decide +kernel) (by decide +kernel)
theorem w_80 : Cond.code ({ cls := "SuccessionClerk$Survey", name := "<init>", desc := "(LSuccessionClerk$Family;)V" } : MethodName) prog_6_method_1_code (2 : Nat) (Option.none : Option FieldType) ∈ TT := tm 80 (by decide +kernel) (by decide +kernel)
theorem w_81 : Cond.methodLink "SuccessionClerk$Survey" (3 : Nat) ({ cls := "java/lang/Object", name := "<init>", desc := "()V" } : MethodName) ∈ TT := tm 81 (by decide +kernel) (by decide +kernel)
theorem w_82 : Cond.fieldLink "SuccessionClerk$Survey" (25 : Nat) "SuccessionClerk$Survey" "family" "LSuccessionClerk$Family;" ∈ TT := tm 82 (by decide +kernel) (by decide +kernel)
theorem w_83 : Cond.fieldLink "SuccessionClerk$Survey" (29 : Nat) "SuccessionClerk$Survey" "deceased" "I" ∈ TT := tm 83 (by decide +kernel) (by decide +kernel)
theorem w_84 : Cond.fieldLink "SuccessionClerk$Hotchpot" (40 : Nat) "SuccessionClerk$Survey" "deceased" "I" ∈ TT := tm 84 (by decide +kernel) (by decide +kernel)
theorem w_85 : Cond.fieldLink "SuccessionClerk$Division" (60 : Nat) "SuccessionClerk$Survey" "deceased" "I" ∈ TT := tm 85 (by decide +kernel) (by decide +kernel)
theorem w_86 : Cond.fieldLink "SuccessionClerk$Survey" (44 : Nat) "SuccessionClerk$Survey" "widowed" "I" ∈ TT := tm 86 (by decide +kernel) (by decide +kernel)
theorem w_87 : Cond.fieldLink "SuccessionClerk$Division" (110 : Nat) "SuccessionClerk$Survey" "widowed" "I" ∈ TT := tm 87 (by decide +kernel) (by decide +kernel)
theorem w_88 : Cond.fieldLink "SuccessionClerk$Division" (54 : Nat) "SuccessionClerk$Survey" "taker" "I" ∈ TT := tm 88 (by decide +kernel) (by decide +kernel)
theorem w_89 : Cond.fieldLink "SuccessionClerk$Survey" (51 : Nat) "SuccessionClerk$Survey" "taker" "I" ∈ TT := tm 89 (by decide +kernel) (by decide +kernel)
theorem w_90 : Cond.fieldLink "SuccessionClerk$Ledger" (81 : Nat) "SuccessionClerk$Survey" "taker" "I" ∈ TT := tm 90 (by decide +kernel) (by decide +kernel)
theorem w_91 : Cond.fieldLink "SuccessionClerk" (146 : Nat) "SuccessionClerk$Survey" "taker" "I" ∈ TT := tm 91 (by decide +kernel) (by decide +kernel)
theorem w_92 : Cond.fieldLink "SuccessionClerk$Survey" (9 : Nat) "SuccessionClerk$Survey" "left" "[Z" ∈ TT := tm 92 (by decide +kernel) (by decide +kernel)
theorem w_93 : Cond.fieldLink "SuccessionClerk$Division" (97 : Nat) "SuccessionClerk$Survey" "left" "[Z" ∈ TT := tm 93 (by decide +kernel) (by decide +kernel)
theorem w_94 : Cond.fieldLink "SuccessionClerk$Survey" (15 : Nat) "SuccessionClerk$Survey" "branches" "[I" ∈ TT := tm 94 (by decide +kernel) (by decide +kernel)
theorem w_95 : Cond.fieldLink "SuccessionClerk$Division" (100 : Nat) "SuccessionClerk$Survey" "branches" "[I" ∈ TT := tm 95 (by decide +kernel) (by decide +kernel)
theorem w_96 : Cond.fieldLink "SuccessionClerk$Survey" (19 : Nat) "SuccessionClerk$Survey" "lines" "[Z" ∈ TT := tm 96 (by decide +kernel) (by decide +kernel)
theorem w_97 : Cond.fieldLink "SuccessionClerk$Survey" (22 : Nat) "SuccessionClerk$Survey" "reached" "[Z" ∈ TT := tm 97 (by decide +kernel) (by decide +kernel)
theorem w_115 : Cond.arrayClass FieldType.boolean ∈ TT := tm 115 (by decide +kernel) (by decide +kernel)
theorem w_116 : Cond.classLink "SuccessionClerk" (25 : Nat) "SuccessionClerk$Division" ∈ TT := tm 116 (by decide +kernel) (by decide +kernel)
theorem w_117 : Cond.instantiable "SuccessionClerk$Division" (7 : Nat) ∈ TT := tm 117 (by decide +kernel) (by decide +kernel)
theorem w_118 : Cond.methodLink "SuccessionClerk" (27 : Nat) ({ cls := "SuccessionClerk$Division", name := "<init>", desc := "(LSuccessionClerk$Family;LSuccessionClerk$Survey;)V" } : MethodName) ∈ TT := tm 118 (by decide +kernel) (by decide +kernel)
theorem w_119 : Cond.instanceMethod ({ cls := "SuccessionClerk$Division", name := "<init>", desc := "(LSuccessionClerk$Family;LSuccessionClerk$Survey;)V" } : MethodName) ∈ TT := tm 119 (by decide +kernel) (by decide +kernel)
theorem w_120 : Cond.code ({ cls := "SuccessionClerk$Division", name := "<init>", desc := "(LSuccessionClerk$Family;LSuccessionClerk$Survey;)V" } : MethodName) prog_2_method_1_code (3 : Nat) (Option.none : Option FieldType) ∈ TT := tm 120 (by decide +kernel) (by decide +kernel)
theorem w_121 : Cond.methodLink "SuccessionClerk$Division" (3 : Nat) ({ cls := "java/lang/Object", name := "<init>", desc := "()V" } : MethodName) ∈ TT := tm 121 (by decide +kernel) (by decide +kernel)
theorem w_122 : Cond.classLink "SuccessionClerk$Division" (33 : Nat) "SuccessionClerk$Hotchpot" ∈ TT := tm 122 (by decide +kernel) (by decide +kernel)
theorem w_123 : Cond.instantiable "SuccessionClerk$Hotchpot" (6 : Nat) ∈ TT := tm 123 (by decide +kernel) (by decide +kernel)
theorem w_124 : Cond.methodLink "SuccessionClerk$Division" (35 : Nat) ({ cls := "SuccessionClerk$Hotchpot", name := "<init>", desc := "(LSuccessionClerk$Family;LSuccessionClerk$Survey;)V" } : MethodName) ∈ TT := tm 124 (by decide +kernel) (by decide +kernel)
theorem w_125 : Cond.instanceMethod ({ cls := "SuccessionClerk$Hotchpot", name := "<init>", desc := "(LSuccessionClerk$Family;LSuccessionClerk$Survey;)V" } : MethodName) ∈ TT := tm 125 (by decide +kernel) (by decide +kernel)
theorem w_126 : Cond.code ({ cls := "SuccessionClerk$Hotchpot", name := "<init>", desc := "(LSuccessionClerk$Family;LSuccessionClerk$Survey;)V" } : MethodName) prog_4_method_1_code (3 : Nat) (Option.none : Option FieldType) ∈ TT := tm 126 (by decide +kernel) (by decide +kernel)
theorem w_127 : Cond.methodLink "SuccessionClerk$Hotchpot" (3 : Nat) ({ cls := "java/lang/Object", name := "<init>", desc := "()V" } : MethodName) ∈ TT := tm 127 (by decide +kernel) (by decide +kernel)
theorem w_128 : Cond.fieldLink "SuccessionClerk$Hotchpot" (19 : Nat) "SuccessionClerk$Hotchpot" "family" "LSuccessionClerk$Family;" ∈ TT := tm 128 (by decide +kernel) (by decide +kernel)
theorem w_129 : Cond.fieldLink "SuccessionClerk$Hotchpot" (23 : Nat) "SuccessionClerk$Hotchpot" "survey" "LSuccessionClerk$Survey;" ∈ TT := tm 129 (by decide +kernel) (by decide +kernel)
theorem w_130 : Cond.fieldLink "SuccessionClerk$Hotchpot" (9 : Nat) "SuccessionClerk$Hotchpot" "in" "[Z" ∈ TT := tm 130 (by decide +kernel) (by decide +kernel)
theorem w_131 : Cond.fieldLink "SuccessionClerk$Division" (89 : Nat) "SuccessionClerk$Hotchpot" "in" "[Z" ∈ TT := tm 131 (by decide +kernel) (by decide +kernel)
theorem w_132 : Cond.fieldLink "SuccessionClerk$Hotchpot" (31 : Nat) "SuccessionClerk$Hotchpot" "size" "I" ∈ TT := tm 132 (by decide +kernel) (by decide +kernel)
theorem w_133 : Cond.fieldLink "SuccessionClerk$Division" (81 : Nat) "SuccessionClerk$Hotchpot" "size" "I" ∈ TT := tm 133 (by decide +kernel) (by decide +kernel)
theorem w_134 : Cond.fieldLink "SuccessionClerk$Hotchpot" (27 : Nat) "SuccessionClerk$Hotchpot" "amount" "J" ∈ TT := tm 134 (by decide +kernel) (by decide +kernel)
theorem w_135 : Cond.fieldLink "SuccessionClerk$Hotchpot" (15 : Nat) "SuccessionClerk$Hotchpot" "gifts" "[J" ∈ TT := tm 135 (by decide +kernel) (by decide +kernel)
theorem w_149 : Cond.arrayClass FieldType.long ∈ TT := tm 149 (by decide +kernel) (by decide +kernel)
theorem w_150 : Cond.fieldLink "SuccessionClerk$Division" (25 : Nat) "SuccessionClerk$Division" "family" "LSuccessionClerk$Family;" ∈ TT := tm 150 (by decide +kernel) (by decide +kernel)
theorem w_151 : Cond.fieldLink "SuccessionClerk$Division" (29 : Nat) "SuccessionClerk$Division" "survey" "LSuccessionClerk$Survey;" ∈ TT := tm 151 (by decide +kernel) (by decide +kernel)
theorem w_152 : Cond.fieldLink "SuccessionClerk$Division" (38 : Nat) "SuccessionClerk$Division" "hotchpot" "LSuccessionClerk$Hotchpot;" ∈ TT := tm 152 (by decide +kernel) (by decide +kernel)
theorem w_153 : Cond.fieldLink "SuccessionClerk$Division" (9 : Nat) "SuccessionClerk$Division" "takes" "[J" ∈ TT := tm 153 (by decide +kernel) (by decide +kernel)
theorem w_154 : Cond.fieldLink "SuccessionClerk$Ledger" (104 : Nat) "SuccessionClerk$Division" "takes" "[J" ∈ TT := tm 154 (by decide +kernel) (by decide +kernel)
theorem w_155 : Cond.fieldLink "SuccessionClerk$Division" (15 : Nat) "SuccessionClerk$Division" "denominator" "J" ∈ TT := tm 155 (by decide +kernel) (by decide +kernel)
theorem w_156 : Cond.fieldLink "SuccessionClerk$Ledger" (100 : Nat) "SuccessionClerk$Division" "denominator" "J" ∈ TT := tm 156 (by decide +kernel) (by decide +kernel)
theorem w_157 : Cond.fieldLink "SuccessionClerk$Division" (19 : Nat) "SuccessionClerk$Division" "parts" "[J" ∈ TT := tm 157 (by decide +kernel) (by decide +kernel)
theorem w_158 : Cond.fieldLink "SuccessionClerk$Division" (22 : Nat) "SuccessionClerk$Division" "higher" "[J" ∈ TT := tm 158 (by decide +kernel) (by decide +kernel)
theorem w_174 : Cond.classLink "SuccessionClerk" (34 : Nat) "SuccessionClerk$Ledger" ∈ TT := tm 174 (by decide +kernel) (by decide +kernel)
theorem w_175 : Cond.instantiable "SuccessionClerk$Ledger" (8 : Nat) ∈ TT := tm 175 (by decide +kernel) (by decide +kernel)
theorem w_176 : Cond.methodLink "SuccessionClerk" (36 : Nat) ({ cls := "SuccessionClerk$Ledger", name := "<init>", desc := "(LSuccessionClerk$Family;LSuccessionClerk$Survey;LSuccessionClerk$Division;)V" } : MethodName) ∈ TT := tm 176 (by decide +kernel) (by decide +kernel)
theorem w_177 : Cond.instanceMethod ({ cls := "SuccessionClerk$Ledger", name := "<init>", desc := "(LSuccessionClerk$Family;LSuccessionClerk$Survey;LSuccessionClerk$Division;)V" } : MethodName) ∈ TT := tm 177 (by decide +kernel) (by decide +kernel)
theorem w_178 : Cond.code ({ cls := "SuccessionClerk$Ledger", name := "<init>", desc := "(LSuccessionClerk$Family;LSuccessionClerk$Survey;LSuccessionClerk$Division;)V" } : MethodName) prog_5_method_1_code (4 : Nat) (Option.none : Option FieldType) ∈ TT := tm 178 (by decide +kernel) (by decide +kernel)
theorem w_179 : Cond.methodLink "SuccessionClerk$Ledger" (3 : Nat) ({ cls := "java/lang/Object", name := "<init>", desc := "()V" } : MethodName) ∈ TT := tm 179 (by decide +kernel) (by decide +kernel)
theorem w_180 : Cond.classLink "SuccessionClerk$Ledger" (9 : Nat) "[[J" ∈ TT := tm 180 (by decide +kernel) (by decide +kernel)
theorem w_182 : Cond.fieldLink "SuccessionClerk$Ledger" (30 : Nat) "SuccessionClerk$Ledger" "family" "LSuccessionClerk$Family;" ∈ TT := tm 182 (by decide +kernel) (by decide +kernel)
theorem w_183 : Cond.fieldLink "SuccessionClerk$Ledger" (34 : Nat) "SuccessionClerk$Ledger" "survey" "LSuccessionClerk$Survey;" ∈ TT := tm 183 (by decide +kernel) (by decide +kernel)
theorem w_184 : Cond.fieldLink "SuccessionClerk$Ledger" (38 : Nat) "SuccessionClerk$Ledger" "division" "LSuccessionClerk$Division;" ∈ TT := tm 184 (by decide +kernel) (by decide +kernel)
theorem w_185 : Cond.fieldLink "SuccessionClerk$Ledger" (11 : Nat) "SuccessionClerk$Ledger" "payments" "[[J" ∈ TT := tm 185 (by decide +kernel) (by decide +kernel)
theorem w_186 : Cond.fieldLink "SuccessionClerk" (155 : Nat) "SuccessionClerk$Ledger" "payments" "[[J" ∈ TT := tm 186 (by decide +kernel) (by decide +kernel)
theorem w_187 : Cond.fieldLink "SuccessionClerk$Ledger" (16 : Nat) "SuccessionClerk$Ledger" "totals" "[J" ∈ TT := tm 187 (by decide +kernel) (by decide +kernel)
theorem w_188 : Cond.fieldLink "SuccessionClerk" (162 : Nat) "SuccessionClerk$Ledger" "totals" "[J" ∈ TT := tm 188 (by decide +kernel) (by decide +kernel)
theorem w_189 : Cond.fieldLink "SuccessionClerk$Ledger" (20 : Nat) "SuccessionClerk$Ledger" "receipts" "[J" ∈ TT := tm 189 (by decide +kernel) (by decide +kernel)
theorem w_190 : Cond.fieldLink "SuccessionClerk" (166 : Nat) "SuccessionClerk$Ledger" "receipts" "[J" ∈ TT := tm 190 (by decide +kernel) (by decide +kernel)
theorem w_191 : Cond.fieldLink "SuccessionClerk$Ledger" (23 : Nat) "SuccessionClerk$Ledger" "settled" "[Z" ∈ TT := tm 191 (by decide +kernel) (by decide +kernel)
theorem w_192 : Cond.fieldLink "SuccessionClerk$Ledger" (27 : Nat) "SuccessionClerk$Ledger" "rests" "[J" ∈ TT := tm 192 (by decide +kernel) (by decide +kernel)
theorem w_210 : Cond.fieldLink "SuccessionClerk" (12 : Nat) "SuccessionClerk" "family" "LSuccessionClerk$Family;" ∈ TT := tm 210 (by decide +kernel) (by decide +kernel)
theorem w_211 : Cond.fieldLink "SuccessionClerk" (21 : Nat) "SuccessionClerk" "survey" "LSuccessionClerk$Survey;" ∈ TT := tm 211 (by decide +kernel) (by decide +kernel)
theorem w_212 : Cond.fieldLink "SuccessionClerk" (30 : Nat) "SuccessionClerk" "division" "LSuccessionClerk$Division;" ∈ TT := tm 212 (by decide +kernel) (by decide +kernel)
theorem w_213 : Cond.fieldLink "SuccessionClerk" (39 : Nat) "SuccessionClerk" "ledger" "LSuccessionClerk$Ledger;" ∈ TT := tm 213 (by decide +kernel) (by decide +kernel)
theorem w_223 : Cond.methodLink "SuccessionClerkLaw" (131 : Nat) ({ cls := "SuccessionClerk", name := "settle", desc := "()I" } : MethodName) ∈ TT := tm 223 (by decide +kernel) (by decide +kernel)
theorem w_224 : Cond.instanceMethod ({ cls := "SuccessionClerk", name := "settle", desc := "()I" } : MethodName) ∈ TT := tm 224 (by decide +kernel) (by decide +kernel)
theorem w_225 : Cond.selects "SuccessionClerk" ({ cls := "SuccessionClerk", name := "settle", desc := "()I" } : MethodName) ({ cls := "SuccessionClerk", name := "settle", desc := "()I" } : MethodName) ∈ TT := tm 225 (by decide +kernel) (by decide +kernel)
theorem w_226 : Cond.code ({ cls := "SuccessionClerk", name := "settle", desc := "()I" } : MethodName) prog_1_method_16_code (1 : Nat) (Option.some FieldType.int) ∈ TT := tm 226 (by decide +kernel) (by decide +kernel)
theorem w_227 : Cond.methodLink "SuccessionClerk" (152 : Nat) ({ cls := "SuccessionClerk$Ledger", name := "settleAll", desc := "()I" } : MethodName) ∈ TT := tm 227 (by decide +kernel) (by decide +kernel)
theorem w_228 : Cond.instanceMethod ({ cls := "SuccessionClerk$Ledger", name := "settleAll", desc := "()I" } : MethodName) ∈ TT := tm 228 (by decide +kernel) (by decide +kernel)
theorem w_229 : Cond.selects "SuccessionClerk$Ledger" ({ cls := "SuccessionClerk$Ledger", name := "settleAll", desc := "()I" } : MethodName) ({ cls := "SuccessionClerk$Ledger", name := "settleAll", desc := "()I" } : MethodName) ∈ TT := tm 229 (by decide +kernel) (by decide +kernel)
theorem w_230 : Cond.code ({ cls := "SuccessionClerk$Ledger", name := "settleAll", desc := "()I" } : MethodName) prog_5_method_2_code (4 : Nat) (Option.some FieldType.int) ∈ TT := tm 230 (by decide +kernel) (by decide +kernel)
theorem w_231 : Cond.methodLink "SuccessionClerk$Ledger" (42 : Nat) ({ cls := "SuccessionClerk$Ledger", name := "forget", desc := "()V" } : MethodName) ∈ TT := tm 231 (by decide +kernel) (by decide +kernel)
theorem w_233 : Cond.instanceMethod ({ cls := "SuccessionClerk$Ledger", name := "forget", desc := "()V" } : MethodName) ∈ TT := tm 233 (by decide +kernel) (by decide +kernel)
theorem w_234 : Cond.code ({ cls := "SuccessionClerk$Ledger", name := "forget", desc := "()V" } : MethodName) prog_5_method_3_code (2 : Nat) (Option.none : Option FieldType) ∈ TT := tm 234 (by decide +kernel) (by decide +kernel)
theorem w_235 : Cond.methodLink "SuccessionClerk$Ledger" (59 : Nat) ({ cls := "java/util/Arrays", name := "fill", desc := "([JJ)V" } : MethodName) ∈ TT := tm 235 (by decide +kernel) (by decide +kernel)
theorem w_236 : Cond.static ({ cls := "java/util/Arrays", name := "fill", desc := "([JJ)V" } : MethodName) ∈ TT := tm 236 (by decide +kernel) (by decide +kernel)
theorem w_237 : Cond.code ({ cls := "java/util/Arrays", name := "fill", desc := "([JJ)V" } : MethodName) prog_16_method_101_code (5 : Nat) (Option.none : Option FieldType) ∈ TT := tm 237 (by decide +kernel) (by decide +kernel)
theorem w_238 : Cond.methodLink "SuccessionClerk$Ledger" (51 : Nat) ({ cls := "SuccessionClerk$Ledger", name := "earliestUnsettled", desc := "()I" } : MethodName) ∈ TT := tm 238 (by decide +kernel) (by decide +kernel)
theorem w_240 : Cond.instanceMethod ({ cls := "SuccessionClerk$Ledger", name := "earliestUnsettled", desc := "()I" } : MethodName) ∈ TT := tm 240 (by decide +kernel) (by decide +kernel)
theorem w_241 : Cond.code ({ cls := "SuccessionClerk$Ledger", name := "earliestUnsettled", desc := "()I" } : MethodName) prog_5_method_4_code (3 : Nat) (Option.some FieldType.int) ∈ TT := tm 241 (by decide +kernel) (by decide +kernel)
theorem w_242 : Cond.methodLink "SuccessionClerk$Ledger" (65 : Nat) ({ cls := "SuccessionClerk$Family", name := "died", desc := "(I)Z" } : MethodName) ∈ TT := tm 242 (by decide +kernel) (by decide +kernel)
theorem w_243 : Cond.instanceMethod ({ cls := "SuccessionClerk$Family", name := "died", desc := "(I)Z" } : MethodName) ∈ TT := tm 243 (by decide +kernel) (by decide +kernel)
theorem w_244 : Cond.selects "SuccessionClerk$Family" ({ cls := "SuccessionClerk$Family", name := "died", desc := "(I)Z" } : MethodName) ({ cls := "SuccessionClerk$Family", name := "died", desc := "(I)Z" } : MethodName) ∈ TT := tm 244 (by decide +kernel) (by decide +kernel)
theorem w_245 : Cond.code ({ cls := "SuccessionClerk$Family", name := "died", desc := "(I)Z" } : MethodName) prog_3_method_3_code (2 : Nat) (Option.some FieldType.boolean) ∈ TT := tm 245 (by decide +kernel) (by decide +kernel)
theorem w_246 : Cond.methodLink "SuccessionClerk$Ledger" (55 : Nat) ({ cls := "SuccessionClerk$Ledger", name := "settleOne", desc := "(I)V" } : MethodName) ∈ TT := tm 246 (by decide +kernel) (by decide +kernel)
theorem w_248 : Cond.instanceMethod ({ cls := "SuccessionClerk$Ledger", name := "settleOne", desc := "(I)V" } : MethodName) ∈ TT := tm 248 (by decide +kernel) (by decide +kernel)
theorem w_249 : Cond.code ({ cls := "SuccessionClerk$Ledger", name := "settleOne", desc := "(I)V" } : MethodName) prog_5_method_5_code (4 : Nat) (Option.none : Option FieldType) ∈ TT := tm 249 (by decide +kernel) (by decide +kernel)
theorem w_250 : Cond.methodLink "SuccessionClerk$Ledger" (76 : Nat) ({ cls := "SuccessionClerk$Survey", name := "look", desc := "(I)V" } : MethodName) ∈ TT := tm 250 (by decide +kernel) (by decide +kernel)
theorem w_251 : Cond.instanceMethod ({ cls := "SuccessionClerk$Survey", name := "look", desc := "(I)V" } : MethodName) ∈ TT := tm 251 (by decide +kernel) (by decide +kernel)
theorem w_252 : Cond.selects "SuccessionClerk$Survey" ({ cls := "SuccessionClerk$Survey", name := "look", desc := "(I)V" } : MethodName) ({ cls := "SuccessionClerk$Survey", name := "look", desc := "(I)V" } : MethodName) ∈ TT := tm 252 (by decide +kernel) (by decide +kernel)
theorem w_253 : Cond.code ({ cls := "SuccessionClerk$Survey", name := "look", desc := "(I)V" } : MethodName) prog_6_method_2_code (3 : Nat) (Option.none : Option FieldType) ∈ TT := tm 253 (by decide +kernel) (by decide +kernel)
theorem w_254 : Cond.methodLink "SuccessionClerk$Survey" (33 : Nat) ({ cls := "SuccessionClerk$Survey", name := "findStems", desc := "()V" } : MethodName) ∈ TT := tm 254 (by decide +kernel) (by decide +kernel)
theorem w_256 : Cond.instanceMethod ({ cls := "SuccessionClerk$Survey", name := "findStems", desc := "()V" } : MethodName) ∈ TT := tm 256 (by decide +kernel) (by decide +kernel)
theorem w_257 : Cond.code ({ cls := "SuccessionClerk$Survey", name := "findStems", desc := "()V" } : MethodName) prog_6_method_5_code (3 : Nat) (Option.none : Option FieldType) ∈ TT := tm 257 (by decide +kernel) (by decide +kernel)
theorem w_258 : Cond.methodLink "SuccessionClerk$Survey" (54 : Nat) ({ cls := "java/util/Arrays", name := "fill", desc := "([II)V" } : MethodName) ∈ TT := tm 258 (by decide +kernel) (by decide +kernel)
theorem w_259 : Cond.static ({ cls := "java/util/Arrays", name := "fill", desc := "([II)V" } : MethodName) ∈ TT := tm 259 (by decide +kernel) (by decide +kernel)
theorem w_260 : Cond.code ({ cls := "java/util/Arrays", name := "fill", desc := "([II)V" } : MethodName) prog_16_method_103_code (4 : Nat) (Option.none : Option FieldType) ∈ TT := tm 260 (by decide +kernel) (by decide +kernel)
theorem w_261 : Cond.methodLink "SuccessionClerk$Survey" (63 : Nat) ({ cls := "SuccessionClerk$Family", name := "isLeft", desc := "(II)Z" } : MethodName) ∈ TT := tm 261 (by decide +kernel) (by decide +kernel)
theorem w_262 : Cond.instanceMethod ({ cls := "SuccessionClerk$Family", name := "isLeft", desc := "(II)Z" } : MethodName) ∈ TT := tm 262 (by decide +kernel) (by decide +kernel)
theorem w_263 : Cond.selects "SuccessionClerk$Family" ({ cls := "SuccessionClerk$Family", name := "isLeft", desc := "(II)Z" } : MethodName) ({ cls := "SuccessionClerk$Family", name := "isLeft", desc := "(II)Z" } : MethodName) ∈ TT := tm 263 (by decide +kernel) (by decide +kernel)
theorem w_264 : Cond.code ({ cls := "SuccessionClerk$Family", name := "isLeft", desc := "(II)Z" } : MethodName) prog_3_method_8_code (3 : Nat) (Option.some FieldType.boolean) ∈ TT := tm 264 (by decide +kernel) (by decide +kernel)
theorem w_265 : Cond.methodLink "SuccessionClerk$Family" (43 : Nat) ({ cls := "SuccessionClerk$Family", name := "isExcluded", desc := "(II)Z" } : MethodName) ∈ TT := tm 265 (by decide +kernel) (by decide +kernel)
theorem w_266 : Cond.instanceMethod ({ cls := "SuccessionClerk$Family", name := "isExcluded", desc := "(II)Z" } : MethodName) ∈ TT := tm 266 (by decide +kernel) (by decide +kernel)
theorem w_267 : Cond.selects "SuccessionClerk$Family" ({ cls := "SuccessionClerk$Family", name := "isExcluded", desc := "(II)Z" } : MethodName) ({ cls := "SuccessionClerk$Family", name := "isExcluded", desc := "(II)Z" } : MethodName) ∈ TT := tm 267 (by decide +kernel) (by decide +kernel)
theorem w_268 : Cond.code ({ cls := "SuccessionClerk$Family", name := "isExcluded", desc := "(II)Z" } : MethodName) prog_3_method_6_code (3 : Nat) (Option.some FieldType.boolean) ∈ TT := tm 268 (by decide +kernel) (by decide +kernel)
theorem w_269 : Cond.methodLink "SuccessionClerk$Family" (39 : Nat) ({ cls := "SuccessionClerk$Family", name := "died", desc := "(I)Z" } : MethodName) ∈ TT := tm 269 (by decide +kernel) (by decide +kernel)
theorem w_270 : Cond.methodLink "SuccessionClerk$Survey" (70 : Nat) ({ cls := "SuccessionClerk$Survey", name := "addBranch", desc := "(I)V" } : MethodName) ∈ TT := tm 270 (by decide +kernel) (by decide +kernel)
theorem w_272 : Cond.instanceMethod ({ cls := "SuccessionClerk$Survey", name := "addBranch", desc := "(I)V" } : MethodName) ∈ TT := tm 272 (by decide +kernel) (by decide +kernel)
theorem w_273 : Cond.code ({ cls := "SuccessionClerk$Survey", name := "addBranch", desc := "(I)V" } : MethodName) prog_6_method_6_code (2 : Nat) (Option.none : Option FieldType) ∈ TT := tm 273 (by decide +kernel) (by decide +kernel)
theorem w_274 : Cond.methodLink "SuccessionClerk$Survey" (36 : Nat) ({ cls := "SuccessionClerk$Survey", name := "findLines", desc := "()V" } : MethodName) ∈ TT := tm 274 (by decide +kernel) (by decide +kernel)
theorem w_276 : Cond.instanceMethod ({ cls := "SuccessionClerk$Survey", name := "findLines", desc := "()V" } : MethodName) ∈ TT := tm 276 (by decide +kernel) (by decide +kernel)
theorem w_277 : Cond.code ({ cls := "SuccessionClerk$Survey", name := "findLines", desc := "()V" } : MethodName) prog_6_method_7_code (3 : Nat) (Option.none : Option FieldType) ∈ TT := tm 277 (by decide +kernel) (by decide +kernel)
theorem w_278 : Cond.methodLink "SuccessionClerk$Survey" (77 : Nat) ({ cls := "SuccessionClerk$Survey", name := "hasHeirs", desc := "(II)Z" } : MethodName) ∈ TT := tm 278 (by decide +kernel) (by decide +kernel)
theorem w_279 : Cond.instanceMethod ({ cls := "SuccessionClerk$Survey", name := "hasHeirs", desc := "(II)Z" } : MethodName) ∈ TT := tm 279 (by decide +kernel) (by decide +kernel)
theorem w_280 : Cond.selects "SuccessionClerk$Survey" ({ cls := "SuccessionClerk$Survey", name := "hasHeirs", desc := "(II)Z" } : MethodName) ({ cls := "SuccessionClerk$Survey", name := "hasHeirs", desc := "(II)Z" } : MethodName) ∈ TT := tm 280 (by decide +kernel) (by decide +kernel)
theorem w_281 : Cond.code ({ cls := "SuccessionClerk$Survey", name := "hasHeirs", desc := "(II)Z" } : MethodName) prog_6_method_3_code (3 : Nat) (Option.some FieldType.boolean) ∈ TT := tm 281 (by decide +kernel) (by decide +kernel)
theorem w_282 : Cond.methodLink "SuccessionClerk$Survey" (47 : Nat) ({ cls := "SuccessionClerk$Survey", name := "findTaker", desc := "()I" } : MethodName) ∈ TT := tm 282 (by decide +kernel) (by decide +kernel)
theorem w_284 : Cond.instanceMethod ({ cls := "SuccessionClerk$Survey", name := "findTaker", desc := "()I" } : MethodName) ∈ TT := tm 284 (by decide +kernel) (by decide +kernel)
theorem w_285 : Cond.code ({ cls := "SuccessionClerk$Survey", name := "findTaker", desc := "()I" } : MethodName) prog_6_method_8_code (3 : Nat) (Option.some FieldType.int) ∈ TT := tm 285 (by decide +kernel) (by decide +kernel)
theorem w_286 : Cond.methodLink "SuccessionClerk$Ledger" (84 : Nat) ({ cls := "SuccessionClerk$Ledger", name := "pay", desc := "(IIJ)V" } : MethodName) ∈ TT := tm 286 (by decide +kernel) (by decide +kernel)
theorem w_288 : Cond.instanceMethod ({ cls := "SuccessionClerk$Ledger", name := "pay", desc := "(IIJ)V" } : MethodName) ∈ TT := tm 288 (by decide +kernel) (by decide +kernel)
theorem w_289 : Cond.code ({ cls := "SuccessionClerk$Ledger", name := "pay", desc := "(IIJ)V" } : MethodName) prog_5_method_8_code (5 : Nat) (Option.none : Option FieldType) ∈ TT := tm 289 (by decide +kernel) (by decide +kernel)
theorem w_290 : Cond.methodLink "SuccessionClerk$Ledger" (88 : Nat) ({ cls := "SuccessionClerk$Division", name := "divideWithGifts", desc := "(J)V" } : MethodName) ∈ TT := tm 290 (by decide +kernel) (by decide +kernel)
theorem w_291 : Cond.instanceMethod ({ cls := "SuccessionClerk$Division", name := "divideWithGifts", desc := "(J)V" } : MethodName) ∈ TT := tm 291 (by decide +kernel) (by decide +kernel)
theorem w_292 : Cond.selects "SuccessionClerk$Division" ({ cls := "SuccessionClerk$Division", name := "divideWithGifts", desc := "(J)V" } : MethodName) ({ cls := "SuccessionClerk$Division", name := "divideWithGifts", desc := "(J)V" } : MethodName) ∈ TT := tm 292 (by decide +kernel) (by decide +kernel)
theorem w_293 : Cond.code ({ cls := "SuccessionClerk$Division", name := "divideWithGifts", desc := "(J)V" } : MethodName) prog_2_method_3_code (8 : Nat) (Option.none : Option FieldType) ∈ TT := tm 293 (by decide +kernel) (by decide +kernel)
theorem w_294 : Cond.methodLink "SuccessionClerk$Division" (63 : Nat) ({ cls := "SuccessionClerk$Survey", name := "spouseQuarters", desc := "()I" } : MethodName) ∈ TT := tm 294 (by decide +kernel) (by decide +kernel)
theorem w_295 : Cond.instanceMethod ({ cls := "SuccessionClerk$Survey", name := "spouseQuarters", desc := "()I" } : MethodName) ∈ TT := tm 295 (by decide +kernel) (by decide +kernel)
theorem w_296 : Cond.selects "SuccessionClerk$Survey" ({ cls := "SuccessionClerk$Survey", name := "spouseQuarters", desc := "()I" } : MethodName) ({ cls := "SuccessionClerk$Survey", name := "spouseQuarters", desc := "()I" } : MethodName) ∈ TT := tm 296 (by decide +kernel) (by decide +kernel)
theorem w_297 : Cond.code ({ cls := "SuccessionClerk$Survey", name := "spouseQuarters", desc := "()I" } : MethodName) prog_6_method_4_code (1 : Nat) (Option.some FieldType.int) ∈ TT := tm 297 (by decide +kernel) (by decide +kernel)
theorem w_298 : Cond.methodLink "SuccessionClerk$Division" (74 : Nat) ({ cls := "SuccessionClerk$Hotchpot", name := "gather", desc := "(J)V" } : MethodName) ∈ TT := tm 298 (by decide +kernel) (by decide +kernel)
theorem w_299 : Cond.instanceMethod ({ cls := "SuccessionClerk$Hotchpot", name := "gather", desc := "(J)V" } : MethodName) ∈ TT := tm 299 (by decide +kernel) (by decide +kernel)
theorem w_300 : Cond.selects "SuccessionClerk$Hotchpot" ({ cls := "SuccessionClerk$Hotchpot", name := "gather", desc := "(J)V" } : MethodName) ({ cls := "SuccessionClerk$Hotchpot", name := "gather", desc := "(J)V" } : MethodName) ∈ TT := tm 300 (by decide +kernel) (by decide +kernel)
theorem w_301 : Cond.code ({ cls := "SuccessionClerk$Hotchpot", name := "gather", desc := "(J)V" } : MethodName) prog_4_method_2_code (4 : Nat) (Option.none : Option FieldType) ∈ TT := tm 301 (by decide +kernel) (by decide +kernel)
theorem w_302 : Cond.methodLink "SuccessionClerk$Hotchpot" (45 : Nat) ({ cls := "SuccessionClerk$Family", name := "isChild", desc := "(II)Z" } : MethodName) ∈ TT := tm 302 (by decide +kernel) (by decide +kernel)
theorem w_303 : Cond.instanceMethod ({ cls := "SuccessionClerk$Family", name := "isChild", desc := "(II)Z" } : MethodName) ∈ TT := tm 303 (by decide +kernel) (by decide +kernel)
theorem w_304 : Cond.selects "SuccessionClerk$Family" ({ cls := "SuccessionClerk$Family", name := "isChild", desc := "(II)Z" } : MethodName) ({ cls := "SuccessionClerk$Family", name := "isChild", desc := "(II)Z" } : MethodName) ∈ TT := tm 304 (by decide +kernel) (by decide +kernel)
theorem w_305 : Cond.code ({ cls := "SuccessionClerk$Family", name := "isChild", desc := "(II)Z" } : MethodName) prog_3_method_5_code (3 : Nat) (Option.some FieldType.boolean) ∈ TT := tm 305 (by decide +kernel) (by decide +kernel)
theorem w_306 : Cond.methodLink "SuccessionClerk$Hotchpot" (49 : Nat) ({ cls := "SuccessionClerk$Survey", name := "hasHeirs", desc := "(II)Z" } : MethodName) ∈ TT := tm 306 (by decide +kernel) (by decide +kernel)
theorem w_307 : Cond.constantLong "SuccessionClerk$Hotchpot" (52 : Nat) (4 : Int64) ∈ TT := tm 307 (by decide +kernel) (by decide +kernel)
theorem w_308 : Cond.methodLink "SuccessionClerk$Division" (78 : Nat) ({ cls := "SuccessionClerk$Hotchpot", name := "releaseThoseAbove", desc := "()V" } : MethodName) ∈ TT := tm 308 (by decide +kernel) (by decide +kernel)
theorem w_309 : Cond.instanceMethod ({ cls := "SuccessionClerk$Hotchpot", name := "releaseThoseAbove", desc := "()V" } : MethodName) ∈ TT := tm 309 (by decide +kernel) (by decide +kernel)
theorem w_310 : Cond.selects "SuccessionClerk$Hotchpot" ({ cls := "SuccessionClerk$Hotchpot", name := "releaseThoseAbove", desc := "()V" } : MethodName) ({ cls := "SuccessionClerk$Hotchpot", name := "releaseThoseAbove", desc := "()V" } : MethodName) ∈ TT := tm 310 (by decide +kernel) (by decide +kernel)
theorem w_311 : Cond.code ({ cls := "SuccessionClerk$Hotchpot", name := "releaseThoseAbove", desc := "()V" } : MethodName) prog_4_method_3_code (3 : Nat) (Option.none : Option FieldType) ∈ TT := tm 311 (by decide +kernel) (by decide +kernel)
theorem w_312 : Cond.methodLink "SuccessionClerk$Hotchpot" (57 : Nat) ({ cls := "SuccessionClerk$Hotchpot", name := "findOneAbove", desc := "()I" } : MethodName) ∈ TT := tm 312 (by decide +kernel) (by decide +kernel)
theorem w_314 : Cond.instanceMethod ({ cls := "SuccessionClerk$Hotchpot", name := "findOneAbove", desc := "()I" } : MethodName) ∈ TT := tm 314 (by decide +kernel) (by decide +kernel)
theorem w_315 : Cond.code ({ cls := "SuccessionClerk$Hotchpot", name := "findOneAbove", desc := "()I" } : MethodName) prog_4_method_4_code (2 : Nat) (Option.some FieldType.int) ∈ TT := tm 315 (by decide +kernel) (by decide +kernel)
theorem w_316 : Cond.methodLink "SuccessionClerk$Hotchpot" (61 : Nat) ({ cls := "SuccessionClerk$Hotchpot", name := "partTimesSize", desc := "(I)J" } : MethodName) ∈ TT := tm 316 (by decide +kernel) (by decide +kernel)
theorem w_317 : Cond.instanceMethod ({ cls := "SuccessionClerk$Hotchpot", name := "partTimesSize", desc := "(I)J" } : MethodName) ∈ TT := tm 317 (by decide +kernel) (by decide +kernel)
theorem w_318 : Cond.selects "SuccessionClerk$Hotchpot" ({ cls := "SuccessionClerk$Hotchpot", name := "partTimesSize", desc := "(I)J" } : MethodName) ({ cls := "SuccessionClerk$Hotchpot", name := "partTimesSize", desc := "(I)J" } : MethodName) ∈ TT := tm 318 (by decide +kernel) (by decide +kernel)
theorem w_319 : Cond.code ({ cls := "SuccessionClerk$Hotchpot", name := "partTimesSize", desc := "(I)J" } : MethodName) prog_4_method_5_code (2 : Nat) (Option.some FieldType.long) ∈ TT := tm 319 (by decide +kernel) (by decide +kernel)
theorem w_320 : Cond.methodLink "SuccessionClerk$Division" (44 : Nat) ({ cls := "SuccessionClerk$Division", name := "branchProduct", desc := "()J" } : MethodName) ∈ TT := tm 320 (by decide +kernel) (by decide +kernel)
theorem w_322 : Cond.instanceMethod ({ cls := "SuccessionClerk$Division", name := "branchProduct", desc := "()J" } : MethodName) ∈ TT := tm 322 (by decide +kernel) (by decide +kernel)
theorem w_323 : Cond.code ({ cls := "SuccessionClerk$Division", name := "branchProduct", desc := "()J" } : MethodName) prog_2_method_4_code (4 : Nat) (Option.some FieldType.long) ∈ TT := tm 323 (by decide +kernel) (by decide +kernel)
theorem w_324 : Cond.constantLong "SuccessionClerk$Division" (48 : Nat) (4 : Int64) ∈ TT := tm 324 (by decide +kernel) (by decide +kernel)
theorem w_325 : Cond.methodLink "SuccessionClerk$Division" (50 : Nat) ({ cls := "SuccessionClerk$Division", name := "startWith", desc := "(JJ)V" } : MethodName) ∈ TT := tm 325 (by decide +kernel) (by decide +kernel)
theorem w_327 : Cond.instanceMethod ({ cls := "SuccessionClerk$Division", name := "startWith", desc := "(JJ)V" } : MethodName) ∈ TT := tm 327 (by decide +kernel) (by decide +kernel)
theorem w_328 : Cond.code ({ cls := "SuccessionClerk$Division", name := "startWith", desc := "(JJ)V" } : MethodName) prog_2_method_5_code (5 : Nat) (Option.none : Option FieldType) ∈ TT := tm 328 (by decide +kernel) (by decide +kernel)
theorem w_329 : Cond.methodLink "SuccessionClerk$Division" (104 : Nat) ({ cls := "java/util/Arrays", name := "fill", desc := "([JJ)V" } : MethodName) ∈ TT := tm 329 (by decide +kernel) (by decide +kernel)
theorem w_330 : Cond.methodLink "SuccessionClerk$Division" (93 : Nat) ({ cls := "SuccessionClerk$Hotchpot", name := "partTimesSize", desc := "(I)J" } : MethodName) ∈ TT := tm 330 (by decide +kernel) (by decide +kernel)
theorem w_331 : Cond.methodLink "SuccessionClerk$Division" (71 : Nat) ({ cls := "SuccessionClerk$Division", name := "lowerParts", desc := "()V" } : MethodName) ∈ TT := tm 331 (by decide +kernel) (by decide +kernel)
theorem w_333 : Cond.instanceMethod ({ cls := "SuccessionClerk$Division", name := "lowerParts", desc := "()V" } : MethodName) ∈ TT := tm 333 (by decide +kernel) (by decide +kernel)
theorem w_334 : Cond.code ({ cls := "SuccessionClerk$Division", name := "lowerParts", desc := "()V" } : MethodName) prog_2_method_8_code (2 : Nat) (Option.none : Option FieldType) ∈ TT := tm 334 (by decide +kernel) (by decide +kernel)
theorem w_335 : Cond.methodLink "SuccessionClerk$Division" (135 : Nat) ({ cls := "SuccessionClerk$Division", name := "lowerPart", desc := "(IJ)V" } : MethodName) ∈ TT := tm 335 (by decide +kernel) (by decide +kernel)
theorem w_337 : Cond.instanceMethod ({ cls := "SuccessionClerk$Division", name := "lowerPart", desc := "(IJ)V" } : MethodName) ∈ TT := tm 337 (by decide +kernel) (by decide +kernel)
theorem w_338 : Cond.code ({ cls := "SuccessionClerk$Division", name := "lowerPart", desc := "(IJ)V" } : MethodName) prog_2_method_9_code (5 : Nat) (Option.none : Option FieldType) ∈ TT := tm 338 (by decide +kernel) (by decide +kernel)
theorem w_339 : Cond.methodLink "SuccessionClerk$Division" (139 : Nat) ({ cls := "SuccessionClerk$Family", name := "isChild", desc := "(II)Z" } : MethodName) ∈ TT := tm 339 (by decide +kernel) (by decide +kernel)
theorem w_340 : Cond.methodLink "SuccessionClerk$Division" (129 : Nat) ({ cls := "SuccessionClerk$Survey", name := "hasHeirs", desc := "(II)Z" } : MethodName) ∈ TT := tm 340 (by decide +kernel) (by decide +kernel)
theorem w_341 : Cond.methodLink "SuccessionClerk$Ledger" (94 : Nat) ({ cls := "SuccessionClerk$Division", name := "divideByShares", desc := "(J)V" } : MethodName) ∈ TT := tm 341 (by decide +kernel) (by decide +kernel)
theorem w_342 : Cond.instanceMethod ({ cls := "SuccessionClerk$Division", name := "divideByShares", desc := "(J)V" } : MethodName) ∈ TT := tm 342 (by decide +kernel) (by decide +kernel)
theorem w_343 : Cond.selects "SuccessionClerk$Division" ({ cls := "SuccessionClerk$Division", name := "divideByShares", desc := "(J)V" } : MethodName) ({ cls := "SuccessionClerk$Division", name := "divideByShares", desc := "(J)V" } : MethodName) ∈ TT := tm 343 (by decide +kernel) (by decide +kernel)
theorem w_344 : Cond.code ({ cls := "SuccessionClerk$Division", name := "divideByShares", desc := "(J)V" } : MethodName) prog_2_method_2_code (5 : Nat) (Option.none : Option FieldType) ∈ TT := tm 344 (by decide +kernel) (by decide +kernel)
theorem w_345 : Cond.constantLong "SuccessionClerk$Division" (42 : Nat) (8 : Int64) ∈ TT := tm 345 (by decide +kernel) (by decide +kernel)
theorem w_346 : Cond.methodLink "SuccessionClerk$Division" (67 : Nat) ({ cls := "SuccessionClerk$Division", name := "raiseParts", desc := "(I)V" } : MethodName) ∈ TT := tm 346 (by decide +kernel) (by decide +kernel)
theorem w_348 : Cond.instanceMethod ({ cls := "SuccessionClerk$Division", name := "raiseParts", desc := "(I)V" } : MethodName) ∈ TT := tm 348 (by decide +kernel) (by decide +kernel)
theorem w_349 : Cond.code ({ cls := "SuccessionClerk$Division", name := "raiseParts", desc := "(I)V" } : MethodName) prog_2_method_6_code (4 : Nat) (Option.none : Option FieldType) ∈ TT := tm 349 (by decide +kernel) (by decide +kernel)
theorem w_350 : Cond.methodLink "SuccessionClerk$Division" (113 : Nat) ({ cls := "SuccessionClerk$Division", name := "raisePart", desc := "(II)V" } : MethodName) ∈ TT := tm 350 (by decide +kernel) (by decide +kernel)
theorem w_352 : Cond.instanceMethod ({ cls := "SuccessionClerk$Division", name := "raisePart", desc := "(II)V" } : MethodName) ∈ TT := tm 352 (by decide +kernel) (by decide +kernel)
theorem w_353 : Cond.code ({ cls := "SuccessionClerk$Division", name := "raisePart", desc := "(II)V" } : MethodName) prog_2_method_7_code (9 : Nat) (Option.none : Option FieldType) ∈ TT := tm 353 (by decide +kernel) (by decide +kernel)
theorem w_354 : Cond.constantLong "SuccessionClerk$Division" (133 : Nat) (2 : Int64) ∈ TT := tm 354 (by decide +kernel) (by decide +kernel)
theorem w_355 : Cond.methodLink "SuccessionClerk$Division" (117 : Nat) ({ cls := "java/lang/System", name := "arraycopy", desc := "(Ljava/lang/Object;ILjava/lang/Object;II)V" } : MethodName) ∈ TT := tm 355 (by decide +kernel) (by decide +kernel)
theorem w_356 : Cond.static ({ cls := "java/lang/System", name := "arraycopy", desc := "(Ljava/lang/Object;ILjava/lang/Object;II)V" } : MethodName) ∈ TT := tm 356 (by decide +kernel) (by decide +kernel)
theorem w_357 : Cond.native ({ cls := "java/lang/System", name := "arraycopy", desc := "(Ljava/lang/Object;ILjava/lang/Object;II)V" } : MethodName) ∈ TT := tm 357 (by decide +kernel) (by decide +kernel)
theorem w_358 : Cond.methodLink "SuccessionClerk$Ledger" (97 : Nat) ({ cls := "SuccessionClerk$Ledger", name := "payDues", desc := "(I)V" } : MethodName) ∈ TT := tm 358 (by decide +kernel) (by decide +kernel)
theorem w_360 : Cond.instanceMethod ({ cls := "SuccessionClerk$Ledger", name := "payDues", desc := "(I)V" } : MethodName) ∈ TT := tm 360 (by decide +kernel) (by decide +kernel)
theorem w_361 : Cond.code ({ cls := "SuccessionClerk$Ledger", name := "payDues", desc := "(I)V" } : MethodName) prog_5_method_6_code (9 : Nat) (Option.none : Option FieldType) ∈ TT := tm 361 (by decide +kernel) (by decide +kernel)
theorem w_362 : Cond.methodLink "SuccessionClerk$Ledger" (107 : Nat) ({ cls := "SuccessionClerk$Ledger", name := "greatestRest", desc := "()I" } : MethodName) ∈ TT := tm 362 (by decide +kernel) (by decide +kernel)
theorem w_364 : Cond.instanceMethod ({ cls := "SuccessionClerk$Ledger", name := "greatestRest", desc := "()I" } : MethodName) ∈ TT := tm 364 (by decide +kernel) (by decide +kernel)
theorem w_365 : Cond.code ({ cls := "SuccessionClerk$Ledger", name := "greatestRest", desc := "()I" } : MethodName) prog_5_method_7_code (3 : Nat) (Option.some FieldType.int) ∈ TT := tm 365 (by decide +kernel) (by decide +kernel)
theorem w_366 : Cond.methodLink "SuccessionClerkLaw" (77 : Nat) ({ cls := "SuccessionClerkLaw", name := "person", desc := "(LSuccessionClerk;II[J)I" } : MethodName) ∈ TT := tm 366 (by decide +kernel) (by decide +kernel)
theorem w_367 : Cond.static ({ cls := "SuccessionClerkLaw", name := "person", desc := "(LSuccessionClerk;II[J)I" } : MethodName) ∈ TT := tm 367 (by decide +kernel) (by decide +kernel)
theorem w_368 : Cond.codeWith ({ cls := "SuccessionClerkLaw", name := "person", desc := "(LSuccessionClerk;II[J)I" } : MethodName) method_3_code (5 : Nat) (Option.some FieldType.int) [((0 : Nat), (10 : Nat), (13 : Nat), (13 : Nat)), ((0 : Nat), (10 : Nat), (17 : Nat), (15 : Nat))] ∈ TT := tm 368 (by decide +kernel) (by decide +kernel)
theorem w_369 : Cond.classLink "SuccessionClerkLaw" (13 : Nat) "java/lang/IllegalArgumentException" ∈ TT := tm 369 (by decide +kernel) (by decide +kernel)
theorem w_370 : Cond.classLink "SuccessionClerkLaw" (15 : Nat) "java/lang/IllegalStateException" ∈ TT := tm 370 (by decide +kernel) (by decide +kernel)
theorem w_371 : Cond.methodLink "SuccessionClerkLaw" (7 : Nat) ({ cls := "SuccessionClerk", name := "person", desc := "(II)I" } : MethodName) ∈ TT := tm 371 (by decide +kernel) (by decide +kernel)
theorem w_372 : Cond.instanceMethod ({ cls := "SuccessionClerk", name := "person", desc := "(II)I" } : MethodName) ∈ TT := tm 372 (by decide +kernel) (by decide +kernel)
theorem w_373 : Cond.selects "SuccessionClerk" ({ cls := "SuccessionClerk", name := "person", desc := "(II)I" } : MethodName) ({ cls := "SuccessionClerk", name := "person", desc := "(II)I" } : MethodName) ∈ TT := tm 373 (by decide +kernel) (by decide +kernel)
theorem w_374 : Cond.code ({ cls := "SuccessionClerk", name := "person", desc := "(II)I" } : MethodName) prog_1_method_2_code (3 : Nat) (Option.some FieldType.int) ∈ TT := tm 374 (by decide +kernel) (by decide +kernel)
theorem w_375 : Cond.methodLink "SuccessionClerk" (47 : Nat) ({ cls := "SuccessionClerk", name := "requireParents", desc := "(III)V" } : MethodName) ∈ TT := tm 375 (by decide +kernel) (by decide +kernel)
theorem w_376 : Cond.static ({ cls := "SuccessionClerk", name := "requireParents", desc := "(III)V" } : MethodName) ∈ TT := tm 376 (by decide +kernel) (by decide +kernel)
theorem w_377 : Cond.code ({ cls := "SuccessionClerk", name := "requireParents", desc := "(III)V" } : MethodName) prog_1_method_22_code (3 : Nat) (Option.none : Option FieldType) ∈ TT := tm 377 (by decide +kernel) (by decide +kernel)
theorem w_378 : Cond.classLink "SuccessionClerk" (73 : Nat) "java/lang/IllegalArgumentException" ∈ TT := tm 378 (by decide +kernel) (by decide +kernel)
theorem w_399 : Cond.fieldLink "java/lang/Throwable" (198 : Nat) "java/lang/Throwable" "backtrace" "Ljava/lang/Object;" ∈ TT := tm 399 (by decide +kernel) (by decide +kernel)
theorem w_431 : Cond.fieldLink "java/lang/Throwable" (198 : Nat) "java/lang/Throwable" "backtrace" "Ljava/lang/Object;" ∈ TT := tm 431 (by decide +kernel) (by decide +kernel)
theorem w_444 : Cond.arrayClass FieldType.byte ∈ TT := tm 444 (by decide +kernel) (by decide +kernel)
theorem w_446 : Cond.classLink "SuccessionClerk" (51 : Nat) "java/lang/IllegalStateException" ∈ TT := tm 446 (by decide +kernel) (by decide +kernel)
theorem w_462 : Cond.methodLink "SuccessionClerk" (58 : Nat) ({ cls := "SuccessionClerk$Family", name := "enter", desc := "(II)I" } : MethodName) ∈ TT := tm 462 (by decide +kernel) (by decide +kernel)
theorem w_463 : Cond.instanceMethod ({ cls := "SuccessionClerk$Family", name := "enter", desc := "(II)I" } : MethodName) ∈ TT := tm 463 (by decide +kernel) (by decide +kernel)
theorem w_464 : Cond.selects "SuccessionClerk$Family" ({ cls := "SuccessionClerk$Family", name := "enter", desc := "(II)I" } : MethodName) ({ cls := "SuccessionClerk$Family", name := "enter", desc := "(II)I" } : MethodName) ∈ TT := tm 464 (by decide +kernel) (by decide +kernel)
theorem w_465 : Cond.code ({ cls := "SuccessionClerk$Family", name := "enter", desc := "(II)I" } : MethodName) prog_3_method_2_code (4 : Nat) (Option.some FieldType.int) ∈ TT := tm 465 (by decide +kernel) (by decide +kernel)
theorem w_466 : Cond.methodLink "SuccessionClerkLaw" (87 : Nat) ({ cls := "SuccessionClerkLaw", name := "amend", desc := "(LSuccessionClerk;III)I" } : MethodName) ∈ TT := tm 466 (by decide +kernel) (by decide +kernel)
theorem w_467 : Cond.static ({ cls := "SuccessionClerkLaw", name := "amend", desc := "(LSuccessionClerk;III)I" } : MethodName) ∈ TT := tm 467 (by decide +kernel) (by decide +kernel)
theorem w_468 : Cond.codeWith ({ cls := "SuccessionClerkLaw", name := "amend", desc := "(LSuccessionClerk;III)I" } : MethodName) method_4_code (5 : Nat) (Option.some FieldType.int) [((0 : Nat), (7 : Nat), (10 : Nat), (13 : Nat))] ∈ TT := tm 468 (by decide +kernel) (by decide +kernel)
theorem w_469 : Cond.methodLink "SuccessionClerkLaw" (17 : Nat) ({ cls := "SuccessionClerk", name := "amend", desc := "(III)V" } : MethodName) ∈ TT := tm 469 (by decide +kernel) (by decide +kernel)
theorem w_470 : Cond.instanceMethod ({ cls := "SuccessionClerk", name := "amend", desc := "(III)V" } : MethodName) ∈ TT := tm 470 (by decide +kernel) (by decide +kernel)
theorem w_471 : Cond.selects "SuccessionClerk" ({ cls := "SuccessionClerk", name := "amend", desc := "(III)V" } : MethodName) ({ cls := "SuccessionClerk", name := "amend", desc := "(III)V" } : MethodName) ∈ TT := tm 471 (by decide +kernel) (by decide +kernel)
theorem w_472 : Cond.code ({ cls := "SuccessionClerk", name := "amend", desc := "(III)V" } : MethodName) prog_1_method_3_code (4 : Nat) (Option.none : Option FieldType) ∈ TT := tm 472 (by decide +kernel) (by decide +kernel)
theorem w_473 : Cond.methodLink "SuccessionClerk" (62 : Nat) ({ cls := "SuccessionClerk", name := "requirePerson", desc := "(I)V" } : MethodName) ∈ TT := tm 473 (by decide +kernel) (by decide +kernel)
theorem w_475 : Cond.instanceMethod ({ cls := "SuccessionClerk", name := "requirePerson", desc := "(I)V" } : MethodName) ∈ TT := tm 475 (by decide +kernel) (by decide +kernel)
theorem w_476 : Cond.code ({ cls := "SuccessionClerk", name := "requirePerson", desc := "(I)V" } : MethodName) prog_1_method_20_code (2 : Nat) (Option.none : Option FieldType) ∈ TT := tm 476 (by decide +kernel) (by decide +kernel)
theorem w_478 : Cond.methodLink "SuccessionClerkLaw" (91 : Nat) ({ cls := "SuccessionClerkLaw", name := "marry", desc := "(LSuccessionClerk;II)I" } : MethodName) ∈ TT := tm 478 (by decide +kernel) (by decide +kernel)
theorem w_479 : Cond.static ({ cls := "SuccessionClerkLaw", name := "marry", desc := "(LSuccessionClerk;II)I" } : MethodName) ∈ TT := tm 479 (by decide +kernel) (by decide +kernel)
theorem w_480 : Cond.codeWith ({ cls := "SuccessionClerkLaw", name := "marry", desc := "(LSuccessionClerk;II)I" } : MethodName) method_5_code (4 : Nat) (Option.some FieldType.int) [((0 : Nat), (6 : Nat), (9 : Nat), (13 : Nat)), ((0 : Nat), (6 : Nat), (12 : Nat), (15 : Nat))] ∈ TT := tm 480 (by decide +kernel) (by decide +kernel)
theorem w_481 : Cond.methodLink "SuccessionClerkLaw" (21 : Nat) ({ cls := "SuccessionClerk", name := "marry", desc := "(II)V" } : MethodName) ∈ TT := tm 481 (by decide +kernel) (by decide +kernel)
theorem w_482 : Cond.instanceMethod ({ cls := "SuccessionClerk", name := "marry", desc := "(II)V" } : MethodName) ∈ TT := tm 482 (by decide +kernel) (by decide +kernel)
theorem w_483 : Cond.selects "SuccessionClerk" ({ cls := "SuccessionClerk", name := "marry", desc := "(II)V" } : MethodName) ({ cls := "SuccessionClerk", name := "marry", desc := "(II)V" } : MethodName) ∈ TT := tm 483 (by decide +kernel) (by decide +kernel)
theorem w_484 : Cond.code ({ cls := "SuccessionClerk", name := "marry", desc := "(II)V" } : MethodName) prog_1_method_4_code (3 : Nat) (Option.none : Option FieldType) ∈ TT := tm 484 (by decide +kernel) (by decide +kernel)
theorem w_486 : Cond.methodLink "SuccessionClerk" (78 : Nat) ({ cls := "SuccessionClerk$Family", name := "isFree", desc := "(I)Z" } : MethodName) ∈ TT := tm 486 (by decide +kernel) (by decide +kernel)
theorem w_487 : Cond.instanceMethod ({ cls := "SuccessionClerk$Family", name := "isFree", desc := "(I)Z" } : MethodName) ∈ TT := tm 487 (by decide +kernel) (by decide +kernel)
theorem w_488 : Cond.selects "SuccessionClerk$Family" ({ cls := "SuccessionClerk$Family", name := "isFree", desc := "(I)Z" } : MethodName) ({ cls := "SuccessionClerk$Family", name := "isFree", desc := "(I)Z" } : MethodName) ∈ TT := tm 488 (by decide +kernel) (by decide +kernel)
theorem w_489 : Cond.code ({ cls := "SuccessionClerk$Family", name := "isFree", desc := "(I)Z" } : MethodName) prog_3_method_4_code (2 : Nat) (Option.some FieldType.boolean) ∈ TT := tm 489 (by decide +kernel) (by decide +kernel)
theorem w_491 : Cond.methodLink "SuccessionClerkLaw" (95 : Nat) ({ cls := "SuccessionClerkLaw", name := "divorce", desc := "(LSuccessionClerk;I[J)I" } : MethodName) ∈ TT := tm 491 (by decide +kernel) (by decide +kernel)
theorem w_492 : Cond.static ({ cls := "SuccessionClerkLaw", name := "divorce", desc := "(LSuccessionClerk;I[J)I" } : MethodName) ∈ TT := tm 492 (by decide +kernel) (by decide +kernel)
theorem w_493 : Cond.codeWith ({ cls := "SuccessionClerkLaw", name := "divorce", desc := "(LSuccessionClerk;I[J)I" } : MethodName) method_6_code (4 : Nat) (Option.some FieldType.int) [((0 : Nat), (16 : Nat), (19 : Nat), (13 : Nat))] ∈ TT := tm 493 (by decide +kernel) (by decide +kernel)
theorem w_494 : Cond.methodLink "SuccessionClerkLaw" (25 : Nat) ({ cls := "SuccessionClerk", name := "divorce", desc := "(I)Z" } : MethodName) ∈ TT := tm 494 (by decide +kernel) (by decide +kernel)
theorem w_495 : Cond.instanceMethod ({ cls := "SuccessionClerk", name := "divorce", desc := "(I)Z" } : MethodName) ∈ TT := tm 495 (by decide +kernel) (by decide +kernel)
theorem w_496 : Cond.selects "SuccessionClerk" ({ cls := "SuccessionClerk", name := "divorce", desc := "(I)Z" } : MethodName) ({ cls := "SuccessionClerk", name := "divorce", desc := "(I)Z" } : MethodName) ∈ TT := tm 496 (by decide +kernel) (by decide +kernel)
theorem w_497 : Cond.code ({ cls := "SuccessionClerk", name := "divorce", desc := "(I)Z" } : MethodName) prog_1_method_5_code (3 : Nat) (Option.some FieldType.boolean) ∈ TT := tm 497 (by decide +kernel) (by decide +kernel)
theorem w_498 : Cond.methodLink "SuccessionClerk" (87 : Nat) ({ cls := "SuccessionClerk$Family", name := "died", desc := "(I)Z" } : MethodName) ∈ TT := tm 498 (by decide +kernel) (by decide +kernel)
theorem w_499 : Cond.methodLink "SuccessionClerkLaw" (99 : Nat) ({ cls := "SuccessionClerkLaw", name := "spouse", desc := "(LSuccessionClerk;I[J)I" } : MethodName) ∈ TT := tm 499 (by decide +kernel) (by decide +kernel)
theorem w_500 : Cond.static ({ cls := "SuccessionClerkLaw", name := "spouse", desc := "(LSuccessionClerk;I[J)I" } : MethodName) ∈ TT := tm 500 (by decide +kernel) (by decide +kernel)
theorem w_501 : Cond.codeWith ({ cls := "SuccessionClerkLaw", name := "spouse", desc := "(LSuccessionClerk;I[J)I" } : MethodName) method_7_code (4 : Nat) (Option.some FieldType.int) [((0 : Nat), (9 : Nat), (12 : Nat), (13 : Nat))] ∈ TT := tm 501 (by decide +kernel) (by decide +kernel)
theorem w_502 : Cond.methodLink "SuccessionClerkLaw" (29 : Nat) ({ cls := "SuccessionClerk", name := "spouse", desc := "(I)I" } : MethodName) ∈ TT := tm 502 (by decide +kernel) (by decide +kernel)
theorem w_503 : Cond.instanceMethod ({ cls := "SuccessionClerk", name := "spouse", desc := "(I)I" } : MethodName) ∈ TT := tm 503 (by decide +kernel) (by decide +kernel)
theorem w_504 : Cond.selects "SuccessionClerk" ({ cls := "SuccessionClerk", name := "spouse", desc := "(I)I" } : MethodName) ({ cls := "SuccessionClerk", name := "spouse", desc := "(I)I" } : MethodName) ∈ TT := tm 504 (by decide +kernel) (by decide +kernel)
theorem w_505 : Cond.code ({ cls := "SuccessionClerk", name := "spouse", desc := "(I)I" } : MethodName) prog_1_method_6_code (2 : Nat) (Option.some FieldType.int) ∈ TT := tm 505 (by decide +kernel) (by decide +kernel)
theorem w_506 : Cond.methodLink "SuccessionClerkLaw" (102 : Nat) ({ cls := "SuccessionClerkLaw", name := "dies", desc := "(LSuccessionClerk;II)I" } : MethodName) ∈ TT := tm 506 (by decide +kernel) (by decide +kernel)
theorem w_507 : Cond.static ({ cls := "SuccessionClerkLaw", name := "dies", desc := "(LSuccessionClerk;II)I" } : MethodName) ∈ TT := tm 507 (by decide +kernel) (by decide +kernel)
theorem w_508 : Cond.codeWith ({ cls := "SuccessionClerkLaw", name := "dies", desc := "(LSuccessionClerk;II)I" } : MethodName) method_8_code (4 : Nat) (Option.some FieldType.int) [((0 : Nat), (6 : Nat), (9 : Nat), (13 : Nat)), ((0 : Nat), (6 : Nat), (12 : Nat), (15 : Nat))] ∈ TT := tm 508 (by decide +kernel) (by decide +kernel)
theorem w_509 : Cond.methodLink "SuccessionClerkLaw" (33 : Nat) ({ cls := "SuccessionClerk", name := "dies", desc := "(II)V" } : MethodName) ∈ TT := tm 509 (by decide +kernel) (by decide +kernel)
theorem w_510 : Cond.instanceMethod ({ cls := "SuccessionClerk", name := "dies", desc := "(II)V" } : MethodName) ∈ TT := tm 510 (by decide +kernel) (by decide +kernel)
theorem w_511 : Cond.selects "SuccessionClerk" ({ cls := "SuccessionClerk", name := "dies", desc := "(II)V" } : MethodName) ({ cls := "SuccessionClerk", name := "dies", desc := "(II)V" } : MethodName) ∈ TT := tm 511 (by decide +kernel) (by decide +kernel)
theorem w_512 : Cond.code ({ cls := "SuccessionClerk", name := "dies", desc := "(II)V" } : MethodName) prog_1_method_7_code (3 : Nat) (Option.none : Option FieldType) ∈ TT := tm 512 (by decide +kernel) (by decide +kernel)
theorem w_515 : Cond.methodLink "SuccessionClerkLaw" (105 : Nat) ({ cls := "SuccessionClerkLaw", name := "exclude", desc := "(LSuccessionClerk;IIZ[J)I" } : MethodName) ∈ TT := tm 515 (by decide +kernel) (by decide +kernel)
theorem w_516 : Cond.static ({ cls := "SuccessionClerkLaw", name := "exclude", desc := "(LSuccessionClerk;IIZ[J)I" } : MethodName) ∈ TT := tm 516 (by decide +kernel) (by decide +kernel)
theorem w_517 : Cond.codeWith ({ cls := "SuccessionClerkLaw", name := "exclude", desc := "(LSuccessionClerk;IIZ[J)I" } : MethodName) method_9_code (6 : Nat) (Option.some FieldType.int) [((0 : Nat), (19 : Nat), (22 : Nat), (13 : Nat))] ∈ TT := tm 517 (by decide +kernel) (by decide +kernel)
theorem w_518 : Cond.methodLink "SuccessionClerkLaw" (36 : Nat) ({ cls := "SuccessionClerk", name := "exclude", desc := "(IIZ)Z" } : MethodName) ∈ TT := tm 518 (by decide +kernel) (by decide +kernel)
theorem w_519 : Cond.instanceMethod ({ cls := "SuccessionClerk", name := "exclude", desc := "(IIZ)Z" } : MethodName) ∈ TT := tm 519 (by decide +kernel) (by decide +kernel)
theorem w_520 : Cond.selects "SuccessionClerk" ({ cls := "SuccessionClerk", name := "exclude", desc := "(IIZ)Z" } : MethodName) ({ cls := "SuccessionClerk", name := "exclude", desc := "(IIZ)Z" } : MethodName) ∈ TT := tm 520 (by decide +kernel) (by decide +kernel)
theorem w_521 : Cond.code ({ cls := "SuccessionClerk", name := "exclude", desc := "(IIZ)Z" } : MethodName) prog_1_method_8_code (4 : Nat) (Option.some FieldType.boolean) ∈ TT := tm 521 (by decide +kernel) (by decide +kernel)
theorem w_522 : Cond.methodLink "SuccessionClerk" (97 : Nat) ({ cls := "SuccessionClerk$Family", name := "isExcluded", desc := "(II)Z" } : MethodName) ∈ TT := tm 522 (by decide +kernel) (by decide +kernel)
theorem w_523 : Cond.methodLink "SuccessionClerk" (101 : Nat) ({ cls := "SuccessionClerk$Family", name := "setExcluded", desc := "(IIZ)V" } : MethodName) ∈ TT := tm 523 (by decide +kernel) (by decide +kernel)
theorem w_524 : Cond.instanceMethod ({ cls := "SuccessionClerk$Family", name := "setExcluded", desc := "(IIZ)V" } : MethodName) ∈ TT := tm 524 (by decide +kernel) (by decide +kernel)
theorem w_525 : Cond.selects "SuccessionClerk$Family" ({ cls := "SuccessionClerk$Family", name := "setExcluded", desc := "(IIZ)V" } : MethodName) ({ cls := "SuccessionClerk$Family", name := "setExcluded", desc := "(IIZ)V" } : MethodName) ∈ TT := tm 525 (by decide +kernel) (by decide +kernel)
theorem w_526 : Cond.code ({ cls := "SuccessionClerk$Family", name := "setExcluded", desc := "(IIZ)V" } : MethodName) prog_3_method_7_code (4 : Nat) (Option.none : Option FieldType) ∈ TT := tm 526 (by decide +kernel) (by decide +kernel)
theorem w_527 : Cond.methodLink "SuccessionClerkLaw" (109 : Nat) ({ cls := "SuccessionClerkLaw", name := "gift", desc := "(LSuccessionClerk;III[J)I" } : MethodName) ∈ TT := tm 527 (by decide +kernel) (by decide +kernel)
theorem w_528 : Cond.static ({ cls := "SuccessionClerkLaw", name := "gift", desc := "(LSuccessionClerk;III[J)I" } : MethodName) ∈ TT := tm 528 (by decide +kernel) (by decide +kernel)
theorem w_529 : Cond.codeWith ({ cls := "SuccessionClerkLaw", name := "gift", desc := "(LSuccessionClerk;III[J)I" } : MethodName) method_10_code (6 : Nat) (Option.some FieldType.int) [((0 : Nat), (12 : Nat), (15 : Nat), (13 : Nat)), ((0 : Nat), (12 : Nat), (19 : Nat), (15 : Nat))] ∈ TT := tm 529 (by decide +kernel) (by decide +kernel)
theorem w_530 : Cond.methodLink "SuccessionClerkLaw" (40 : Nat) ({ cls := "SuccessionClerk", name := "gift", desc := "(III)I" } : MethodName) ∈ TT := tm 530 (by decide +kernel) (by decide +kernel)
theorem w_531 : Cond.instanceMethod ({ cls := "SuccessionClerk", name := "gift", desc := "(III)I" } : MethodName) ∈ TT := tm 531 (by decide +kernel) (by decide +kernel)
theorem w_532 : Cond.selects "SuccessionClerk" ({ cls := "SuccessionClerk", name := "gift", desc := "(III)I" } : MethodName) ({ cls := "SuccessionClerk", name := "gift", desc := "(III)I" } : MethodName) ∈ TT := tm 532 (by decide +kernel) (by decide +kernel)
theorem w_533 : Cond.code ({ cls := "SuccessionClerk", name := "gift", desc := "(III)I" } : MethodName) prog_1_method_9_code (5 : Nat) (Option.some FieldType.int) ∈ TT := tm 533 (by decide +kernel) (by decide +kernel)
theorem w_534 : Cond.methodLink "SuccessionClerk" (105 : Nat) ({ cls := "SuccessionClerk$Family", name := "isChild", desc := "(II)Z" } : MethodName) ∈ TT := tm 534 (by decide +kernel) (by decide +kernel)
theorem w_536 : Cond.constant "SuccessionClerk" (110 : Nat) (1000000 : Int32) ∈ TT := tm 536 (by decide +kernel) (by decide +kernel)
theorem w_539 : Cond.methodLink "SuccessionClerkLaw" (113 : Nat) ({ cls := "SuccessionClerkLaw", name := "estate", desc := "(LSuccessionClerk;II)I" } : MethodName) ∈ TT := tm 539 (by decide +kernel) (by decide +kernel)
theorem w_540 : Cond.static ({ cls := "SuccessionClerkLaw", name := "estate", desc := "(LSuccessionClerk;II)I" } : MethodName) ∈ TT := tm 540 (by decide +kernel) (by decide +kernel)
theorem w_541 : Cond.codeWith ({ cls := "SuccessionClerkLaw", name := "estate", desc := "(LSuccessionClerk;II)I" } : MethodName) method_11_code (4 : Nat) (Option.some FieldType.int) [((0 : Nat), (6 : Nat), (9 : Nat), (13 : Nat))] ∈ TT := tm 541 (by decide +kernel) (by decide +kernel)
theorem w_542 : Cond.methodLink "SuccessionClerkLaw" (44 : Nat) ({ cls := "SuccessionClerk", name := "estate", desc := "(II)V" } : MethodName) ∈ TT := tm 542 (by decide +kernel) (by decide +kernel)
theorem w_543 : Cond.instanceMethod ({ cls := "SuccessionClerk", name := "estate", desc := "(II)V" } : MethodName) ∈ TT := tm 543 (by decide +kernel) (by decide +kernel)
theorem w_544 : Cond.selects "SuccessionClerk" ({ cls := "SuccessionClerk", name := "estate", desc := "(II)V" } : MethodName) ({ cls := "SuccessionClerk", name := "estate", desc := "(II)V" } : MethodName) ∈ TT := tm 544 (by decide +kernel) (by decide +kernel)
theorem w_545 : Cond.code ({ cls := "SuccessionClerk", name := "estate", desc := "(II)V" } : MethodName) prog_1_method_10_code (3 : Nat) (Option.none : Option FieldType) ∈ TT := tm 545 (by decide +kernel) (by decide +kernel)
theorem w_547 : Cond.methodLink "SuccessionClerkLaw" (116 : Nat) ({ cls := "SuccessionClerkLaw", name := "heirs", desc := "(LSuccessionClerk;I[J)I" } : MethodName) ∈ TT := tm 547 (by decide +kernel) (by decide +kernel)
theorem w_548 : Cond.static ({ cls := "SuccessionClerkLaw", name := "heirs", desc := "(LSuccessionClerk;I[J)I" } : MethodName) ∈ TT := tm 548 (by decide +kernel) (by decide +kernel)
theorem w_549 : Cond.codeWith ({ cls := "SuccessionClerkLaw", name := "heirs", desc := "(LSuccessionClerk;I[J)I" } : MethodName) method_12_code (4 : Nat) (Option.some FieldType.int) [((0 : Nat), (9 : Nat), (12 : Nat), (13 : Nat)), ((0 : Nat), (9 : Nat), (15 : Nat), (15 : Nat))] ∈ TT := tm 549 (by decide +kernel) (by decide +kernel)
theorem w_550 : Cond.methodLink "SuccessionClerkLaw" (47 : Nat) ({ cls := "SuccessionClerk", name := "heirs", desc := "(I)I" } : MethodName) ∈ TT := tm 550 (by decide +kernel) (by decide +kernel)
theorem w_551 : Cond.instanceMethod ({ cls := "SuccessionClerk", name := "heirs", desc := "(I)I" } : MethodName) ∈ TT := tm 551 (by decide +kernel) (by decide +kernel)
theorem w_552 : Cond.selects "SuccessionClerk" ({ cls := "SuccessionClerk", name := "heirs", desc := "(I)I" } : MethodName) ({ cls := "SuccessionClerk", name := "heirs", desc := "(I)I" } : MethodName) ∈ TT := tm 552 (by decide +kernel) (by decide +kernel)
theorem w_553 : Cond.code ({ cls := "SuccessionClerk", name := "heirs", desc := "(I)I" } : MethodName) prog_1_method_11_code (2 : Nat) (Option.some FieldType.int) ∈ TT := tm 553 (by decide +kernel) (by decide +kernel)
theorem w_554 : Cond.methodLink "SuccessionClerk" (124 : Nat) ({ cls := "SuccessionClerk", name := "requireDead", desc := "(I)V" } : MethodName) ∈ TT := tm 554 (by decide +kernel) (by decide +kernel)
theorem w_556 : Cond.instanceMethod ({ cls := "SuccessionClerk", name := "requireDead", desc := "(I)V" } : MethodName) ∈ TT := tm 556 (by decide +kernel) (by decide +kernel)
theorem w_557 : Cond.code ({ cls := "SuccessionClerk", name := "requireDead", desc := "(I)V" } : MethodName) prog_1_method_21_code (2 : Nat) (Option.none : Option FieldType) ∈ TT := tm 557 (by decide +kernel) (by decide +kernel)
theorem w_559 : Cond.methodLink "SuccessionClerk" (127 : Nat) ({ cls := "SuccessionClerk$Survey", name := "look", desc := "(I)V" } : MethodName) ∈ TT := tm 559 (by decide +kernel) (by decide +kernel)
theorem w_560 : Cond.methodLink "SuccessionClerk" (130 : Nat) ({ cls := "SuccessionClerk$Division", name := "divideByShares", desc := "(J)V" } : MethodName) ∈ TT := tm 560 (by decide +kernel) (by decide +kernel)
theorem w_561 : Cond.methodLink "SuccessionClerk" (134 : Nat) ({ cls := "SuccessionClerk$Division", name := "countTakers", desc := "()I" } : MethodName) ∈ TT := tm 561 (by decide +kernel) (by decide +kernel)
theorem w_562 : Cond.instanceMethod ({ cls := "SuccessionClerk$Division", name := "countTakers", desc := "()I" } : MethodName) ∈ TT := tm 562 (by decide +kernel) (by decide +kernel)
theorem w_563 : Cond.selects "SuccessionClerk$Division" ({ cls := "SuccessionClerk$Division", name := "countTakers", desc := "()I" } : MethodName) ({ cls := "SuccessionClerk$Division", name := "countTakers", desc := "()I" } : MethodName) ∈ TT := tm 563 (by decide +kernel) (by decide +kernel)
theorem w_564 : Cond.code ({ cls := "SuccessionClerk$Division", name := "countTakers", desc := "()I" } : MethodName) prog_2_method_10_code (3 : Nat) (Option.some FieldType.int) ∈ TT := tm 564 (by decide +kernel) (by decide +kernel)
theorem w_565 : Cond.methodLink "SuccessionClerkLaw" (119 : Nat) ({ cls := "SuccessionClerkLaw", name := "heir", desc := "(LSuccessionClerk;II[J)I" } : MethodName) ∈ TT := tm 565 (by decide +kernel) (by decide +kernel)
theorem w_566 : Cond.static ({ cls := "SuccessionClerkLaw", name := "heir", desc := "(LSuccessionClerk;II[J)I" } : MethodName) ∈ TT := tm 566 (by decide +kernel) (by decide +kernel)
theorem w_567 : Cond.codeWith ({ cls := "SuccessionClerkLaw", name := "heir", desc := "(LSuccessionClerk;II[J)I" } : MethodName) method_13_code (5 : Nat) (Option.some FieldType.int) [((0 : Nat), (10 : Nat), (13 : Nat), (13 : Nat)), ((0 : Nat), (10 : Nat), (17 : Nat), (15 : Nat))] ∈ TT := tm 567 (by decide +kernel) (by decide +kernel)
theorem w_568 : Cond.methodLink "SuccessionClerkLaw" (50 : Nat) ({ cls := "SuccessionClerk", name := "heir", desc := "(II)I" } : MethodName) ∈ TT := tm 568 (by decide +kernel) (by decide +kernel)
theorem w_569 : Cond.instanceMethod ({ cls := "SuccessionClerk", name := "heir", desc := "(II)I" } : MethodName) ∈ TT := tm 569 (by decide +kernel) (by decide +kernel)
theorem w_570 : Cond.selects "SuccessionClerk" ({ cls := "SuccessionClerk", name := "heir", desc := "(II)I" } : MethodName) ({ cls := "SuccessionClerk", name := "heir", desc := "(II)I" } : MethodName) ∈ TT := tm 570 (by decide +kernel) (by decide +kernel)
theorem w_571 : Cond.code ({ cls := "SuccessionClerk", name := "heir", desc := "(II)I" } : MethodName) prog_1_method_12_code (3 : Nat) (Option.some FieldType.int) ∈ TT := tm 571 (by decide +kernel) (by decide +kernel)
theorem w_572 : Cond.methodLink "SuccessionClerk" (138 : Nat) ({ cls := "SuccessionClerk$Division", name := "takerAt", desc := "(I)I" } : MethodName) ∈ TT := tm 572 (by decide +kernel) (by decide +kernel)
theorem w_573 : Cond.instanceMethod ({ cls := "SuccessionClerk$Division", name := "takerAt", desc := "(I)I" } : MethodName) ∈ TT := tm 573 (by decide +kernel) (by decide +kernel)
theorem w_574 : Cond.selects "SuccessionClerk$Division" ({ cls := "SuccessionClerk$Division", name := "takerAt", desc := "(I)I" } : MethodName) ({ cls := "SuccessionClerk$Division", name := "takerAt", desc := "(I)I" } : MethodName) ∈ TT := tm 574 (by decide +kernel) (by decide +kernel)
theorem w_575 : Cond.code ({ cls := "SuccessionClerk$Division", name := "takerAt", desc := "(I)I" } : MethodName) prog_2_method_11_code (4 : Nat) (Option.some FieldType.int) ∈ TT := tm 575 (by decide +kernel) (by decide +kernel)
theorem w_576 : Cond.methodLink "SuccessionClerkLaw" (122 : Nat) ({ cls := "SuccessionClerkLaw", name := "share", desc := "(LSuccessionClerk;II[J)I" } : MethodName) ∈ TT := tm 576 (by decide +kernel) (by decide +kernel)
theorem w_577 : Cond.static ({ cls := "SuccessionClerkLaw", name := "share", desc := "(LSuccessionClerk;II[J)I" } : MethodName) ∈ TT := tm 577 (by decide +kernel) (by decide +kernel)
theorem w_578 : Cond.codeWith ({ cls := "SuccessionClerkLaw", name := "share", desc := "(LSuccessionClerk;II[J)I" } : MethodName) method_14_code (5 : Nat) (Option.some FieldType.int) [((0 : Nat), (9 : Nat), (12 : Nat), (13 : Nat)), ((0 : Nat), (9 : Nat), (16 : Nat), (15 : Nat))] ∈ TT := tm 578 (by decide +kernel) (by decide +kernel)
theorem w_579 : Cond.methodLink "SuccessionClerkLaw" (53 : Nat) ({ cls := "SuccessionClerk", name := "share", desc := "(II)J" } : MethodName) ∈ TT := tm 579 (by decide +kernel) (by decide +kernel)
theorem w_580 : Cond.instanceMethod ({ cls := "SuccessionClerk", name := "share", desc := "(II)J" } : MethodName) ∈ TT := tm 580 (by decide +kernel) (by decide +kernel)
theorem w_581 : Cond.selects "SuccessionClerk" ({ cls := "SuccessionClerk", name := "share", desc := "(II)J" } : MethodName) ({ cls := "SuccessionClerk", name := "share", desc := "(II)J" } : MethodName) ∈ TT := tm 581 (by decide +kernel) (by decide +kernel)
theorem w_582 : Cond.code ({ cls := "SuccessionClerk", name := "share", desc := "(II)J" } : MethodName) prog_1_method_13_code (3 : Nat) (Option.some FieldType.long) ∈ TT := tm 582 (by decide +kernel) (by decide +kernel)
theorem w_583 : Cond.methodLink "SuccessionClerk" (142 : Nat) ({ cls := "SuccessionClerk$Division", name := "inLowestTerms", desc := "(I)J" } : MethodName) ∈ TT := tm 583 (by decide +kernel) (by decide +kernel)
theorem w_584 : Cond.instanceMethod ({ cls := "SuccessionClerk$Division", name := "inLowestTerms", desc := "(I)J" } : MethodName) ∈ TT := tm 584 (by decide +kernel) (by decide +kernel)
theorem w_585 : Cond.selects "SuccessionClerk$Division" ({ cls := "SuccessionClerk$Division", name := "inLowestTerms", desc := "(I)J" } : MethodName) ({ cls := "SuccessionClerk$Division", name := "inLowestTerms", desc := "(I)J" } : MethodName) ∈ TT := tm 585 (by decide +kernel) (by decide +kernel)
theorem w_586 : Cond.code ({ cls := "SuccessionClerk$Division", name := "inLowestTerms", desc := "(I)J" } : MethodName) prog_2_method_12_code (4 : Nat) (Option.some FieldType.long) ∈ TT := tm 586 (by decide +kernel) (by decide +kernel)
theorem w_587 : Cond.methodLink "SuccessionClerk$Division" (142 : Nat) ({ cls := "SuccessionClerk$Division", name := "commonDivisor", desc := "(JJ)J" } : MethodName) ∈ TT := tm 587 (by decide +kernel) (by decide +kernel)
theorem w_588 : Cond.static ({ cls := "SuccessionClerk$Division", name := "commonDivisor", desc := "(JJ)J" } : MethodName) ∈ TT := tm 588 (by decide +kernel) (by decide +kernel)
theorem w_589 : Cond.code ({ cls := "SuccessionClerk$Division", name := "commonDivisor", desc := "(JJ)J" } : MethodName) prog_2_method_13_code (11 : Nat) (Option.some FieldType.long) ∈ TT := tm 589 (by decide +kernel) (by decide +kernel)
theorem w_590 : Cond.methodLink "SuccessionClerkLaw" (125 : Nat) ({ cls := "SuccessionClerkLaw", name := "order", desc := "(LSuccessionClerk;I[J)I" } : MethodName) ∈ TT := tm 590 (by decide +kernel) (by decide +kernel)
theorem w_591 : Cond.static ({ cls := "SuccessionClerkLaw", name := "order", desc := "(LSuccessionClerk;I[J)I" } : MethodName) ∈ TT := tm 591 (by decide +kernel) (by decide +kernel)
theorem w_592 : Cond.codeWith ({ cls := "SuccessionClerkLaw", name := "order", desc := "(LSuccessionClerk;I[J)I" } : MethodName) method_15_code (4 : Nat) (Option.some FieldType.int) [((0 : Nat), (9 : Nat), (12 : Nat), (13 : Nat)), ((0 : Nat), (9 : Nat), (15 : Nat), (15 : Nat))] ∈ TT := tm 592 (by decide +kernel) (by decide +kernel)
theorem w_593 : Cond.methodLink "SuccessionClerkLaw" (57 : Nat) ({ cls := "SuccessionClerk", name := "order", desc := "(I)I" } : MethodName) ∈ TT := tm 593 (by decide +kernel) (by decide +kernel)
theorem w_594 : Cond.instanceMethod ({ cls := "SuccessionClerk", name := "order", desc := "(I)I" } : MethodName) ∈ TT := tm 594 (by decide +kernel) (by decide +kernel)
theorem w_595 : Cond.selects "SuccessionClerk" ({ cls := "SuccessionClerk", name := "order", desc := "(I)I" } : MethodName) ({ cls := "SuccessionClerk", name := "order", desc := "(I)I" } : MethodName) ∈ TT := tm 595 (by decide +kernel) (by decide +kernel)
theorem w_596 : Cond.code ({ cls := "SuccessionClerk", name := "order", desc := "(I)I" } : MethodName) prog_1_method_14_code (2 : Nat) (Option.some FieldType.int) ∈ TT := tm 596 (by decide +kernel) (by decide +kernel)
theorem w_597 : Cond.methodLink "SuccessionClerkLaw" (128 : Nat) ({ cls := "SuccessionClerkLaw", name := "stem", desc := "(LSuccessionClerk;II[J)I" } : MethodName) ∈ TT := tm 597 (by decide +kernel) (by decide +kernel)
theorem w_598 : Cond.static ({ cls := "SuccessionClerkLaw", name := "stem", desc := "(LSuccessionClerk;II[J)I" } : MethodName) ∈ TT := tm 598 (by decide +kernel) (by decide +kernel)
theorem w_599 : Cond.codeWith ({ cls := "SuccessionClerkLaw", name := "stem", desc := "(LSuccessionClerk;II[J)I" } : MethodName) method_16_code (5 : Nat) (Option.some FieldType.int) [((0 : Nat), (10 : Nat), (13 : Nat), (13 : Nat)), ((0 : Nat), (10 : Nat), (17 : Nat), (15 : Nat))] ∈ TT := tm 599 (by decide +kernel) (by decide +kernel)
theorem w_600 : Cond.methodLink "SuccessionClerkLaw" (60 : Nat) ({ cls := "SuccessionClerk", name := "stem", desc := "(II)I" } : MethodName) ∈ TT := tm 600 (by decide +kernel) (by decide +kernel)
theorem w_601 : Cond.instanceMethod ({ cls := "SuccessionClerk", name := "stem", desc := "(II)I" } : MethodName) ∈ TT := tm 601 (by decide +kernel) (by decide +kernel)
theorem w_602 : Cond.selects "SuccessionClerk" ({ cls := "SuccessionClerk", name := "stem", desc := "(II)I" } : MethodName) ({ cls := "SuccessionClerk", name := "stem", desc := "(II)I" } : MethodName) ∈ TT := tm 602 (by decide +kernel) (by decide +kernel)
theorem w_603 : Cond.code ({ cls := "SuccessionClerk", name := "stem", desc := "(II)I" } : MethodName) prog_1_method_15_code (3 : Nat) (Option.some FieldType.int) ∈ TT := tm 603 (by decide +kernel) (by decide +kernel)
theorem w_604 : Cond.methodLink "SuccessionClerk" (149 : Nat) ({ cls := "SuccessionClerk$Survey", name := "leastStemOver", desc := "(I)I" } : MethodName) ∈ TT := tm 604 (by decide +kernel) (by decide +kernel)
theorem w_605 : Cond.instanceMethod ({ cls := "SuccessionClerk$Survey", name := "leastStemOver", desc := "(I)I" } : MethodName) ∈ TT := tm 605 (by decide +kernel) (by decide +kernel)
theorem w_606 : Cond.selects "SuccessionClerk$Survey" ({ cls := "SuccessionClerk$Survey", name := "leastStemOver", desc := "(I)I" } : MethodName) ({ cls := "SuccessionClerk$Survey", name := "leastStemOver", desc := "(I)I" } : MethodName) ∈ TT := tm 606 (by decide +kernel) (by decide +kernel)
theorem w_607 : Cond.code ({ cls := "SuccessionClerk$Survey", name := "leastStemOver", desc := "(I)I" } : MethodName) prog_6_method_9_code (3 : Nat) (Option.some FieldType.int) ∈ TT := tm 607 (by decide +kernel) (by decide +kernel)
theorem w_608 : Cond.methodLink "SuccessionClerk$Survey" (80 : Nat) ({ cls := "SuccessionClerk$Survey", name := "beginsOrder", desc := "(I)Z" } : MethodName) ∈ TT := tm 608 (by decide +kernel) (by decide +kernel)
theorem w_610 : Cond.instanceMethod ({ cls := "SuccessionClerk$Survey", name := "beginsOrder", desc := "(I)Z" } : MethodName) ∈ TT := tm 610 (by decide +kernel) (by decide +kernel)
theorem w_611 : Cond.code ({ cls := "SuccessionClerk$Survey", name := "beginsOrder", desc := "(I)Z" } : MethodName) prog_6_method_10_code (2 : Nat) (Option.some FieldType.boolean) ∈ TT := tm 611 (by decide +kernel) (by decide +kernel)
theorem w_612 : Cond.methodLink "SuccessionClerk$Survey" (87 : Nat) ({ cls := "SuccessionClerk$Family", name := "isChild", desc := "(II)Z" } : MethodName) ∈ TT := tm 612 (by decide +kernel) (by decide +kernel)
theorem w_613 : Cond.methodLink "SuccessionClerk$Survey" (90 : Nat) ({ cls := "SuccessionClerk$Survey", name := "isAncestor", desc := "(LSuccessionClerk$Family;III)Z" } : MethodName) ∈ TT := tm 613 (by decide +kernel) (by decide +kernel)
theorem w_614 : Cond.static ({ cls := "SuccessionClerk$Survey", name := "isAncestor", desc := "(LSuccessionClerk$Family;III)Z" } : MethodName) ∈ TT := tm 614 (by decide +kernel) (by decide +kernel)
theorem w_615 : Cond.code ({ cls := "SuccessionClerk$Survey", name := "isAncestor", desc := "(LSuccessionClerk$Family;III)Z" } : MethodName) prog_6_method_11_code (4 : Nat) (Option.some FieldType.boolean) ∈ TT := tm 615 (by decide +kernel) (by decide +kernel)
theorem w_616 : Cond.methodLink "SuccessionClerk$Survey" (84 : Nat) ({ cls := "SuccessionClerk$Survey", name := "stemReaches", desc := "(II)Z" } : MethodName) ∈ TT := tm 616 (by decide +kernel) (by decide +kernel)
theorem w_618 : Cond.instanceMethod ({ cls := "SuccessionClerk$Survey", name := "stemReaches", desc := "(II)Z" } : MethodName) ∈ TT := tm 618 (by decide +kernel) (by decide +kernel)
theorem w_619 : Cond.code ({ cls := "SuccessionClerk$Survey", name := "stemReaches", desc := "(II)Z" } : MethodName) prog_6_method_12_code (4 : Nat) (Option.some FieldType.boolean) ∈ TT := tm 619 (by decide +kernel) (by decide +kernel)
theorem w_620 : Cond.methodLink "SuccessionClerk$Survey" (94 : Nat) ({ cls := "SuccessionClerk$Survey", name := "passesOn", desc := "(I)Z" } : MethodName) ∈ TT := tm 620 (by decide +kernel) (by decide +kernel)
theorem w_622 : Cond.instanceMethod ({ cls := "SuccessionClerk$Survey", name := "passesOn", desc := "(I)Z" } : MethodName) ∈ TT := tm 622 (by decide +kernel) (by decide +kernel)
theorem w_623 : Cond.code ({ cls := "SuccessionClerk$Survey", name := "passesOn", desc := "(I)Z" } : MethodName) prog_6_method_13_code (2 : Nat) (Option.some FieldType.boolean) ∈ TT := tm 623 (by decide +kernel) (by decide +kernel)
theorem w_624 : Cond.methodLink "SuccessionClerkLaw" (135 : Nat) ({ cls := "SuccessionClerkLaw", name := "paid", desc := "(LSuccessionClerk;II[J)I" } : MethodName) ∈ TT := tm 624 (by decide +kernel) (by decide +kernel)
theorem w_625 : Cond.static ({ cls := "SuccessionClerkLaw", name := "paid", desc := "(LSuccessionClerk;II[J)I" } : MethodName) ∈ TT := tm 625 (by decide +kernel) (by decide +kernel)
theorem w_626 : Cond.codeWith ({ cls := "SuccessionClerkLaw", name := "paid", desc := "(LSuccessionClerk;II[J)I" } : MethodName) method_17_code (5 : Nat) (Option.some FieldType.int) [((0 : Nat), (9 : Nat), (12 : Nat), (13 : Nat))] ∈ TT := tm 626 (by decide +kernel) (by decide +kernel)
theorem w_627 : Cond.methodLink "SuccessionClerkLaw" (63 : Nat) ({ cls := "SuccessionClerk", name := "paid", desc := "(II)J" } : MethodName) ∈ TT := tm 627 (by decide +kernel) (by decide +kernel)
theorem w_628 : Cond.instanceMethod ({ cls := "SuccessionClerk", name := "paid", desc := "(II)J" } : MethodName) ∈ TT := tm 628 (by decide +kernel) (by decide +kernel)
theorem w_629 : Cond.selects "SuccessionClerk" ({ cls := "SuccessionClerk", name := "paid", desc := "(II)J" } : MethodName) ({ cls := "SuccessionClerk", name := "paid", desc := "(II)J" } : MethodName) ∈ TT := tm 629 (by decide +kernel) (by decide +kernel)
theorem w_630 : Cond.code ({ cls := "SuccessionClerk", name := "paid", desc := "(II)J" } : MethodName) prog_1_method_17_code (3 : Nat) (Option.some FieldType.long) ∈ TT := tm 630 (by decide +kernel) (by decide +kernel)
theorem w_631 : Cond.methodLink "SuccessionClerk" (159 : Nat) ({ cls := "SuccessionClerk", name := "placeOf", desc := "(I)I" } : MethodName) ∈ TT := tm 631 (by decide +kernel) (by decide +kernel)
theorem w_633 : Cond.instanceMethod ({ cls := "SuccessionClerk", name := "placeOf", desc := "(I)I" } : MethodName) ∈ TT := tm 633 (by decide +kernel) (by decide +kernel)
theorem w_634 : Cond.code ({ cls := "SuccessionClerk", name := "placeOf", desc := "(I)I" } : MethodName) prog_1_method_23_code (2 : Nat) (Option.some FieldType.int) ∈ TT := tm 634 (by decide +kernel) (by decide +kernel)
theorem w_635 : Cond.methodLink "SuccessionClerkLaw" (138 : Nat) ({ cls := "SuccessionClerkLaw", name := "total", desc := "(LSuccessionClerk;I[J)I" } : MethodName) ∈ TT := tm 635 (by decide +kernel) (by decide +kernel)
theorem w_636 : Cond.static ({ cls := "SuccessionClerkLaw", name := "total", desc := "(LSuccessionClerk;I[J)I" } : MethodName) ∈ TT := tm 636 (by decide +kernel) (by decide +kernel)
theorem w_637 : Cond.codeWith ({ cls := "SuccessionClerkLaw", name := "total", desc := "(LSuccessionClerk;I[J)I" } : MethodName) method_18_code (4 : Nat) (Option.some FieldType.int) [((0 : Nat), (8 : Nat), (11 : Nat), (13 : Nat))] ∈ TT := tm 637 (by decide +kernel) (by decide +kernel)
theorem w_638 : Cond.methodLink "SuccessionClerkLaw" (66 : Nat) ({ cls := "SuccessionClerk", name := "total", desc := "(I)J" } : MethodName) ∈ TT := tm 638 (by decide +kernel) (by decide +kernel)
theorem w_639 : Cond.instanceMethod ({ cls := "SuccessionClerk", name := "total", desc := "(I)J" } : MethodName) ∈ TT := tm 639 (by decide +kernel) (by decide +kernel)
theorem w_640 : Cond.selects "SuccessionClerk" ({ cls := "SuccessionClerk", name := "total", desc := "(I)J" } : MethodName) ({ cls := "SuccessionClerk", name := "total", desc := "(I)J" } : MethodName) ∈ TT := tm 640 (by decide +kernel) (by decide +kernel)
theorem w_641 : Cond.code ({ cls := "SuccessionClerk", name := "total", desc := "(I)J" } : MethodName) prog_1_method_18_code (2 : Nat) (Option.some FieldType.long) ∈ TT := tm 641 (by decide +kernel) (by decide +kernel)
theorem w_642 : Cond.methodLink "SuccessionClerkLaw" (141 : Nat) ({ cls := "SuccessionClerkLaw", name := "got", desc := "(LSuccessionClerk;I[J)I" } : MethodName) ∈ TT := tm 642 (by decide +kernel) (by decide +kernel)
theorem w_643 : Cond.static ({ cls := "SuccessionClerkLaw", name := "got", desc := "(LSuccessionClerk;I[J)I" } : MethodName) ∈ TT := tm 643 (by decide +kernel) (by decide +kernel)
theorem w_644 : Cond.codeWith ({ cls := "SuccessionClerkLaw", name := "got", desc := "(LSuccessionClerk;I[J)I" } : MethodName) method_19_code (4 : Nat) (Option.some FieldType.int) [((0 : Nat), (8 : Nat), (11 : Nat), (13 : Nat))] ∈ TT := tm 644 (by decide +kernel) (by decide +kernel)
theorem w_645 : Cond.methodLink "SuccessionClerkLaw" (70 : Nat) ({ cls := "SuccessionClerk", name := "got", desc := "(I)J" } : MethodName) ∈ TT := tm 645 (by decide +kernel) (by decide +kernel)
theorem w_646 : Cond.instanceMethod ({ cls := "SuccessionClerk", name := "got", desc := "(I)J" } : MethodName) ∈ TT := tm 646 (by decide +kernel) (by decide +kernel)
theorem w_647 : Cond.selects "SuccessionClerk" ({ cls := "SuccessionClerk", name := "got", desc := "(I)J" } : MethodName) ({ cls := "SuccessionClerk", name := "got", desc := "(I)J" } : MethodName) ∈ TT := tm 647 (by decide +kernel) (by decide +kernel)
theorem w_648 : Cond.code ({ cls := "SuccessionClerk", name := "got", desc := "(I)J" } : MethodName) prog_1_method_19_code (2 : Nat) (Option.some FieldType.long) ∈ TT := tm 648 (by decide +kernel) (by decide +kernel)
theorem w_649 : Cond.classLink "SuccessionClerkLaw" (74 : Nat) "SuccessionClerkModel" ∈ TT := tm 649 (by decide +kernel) (by decide +kernel)
theorem w_650 : Cond.instantiable "SuccessionClerkModel" (23 : Nat) ∈ TT := tm 650 (by decide +kernel) (by decide +kernel)
theorem w_651 : Cond.methodLink "SuccessionClerkLaw" (76 : Nat) ({ cls := "SuccessionClerkModel", name := "<init>", desc := "()V" } : MethodName) ∈ TT := tm 651 (by decide +kernel) (by decide +kernel)
theorem w_652 : Cond.instanceMethod ({ cls := "SuccessionClerkModel", name := "<init>", desc := "()V" } : MethodName) ∈ TT := tm 652 (by decide +kernel) (by decide +kernel)
theorem w_653 : Cond.code ({ cls := "SuccessionClerkModel", name := "<init>", desc := "()V" } : MethodName) prog_8_method_1_code (1 : Nat) (Option.none : Option FieldType) ∈ TT := tm 653 (by decide +kernel) (by decide +kernel)
theorem w_654 : Cond.methodLink "SuccessionClerkModel" (1 : Nat) ({ cls := "java/lang/Object", name := "<init>", desc := "()V" } : MethodName) ∈ TT := tm 654 (by decide +kernel) (by decide +kernel)
theorem w_655 : Cond.fieldLink "SuccessionClerkModel" (60 : Nat) "SuccessionClerkModel" "thrown" "I" ∈ TT := tm 655 (by decide +kernel) (by decide +kernel)
theorem w_656 : Cond.fieldLink "SuccessionClerkModel" (64 : Nat) "SuccessionClerkModel" "persons" "I" ∈ TT := tm 656 (by decide +kernel) (by decide +kernel)
theorem w_657 : Cond.fieldLink "SuccessionClerkModel" (7 : Nat) "SuccessionClerkModel" "firsts" "[I" ∈ TT := tm 657 (by decide +kernel) (by decide +kernel)
theorem w_658 : Cond.fieldLink "SuccessionClerkModel" (13 : Nat) "SuccessionClerkModel" "seconds" "[I" ∈ TT := tm 658 (by decide +kernel) (by decide +kernel)
theorem w_659 : Cond.fieldLink "SuccessionClerkModel" (16 : Nat) "SuccessionClerkModel" "spouses" "[I" ∈ TT := tm 659 (by decide +kernel) (by decide +kernel)
theorem w_660 : Cond.fieldLink "SuccessionClerkModel" (19 : Nat) "SuccessionClerkModel" "days" "[I" ∈ TT := tm 660 (by decide +kernel) (by decide +kernel)
theorem w_661 : Cond.fieldLink "SuccessionClerkModel" (22 : Nat) "SuccessionClerkModel" "estates" "[I" ∈ TT := tm 661 (by decide +kernel) (by decide +kernel)
theorem w_662 : Cond.fieldLink "SuccessionClerkModel" (25 : Nat) "SuccessionClerkModel" "gifts" "[I" ∈ TT := tm 662 (by decide +kernel) (by decide +kernel)
theorem w_663 : Cond.fieldLink "SuccessionClerkModel" (28 : Nat) "SuccessionClerkModel" "excluded" "[Z" ∈ TT := tm 663 (by decide +kernel) (by decide +kernel)
theorem w_664 : Cond.fieldLink "SuccessionClerkModel" (75 : Nat) "SuccessionClerkModel" "of" "I" ∈ TT := tm 664 (by decide +kernel) (by decide +kernel)
theorem w_665 : Cond.fieldLink "SuccessionClerkModel" (32 : Nat) "SuccessionClerkModel" "left" "[Z" ∈ TT := tm 665 (by decide +kernel) (by decide +kernel)
theorem w_666 : Cond.fieldLink "SuccessionClerkModel" (35 : Nat) "SuccessionClerkModel" "many" "[I" ∈ TT := tm 666 (by decide +kernel) (by decide +kernel)
theorem w_667 : Cond.fieldLink "SuccessionClerkModel" (38 : Nat) "SuccessionClerkModel" "lines" "[Z" ∈ TT := tm 667 (by decide +kernel) (by decide +kernel)
theorem w_668 : Cond.fieldLink "SuccessionClerkModel" (41 : Nat) "SuccessionClerkModel" "parts" "[J" ∈ TT := tm 668 (by decide +kernel) (by decide +kernel)
theorem w_669 : Cond.fieldLink "SuccessionClerkModel" (45 : Nat) "SuccessionClerkModel" "takes" "[J" ∈ TT := tm 669 (by decide +kernel) (by decide +kernel)
theorem w_670 : Cond.fieldLink "SuccessionClerkModel" (78 : Nat) "SuccessionClerkModel" "product" "J" ∈ TT := tm 670 (by decide +kernel) (by decide +kernel)
theorem w_671 : Cond.fieldLink "SuccessionClerkModel" (107 : Nat) "SuccessionClerkModel" "whole" "J" ∈ TT := tm 671 (by decide +kernel) (by decide +kernel)
theorem w_672 : Cond.fieldLink "SuccessionClerkModel" (93 : Nat) "SuccessionClerkModel" "code" "I" ∈ TT := tm 672 (by decide +kernel) (by decide +kernel)
theorem w_673 : Cond.fieldLink "SuccessionClerkModel" (89 : Nat) "SuccessionClerkModel" "widow" "Z" ∈ TT := tm 673 (by decide +kernel) (by decide +kernel)
theorem w_674 : Cond.fieldLink "SuccessionClerkModel" (48 : Nat) "SuccessionClerkModel" "in" "[Z" ∈ TT := tm 674 (by decide +kernel) (by decide +kernel)
theorem w_675 : Cond.fieldLink "SuccessionClerkModel" (51 : Nat) "SuccessionClerkModel" "paid" "[J" ∈ TT := tm 675 (by decide +kernel) (by decide +kernel)
theorem w_676 : Cond.fieldLink "SuccessionClerkModel" (54 : Nat) "SuccessionClerkModel" "totals" "[J" ∈ TT := tm 676 (by decide +kernel) (by decide +kernel)
theorem w_677 : Cond.fieldLink "SuccessionClerkModel" (57 : Nat) "SuccessionClerkModel" "gots" "[J" ∈ TT := tm 677 (by decide +kernel) (by decide +kernel)
theorem w_725 : Cond.methodLink "SuccessionClerkLaw" (83 : Nat) ({ cls := "SuccessionClerkModel", name := "thrown", desc := "()I" } : MethodName) ∈ TT := tm 725 (by decide +kernel) (by decide +kernel)
theorem w_726 : Cond.instanceMethod ({ cls := "SuccessionClerkModel", name := "thrown", desc := "()I" } : MethodName) ∈ TT := tm 726 (by decide +kernel) (by decide +kernel)
theorem w_727 : Cond.selects "SuccessionClerkModel" ({ cls := "SuccessionClerkModel", name := "thrown", desc := "()I" } : MethodName) ({ cls := "SuccessionClerkModel", name := "thrown", desc := "()I" } : MethodName) ∈ TT := tm 727 (by decide +kernel) (by decide +kernel)
theorem w_728 : Cond.code ({ cls := "SuccessionClerkModel", name := "thrown", desc := "()I" } : MethodName) prog_8_method_2_code (1 : Nat) (Option.some FieldType.int) ∈ TT := tm 728 (by decide +kernel) (by decide +kernel)
theorem w_729 : Cond.methodLink "SuccessionClerkLaw" (82 : Nat) ({ cls := "SuccessionClerkModel", name := "person", desc := "(II)I" } : MethodName) ∈ TT := tm 729 (by decide +kernel) (by decide +kernel)
theorem w_730 : Cond.instanceMethod ({ cls := "SuccessionClerkModel", name := "person", desc := "(II)I" } : MethodName) ∈ TT := tm 730 (by decide +kernel) (by decide +kernel)
theorem w_731 : Cond.selects "SuccessionClerkModel" ({ cls := "SuccessionClerkModel", name := "person", desc := "(II)I" } : MethodName) ({ cls := "SuccessionClerkModel", name := "person", desc := "(II)I" } : MethodName) ∈ TT := tm 731 (by decide +kernel) (by decide +kernel)
theorem w_732 : Cond.code ({ cls := "SuccessionClerkModel", name := "person", desc := "(II)I" } : MethodName) prog_8_method_4_code (4 : Nat) (Option.some FieldType.int) ∈ TT := tm 732 (by decide +kernel) (by decide +kernel)
theorem w_733 : Cond.methodLink "SuccessionClerkModel" (67 : Nat) ({ cls := "SuccessionClerkModel", name := "no", desc := "(I)Z" } : MethodName) ∈ TT := tm 733 (by decide +kernel) (by decide +kernel)
theorem w_735 : Cond.instanceMethod ({ cls := "SuccessionClerkModel", name := "no", desc := "(I)Z" } : MethodName) ∈ TT := tm 735 (by decide +kernel) (by decide +kernel)
theorem w_736 : Cond.code ({ cls := "SuccessionClerkModel", name := "no", desc := "(I)Z" } : MethodName) prog_8_method_3_code (2 : Nat) (Option.some FieldType.boolean) ∈ TT := tm 736 (by decide +kernel) (by decide +kernel)
theorem w_737 : Cond.methodLink "SuccessionClerkLaw" (90 : Nat) ({ cls := "SuccessionClerkModel", name := "amend", desc := "(III)V" } : MethodName) ∈ TT := tm 737 (by decide +kernel) (by decide +kernel)
theorem w_738 : Cond.instanceMethod ({ cls := "SuccessionClerkModel", name := "amend", desc := "(III)V" } : MethodName) ∈ TT := tm 738 (by decide +kernel) (by decide +kernel)
theorem w_739 : Cond.selects "SuccessionClerkModel" ({ cls := "SuccessionClerkModel", name := "amend", desc := "(III)V" } : MethodName) ({ cls := "SuccessionClerkModel", name := "amend", desc := "(III)V" } : MethodName) ∈ TT := tm 739 (by decide +kernel) (by decide +kernel)
theorem w_740 : Cond.code ({ cls := "SuccessionClerkModel", name := "amend", desc := "(III)V" } : MethodName) prog_8_method_5_code (5 : Nat) (Option.none : Option FieldType) ∈ TT := tm 740 (by decide +kernel) (by decide +kernel)
theorem w_741 : Cond.methodLink "SuccessionClerkLaw" (94 : Nat) ({ cls := "SuccessionClerkModel", name := "marry", desc := "(II)V" } : MethodName) ∈ TT := tm 741 (by decide +kernel) (by decide +kernel)
theorem w_742 : Cond.instanceMethod ({ cls := "SuccessionClerkModel", name := "marry", desc := "(II)V" } : MethodName) ∈ TT := tm 742 (by decide +kernel) (by decide +kernel)
theorem w_743 : Cond.selects "SuccessionClerkModel" ({ cls := "SuccessionClerkModel", name := "marry", desc := "(II)V" } : MethodName) ({ cls := "SuccessionClerkModel", name := "marry", desc := "(II)V" } : MethodName) ∈ TT := tm 743 (by decide +kernel) (by decide +kernel)
theorem w_744 : Cond.code ({ cls := "SuccessionClerkModel", name := "marry", desc := "(II)V" } : MethodName) prog_8_method_7_code (3 : Nat) (Option.none : Option FieldType) ∈ TT := tm 744 (by decide +kernel) (by decide +kernel)
theorem w_745 : Cond.methodLink "SuccessionClerkModel" (71 : Nat) ({ cls := "SuccessionClerkModel", name := "isMarried", desc := "(I)Z" } : MethodName) ∈ TT := tm 745 (by decide +kernel) (by decide +kernel)
theorem w_747 : Cond.instanceMethod ({ cls := "SuccessionClerkModel", name := "isMarried", desc := "(I)Z" } : MethodName) ∈ TT := tm 747 (by decide +kernel) (by decide +kernel)
theorem w_748 : Cond.code ({ cls := "SuccessionClerkModel", name := "isMarried", desc := "(I)Z" } : MethodName) prog_8_method_6_code (2 : Nat) (Option.some FieldType.boolean) ∈ TT := tm 748 (by decide +kernel) (by decide +kernel)
theorem w_749 : Cond.methodLink "SuccessionClerkLaw" (98 : Nat) ({ cls := "SuccessionClerkModel", name := "divorce", desc := "(I)Z" } : MethodName) ∈ TT := tm 749 (by decide +kernel) (by decide +kernel)
theorem w_750 : Cond.instanceMethod ({ cls := "SuccessionClerkModel", name := "divorce", desc := "(I)Z" } : MethodName) ∈ TT := tm 750 (by decide +kernel) (by decide +kernel)
theorem w_751 : Cond.selects "SuccessionClerkModel" ({ cls := "SuccessionClerkModel", name := "divorce", desc := "(I)Z" } : MethodName) ({ cls := "SuccessionClerkModel", name := "divorce", desc := "(I)Z" } : MethodName) ∈ TT := tm 751 (by decide +kernel) (by decide +kernel)
theorem w_752 : Cond.code ({ cls := "SuccessionClerkModel", name := "divorce", desc := "(I)Z" } : MethodName) prog_8_method_8_code (2 : Nat) (Option.some FieldType.boolean) ∈ TT := tm 752 (by decide +kernel) (by decide +kernel)
theorem w_753 : Cond.methodLink "SuccessionClerkLaw" (101 : Nat) ({ cls := "SuccessionClerkModel", name := "spouse", desc := "(I)I" } : MethodName) ∈ TT := tm 753 (by decide +kernel) (by decide +kernel)
theorem w_754 : Cond.instanceMethod ({ cls := "SuccessionClerkModel", name := "spouse", desc := "(I)I" } : MethodName) ∈ TT := tm 754 (by decide +kernel) (by decide +kernel)
theorem w_755 : Cond.selects "SuccessionClerkModel" ({ cls := "SuccessionClerkModel", name := "spouse", desc := "(I)I" } : MethodName) ({ cls := "SuccessionClerkModel", name := "spouse", desc := "(I)I" } : MethodName) ∈ TT := tm 755 (by decide +kernel) (by decide +kernel)
theorem w_756 : Cond.code ({ cls := "SuccessionClerkModel", name := "spouse", desc := "(I)I" } : MethodName) prog_8_method_9_code (2 : Nat) (Option.some FieldType.int) ∈ TT := tm 756 (by decide +kernel) (by decide +kernel)
theorem w_757 : Cond.methodLink "SuccessionClerkLaw" (104 : Nat) ({ cls := "SuccessionClerkModel", name := "dies", desc := "(II)V" } : MethodName) ∈ TT := tm 757 (by decide +kernel) (by decide +kernel)
theorem w_758 : Cond.instanceMethod ({ cls := "SuccessionClerkModel", name := "dies", desc := "(II)V" } : MethodName) ∈ TT := tm 758 (by decide +kernel) (by decide +kernel)
theorem w_759 : Cond.selects "SuccessionClerkModel" ({ cls := "SuccessionClerkModel", name := "dies", desc := "(II)V" } : MethodName) ({ cls := "SuccessionClerkModel", name := "dies", desc := "(II)V" } : MethodName) ∈ TT := tm 759 (by decide +kernel) (by decide +kernel)
theorem w_760 : Cond.code ({ cls := "SuccessionClerkModel", name := "dies", desc := "(II)V" } : MethodName) prog_8_method_10_code (3 : Nat) (Option.none : Option FieldType) ∈ TT := tm 760 (by decide +kernel) (by decide +kernel)
theorem w_761 : Cond.methodLink "SuccessionClerkLaw" (108 : Nat) ({ cls := "SuccessionClerkModel", name := "exclude", desc := "(IIZ)Z" } : MethodName) ∈ TT := tm 761 (by decide +kernel) (by decide +kernel)
theorem w_762 : Cond.instanceMethod ({ cls := "SuccessionClerkModel", name := "exclude", desc := "(IIZ)Z" } : MethodName) ∈ TT := tm 762 (by decide +kernel) (by decide +kernel)
theorem w_763 : Cond.selects "SuccessionClerkModel" ({ cls := "SuccessionClerkModel", name := "exclude", desc := "(IIZ)Z" } : MethodName) ({ cls := "SuccessionClerkModel", name := "exclude", desc := "(IIZ)Z" } : MethodName) ∈ TT := tm 763 (by decide +kernel) (by decide +kernel)
theorem w_764 : Cond.code ({ cls := "SuccessionClerkModel", name := "exclude", desc := "(IIZ)Z" } : MethodName) prog_8_method_11_code (5 : Nat) (Option.some FieldType.boolean) ∈ TT := tm 764 (by decide +kernel) (by decide +kernel)
theorem w_765 : Cond.methodLink "SuccessionClerkLaw" (112 : Nat) ({ cls := "SuccessionClerkModel", name := "gift", desc := "(III)I" } : MethodName) ∈ TT := tm 765 (by decide +kernel) (by decide +kernel)
theorem w_766 : Cond.instanceMethod ({ cls := "SuccessionClerkModel", name := "gift", desc := "(III)I" } : MethodName) ∈ TT := tm 766 (by decide +kernel) (by decide +kernel)
theorem w_767 : Cond.selects "SuccessionClerkModel" ({ cls := "SuccessionClerkModel", name := "gift", desc := "(III)I" } : MethodName) ({ cls := "SuccessionClerkModel", name := "gift", desc := "(III)I" } : MethodName) ∈ TT := tm 767 (by decide +kernel) (by decide +kernel)
theorem w_768 : Cond.code ({ cls := "SuccessionClerkModel", name := "gift", desc := "(III)I" } : MethodName) prog_8_method_12_code (5 : Nat) (Option.some FieldType.int) ∈ TT := tm 768 (by decide +kernel) (by decide +kernel)
theorem w_769 : Cond.constant "SuccessionClerkModel" (74 : Nat) (1000000 : Int32) ∈ TT := tm 769 (by decide +kernel) (by decide +kernel)
theorem w_770 : Cond.methodLink "SuccessionClerkLaw" (115 : Nat) ({ cls := "SuccessionClerkModel", name := "estate", desc := "(II)V" } : MethodName) ∈ TT := tm 770 (by decide +kernel) (by decide +kernel)
theorem w_771 : Cond.instanceMethod ({ cls := "SuccessionClerkModel", name := "estate", desc := "(II)V" } : MethodName) ∈ TT := tm 771 (by decide +kernel) (by decide +kernel)
theorem w_772 : Cond.selects "SuccessionClerkModel" ({ cls := "SuccessionClerkModel", name := "estate", desc := "(II)V" } : MethodName) ({ cls := "SuccessionClerkModel", name := "estate", desc := "(II)V" } : MethodName) ∈ TT := tm 772 (by decide +kernel) (by decide +kernel)
theorem w_773 : Cond.code ({ cls := "SuccessionClerkModel", name := "estate", desc := "(II)V" } : MethodName) prog_8_method_13_code (3 : Nat) (Option.none : Option FieldType) ∈ TT := tm 773 (by decide +kernel) (by decide +kernel)
theorem w_774 : Cond.methodLink "SuccessionClerkLaw" (118 : Nat) ({ cls := "SuccessionClerkModel", name := "heirs", desc := "(I)I" } : MethodName) ∈ TT := tm 774 (by decide +kernel) (by decide +kernel)
theorem w_775 : Cond.instanceMethod ({ cls := "SuccessionClerkModel", name := "heirs", desc := "(I)I" } : MethodName) ∈ TT := tm 775 (by decide +kernel) (by decide +kernel)
theorem w_776 : Cond.selects "SuccessionClerkModel" ({ cls := "SuccessionClerkModel", name := "heirs", desc := "(I)I" } : MethodName) ({ cls := "SuccessionClerkModel", name := "heirs", desc := "(I)I" } : MethodName) ∈ TT := tm 776 (by decide +kernel) (by decide +kernel)
theorem w_777 : Cond.code ({ cls := "SuccessionClerkModel", name := "heirs", desc := "(I)I" } : MethodName) prog_8_method_22_code (4 : Nat) (Option.some FieldType.int) ∈ TT := tm 777 (by decide +kernel) (by decide +kernel)
theorem w_778 : Cond.methodLink "SuccessionClerkModel" (118 : Nat) ({ cls := "SuccessionClerkModel", name := "unsettled", desc := "(I)I" } : MethodName) ∈ TT := tm 778 (by decide +kernel) (by decide +kernel)
theorem w_780 : Cond.instanceMethod ({ cls := "SuccessionClerkModel", name := "unsettled", desc := "(I)I" } : MethodName) ∈ TT := tm 780 (by decide +kernel) (by decide +kernel)
theorem w_781 : Cond.code ({ cls := "SuccessionClerkModel", name := "unsettled", desc := "(I)I" } : MethodName) prog_8_method_21_code (2 : Nat) (Option.some FieldType.int) ∈ TT := tm 781 (by decide +kernel) (by decide +kernel)
theorem w_782 : Cond.methodLink "SuccessionClerkModel" (122 : Nat) ({ cls := "SuccessionClerkModel", name := "divide", desc := "(I)V" } : MethodName) ∈ TT := tm 782 (by decide +kernel) (by decide +kernel)
theorem w_784 : Cond.instanceMethod ({ cls := "SuccessionClerkModel", name := "divide", desc := "(I)V" } : MethodName) ∈ TT := tm 784 (by decide +kernel) (by decide +kernel)
theorem w_785 : Cond.code ({ cls := "SuccessionClerkModel", name := "divide", desc := "(I)V" } : MethodName) prog_8_method_20_code (6 : Nat) (Option.none : Option FieldType) ∈ TT := tm 785 (by decide +kernel) (by decide +kernel)
theorem w_786 : Cond.methodLink "SuccessionClerkModel" (98 : Nat) ({ cls := "SuccessionClerkModel", name := "look", desc := "(I)V" } : MethodName) ∈ TT := tm 786 (by decide +kernel) (by decide +kernel)
theorem w_788 : Cond.instanceMethod ({ cls := "SuccessionClerkModel", name := "look", desc := "(I)V" } : MethodName) ∈ TT := tm 788 (by decide +kernel) (by decide +kernel)
theorem w_789 : Cond.code ({ cls := "SuccessionClerkModel", name := "look", desc := "(I)V" } : MethodName) prog_8_method_15_code (4 : Nat) (Option.none : Option FieldType) ∈ TT := tm 789 (by decide +kernel) (by decide +kernel)
theorem w_790 : Cond.methodLink "SuccessionClerkModel" (82 : Nat) ({ cls := "SuccessionClerkModel", name := "isChild", desc := "(II)Z" } : MethodName) ∈ TT := tm 790 (by decide +kernel) (by decide +kernel)
theorem w_792 : Cond.instanceMethod ({ cls := "SuccessionClerkModel", name := "isChild", desc := "(II)Z" } : MethodName) ∈ TT := tm 792 (by decide +kernel) (by decide +kernel)
theorem w_793 : Cond.code ({ cls := "SuccessionClerkModel", name := "isChild", desc := "(II)Z" } : MethodName) prog_8_method_14_code (3 : Nat) (Option.some FieldType.boolean) ∈ TT := tm 793 (by decide +kernel) (by decide +kernel)
theorem w_794 : Cond.methodLink "SuccessionClerkModel" (86 : Nat) ({ cls := "SuccessionClerkModel", name := "hasLine", desc := "(II)Z" } : MethodName) ∈ TT := tm 794 (by decide +kernel) (by decide +kernel)
theorem w_796 : Cond.instanceMethod ({ cls := "SuccessionClerkModel", name := "hasLine", desc := "(II)Z" } : MethodName) ∈ TT := tm 796 (by decide +kernel) (by decide +kernel)
theorem w_797 : Cond.code ({ cls := "SuccessionClerkModel", name := "hasLine", desc := "(II)Z" } : MethodName) prog_8_method_16_code (3 : Nat) (Option.some FieldType.boolean) ∈ TT := tm 797 (by decide +kernel) (by decide +kernel)
theorem w_798 : Cond.methodLink "SuccessionClerkModel" (102 : Nat) ({ cls := "SuccessionClerkModel", name := "clear", desc := "()V" } : MethodName) ∈ TT := tm 798 (by decide +kernel) (by decide +kernel)
theorem w_800 : Cond.instanceMethod ({ cls := "SuccessionClerkModel", name := "clear", desc := "()V" } : MethodName) ∈ TT := tm 800 (by decide +kernel) (by decide +kernel)
theorem w_801 : Cond.code ({ cls := "SuccessionClerkModel", name := "clear", desc := "()V" } : MethodName) prog_8_method_17_code (2 : Nat) (Option.none : Option FieldType) ∈ TT := tm 801 (by decide +kernel) (by decide +kernel)
theorem w_802 : Cond.constantLong "SuccessionClerkModel" (105 : Nat) (32 : Int64) ∈ TT := tm 802 (by decide +kernel) (by decide +kernel)
theorem w_803 : Cond.constantLong "SuccessionClerkModel" (110 : Nat) (4 : Int64) ∈ TT := tm 803 (by decide +kernel) (by decide +kernel)
theorem w_804 : Cond.constantLong "SuccessionClerkModel" (96 : Nat) (2 : Int64) ∈ TT := tm 804 (by decide +kernel) (by decide +kernel)
theorem w_805 : Cond.methodLink "SuccessionClerkModel" (112 : Nat) ({ cls := "SuccessionClerkModel", name := "climb", desc := "(I)V" } : MethodName) ∈ TT := tm 805 (by decide +kernel) (by decide +kernel)
theorem w_807 : Cond.instanceMethod ({ cls := "SuccessionClerkModel", name := "climb", desc := "(I)V" } : MethodName) ∈ TT := tm 807 (by decide +kernel) (by decide +kernel)
theorem w_808 : Cond.code ({ cls := "SuccessionClerkModel", name := "climb", desc := "(I)V" } : MethodName) prog_8_method_18_code (8 : Nat) (Option.none : Option FieldType) ∈ TT := tm 808 (by decide +kernel) (by decide +kernel)
theorem w_809 : Cond.methodLink "SuccessionClerkModel" (115 : Nat) ({ cls := "SuccessionClerkModel", name := "descend", desc := "()V" } : MethodName) ∈ TT := tm 809 (by decide +kernel) (by decide +kernel)
theorem w_811 : Cond.instanceMethod ({ cls := "SuccessionClerkModel", name := "descend", desc := "()V" } : MethodName) ∈ TT := tm 811 (by decide +kernel) (by decide +kernel)
theorem w_812 : Cond.code ({ cls := "SuccessionClerkModel", name := "descend", desc := "()V" } : MethodName) prog_8_method_19_code (5 : Nat) (Option.none : Option FieldType) ∈ TT := tm 812 (by decide +kernel) (by decide +kernel)
theorem w_813 : Cond.methodLink "SuccessionClerkLaw" (121 : Nat) ({ cls := "SuccessionClerkModel", name := "heir", desc := "(II)I" } : MethodName) ∈ TT := tm 813 (by decide +kernel) (by decide +kernel)
theorem w_814 : Cond.instanceMethod ({ cls := "SuccessionClerkModel", name := "heir", desc := "(II)I" } : MethodName) ∈ TT := tm 814 (by decide +kernel) (by decide +kernel)
theorem w_815 : Cond.selects "SuccessionClerkModel" ({ cls := "SuccessionClerkModel", name := "heir", desc := "(II)I" } : MethodName) ({ cls := "SuccessionClerkModel", name := "heir", desc := "(II)I" } : MethodName) ∈ TT := tm 815 (by decide +kernel) (by decide +kernel)
theorem w_816 : Cond.code ({ cls := "SuccessionClerkModel", name := "heir", desc := "(II)I" } : MethodName) prog_8_method_23_code (5 : Nat) (Option.some FieldType.int) ∈ TT := tm 816 (by decide +kernel) (by decide +kernel)
theorem w_817 : Cond.methodLink "SuccessionClerkLaw" (124 : Nat) ({ cls := "SuccessionClerkModel", name := "share", desc := "(II)J" } : MethodName) ∈ TT := tm 817 (by decide +kernel) (by decide +kernel)
theorem w_818 : Cond.instanceMethod ({ cls := "SuccessionClerkModel", name := "share", desc := "(II)J" } : MethodName) ∈ TT := tm 818 (by decide +kernel) (by decide +kernel)
theorem w_819 : Cond.selects "SuccessionClerkModel" ({ cls := "SuccessionClerkModel", name := "share", desc := "(II)J" } : MethodName) ({ cls := "SuccessionClerkModel", name := "share", desc := "(II)J" } : MethodName) ∈ TT := tm 819 (by decide +kernel) (by decide +kernel)
theorem w_820 : Cond.code ({ cls := "SuccessionClerkModel", name := "share", desc := "(II)J" } : MethodName) prog_8_method_25_code (5 : Nat) (Option.some FieldType.long) ∈ TT := tm 820 (by decide +kernel) (by decide +kernel)
theorem w_821 : Cond.methodLink "SuccessionClerkModel" (125 : Nat) ({ cls := "SuccessionClerkModel", name := "divisor", desc := "(JJ)J" } : MethodName) ∈ TT := tm 821 (by decide +kernel) (by decide +kernel)
theorem w_822 : Cond.static ({ cls := "SuccessionClerkModel", name := "divisor", desc := "(JJ)J" } : MethodName) ∈ TT := tm 822 (by decide +kernel) (by decide +kernel)
theorem w_823 : Cond.code ({ cls := "SuccessionClerkModel", name := "divisor", desc := "(JJ)J" } : MethodName) prog_8_method_24_code (10 : Nat) (Option.some FieldType.long) ∈ TT := tm 823 (by decide +kernel) (by decide +kernel)
theorem w_824 : Cond.methodLink "SuccessionClerkLaw" (127 : Nat) ({ cls := "SuccessionClerkModel", name := "order", desc := "(I)I" } : MethodName) ∈ TT := tm 824 (by decide +kernel) (by decide +kernel)
theorem w_825 : Cond.instanceMethod ({ cls := "SuccessionClerkModel", name := "order", desc := "(I)I" } : MethodName) ∈ TT := tm 825 (by decide +kernel) (by decide +kernel)
theorem w_826 : Cond.selects "SuccessionClerkModel" ({ cls := "SuccessionClerkModel", name := "order", desc := "(I)I" } : MethodName) ({ cls := "SuccessionClerkModel", name := "order", desc := "(I)I" } : MethodName) ∈ TT := tm 826 (by decide +kernel) (by decide +kernel)
theorem w_827 : Cond.code ({ cls := "SuccessionClerkModel", name := "order", desc := "(I)I" } : MethodName) prog_8_method_26_code (2 : Nat) (Option.some FieldType.int) ∈ TT := tm 827 (by decide +kernel) (by decide +kernel)
theorem w_828 : Cond.methodLink "SuccessionClerkLaw" (130 : Nat) ({ cls := "SuccessionClerkModel", name := "stem", desc := "(II)I" } : MethodName) ∈ TT := tm 828 (by decide +kernel) (by decide +kernel)
theorem w_829 : Cond.instanceMethod ({ cls := "SuccessionClerkModel", name := "stem", desc := "(II)I" } : MethodName) ∈ TT := tm 829 (by decide +kernel) (by decide +kernel)
theorem w_830 : Cond.selects "SuccessionClerkModel" ({ cls := "SuccessionClerkModel", name := "stem", desc := "(II)I" } : MethodName) ({ cls := "SuccessionClerkModel", name := "stem", desc := "(II)I" } : MethodName) ∈ TT := tm 830 (by decide +kernel) (by decide +kernel)
theorem w_831 : Cond.code ({ cls := "SuccessionClerkModel", name := "stem", desc := "(II)I" } : MethodName) prog_8_method_27_code (5 : Nat) (Option.some FieldType.int) ∈ TT := tm 831 (by decide +kernel) (by decide +kernel)
theorem w_832 : Cond.constantLong "SuccessionClerkModel" (129 : Nat) (8 : Int64) ∈ TT := tm 832 (by decide +kernel) (by decide +kernel)
theorem w_833 : Cond.methodLink "SuccessionClerkLaw" (134 : Nat) ({ cls := "SuccessionClerkModel", name := "settle", desc := "()I" } : MethodName) ∈ TT := tm 833 (by decide +kernel) (by decide +kernel)
theorem w_834 : Cond.instanceMethod ({ cls := "SuccessionClerkModel", name := "settle", desc := "()I" } : MethodName) ∈ TT := tm 834 (by decide +kernel) (by decide +kernel)
theorem w_835 : Cond.selects "SuccessionClerkModel" ({ cls := "SuccessionClerkModel", name := "settle", desc := "()I" } : MethodName) ({ cls := "SuccessionClerkModel", name := "settle", desc := "()I" } : MethodName) ∈ TT := tm 835 (by decide +kernel) (by decide +kernel)
theorem w_836 : Cond.code ({ cls := "SuccessionClerkModel", name := "settle", desc := "()I" } : MethodName) prog_8_method_33_code (4 : Nat) (Option.some FieldType.int) ∈ TT := tm 836 (by decide +kernel) (by decide +kernel)
theorem w_837 : Cond.methodLink "SuccessionClerkModel" (151 : Nat) ({ cls := "SuccessionClerkModel", name := "settleOne", desc := "(I)V" } : MethodName) ∈ TT := tm 837 (by decide +kernel) (by decide +kernel)
theorem w_839 : Cond.instanceMethod ({ cls := "SuccessionClerkModel", name := "settleOne", desc := "(I)V" } : MethodName) ∈ TT := tm 839 (by decide +kernel) (by decide +kernel)
theorem w_840 : Cond.code ({ cls := "SuccessionClerkModel", name := "settleOne", desc := "(I)V" } : MethodName) prog_8_method_32_code (8 : Nat) (Option.none : Option FieldType) ∈ TT := tm 840 (by decide +kernel) (by decide +kernel)
theorem w_841 : Cond.methodLink "SuccessionClerkModel" (141 : Nat) ({ cls := "SuccessionClerkModel", name := "due", desc := "(IJ)V" } : MethodName) ∈ TT := tm 841 (by decide +kernel) (by decide +kernel)
theorem w_843 : Cond.instanceMethod ({ cls := "SuccessionClerkModel", name := "due", desc := "(IJ)V" } : MethodName) ∈ TT := tm 843 (by decide +kernel) (by decide +kernel)
theorem w_844 : Cond.code ({ cls := "SuccessionClerkModel", name := "due", desc := "(IJ)V" } : MethodName) prog_8_method_30_code (10 : Nat) (Option.none : Option FieldType) ∈ TT := tm 844 (by decide +kernel) (by decide +kernel)
theorem w_845 : Cond.constantLong "SuccessionClerkModel" (135 : Nat) (3 : Int64) ∈ TT := tm 845 (by decide +kernel) (by decide +kernel)
theorem w_846 : Cond.methodLink "SuccessionClerkModel" (137 : Nat) ({ cls := "SuccessionClerkModel", name := "sift", desc := "(J)I" } : MethodName) ∈ TT := tm 846 (by decide +kernel) (by decide +kernel)
theorem w_848 : Cond.instanceMethod ({ cls := "SuccessionClerkModel", name := "sift", desc := "(J)I" } : MethodName) ∈ TT := tm 848 (by decide +kernel) (by decide +kernel)
theorem w_849 : Cond.code ({ cls := "SuccessionClerkModel", name := "sift", desc := "(J)I" } : MethodName) prog_8_method_28_code (8 : Nat) (Option.some FieldType.int) ∈ TT := tm 849 (by decide +kernel) (by decide +kernel)
theorem w_850 : Cond.methodLink "SuccessionClerkModel" (131 : Nat) ({ cls := "SuccessionClerkModel", name := "giftsIn", desc := "()J" } : MethodName) ∈ TT := tm 850 (by decide +kernel) (by decide +kernel)
theorem w_852 : Cond.instanceMethod ({ cls := "SuccessionClerkModel", name := "giftsIn", desc := "()J" } : MethodName) ∈ TT := tm 852 (by decide +kernel) (by decide +kernel)
theorem w_853 : Cond.code ({ cls := "SuccessionClerkModel", name := "giftsIn", desc := "()J" } : MethodName) prog_8_method_29_code (4 : Nat) (Option.some FieldType.long) ∈ TT := tm 853 (by decide +kernel) (by decide +kernel)
theorem w_854 : Cond.methodLink "SuccessionClerkModel" (145 : Nat) ({ cls := "SuccessionClerkModel", name := "pay", desc := "(IIJ)V" } : MethodName) ∈ TT := tm 854 (by decide +kernel) (by decide +kernel)
theorem w_856 : Cond.instanceMethod ({ cls := "SuccessionClerkModel", name := "pay", desc := "(IIJ)V" } : MethodName) ∈ TT := tm 856 (by decide +kernel) (by decide +kernel)
theorem w_857 : Cond.code ({ cls := "SuccessionClerkModel", name := "pay", desc := "(IIJ)V" } : MethodName) prog_8_method_31_code (5 : Nat) (Option.none : Option FieldType) ∈ TT := tm 857 (by decide +kernel) (by decide +kernel)
theorem w_858 : Cond.constantLong "SuccessionClerkModel" (149 : Nat) (-1 : Int64) ∈ TT := tm 858 (by decide +kernel) (by decide +kernel)
theorem w_859 : Cond.methodLink "SuccessionClerkLaw" (137 : Nat) ({ cls := "SuccessionClerkModel", name := "paid", desc := "(II)J" } : MethodName) ∈ TT := tm 859 (by decide +kernel) (by decide +kernel)
theorem w_860 : Cond.instanceMethod ({ cls := "SuccessionClerkModel", name := "paid", desc := "(II)J" } : MethodName) ∈ TT := tm 860 (by decide +kernel) (by decide +kernel)
theorem w_861 : Cond.selects "SuccessionClerkModel" ({ cls := "SuccessionClerkModel", name := "paid", desc := "(II)J" } : MethodName) ({ cls := "SuccessionClerkModel", name := "paid", desc := "(II)J" } : MethodName) ∈ TT := tm 861 (by decide +kernel) (by decide +kernel)
theorem w_862 : Cond.code ({ cls := "SuccessionClerkModel", name := "paid", desc := "(II)J" } : MethodName) prog_8_method_34_code (3 : Nat) (Option.some FieldType.long) ∈ TT := tm 862 (by decide +kernel) (by decide +kernel)
theorem w_863 : Cond.methodLink "SuccessionClerkLaw" (140 : Nat) ({ cls := "SuccessionClerkModel", name := "total", desc := "(I)J" } : MethodName) ∈ TT := tm 863 (by decide +kernel) (by decide +kernel)
theorem w_864 : Cond.instanceMethod ({ cls := "SuccessionClerkModel", name := "total", desc := "(I)J" } : MethodName) ∈ TT := tm 864 (by decide +kernel) (by decide +kernel)
theorem w_865 : Cond.selects "SuccessionClerkModel" ({ cls := "SuccessionClerkModel", name := "total", desc := "(I)J" } : MethodName) ({ cls := "SuccessionClerkModel", name := "total", desc := "(I)J" } : MethodName) ∈ TT := tm 865 (by decide +kernel) (by decide +kernel)
theorem w_866 : Cond.code ({ cls := "SuccessionClerkModel", name := "total", desc := "(I)J" } : MethodName) prog_8_method_35_code (2 : Nat) (Option.some FieldType.long) ∈ TT := tm 866 (by decide +kernel) (by decide +kernel)
theorem w_867 : Cond.methodLink "SuccessionClerkLaw" (143 : Nat) ({ cls := "SuccessionClerkModel", name := "got", desc := "(I)J" } : MethodName) ∈ TT := tm 867 (by decide +kernel) (by decide +kernel)
theorem w_868 : Cond.instanceMethod ({ cls := "SuccessionClerkModel", name := "got", desc := "(I)J" } : MethodName) ∈ TT := tm 868 (by decide +kernel) (by decide +kernel)
theorem w_869 : Cond.selects "SuccessionClerkModel" ({ cls := "SuccessionClerkModel", name := "got", desc := "(I)J" } : MethodName) ({ cls := "SuccessionClerkModel", name := "got", desc := "(I)J" } : MethodName) ∈ TT := tm 869 (by decide +kernel) (by decide +kernel)
theorem w_870 : Cond.code ({ cls := "SuccessionClerkModel", name := "got", desc := "(I)J" } : MethodName) prog_8_method_36_code (2 : Nat) (Option.some FieldType.long) ∈ TT := tm 870 (by decide +kernel) (by decide +kernel)
theorem sel_L_forget : Cond.selects "SuccessionClerk$Ledger" ⟨"SuccessionClerk$Ledger", "forget", "()V"⟩ ⟨"SuccessionClerk$Ledger", "forget", "()V"⟩ ∈ TT := ts 0 (by decide +kernel) (by decide +kernel)
theorem sel_L_earliestUnsettled : Cond.selects "SuccessionClerk$Ledger" ⟨"SuccessionClerk$Ledger", "earliestUnsettled", "()I"⟩ ⟨"SuccessionClerk$Ledger", "earliestUnsettled", "()I"⟩ ∈ TT := ts 1 (by decide +kernel) (by decide +kernel)
theorem sel_L_settleOne : Cond.selects "SuccessionClerk$Ledger" ⟨"SuccessionClerk$Ledger", "settleOne", "(I)V"⟩ ⟨"SuccessionClerk$Ledger", "settleOne", "(I)V"⟩ ∈ TT := ts 2 (by decide +kernel) (by decide +kernel)
theorem sel_V_findStems : Cond.selects "SuccessionClerk$Survey" ⟨"SuccessionClerk$Survey", "findStems", "()V"⟩ ⟨"SuccessionClerk$Survey", "findStems", "()V"⟩ ∈ TT := ts 3 (by decide +kernel) (by decide +kernel)
theorem sel_V_addBranch : Cond.selects "SuccessionClerk$Survey" ⟨"SuccessionClerk$Survey", "addBranch", "(I)V"⟩ ⟨"SuccessionClerk$Survey", "addBranch", "(I)V"⟩ ∈ TT := ts 4 (by decide +kernel) (by decide +kernel)
theorem sel_V_findLines : Cond.selects "SuccessionClerk$Survey" ⟨"SuccessionClerk$Survey", "findLines", "()V"⟩ ⟨"SuccessionClerk$Survey", "findLines", "()V"⟩ ∈ TT := ts 5 (by decide +kernel) (by decide +kernel)
theorem sel_V_findTaker : Cond.selects "SuccessionClerk$Survey" ⟨"SuccessionClerk$Survey", "findTaker", "()I"⟩ ⟨"SuccessionClerk$Survey", "findTaker", "()I"⟩ ∈ TT := ts 6 (by decide +kernel) (by decide +kernel)
theorem sel_L_pay : Cond.selects "SuccessionClerk$Ledger" ⟨"SuccessionClerk$Ledger", "pay", "(IIJ)V"⟩ ⟨"SuccessionClerk$Ledger", "pay", "(IIJ)V"⟩ ∈ TT := ts 7 (by decide +kernel) (by decide +kernel)
theorem sel_H_findOneAbove : Cond.selects "SuccessionClerk$Hotchpot" ⟨"SuccessionClerk$Hotchpot", "findOneAbove", "()I"⟩ ⟨"SuccessionClerk$Hotchpot", "findOneAbove", "()I"⟩ ∈ TT := ts 8 (by decide +kernel) (by decide +kernel)
theorem sel_D_branchProduct : Cond.selects "SuccessionClerk$Division" ⟨"SuccessionClerk$Division", "branchProduct", "()J"⟩ ⟨"SuccessionClerk$Division", "branchProduct", "()J"⟩ ∈ TT := ts 9 (by decide +kernel) (by decide +kernel)
theorem sel_D_startWith : Cond.selects "SuccessionClerk$Division" ⟨"SuccessionClerk$Division", "startWith", "(JJ)V"⟩ ⟨"SuccessionClerk$Division", "startWith", "(JJ)V"⟩ ∈ TT := ts 10 (by decide +kernel) (by decide +kernel)
theorem sel_D_lowerParts : Cond.selects "SuccessionClerk$Division" ⟨"SuccessionClerk$Division", "lowerParts", "()V"⟩ ⟨"SuccessionClerk$Division", "lowerParts", "()V"⟩ ∈ TT := ts 11 (by decide +kernel) (by decide +kernel)
theorem sel_D_lowerPart : Cond.selects "SuccessionClerk$Division" ⟨"SuccessionClerk$Division", "lowerPart", "(IJ)V"⟩ ⟨"SuccessionClerk$Division", "lowerPart", "(IJ)V"⟩ ∈ TT := ts 12 (by decide +kernel) (by decide +kernel)
theorem sel_D_raiseParts : Cond.selects "SuccessionClerk$Division" ⟨"SuccessionClerk$Division", "raiseParts", "(I)V"⟩ ⟨"SuccessionClerk$Division", "raiseParts", "(I)V"⟩ ∈ TT := ts 13 (by decide +kernel) (by decide +kernel)
theorem sel_D_raisePart : Cond.selects "SuccessionClerk$Division" ⟨"SuccessionClerk$Division", "raisePart", "(II)V"⟩ ⟨"SuccessionClerk$Division", "raisePart", "(II)V"⟩ ∈ TT := ts 14 (by decide +kernel) (by decide +kernel)
theorem sel_L_payDues : Cond.selects "SuccessionClerk$Ledger" ⟨"SuccessionClerk$Ledger", "payDues", "(I)V"⟩ ⟨"SuccessionClerk$Ledger", "payDues", "(I)V"⟩ ∈ TT := ts 15 (by decide +kernel) (by decide +kernel)
theorem sel_L_greatestRest : Cond.selects "SuccessionClerk$Ledger" ⟨"SuccessionClerk$Ledger", "greatestRest", "()I"⟩ ⟨"SuccessionClerk$Ledger", "greatestRest", "()I"⟩ ∈ TT := ts 16 (by decide +kernel) (by decide +kernel)
theorem sel_S_requirePerson : Cond.selects "SuccessionClerk" ⟨"SuccessionClerk", "requirePerson", "(I)V"⟩ ⟨"SuccessionClerk", "requirePerson", "(I)V"⟩ ∈ TT := ts 18 (by decide +kernel) (by decide +kernel)
theorem sel_S_requireDead : Cond.selects "SuccessionClerk" ⟨"SuccessionClerk", "requireDead", "(I)V"⟩ ⟨"SuccessionClerk", "requireDead", "(I)V"⟩ ∈ TT := ts 19 (by decide +kernel) (by decide +kernel)
theorem sel_V_beginsOrder : Cond.selects "SuccessionClerk$Survey" ⟨"SuccessionClerk$Survey", "beginsOrder", "(I)Z"⟩ ⟨"SuccessionClerk$Survey", "beginsOrder", "(I)Z"⟩ ∈ TT := ts 20 (by decide +kernel) (by decide +kernel)
theorem sel_V_stemReaches : Cond.selects "SuccessionClerk$Survey" ⟨"SuccessionClerk$Survey", "stemReaches", "(II)Z"⟩ ⟨"SuccessionClerk$Survey", "stemReaches", "(II)Z"⟩ ∈ TT := ts 21 (by decide +kernel) (by decide +kernel)
theorem sel_V_passesOn : Cond.selects "SuccessionClerk$Survey" ⟨"SuccessionClerk$Survey", "passesOn", "(I)Z"⟩ ⟨"SuccessionClerk$Survey", "passesOn", "(I)Z"⟩ ∈ TT := ts 22 (by decide +kernel) (by decide +kernel)
theorem sel_S_placeOf : Cond.selects "SuccessionClerk" ⟨"SuccessionClerk", "placeOf", "(I)I"⟩ ⟨"SuccessionClerk", "placeOf", "(I)I"⟩ ∈ TT := ts 23 (by decide +kernel) (by decide +kernel)
theorem sel_M_no : Cond.selects "SuccessionClerkModel" ⟨"SuccessionClerkModel", "no", "(I)Z"⟩ ⟨"SuccessionClerkModel", "no", "(I)Z"⟩ ∈ TT := ts 24 (by decide +kernel) (by decide +kernel)
theorem sel_M_isMarried : Cond.selects "SuccessionClerkModel" ⟨"SuccessionClerkModel", "isMarried", "(I)Z"⟩ ⟨"SuccessionClerkModel", "isMarried", "(I)Z"⟩ ∈ TT := ts 25 (by decide +kernel) (by decide +kernel)
theorem sel_M_unsettled : Cond.selects "SuccessionClerkModel" ⟨"SuccessionClerkModel", "unsettled", "(I)I"⟩ ⟨"SuccessionClerkModel", "unsettled", "(I)I"⟩ ∈ TT := ts 26 (by decide +kernel) (by decide +kernel)
theorem sel_M_divide : Cond.selects "SuccessionClerkModel" ⟨"SuccessionClerkModel", "divide", "(I)V"⟩ ⟨"SuccessionClerkModel", "divide", "(I)V"⟩ ∈ TT := ts 27 (by decide +kernel) (by decide +kernel)
theorem sel_M_look : Cond.selects "SuccessionClerkModel" ⟨"SuccessionClerkModel", "look", "(I)V"⟩ ⟨"SuccessionClerkModel", "look", "(I)V"⟩ ∈ TT := ts 28 (by decide +kernel) (by decide +kernel)
theorem sel_M_isChild : Cond.selects "SuccessionClerkModel" ⟨"SuccessionClerkModel", "isChild", "(II)Z"⟩ ⟨"SuccessionClerkModel", "isChild", "(II)Z"⟩ ∈ TT := ts 29 (by decide +kernel) (by decide +kernel)
theorem sel_M_hasLine : Cond.selects "SuccessionClerkModel" ⟨"SuccessionClerkModel", "hasLine", "(II)Z"⟩ ⟨"SuccessionClerkModel", "hasLine", "(II)Z"⟩ ∈ TT := ts 30 (by decide +kernel) (by decide +kernel)
theorem sel_M_clear : Cond.selects "SuccessionClerkModel" ⟨"SuccessionClerkModel", "clear", "()V"⟩ ⟨"SuccessionClerkModel", "clear", "()V"⟩ ∈ TT := ts 31 (by decide +kernel) (by decide +kernel)
theorem sel_M_climb : Cond.selects "SuccessionClerkModel" ⟨"SuccessionClerkModel", "climb", "(I)V"⟩ ⟨"SuccessionClerkModel", "climb", "(I)V"⟩ ∈ TT := ts 32 (by decide +kernel) (by decide +kernel)
theorem sel_M_descend : Cond.selects "SuccessionClerkModel" ⟨"SuccessionClerkModel", "descend", "()V"⟩ ⟨"SuccessionClerkModel", "descend", "()V"⟩ ∈ TT := ts 33 (by decide +kernel) (by decide +kernel)
theorem sel_M_settleOne : Cond.selects "SuccessionClerkModel" ⟨"SuccessionClerkModel", "settleOne", "(I)V"⟩ ⟨"SuccessionClerkModel", "settleOne", "(I)V"⟩ ∈ TT := ts 34 (by decide +kernel) (by decide +kernel)
theorem sel_M_due : Cond.selects "SuccessionClerkModel" ⟨"SuccessionClerkModel", "due", "(IJ)V"⟩ ⟨"SuccessionClerkModel", "due", "(IJ)V"⟩ ∈ TT := ts 35 (by decide +kernel) (by decide +kernel)
theorem sel_M_sift : Cond.selects "SuccessionClerkModel" ⟨"SuccessionClerkModel", "sift", "(J)I"⟩ ⟨"SuccessionClerkModel", "sift", "(J)I"⟩ ∈ TT := ts 36 (by decide +kernel) (by decide +kernel)
theorem sel_M_giftsIn : Cond.selects "SuccessionClerkModel" ⟨"SuccessionClerkModel", "giftsIn", "()J"⟩ ⟨"SuccessionClerkModel", "giftsIn", "()J"⟩ ∈ TT := ts 37 (by decide +kernel) (by decide +kernel)
theorem sel_M_pay : Cond.selects "SuccessionClerkModel" ⟨"SuccessionClerkModel", "pay", "(IIJ)V"⟩ ⟨"SuccessionClerkModel", "pay", "(IIJ)V"⟩ ∈ TT := ts 38 (by decide +kernel) (by decide +kernel)
end
section
theorem d_S_init_0 : decode c_S_init 0 = .ok (.aload_n 0, 1) := by decide +kernel
theorem d_S_init_1 : decode c_S_init 1 = .ok (.invokespecial 3, 3) := by decide +kernel
theorem d_S_init_4 : decode c_S_init 4 = .ok (.aload_n 0, 1) := by decide +kernel
theorem d_S_init_5 : decode c_S_init 5 = .ok (.new 9, 3) := by decide +kernel
theorem d_S_init_8 : decode c_S_init 8 = .ok (.dup, 1) := by decide +kernel
theorem d_S_init_9 : decode c_S_init 9 = .ok (.invokespecial 11, 3) := by decide +kernel
theorem d_S_init_12 : decode c_S_init 12 = .ok (.putfield 12, 3) := by decide +kernel
theorem d_S_init_15 : decode c_S_init 15 = .ok (.aload_n 0, 1) := by decide +kernel
theorem d_S_init_16 : decode c_S_init 16 = .ok (.new 16, 3) := by decide +kernel
theorem d_S_init_19 : decode c_S_init 19 = .ok (.dup, 1) := by decide +kernel
theorem d_S_init_20 : decode c_S_init 20 = .ok (.aload_n 0, 1) := by decide +kernel
theorem d_S_init_21 : decode c_S_init 21 = .ok (.getfield 12, 3) := by decide +kernel
theorem d_S_init_24 : decode c_S_init 24 = .ok (.invokespecial 18, 3) := by decide +kernel
theorem d_S_init_27 : decode c_S_init 27 = .ok (.putfield 21, 3) := by decide +kernel
theorem d_S_init_30 : decode c_S_init 30 = .ok (.aload_n 0, 1) := by decide +kernel
theorem d_S_init_31 : decode c_S_init 31 = .ok (.new 25, 3) := by decide +kernel
theorem d_S_init_34 : decode c_S_init 34 = .ok (.dup, 1) := by decide +kernel
theorem d_S_init_35 : decode c_S_init 35 = .ok (.aload_n 0, 1) := by decide +kernel
theorem d_S_init_36 : decode c_S_init 36 = .ok (.getfield 12, 3) := by decide +kernel
theorem d_S_init_39 : decode c_S_init 39 = .ok (.aload_n 0, 1) := by decide +kernel
theorem d_S_init_40 : decode c_S_init 40 = .ok (.getfield 21, 3) := by decide +kernel
theorem d_S_init_43 : decode c_S_init 43 = .ok (.invokespecial 27, 3) := by decide +kernel
theorem d_S_init_46 : decode c_S_init 46 = .ok (.putfield 30, 3) := by decide +kernel
theorem d_S_init_49 : decode c_S_init 49 = .ok (.aload_n 0, 1) := by decide +kernel
theorem d_S_init_50 : decode c_S_init 50 = .ok (.new 34, 3) := by decide +kernel
theorem d_S_init_53 : decode c_S_init 53 = .ok (.dup, 1) := by decide +kernel
theorem d_S_init_54 : decode c_S_init 54 = .ok (.aload_n 0, 1) := by decide +kernel
theorem d_S_init_55 : decode c_S_init 55 = .ok (.getfield 12, 3) := by decide +kernel
theorem d_S_init_58 : decode c_S_init 58 = .ok (.aload_n 0, 1) := by decide +kernel
theorem d_S_init_59 : decode c_S_init 59 = .ok (.getfield 21, 3) := by decide +kernel
theorem d_S_init_62 : decode c_S_init 62 = .ok (.aload_n 0, 1) := by decide +kernel
theorem d_S_init_63 : decode c_S_init 63 = .ok (.getfield 30, 3) := by decide +kernel
theorem d_S_init_66 : decode c_S_init 66 = .ok (.invokespecial 36, 3) := by decide +kernel
theorem d_S_init_69 : decode c_S_init 69 = .ok (.putfield 39, 3) := by decide +kernel
theorem d_S_init_72 : decode c_S_init 72 = .ok (.return_, 1) := by decide +kernel
theorem d_S_person_0 : decode c_S_person 0 = .ok (.iload_n 1, 1) := by decide +kernel
theorem d_S_person_1 : decode c_S_person 1 = .ok (.iload_n 2, 1) := by decide +kernel
theorem d_S_person_2 : decode c_S_person 2 = .ok (.aload_n 0, 1) := by decide +kernel
theorem d_S_person_3 : decode c_S_person 3 = .ok (.getfield 12, 3) := by decide +kernel
theorem d_S_person_6 : decode c_S_person 6 = .ok (.getfield 43, 3) := by decide +kernel
theorem d_S_person_9 : decode c_S_person 9 = .ok (.invokestatic 47, 3) := by decide +kernel
theorem d_S_person_12 : decode c_S_person 12 = .ok (.aload_n 0, 1) := by decide +kernel
theorem d_S_person_13 : decode c_S_person 13 = .ok (.getfield 12, 3) := by decide +kernel
theorem d_S_person_16 : decode c_S_person 16 = .ok (.getfield 43, 3) := by decide +kernel
theorem d_S_person_19 : decode c_S_person 19 = .ok (.bipush 20, 2) := by decide +kernel
theorem d_S_person_21 : decode c_S_person 21 = .ok (.if_icmp .lt 13, 3) := by decide +kernel
theorem d_S_person_24 : decode c_S_person 24 = .ok (.new 51, 3) := by decide +kernel
theorem d_S_person_27 : decode c_S_person 27 = .ok (.dup, 1) := by decide +kernel
theorem d_S_person_28 : decode c_S_person 28 = .ok (.ldc 53, 2) := by decide +kernel
theorem d_S_person_30 : decode c_S_person 30 = .ok (.invokespecial 55, 3) := by decide +kernel
theorem d_S_person_33 : decode c_S_person 33 = .ok (.athrow, 1) := by decide +kernel
theorem d_S_person_34 : decode c_S_person 34 = .ok (.aload_n 0, 1) := by decide +kernel
theorem d_S_person_35 : decode c_S_person 35 = .ok (.getfield 12, 3) := by decide +kernel
theorem d_S_person_38 : decode c_S_person 38 = .ok (.iload_n 1, 1) := by decide +kernel
theorem d_S_person_39 : decode c_S_person 39 = .ok (.iload_n 2, 1) := by decide +kernel
theorem d_S_person_40 : decode c_S_person 40 = .ok (.invokevirtual 58, 3) := by decide +kernel
theorem d_S_person_43 : decode c_S_person 43 = .ok (.ireturn, 1) := by decide +kernel
theorem d_S_amend_0 : decode c_S_amend 0 = .ok (.aload_n 0, 1) := by decide +kernel
theorem d_S_amend_1 : decode c_S_amend 1 = .ok (.iload_n 1, 1) := by decide +kernel
theorem d_S_amend_2 : decode c_S_amend 2 = .ok (.invokevirtual 62, 3) := by decide +kernel
theorem d_S_amend_5 : decode c_S_amend 5 = .ok (.iload_n 2, 1) := by decide +kernel
theorem d_S_amend_6 : decode c_S_amend 6 = .ok (.iload_n 3, 1) := by decide +kernel
theorem d_S_amend_7 : decode c_S_amend 7 = .ok (.iload_n 1, 1) := by decide +kernel
theorem d_S_amend_8 : decode c_S_amend 8 = .ok (.invokestatic 47, 3) := by decide +kernel
theorem d_S_amend_11 : decode c_S_amend 11 = .ok (.aload_n 0, 1) := by decide +kernel
theorem d_S_amend_12 : decode c_S_amend 12 = .ok (.getfield 12, 3) := by decide +kernel
theorem d_S_amend_15 : decode c_S_amend 15 = .ok (.getfield 66, 3) := by decide +kernel
theorem d_S_amend_18 : decode c_S_amend 18 = .ok (.iload_n 1, 1) := by decide +kernel
theorem d_S_amend_19 : decode c_S_amend 19 = .ok (.iload_n 2, 1) := by decide +kernel
theorem d_S_amend_20 : decode c_S_amend 20 = .ok (.iastore, 1) := by decide +kernel
theorem d_S_amend_21 : decode c_S_amend 21 = .ok (.aload_n 0, 1) := by decide +kernel
theorem d_S_amend_22 : decode c_S_amend 22 = .ok (.getfield 12, 3) := by decide +kernel
theorem d_S_amend_25 : decode c_S_amend 25 = .ok (.getfield 70, 3) := by decide +kernel
theorem d_S_amend_28 : decode c_S_amend 28 = .ok (.iload_n 1, 1) := by decide +kernel
theorem d_S_amend_29 : decode c_S_amend 29 = .ok (.iload_n 3, 1) := by decide +kernel
theorem d_S_amend_30 : decode c_S_amend 30 = .ok (.iastore, 1) := by decide +kernel
theorem d_S_amend_31 : decode c_S_amend 31 = .ok (.return_, 1) := by decide +kernel
theorem d_S_marry_0 : decode c_S_marry 0 = .ok (.aload_n 0, 1) := by decide +kernel
theorem d_S_marry_1 : decode c_S_marry 1 = .ok (.iload_n 1, 1) := by decide +kernel
theorem d_S_marry_2 : decode c_S_marry 2 = .ok (.invokevirtual 62, 3) := by decide +kernel
theorem d_S_marry_5 : decode c_S_marry 5 = .ok (.aload_n 0, 1) := by decide +kernel
theorem d_S_marry_6 : decode c_S_marry 6 = .ok (.iload_n 2, 1) := by decide +kernel
theorem d_S_marry_7 : decode c_S_marry 7 = .ok (.invokevirtual 62, 3) := by decide +kernel
theorem d_S_marry_10 : decode c_S_marry 10 = .ok (.iload_n 1, 1) := by decide +kernel
theorem d_S_marry_11 : decode c_S_marry 11 = .ok (.iload_n 2, 1) := by decide +kernel
theorem d_S_marry_12 : decode c_S_marry 12 = .ok (.if_icmp .ne 13, 3) := by decide +kernel
theorem d_S_marry_15 : decode c_S_marry 15 = .ok (.new 73, 3) := by decide +kernel
theorem d_S_marry_18 : decode c_S_marry 18 = .ok (.dup, 1) := by decide +kernel
theorem d_S_marry_19 : decode c_S_marry 19 = .ok (.ldc 75, 2) := by decide +kernel
theorem d_S_marry_21 : decode c_S_marry 21 = .ok (.invokespecial 77, 3) := by decide +kernel
theorem d_S_marry_24 : decode c_S_marry 24 = .ok (.athrow, 1) := by decide +kernel
theorem d_S_marry_25 : decode c_S_marry 25 = .ok (.aload_n 0, 1) := by decide +kernel
theorem d_S_marry_26 : decode c_S_marry 26 = .ok (.getfield 12, 3) := by decide +kernel
theorem d_S_marry_29 : decode c_S_marry 29 = .ok (.iload_n 1, 1) := by decide +kernel
theorem d_S_marry_30 : decode c_S_marry 30 = .ok (.invokevirtual 78, 3) := by decide +kernel
theorem d_S_marry_33 : decode c_S_marry 33 = .ok (.ifCond .eq 14, 3) := by decide +kernel
theorem d_S_marry_36 : decode c_S_marry 36 = .ok (.aload_n 0, 1) := by decide +kernel
theorem d_S_marry_37 : decode c_S_marry 37 = .ok (.getfield 12, 3) := by decide +kernel
theorem d_S_marry_40 : decode c_S_marry 40 = .ok (.iload_n 2, 1) := by decide +kernel
theorem d_S_marry_41 : decode c_S_marry 41 = .ok (.invokevirtual 78, 3) := by decide +kernel
theorem d_S_marry_44 : decode c_S_marry 44 = .ok (.ifCond .ne 13, 3) := by decide +kernel
theorem d_S_marry_47 : decode c_S_marry 47 = .ok (.new 51, 3) := by decide +kernel
theorem d_S_marry_50 : decode c_S_marry 50 = .ok (.dup, 1) := by decide +kernel
theorem d_S_marry_51 : decode c_S_marry 51 = .ok (.ldc 82, 2) := by decide +kernel
theorem d_S_marry_53 : decode c_S_marry 53 = .ok (.invokespecial 55, 3) := by decide +kernel
theorem d_S_marry_56 : decode c_S_marry 56 = .ok (.athrow, 1) := by decide +kernel
theorem d_S_marry_57 : decode c_S_marry 57 = .ok (.aload_n 0, 1) := by decide +kernel
theorem d_S_marry_58 : decode c_S_marry 58 = .ok (.getfield 12, 3) := by decide +kernel
theorem d_S_marry_61 : decode c_S_marry 61 = .ok (.getfield 84, 3) := by decide +kernel
theorem d_S_marry_64 : decode c_S_marry 64 = .ok (.iload_n 1, 1) := by decide +kernel
theorem d_S_marry_65 : decode c_S_marry 65 = .ok (.iload_n 2, 1) := by decide +kernel
theorem d_S_marry_66 : decode c_S_marry 66 = .ok (.iastore, 1) := by decide +kernel
theorem d_S_marry_67 : decode c_S_marry 67 = .ok (.aload_n 0, 1) := by decide +kernel
theorem d_S_marry_68 : decode c_S_marry 68 = .ok (.getfield 12, 3) := by decide +kernel
theorem d_S_marry_71 : decode c_S_marry 71 = .ok (.getfield 84, 3) := by decide +kernel
theorem d_S_marry_74 : decode c_S_marry 74 = .ok (.iload_n 2, 1) := by decide +kernel
theorem d_S_marry_75 : decode c_S_marry 75 = .ok (.iload_n 1, 1) := by decide +kernel
theorem d_S_marry_76 : decode c_S_marry 76 = .ok (.iastore, 1) := by decide +kernel
theorem d_S_marry_77 : decode c_S_marry 77 = .ok (.return_, 1) := by decide +kernel
theorem d_S_divorce_0 : decode c_S_divorce 0 = .ok (.aload_n 0, 1) := by decide +kernel
theorem d_S_divorce_1 : decode c_S_divorce 1 = .ok (.iload_n 1, 1) := by decide +kernel
theorem d_S_divorce_2 : decode c_S_divorce 2 = .ok (.invokevirtual 62, 3) := by decide +kernel
theorem d_S_divorce_5 : decode c_S_divorce 5 = .ok (.aload_n 0, 1) := by decide +kernel
theorem d_S_divorce_6 : decode c_S_divorce 6 = .ok (.getfield 12, 3) := by decide +kernel
theorem d_S_divorce_9 : decode c_S_divorce 9 = .ok (.getfield 84, 3) := by decide +kernel
theorem d_S_divorce_12 : decode c_S_divorce 12 = .ok (.iload_n 1, 1) := by decide +kernel
theorem d_S_divorce_13 : decode c_S_divorce 13 = .ok (.iaload, 1) := by decide +kernel
theorem d_S_divorce_14 : decode c_S_divorce 14 = .ok (.istore_n 2, 1) := by decide +kernel
theorem d_S_divorce_15 : decode c_S_divorce 15 = .ok (.iload_n 2, 1) := by decide +kernel
theorem d_S_divorce_16 : decode c_S_divorce 16 = .ok (.iconst (-1), 1) := by decide +kernel
theorem d_S_divorce_17 : decode c_S_divorce 17 = .ok (.if_icmp .eq 25, 3) := by decide +kernel
theorem d_S_divorce_20 : decode c_S_divorce 20 = .ok (.aload_n 0, 1) := by decide +kernel
theorem d_S_divorce_21 : decode c_S_divorce 21 = .ok (.getfield 12, 3) := by decide +kernel
theorem d_S_divorce_24 : decode c_S_divorce 24 = .ok (.iload_n 1, 1) := by decide +kernel
theorem d_S_divorce_25 : decode c_S_divorce 25 = .ok (.invokevirtual 87, 3) := by decide +kernel
theorem d_S_divorce_28 : decode c_S_divorce 28 = .ok (.ifCond .ne 14, 3) := by decide +kernel
theorem d_S_divorce_31 : decode c_S_divorce 31 = .ok (.aload_n 0, 1) := by decide +kernel
theorem d_S_divorce_32 : decode c_S_divorce 32 = .ok (.getfield 12, 3) := by decide +kernel
theorem d_S_divorce_35 : decode c_S_divorce 35 = .ok (.iload_n 2, 1) := by decide +kernel
theorem d_S_divorce_36 : decode c_S_divorce 36 = .ok (.invokevirtual 87, 3) := by decide +kernel
theorem d_S_divorce_39 : decode c_S_divorce 39 = .ok (.ifCond .eq 5, 3) := by decide +kernel
theorem d_S_divorce_42 : decode c_S_divorce 42 = .ok (.iconst 0, 1) := by decide +kernel
theorem d_S_divorce_43 : decode c_S_divorce 43 = .ok (.ireturn, 1) := by decide +kernel
theorem d_S_divorce_44 : decode c_S_divorce 44 = .ok (.aload_n 0, 1) := by decide +kernel
theorem d_S_divorce_45 : decode c_S_divorce 45 = .ok (.getfield 12, 3) := by decide +kernel
theorem d_S_divorce_48 : decode c_S_divorce 48 = .ok (.getfield 84, 3) := by decide +kernel
theorem d_S_divorce_51 : decode c_S_divorce 51 = .ok (.iload_n 1, 1) := by decide +kernel
theorem d_S_divorce_52 : decode c_S_divorce 52 = .ok (.iconst (-1), 1) := by decide +kernel
theorem d_S_divorce_53 : decode c_S_divorce 53 = .ok (.iastore, 1) := by decide +kernel
theorem d_S_divorce_54 : decode c_S_divorce 54 = .ok (.aload_n 0, 1) := by decide +kernel
theorem d_S_divorce_55 : decode c_S_divorce 55 = .ok (.getfield 12, 3) := by decide +kernel
theorem d_S_divorce_58 : decode c_S_divorce 58 = .ok (.getfield 84, 3) := by decide +kernel
theorem d_S_divorce_61 : decode c_S_divorce 61 = .ok (.iload_n 2, 1) := by decide +kernel
theorem d_S_divorce_62 : decode c_S_divorce 62 = .ok (.iconst (-1), 1) := by decide +kernel
theorem d_S_divorce_63 : decode c_S_divorce 63 = .ok (.iastore, 1) := by decide +kernel
theorem d_S_divorce_64 : decode c_S_divorce 64 = .ok (.iconst 1, 1) := by decide +kernel
theorem d_S_divorce_65 : decode c_S_divorce 65 = .ok (.ireturn, 1) := by decide +kernel
theorem d_S_spouse_0 : decode c_S_spouse 0 = .ok (.aload_n 0, 1) := by decide +kernel
theorem d_S_spouse_1 : decode c_S_spouse 1 = .ok (.iload_n 1, 1) := by decide +kernel
theorem d_S_spouse_2 : decode c_S_spouse 2 = .ok (.invokevirtual 62, 3) := by decide +kernel
theorem d_S_spouse_5 : decode c_S_spouse 5 = .ok (.aload_n 0, 1) := by decide +kernel
theorem d_S_spouse_6 : decode c_S_spouse 6 = .ok (.getfield 12, 3) := by decide +kernel
theorem d_S_spouse_9 : decode c_S_spouse 9 = .ok (.getfield 84, 3) := by decide +kernel
theorem d_S_spouse_12 : decode c_S_spouse 12 = .ok (.iload_n 1, 1) := by decide +kernel
theorem d_S_spouse_13 : decode c_S_spouse 13 = .ok (.iaload, 1) := by decide +kernel
theorem d_S_spouse_14 : decode c_S_spouse 14 = .ok (.ireturn, 1) := by decide +kernel
theorem d_S_dies_0 : decode c_S_dies 0 = .ok (.aload_n 0, 1) := by decide +kernel
theorem d_S_dies_1 : decode c_S_dies 1 = .ok (.iload_n 1, 1) := by decide +kernel
theorem d_S_dies_2 : decode c_S_dies 2 = .ok (.invokevirtual 62, 3) := by decide +kernel
theorem d_S_dies_5 : decode c_S_dies 5 = .ok (.iload_n 2, 1) := by decide +kernel
theorem d_S_dies_6 : decode c_S_dies 6 = .ok (.ifCond .lt 10, 3) := by decide +kernel
theorem d_S_dies_9 : decode c_S_dies 9 = .ok (.iload_n 2, 1) := by decide +kernel
theorem d_S_dies_10 : decode c_S_dies 10 = .ok (.sipush 999, 3) := by decide +kernel
theorem d_S_dies_13 : decode c_S_dies 13 = .ok (.if_icmp .le 13, 3) := by decide +kernel
theorem d_S_dies_16 : decode c_S_dies 16 = .ok (.new 73, 3) := by decide +kernel
theorem d_S_dies_19 : decode c_S_dies 19 = .ok (.dup, 1) := by decide +kernel
theorem d_S_dies_20 : decode c_S_dies 20 = .ok (.ldc 90, 2) := by decide +kernel
theorem d_S_dies_22 : decode c_S_dies 22 = .ok (.invokespecial 77, 3) := by decide +kernel
theorem d_S_dies_25 : decode c_S_dies 25 = .ok (.athrow, 1) := by decide +kernel
theorem d_S_dies_26 : decode c_S_dies 26 = .ok (.aload_n 0, 1) := by decide +kernel
theorem d_S_dies_27 : decode c_S_dies 27 = .ok (.getfield 12, 3) := by decide +kernel
theorem d_S_dies_30 : decode c_S_dies 30 = .ok (.iload_n 1, 1) := by decide +kernel
theorem d_S_dies_31 : decode c_S_dies 31 = .ok (.invokevirtual 87, 3) := by decide +kernel
theorem d_S_dies_34 : decode c_S_dies 34 = .ok (.ifCond .eq 13, 3) := by decide +kernel
theorem d_S_dies_37 : decode c_S_dies 37 = .ok (.new 51, 3) := by decide +kernel
theorem d_S_dies_40 : decode c_S_dies 40 = .ok (.dup, 1) := by decide +kernel
theorem d_S_dies_41 : decode c_S_dies 41 = .ok (.ldc 92, 2) := by decide +kernel
theorem d_S_dies_43 : decode c_S_dies 43 = .ok (.invokespecial 55, 3) := by decide +kernel
theorem d_S_dies_46 : decode c_S_dies 46 = .ok (.athrow, 1) := by decide +kernel
theorem d_S_dies_47 : decode c_S_dies 47 = .ok (.aload_n 0, 1) := by decide +kernel
theorem d_S_dies_48 : decode c_S_dies 48 = .ok (.getfield 12, 3) := by decide +kernel
theorem d_S_dies_51 : decode c_S_dies 51 = .ok (.getfield 94, 3) := by decide +kernel
theorem d_S_dies_54 : decode c_S_dies 54 = .ok (.iload_n 1, 1) := by decide +kernel
theorem d_S_dies_55 : decode c_S_dies 55 = .ok (.iload_n 2, 1) := by decide +kernel
theorem d_S_dies_56 : decode c_S_dies 56 = .ok (.iastore, 1) := by decide +kernel
theorem d_S_dies_57 : decode c_S_dies 57 = .ok (.return_, 1) := by decide +kernel
theorem d_S_exclude_0 : decode c_S_exclude 0 = .ok (.aload_n 0, 1) := by decide +kernel
theorem d_S_exclude_1 : decode c_S_exclude 1 = .ok (.iload_n 1, 1) := by decide +kernel
theorem d_S_exclude_2 : decode c_S_exclude 2 = .ok (.invokevirtual 62, 3) := by decide +kernel
theorem d_S_exclude_5 : decode c_S_exclude 5 = .ok (.aload_n 0, 1) := by decide +kernel
theorem d_S_exclude_6 : decode c_S_exclude 6 = .ok (.iload_n 2, 1) := by decide +kernel
theorem d_S_exclude_7 : decode c_S_exclude 7 = .ok (.invokevirtual 62, 3) := by decide +kernel
theorem d_S_exclude_10 : decode c_S_exclude 10 = .ok (.aload_n 0, 1) := by decide +kernel
theorem d_S_exclude_11 : decode c_S_exclude 11 = .ok (.getfield 12, 3) := by decide +kernel
theorem d_S_exclude_14 : decode c_S_exclude 14 = .ok (.iload_n 1, 1) := by decide +kernel
theorem d_S_exclude_15 : decode c_S_exclude 15 = .ok (.iload_n 2, 1) := by decide +kernel
theorem d_S_exclude_16 : decode c_S_exclude 16 = .ok (.invokevirtual 97, 3) := by decide +kernel
theorem d_S_exclude_19 : decode c_S_exclude 19 = .ok (.iload_n 3, 1) := by decide +kernel
theorem d_S_exclude_20 : decode c_S_exclude 20 = .ok (.if_icmp .ne 5, 3) := by decide +kernel
theorem d_S_exclude_23 : decode c_S_exclude 23 = .ok (.iconst 0, 1) := by decide +kernel
theorem d_S_exclude_24 : decode c_S_exclude 24 = .ok (.ireturn, 1) := by decide +kernel
theorem d_S_exclude_25 : decode c_S_exclude 25 = .ok (.aload_n 0, 1) := by decide +kernel
theorem d_S_exclude_26 : decode c_S_exclude 26 = .ok (.getfield 12, 3) := by decide +kernel
theorem d_S_exclude_29 : decode c_S_exclude 29 = .ok (.iload_n 1, 1) := by decide +kernel
theorem d_S_exclude_30 : decode c_S_exclude 30 = .ok (.iload_n 2, 1) := by decide +kernel
theorem d_S_exclude_31 : decode c_S_exclude 31 = .ok (.iload_n 3, 1) := by decide +kernel
theorem d_S_exclude_32 : decode c_S_exclude 32 = .ok (.invokevirtual 101, 3) := by decide +kernel
theorem d_S_exclude_35 : decode c_S_exclude 35 = .ok (.iconst 1, 1) := by decide +kernel
theorem d_S_exclude_36 : decode c_S_exclude 36 = .ok (.ireturn, 1) := by decide +kernel
theorem d_S_gift_0 : decode c_S_gift 0 = .ok (.aload_n 0, 1) := by decide +kernel
theorem d_S_gift_1 : decode c_S_gift 1 = .ok (.iload_n 1, 1) := by decide +kernel
theorem d_S_gift_2 : decode c_S_gift 2 = .ok (.invokevirtual 62, 3) := by decide +kernel
theorem d_S_gift_5 : decode c_S_gift 5 = .ok (.aload_n 0, 1) := by decide +kernel
theorem d_S_gift_6 : decode c_S_gift 6 = .ok (.iload_n 2, 1) := by decide +kernel
theorem d_S_gift_7 : decode c_S_gift 7 = .ok (.invokevirtual 62, 3) := by decide +kernel
theorem d_S_gift_10 : decode c_S_gift 10 = .ok (.aload_n 0, 1) := by decide +kernel
theorem d_S_gift_11 : decode c_S_gift 11 = .ok (.getfield 12, 3) := by decide +kernel
theorem d_S_gift_14 : decode c_S_gift 14 = .ok (.iload_n 1, 1) := by decide +kernel
theorem d_S_gift_15 : decode c_S_gift 15 = .ok (.iload_n 2, 1) := by decide +kernel
theorem d_S_gift_16 : decode c_S_gift 16 = .ok (.invokevirtual 105, 3) := by decide +kernel
theorem d_S_gift_19 : decode c_S_gift 19 = .ok (.ifCond .ne 13, 3) := by decide +kernel
theorem d_S_gift_22 : decode c_S_gift 22 = .ok (.new 73, 3) := by decide +kernel
theorem d_S_gift_25 : decode c_S_gift 25 = .ok (.dup, 1) := by decide +kernel
theorem d_S_gift_26 : decode c_S_gift 26 = .ok (.ldc 108, 2) := by decide +kernel
theorem d_S_gift_28 : decode c_S_gift 28 = .ok (.invokespecial 77, 3) := by decide +kernel
theorem d_S_gift_31 : decode c_S_gift 31 = .ok (.athrow, 1) := by decide +kernel
theorem d_S_gift_32 : decode c_S_gift 32 = .ok (.iload_n 3, 1) := by decide +kernel
theorem d_S_gift_33 : decode c_S_gift 33 = .ok (.iconst 1, 1) := by decide +kernel
theorem d_S_gift_34 : decode c_S_gift 34 = .ok (.if_icmp .lt 9, 3) := by decide +kernel
theorem d_S_gift_37 : decode c_S_gift 37 = .ok (.iload_n 3, 1) := by decide +kernel
theorem d_S_gift_38 : decode c_S_gift 38 = .ok (.ldc 110, 2) := by decide +kernel
theorem d_S_gift_40 : decode c_S_gift 40 = .ok (.if_icmp .le 13, 3) := by decide +kernel
theorem d_S_gift_43 : decode c_S_gift 43 = .ok (.new 73, 3) := by decide +kernel
theorem d_S_gift_46 : decode c_S_gift 46 = .ok (.dup, 1) := by decide +kernel
theorem d_S_gift_47 : decode c_S_gift 47 = .ok (.ldc 111, 2) := by decide +kernel
theorem d_S_gift_49 : decode c_S_gift 49 = .ok (.invokespecial 77, 3) := by decide +kernel
theorem d_S_gift_52 : decode c_S_gift 52 = .ok (.athrow, 1) := by decide +kernel
theorem d_S_gift_53 : decode c_S_gift 53 = .ok (.aload_n 0, 1) := by decide +kernel
theorem d_S_gift_54 : decode c_S_gift 54 = .ok (.getfield 12, 3) := by decide +kernel
theorem d_S_gift_57 : decode c_S_gift 57 = .ok (.getfield 113, 3) := by decide +kernel
theorem d_S_gift_60 : decode c_S_gift 60 = .ok (.iload_n 1, 1) := by decide +kernel
theorem d_S_gift_61 : decode c_S_gift 61 = .ok (.aaload, 1) := by decide +kernel
theorem d_S_gift_62 : decode c_S_gift 62 = .ok (.iload_n 2, 1) := by decide +kernel
theorem d_S_gift_63 : decode c_S_gift 63 = .ok (.iaload, 1) := by decide +kernel
theorem d_S_gift_64 : decode c_S_gift 64 = .ok (.iload_n 3, 1) := by decide +kernel
theorem d_S_gift_65 : decode c_S_gift 65 = .ok (.iadd, 1) := by decide +kernel
theorem d_S_gift_66 : decode c_S_gift 66 = .ok (.istore 4, 2) := by decide +kernel
theorem d_S_gift_68 : decode c_S_gift 68 = .ok (.iload 4, 2) := by decide +kernel
theorem d_S_gift_70 : decode c_S_gift 70 = .ok (.ldc 110, 2) := by decide +kernel
theorem d_S_gift_72 : decode c_S_gift 72 = .ok (.if_icmp .le 13, 3) := by decide +kernel
theorem d_S_gift_75 : decode c_S_gift 75 = .ok (.new 51, 3) := by decide +kernel
theorem d_S_gift_78 : decode c_S_gift 78 = .ok (.dup, 1) := by decide +kernel
theorem d_S_gift_79 : decode c_S_gift 79 = .ok (.ldc 117, 2) := by decide +kernel
theorem d_S_gift_81 : decode c_S_gift 81 = .ok (.invokespecial 55, 3) := by decide +kernel
theorem d_S_gift_84 : decode c_S_gift 84 = .ok (.athrow, 1) := by decide +kernel
theorem d_S_gift_85 : decode c_S_gift 85 = .ok (.aload_n 0, 1) := by decide +kernel
theorem d_S_gift_86 : decode c_S_gift 86 = .ok (.getfield 12, 3) := by decide +kernel
theorem d_S_gift_89 : decode c_S_gift 89 = .ok (.getfield 113, 3) := by decide +kernel
theorem d_S_gift_92 : decode c_S_gift 92 = .ok (.iload_n 1, 1) := by decide +kernel
theorem d_S_gift_93 : decode c_S_gift 93 = .ok (.aaload, 1) := by decide +kernel
theorem d_S_gift_94 : decode c_S_gift 94 = .ok (.iload_n 2, 1) := by decide +kernel
theorem d_S_gift_95 : decode c_S_gift 95 = .ok (.iload 4, 2) := by decide +kernel
theorem d_S_gift_97 : decode c_S_gift 97 = .ok (.iastore, 1) := by decide +kernel
theorem d_S_gift_98 : decode c_S_gift 98 = .ok (.iload 4, 2) := by decide +kernel
theorem d_S_gift_100 : decode c_S_gift 100 = .ok (.ireturn, 1) := by decide +kernel
theorem d_S_estate_0 : decode c_S_estate 0 = .ok (.aload_n 0, 1) := by decide +kernel
theorem d_S_estate_1 : decode c_S_estate 1 = .ok (.iload_n 1, 1) := by decide +kernel
theorem d_S_estate_2 : decode c_S_estate 2 = .ok (.invokevirtual 62, 3) := by decide +kernel
theorem d_S_estate_5 : decode c_S_estate 5 = .ok (.iload_n 2, 1) := by decide +kernel
theorem d_S_estate_6 : decode c_S_estate 6 = .ok (.ifCond .lt 9, 3) := by decide +kernel
theorem d_S_estate_9 : decode c_S_estate 9 = .ok (.iload_n 2, 1) := by decide +kernel
theorem d_S_estate_10 : decode c_S_estate 10 = .ok (.ldc 110, 2) := by decide +kernel
theorem d_S_estate_12 : decode c_S_estate 12 = .ok (.if_icmp .le 13, 3) := by decide +kernel
theorem d_S_estate_15 : decode c_S_estate 15 = .ok (.new 73, 3) := by decide +kernel
theorem d_S_estate_18 : decode c_S_estate 18 = .ok (.dup, 1) := by decide +kernel
theorem d_S_estate_19 : decode c_S_estate 19 = .ok (.ldc 119, 2) := by decide +kernel
theorem d_S_estate_21 : decode c_S_estate 21 = .ok (.invokespecial 77, 3) := by decide +kernel
theorem d_S_estate_24 : decode c_S_estate 24 = .ok (.athrow, 1) := by decide +kernel
theorem d_S_estate_25 : decode c_S_estate 25 = .ok (.aload_n 0, 1) := by decide +kernel
theorem d_S_estate_26 : decode c_S_estate 26 = .ok (.getfield 12, 3) := by decide +kernel
theorem d_S_estate_29 : decode c_S_estate 29 = .ok (.getfield 121, 3) := by decide +kernel
theorem d_S_estate_32 : decode c_S_estate 32 = .ok (.iload_n 1, 1) := by decide +kernel
theorem d_S_estate_33 : decode c_S_estate 33 = .ok (.iload_n 2, 1) := by decide +kernel
theorem d_S_estate_34 : decode c_S_estate 34 = .ok (.iastore, 1) := by decide +kernel
theorem d_S_estate_35 : decode c_S_estate 35 = .ok (.return_, 1) := by decide +kernel
theorem d_S_heirs_0 : decode c_S_heirs 0 = .ok (.aload_n 0, 1) := by decide +kernel
theorem d_S_heirs_1 : decode c_S_heirs 1 = .ok (.iload_n 1, 1) := by decide +kernel
theorem d_S_heirs_2 : decode c_S_heirs 2 = .ok (.invokevirtual 62, 3) := by decide +kernel
theorem d_S_heirs_5 : decode c_S_heirs 5 = .ok (.aload_n 0, 1) := by decide +kernel
theorem d_S_heirs_6 : decode c_S_heirs 6 = .ok (.iload_n 1, 1) := by decide +kernel
theorem d_S_heirs_7 : decode c_S_heirs 7 = .ok (.invokevirtual 124, 3) := by decide +kernel
theorem d_S_heirs_10 : decode c_S_heirs 10 = .ok (.aload_n 0, 1) := by decide +kernel
theorem d_S_heirs_11 : decode c_S_heirs 11 = .ok (.getfield 21, 3) := by decide +kernel
theorem d_S_heirs_14 : decode c_S_heirs 14 = .ok (.iload_n 1, 1) := by decide +kernel
theorem d_S_heirs_15 : decode c_S_heirs 15 = .ok (.invokevirtual 127, 3) := by decide +kernel
theorem d_S_heirs_18 : decode c_S_heirs 18 = .ok (.aload_n 0, 1) := by decide +kernel
theorem d_S_heirs_19 : decode c_S_heirs 19 = .ok (.getfield 30, 3) := by decide +kernel
theorem d_S_heirs_22 : decode c_S_heirs 22 = .ok (.lconst 1, 1) := by decide +kernel
theorem d_S_heirs_23 : decode c_S_heirs 23 = .ok (.invokevirtual 130, 3) := by decide +kernel
theorem d_S_heirs_26 : decode c_S_heirs 26 = .ok (.aload_n 0, 1) := by decide +kernel
theorem d_S_heirs_27 : decode c_S_heirs 27 = .ok (.getfield 30, 3) := by decide +kernel
theorem d_S_heirs_30 : decode c_S_heirs 30 = .ok (.invokevirtual 134, 3) := by decide +kernel
theorem d_S_heirs_33 : decode c_S_heirs 33 = .ok (.ireturn, 1) := by decide +kernel
theorem d_S_heir_0 : decode c_S_heir 0 = .ok (.aload_n 0, 1) := by decide +kernel
theorem d_S_heir_1 : decode c_S_heir 1 = .ok (.iload_n 1, 1) := by decide +kernel
theorem d_S_heir_2 : decode c_S_heir 2 = .ok (.invokevirtual 62, 3) := by decide +kernel
theorem d_S_heir_5 : decode c_S_heir 5 = .ok (.aload_n 0, 1) := by decide +kernel
theorem d_S_heir_6 : decode c_S_heir 6 = .ok (.iload_n 1, 1) := by decide +kernel
theorem d_S_heir_7 : decode c_S_heir 7 = .ok (.invokevirtual 124, 3) := by decide +kernel
theorem d_S_heir_10 : decode c_S_heir 10 = .ok (.aload_n 0, 1) := by decide +kernel
theorem d_S_heir_11 : decode c_S_heir 11 = .ok (.getfield 21, 3) := by decide +kernel
theorem d_S_heir_14 : decode c_S_heir 14 = .ok (.iload_n 1, 1) := by decide +kernel
theorem d_S_heir_15 : decode c_S_heir 15 = .ok (.invokevirtual 127, 3) := by decide +kernel
theorem d_S_heir_18 : decode c_S_heir 18 = .ok (.aload_n 0, 1) := by decide +kernel
theorem d_S_heir_19 : decode c_S_heir 19 = .ok (.getfield 30, 3) := by decide +kernel
theorem d_S_heir_22 : decode c_S_heir 22 = .ok (.lconst 1, 1) := by decide +kernel
theorem d_S_heir_23 : decode c_S_heir 23 = .ok (.invokevirtual 130, 3) := by decide +kernel
theorem d_S_heir_26 : decode c_S_heir 26 = .ok (.aload_n 0, 1) := by decide +kernel
theorem d_S_heir_27 : decode c_S_heir 27 = .ok (.getfield 30, 3) := by decide +kernel
theorem d_S_heir_30 : decode c_S_heir 30 = .ok (.iload_n 2, 1) := by decide +kernel
theorem d_S_heir_31 : decode c_S_heir 31 = .ok (.invokevirtual 138, 3) := by decide +kernel
theorem d_S_heir_34 : decode c_S_heir 34 = .ok (.ireturn, 1) := by decide +kernel
theorem d_S_share_0 : decode c_S_share 0 = .ok (.aload_n 0, 1) := by decide +kernel
theorem d_S_share_1 : decode c_S_share 1 = .ok (.iload_n 1, 1) := by decide +kernel
theorem d_S_share_2 : decode c_S_share 2 = .ok (.invokevirtual 62, 3) := by decide +kernel
theorem d_S_share_5 : decode c_S_share 5 = .ok (.aload_n 0, 1) := by decide +kernel
theorem d_S_share_6 : decode c_S_share 6 = .ok (.iload_n 2, 1) := by decide +kernel
theorem d_S_share_7 : decode c_S_share 7 = .ok (.invokevirtual 62, 3) := by decide +kernel
theorem d_S_share_10 : decode c_S_share 10 = .ok (.aload_n 0, 1) := by decide +kernel
theorem d_S_share_11 : decode c_S_share 11 = .ok (.iload_n 1, 1) := by decide +kernel
theorem d_S_share_12 : decode c_S_share 12 = .ok (.invokevirtual 124, 3) := by decide +kernel
theorem d_S_share_15 : decode c_S_share 15 = .ok (.aload_n 0, 1) := by decide +kernel
theorem d_S_share_16 : decode c_S_share 16 = .ok (.getfield 21, 3) := by decide +kernel
theorem d_S_share_19 : decode c_S_share 19 = .ok (.iload_n 1, 1) := by decide +kernel
theorem d_S_share_20 : decode c_S_share 20 = .ok (.invokevirtual 127, 3) := by decide +kernel
theorem d_S_share_23 : decode c_S_share 23 = .ok (.aload_n 0, 1) := by decide +kernel
theorem d_S_share_24 : decode c_S_share 24 = .ok (.getfield 30, 3) := by decide +kernel
theorem d_S_share_27 : decode c_S_share 27 = .ok (.lconst 1, 1) := by decide +kernel
theorem d_S_share_28 : decode c_S_share 28 = .ok (.invokevirtual 130, 3) := by decide +kernel
theorem d_S_share_31 : decode c_S_share 31 = .ok (.aload_n 0, 1) := by decide +kernel
theorem d_S_share_32 : decode c_S_share 32 = .ok (.getfield 30, 3) := by decide +kernel
theorem d_S_share_35 : decode c_S_share 35 = .ok (.iload_n 2, 1) := by decide +kernel
theorem d_S_share_36 : decode c_S_share 36 = .ok (.invokevirtual 142, 3) := by decide +kernel
theorem d_S_share_39 : decode c_S_share 39 = .ok (.lreturn, 1) := by decide +kernel
theorem d_S_order_0 : decode c_S_order 0 = .ok (.aload_n 0, 1) := by decide +kernel
theorem d_S_order_1 : decode c_S_order 1 = .ok (.iload_n 1, 1) := by decide +kernel
theorem d_S_order_2 : decode c_S_order 2 = .ok (.invokevirtual 62, 3) := by decide +kernel
theorem d_S_order_5 : decode c_S_order 5 = .ok (.aload_n 0, 1) := by decide +kernel
theorem d_S_order_6 : decode c_S_order 6 = .ok (.iload_n 1, 1) := by decide +kernel
theorem d_S_order_7 : decode c_S_order 7 = .ok (.invokevirtual 124, 3) := by decide +kernel
theorem d_S_order_10 : decode c_S_order 10 = .ok (.aload_n 0, 1) := by decide +kernel
theorem d_S_order_11 : decode c_S_order 11 = .ok (.getfield 21, 3) := by decide +kernel
theorem d_S_order_14 : decode c_S_order 14 = .ok (.iload_n 1, 1) := by decide +kernel
theorem d_S_order_15 : decode c_S_order 15 = .ok (.invokevirtual 127, 3) := by decide +kernel
theorem d_S_order_18 : decode c_S_order 18 = .ok (.aload_n 0, 1) := by decide +kernel
theorem d_S_order_19 : decode c_S_order 19 = .ok (.getfield 21, 3) := by decide +kernel
theorem d_S_order_22 : decode c_S_order 22 = .ok (.getfield 146, 3) := by decide +kernel
theorem d_S_order_25 : decode c_S_order 25 = .ok (.ireturn, 1) := by decide +kernel
theorem d_S_stem_0 : decode c_S_stem 0 = .ok (.aload_n 0, 1) := by decide +kernel
theorem d_S_stem_1 : decode c_S_stem 1 = .ok (.iload_n 1, 1) := by decide +kernel
theorem d_S_stem_2 : decode c_S_stem 2 = .ok (.invokevirtual 62, 3) := by decide +kernel
theorem d_S_stem_5 : decode c_S_stem 5 = .ok (.aload_n 0, 1) := by decide +kernel
theorem d_S_stem_6 : decode c_S_stem 6 = .ok (.iload_n 2, 1) := by decide +kernel
theorem d_S_stem_7 : decode c_S_stem 7 = .ok (.invokevirtual 62, 3) := by decide +kernel
theorem d_S_stem_10 : decode c_S_stem 10 = .ok (.aload_n 0, 1) := by decide +kernel
theorem d_S_stem_11 : decode c_S_stem 11 = .ok (.iload_n 1, 1) := by decide +kernel
theorem d_S_stem_12 : decode c_S_stem 12 = .ok (.invokevirtual 124, 3) := by decide +kernel
theorem d_S_stem_15 : decode c_S_stem 15 = .ok (.aload_n 0, 1) := by decide +kernel
theorem d_S_stem_16 : decode c_S_stem 16 = .ok (.getfield 21, 3) := by decide +kernel
theorem d_S_stem_19 : decode c_S_stem 19 = .ok (.iload_n 1, 1) := by decide +kernel
theorem d_S_stem_20 : decode c_S_stem 20 = .ok (.invokevirtual 127, 3) := by decide +kernel
theorem d_S_stem_23 : decode c_S_stem 23 = .ok (.aload_n 0, 1) := by decide +kernel
theorem d_S_stem_24 : decode c_S_stem 24 = .ok (.getfield 21, 3) := by decide +kernel
theorem d_S_stem_27 : decode c_S_stem 27 = .ok (.iload_n 2, 1) := by decide +kernel
theorem d_S_stem_28 : decode c_S_stem 28 = .ok (.invokevirtual 149, 3) := by decide +kernel
theorem d_S_stem_31 : decode c_S_stem 31 = .ok (.ireturn, 1) := by decide +kernel
theorem d_S_settle_0 : decode c_S_settle 0 = .ok (.aload_n 0, 1) := by decide +kernel
theorem d_S_settle_1 : decode c_S_settle 1 = .ok (.getfield 39, 3) := by decide +kernel
theorem d_S_settle_4 : decode c_S_settle 4 = .ok (.invokevirtual 152, 3) := by decide +kernel
theorem d_S_settle_7 : decode c_S_settle 7 = .ok (.ireturn, 1) := by decide +kernel
theorem d_S_paid_0 : decode c_S_paid 0 = .ok (.aload_n 0, 1) := by decide +kernel
theorem d_S_paid_1 : decode c_S_paid 1 = .ok (.iload_n 1, 1) := by decide +kernel
theorem d_S_paid_2 : decode c_S_paid 2 = .ok (.invokevirtual 62, 3) := by decide +kernel
theorem d_S_paid_5 : decode c_S_paid 5 = .ok (.aload_n 0, 1) := by decide +kernel
theorem d_S_paid_6 : decode c_S_paid 6 = .ok (.getfield 39, 3) := by decide +kernel
theorem d_S_paid_9 : decode c_S_paid 9 = .ok (.getfield 155, 3) := by decide +kernel
theorem d_S_paid_12 : decode c_S_paid 12 = .ok (.iload_n 1, 1) := by decide +kernel
theorem d_S_paid_13 : decode c_S_paid 13 = .ok (.aaload, 1) := by decide +kernel
theorem d_S_paid_14 : decode c_S_paid 14 = .ok (.aload_n 0, 1) := by decide +kernel
theorem d_S_paid_15 : decode c_S_paid 15 = .ok (.iload_n 2, 1) := by decide +kernel
theorem d_S_paid_16 : decode c_S_paid 16 = .ok (.invokevirtual 159, 3) := by decide +kernel
theorem d_S_paid_19 : decode c_S_paid 19 = .ok (.laload, 1) := by decide +kernel
theorem d_S_paid_20 : decode c_S_paid 20 = .ok (.lreturn, 1) := by decide +kernel
theorem d_S_total_0 : decode c_S_total 0 = .ok (.aload_n 0, 1) := by decide +kernel
theorem d_S_total_1 : decode c_S_total 1 = .ok (.iload_n 1, 1) := by decide +kernel
theorem d_S_total_2 : decode c_S_total 2 = .ok (.invokevirtual 62, 3) := by decide +kernel
theorem d_S_total_5 : decode c_S_total 5 = .ok (.aload_n 0, 1) := by decide +kernel
theorem d_S_total_6 : decode c_S_total 6 = .ok (.getfield 39, 3) := by decide +kernel
theorem d_S_total_9 : decode c_S_total 9 = .ok (.getfield 162, 3) := by decide +kernel
theorem d_S_total_12 : decode c_S_total 12 = .ok (.iload_n 1, 1) := by decide +kernel
theorem d_S_total_13 : decode c_S_total 13 = .ok (.laload, 1) := by decide +kernel
theorem d_S_total_14 : decode c_S_total 14 = .ok (.lreturn, 1) := by decide +kernel
theorem d_S_got_0 : decode c_S_got 0 = .ok (.aload_n 0, 1) := by decide +kernel
theorem d_S_got_1 : decode c_S_got 1 = .ok (.getfield 39, 3) := by decide +kernel
theorem d_S_got_4 : decode c_S_got 4 = .ok (.getfield 166, 3) := by decide +kernel
theorem d_S_got_7 : decode c_S_got 7 = .ok (.aload_n 0, 1) := by decide +kernel
theorem d_S_got_8 : decode c_S_got 8 = .ok (.iload_n 1, 1) := by decide +kernel
theorem d_S_got_9 : decode c_S_got 9 = .ok (.invokevirtual 159, 3) := by decide +kernel
theorem d_S_got_12 : decode c_S_got 12 = .ok (.laload, 1) := by decide +kernel
theorem d_S_got_13 : decode c_S_got 13 = .ok (.lreturn, 1) := by decide +kernel
theorem d_S_requirePerson_0 : decode c_S_requirePerson 0 = .ok (.iload_n 1, 1) := by decide +kernel
theorem d_S_requirePerson_1 : decode c_S_requirePerson 1 = .ok (.ifCond .lt 14, 3) := by decide +kernel
theorem d_S_requirePerson_4 : decode c_S_requirePerson 4 = .ok (.iload_n 1, 1) := by decide +kernel
theorem d_S_requirePerson_5 : decode c_S_requirePerson 5 = .ok (.aload_n 0, 1) := by decide +kernel
theorem d_S_requirePerson_6 : decode c_S_requirePerson 6 = .ok (.getfield 12, 3) := by decide +kernel
theorem d_S_requirePerson_9 : decode c_S_requirePerson 9 = .ok (.getfield 43, 3) := by decide +kernel
theorem d_S_requirePerson_12 : decode c_S_requirePerson 12 = .ok (.if_icmp .lt 13, 3) := by decide +kernel
theorem d_S_requirePerson_15 : decode c_S_requirePerson 15 = .ok (.new 73, 3) := by decide +kernel
theorem d_S_requirePerson_18 : decode c_S_requirePerson 18 = .ok (.dup, 1) := by decide +kernel
theorem d_S_requirePerson_19 : decode c_S_requirePerson 19 = .ok (.ldc 169, 2) := by decide +kernel
theorem d_S_requirePerson_21 : decode c_S_requirePerson 21 = .ok (.invokespecial 77, 3) := by decide +kernel
theorem d_S_requirePerson_24 : decode c_S_requirePerson 24 = .ok (.athrow, 1) := by decide +kernel
theorem d_S_requirePerson_25 : decode c_S_requirePerson 25 = .ok (.return_, 1) := by decide +kernel
theorem d_S_requireDead_0 : decode c_S_requireDead 0 = .ok (.aload_n 0, 1) := by decide +kernel
theorem d_S_requireDead_1 : decode c_S_requireDead 1 = .ok (.getfield 12, 3) := by decide +kernel
theorem d_S_requireDead_4 : decode c_S_requireDead 4 = .ok (.iload_n 1, 1) := by decide +kernel
theorem d_S_requireDead_5 : decode c_S_requireDead 5 = .ok (.invokevirtual 87, 3) := by decide +kernel
theorem d_S_requireDead_8 : decode c_S_requireDead 8 = .ok (.ifCond .ne 13, 3) := by decide +kernel
theorem d_S_requireDead_11 : decode c_S_requireDead 11 = .ok (.new 51, 3) := by decide +kernel
theorem d_S_requireDead_14 : decode c_S_requireDead 14 = .ok (.dup, 1) := by decide +kernel
theorem d_S_requireDead_15 : decode c_S_requireDead 15 = .ok (.ldc 171, 2) := by decide +kernel
theorem d_S_requireDead_17 : decode c_S_requireDead 17 = .ok (.invokespecial 55, 3) := by decide +kernel
theorem d_S_requireDead_20 : decode c_S_requireDead 20 = .ok (.athrow, 1) := by decide +kernel
theorem d_S_requireDead_21 : decode c_S_requireDead 21 = .ok (.return_, 1) := by decide +kernel
theorem d_S_requireParents_0 : decode c_S_requireParents 0 = .ok (.iload_n 0, 1) := by decide +kernel
theorem d_S_requireParents_1 : decode c_S_requireParents 1 = .ok (.iconst (-1), 1) := by decide +kernel
theorem d_S_requireParents_2 : decode c_S_requireParents 2 = .ok (.if_icmp .lt 18, 3) := by decide +kernel
theorem d_S_requireParents_5 : decode c_S_requireParents 5 = .ok (.iload_n 0, 1) := by decide +kernel
theorem d_S_requireParents_6 : decode c_S_requireParents 6 = .ok (.iload_n 2, 1) := by decide +kernel
theorem d_S_requireParents_7 : decode c_S_requireParents 7 = .ok (.if_icmp .ge 13, 3) := by decide +kernel
theorem d_S_requireParents_10 : decode c_S_requireParents 10 = .ok (.iload_n 1, 1) := by decide +kernel
theorem d_S_requireParents_11 : decode c_S_requireParents 11 = .ok (.iconst (-1), 1) := by decide +kernel
theorem d_S_requireParents_12 : decode c_S_requireParents 12 = .ok (.if_icmp .lt 8, 3) := by decide +kernel
theorem d_S_requireParents_15 : decode c_S_requireParents 15 = .ok (.iload_n 1, 1) := by decide +kernel
theorem d_S_requireParents_16 : decode c_S_requireParents 16 = .ok (.iload_n 2, 1) := by decide +kernel
theorem d_S_requireParents_17 : decode c_S_requireParents 17 = .ok (.if_icmp .lt 13, 3) := by decide +kernel
theorem d_S_requireParents_20 : decode c_S_requireParents 20 = .ok (.new 73, 3) := by decide +kernel
theorem d_S_requireParents_23 : decode c_S_requireParents 23 = .ok (.dup, 1) := by decide +kernel
theorem d_S_requireParents_24 : decode c_S_requireParents 24 = .ok (.ldc 173, 2) := by decide +kernel
theorem d_S_requireParents_26 : decode c_S_requireParents 26 = .ok (.invokespecial 77, 3) := by decide +kernel
theorem d_S_requireParents_29 : decode c_S_requireParents 29 = .ok (.athrow, 1) := by decide +kernel
theorem d_S_requireParents_30 : decode c_S_requireParents 30 = .ok (.iload_n 0, 1) := by decide +kernel
theorem d_S_requireParents_31 : decode c_S_requireParents 31 = .ok (.iload_n 1, 1) := by decide +kernel
theorem d_S_requireParents_32 : decode c_S_requireParents 32 = .ok (.if_icmp .ne 18, 3) := by decide +kernel
theorem d_S_requireParents_35 : decode c_S_requireParents 35 = .ok (.iload_n 0, 1) := by decide +kernel
theorem d_S_requireParents_36 : decode c_S_requireParents 36 = .ok (.iconst (-1), 1) := by decide +kernel
theorem d_S_requireParents_37 : decode c_S_requireParents 37 = .ok (.if_icmp .eq 13, 3) := by decide +kernel
theorem d_S_requireParents_40 : decode c_S_requireParents 40 = .ok (.new 73, 3) := by decide +kernel
theorem d_S_requireParents_43 : decode c_S_requireParents 43 = .ok (.dup, 1) := by decide +kernel
theorem d_S_requireParents_44 : decode c_S_requireParents 44 = .ok (.ldc 175, 2) := by decide +kernel
theorem d_S_requireParents_46 : decode c_S_requireParents 46 = .ok (.invokespecial 77, 3) := by decide +kernel
theorem d_S_requireParents_49 : decode c_S_requireParents 49 = .ok (.athrow, 1) := by decide +kernel
theorem d_S_requireParents_50 : decode c_S_requireParents 50 = .ok (.return_, 1) := by decide +kernel
theorem d_S_placeOf_0 : decode c_S_placeOf 0 = .ok (.iload_n 1, 1) := by decide +kernel
theorem d_S_placeOf_1 : decode c_S_placeOf 1 = .ok (.iconst (-1), 1) := by decide +kernel
theorem d_S_placeOf_2 : decode c_S_placeOf 2 = .ok (.if_icmp .ne 6, 3) := by decide +kernel
theorem d_S_placeOf_5 : decode c_S_placeOf 5 = .ok (.bipush 20, 2) := by decide +kernel
theorem d_S_placeOf_7 : decode c_S_placeOf 7 = .ok (.ireturn, 1) := by decide +kernel
theorem d_S_placeOf_8 : decode c_S_placeOf 8 = .ok (.aload_n 0, 1) := by decide +kernel
theorem d_S_placeOf_9 : decode c_S_placeOf 9 = .ok (.iload_n 1, 1) := by decide +kernel
theorem d_S_placeOf_10 : decode c_S_placeOf 10 = .ok (.invokevirtual 62, 3) := by decide +kernel
theorem d_S_placeOf_13 : decode c_S_placeOf 13 = .ok (.iload_n 1, 1) := by decide +kernel
theorem d_S_placeOf_14 : decode c_S_placeOf 14 = .ok (.ireturn, 1) := by decide +kernel
theorem d_F_init_0 : decode c_F_init 0 = .ok (.aload_n 0, 1) := by decide +kernel
theorem d_F_init_1 : decode c_F_init 1 = .ok (.invokespecial 3, 3) := by decide +kernel
theorem d_F_init_4 : decode c_F_init 4 = .ok (.aload_n 0, 1) := by decide +kernel
theorem d_F_init_5 : decode c_F_init 5 = .ok (.bipush 20, 2) := by decide +kernel
theorem d_F_init_7 : decode c_F_init 7 = .ok (.newarray .int, 2) := by decide +kernel
theorem d_F_init_9 : decode c_F_init 9 = .ok (.putfield 9, 3) := by decide +kernel
theorem d_F_init_12 : decode c_F_init 12 = .ok (.aload_n 0, 1) := by decide +kernel
theorem d_F_init_13 : decode c_F_init 13 = .ok (.bipush 20, 2) := by decide +kernel
theorem d_F_init_15 : decode c_F_init 15 = .ok (.newarray .int, 2) := by decide +kernel
theorem d_F_init_17 : decode c_F_init 17 = .ok (.putfield 15, 3) := by decide +kernel
theorem d_F_init_20 : decode c_F_init 20 = .ok (.aload_n 0, 1) := by decide +kernel
theorem d_F_init_21 : decode c_F_init 21 = .ok (.bipush 20, 2) := by decide +kernel
theorem d_F_init_23 : decode c_F_init 23 = .ok (.newarray .int, 2) := by decide +kernel
theorem d_F_init_25 : decode c_F_init 25 = .ok (.putfield 18, 3) := by decide +kernel
theorem d_F_init_28 : decode c_F_init 28 = .ok (.aload_n 0, 1) := by decide +kernel
theorem d_F_init_29 : decode c_F_init 29 = .ok (.bipush 20, 2) := by decide +kernel
theorem d_F_init_31 : decode c_F_init 31 = .ok (.newarray .int, 2) := by decide +kernel
theorem d_F_init_33 : decode c_F_init 33 = .ok (.putfield 21, 3) := by decide +kernel
theorem d_F_init_36 : decode c_F_init 36 = .ok (.aload_n 0, 1) := by decide +kernel
theorem d_F_init_37 : decode c_F_init 37 = .ok (.bipush 20, 2) := by decide +kernel
theorem d_F_init_39 : decode c_F_init 39 = .ok (.newarray .int, 2) := by decide +kernel
theorem d_F_init_41 : decode c_F_init 41 = .ok (.putfield 24, 3) := by decide +kernel
theorem d_F_init_44 : decode c_F_init 44 = .ok (.aload_n 0, 1) := by decide +kernel
theorem d_F_init_45 : decode c_F_init 45 = .ok (.bipush 20, 2) := by decide +kernel
theorem d_F_init_47 : decode c_F_init 47 = .ok (.bipush 20, 2) := by decide +kernel
theorem d_F_init_49 : decode c_F_init 49 = .ok (.multianewarray 27 2, 4) := by decide +kernel
theorem d_F_init_53 : decode c_F_init 53 = .ok (.putfield 29, 3) := by decide +kernel
theorem d_F_init_56 : decode c_F_init 56 = .ok (.aload_n 0, 1) := by decide +kernel
theorem d_F_init_57 : decode c_F_init 57 = .ok (.bipush 20, 2) := by decide +kernel
theorem d_F_init_59 : decode c_F_init 59 = .ok (.newarray .int, 2) := by decide +kernel
theorem d_F_init_61 : decode c_F_init 61 = .ok (.putfield 32, 3) := by decide +kernel
theorem d_F_init_64 : decode c_F_init 64 = .ok (.return_, 1) := by decide +kernel
theorem d_F_enter_0 : decode c_F_enter 0 = .ok (.aload_n 0, 1) := by decide +kernel
theorem d_F_enter_1 : decode c_F_enter 1 = .ok (.getfield 35, 3) := by decide +kernel
theorem d_F_enter_4 : decode c_F_enter 4 = .ok (.istore_n 3, 1) := by decide +kernel
theorem d_F_enter_5 : decode c_F_enter 5 = .ok (.aload_n 0, 1) := by decide +kernel
theorem d_F_enter_6 : decode c_F_enter 6 = .ok (.getfield 9, 3) := by decide +kernel
theorem d_F_enter_9 : decode c_F_enter 9 = .ok (.iload_n 3, 1) := by decide +kernel
theorem d_F_enter_10 : decode c_F_enter 10 = .ok (.iload_n 1, 1) := by decide +kernel
theorem d_F_enter_11 : decode c_F_enter 11 = .ok (.iastore, 1) := by decide +kernel
theorem d_F_enter_12 : decode c_F_enter 12 = .ok (.aload_n 0, 1) := by decide +kernel
theorem d_F_enter_13 : decode c_F_enter 13 = .ok (.getfield 15, 3) := by decide +kernel
theorem d_F_enter_16 : decode c_F_enter 16 = .ok (.iload_n 3, 1) := by decide +kernel
theorem d_F_enter_17 : decode c_F_enter 17 = .ok (.iload_n 2, 1) := by decide +kernel
theorem d_F_enter_18 : decode c_F_enter 18 = .ok (.iastore, 1) := by decide +kernel
theorem d_F_enter_19 : decode c_F_enter 19 = .ok (.aload_n 0, 1) := by decide +kernel
theorem d_F_enter_20 : decode c_F_enter 20 = .ok (.getfield 18, 3) := by decide +kernel
theorem d_F_enter_23 : decode c_F_enter 23 = .ok (.iload_n 3, 1) := by decide +kernel
theorem d_F_enter_24 : decode c_F_enter 24 = .ok (.iconst (-1), 1) := by decide +kernel
theorem d_F_enter_25 : decode c_F_enter 25 = .ok (.iastore, 1) := by decide +kernel
theorem d_F_enter_26 : decode c_F_enter 26 = .ok (.aload_n 0, 1) := by decide +kernel
theorem d_F_enter_27 : decode c_F_enter 27 = .ok (.getfield 21, 3) := by decide +kernel
theorem d_F_enter_30 : decode c_F_enter 30 = .ok (.iload_n 3, 1) := by decide +kernel
theorem d_F_enter_31 : decode c_F_enter 31 = .ok (.iconst (-1), 1) := by decide +kernel
theorem d_F_enter_32 : decode c_F_enter 32 = .ok (.iastore, 1) := by decide +kernel
theorem d_F_enter_33 : decode c_F_enter 33 = .ok (.aload_n 0, 1) := by decide +kernel
theorem d_F_enter_34 : decode c_F_enter 34 = .ok (.dup, 1) := by decide +kernel
theorem d_F_enter_35 : decode c_F_enter 35 = .ok (.getfield 35, 3) := by decide +kernel
theorem d_F_enter_38 : decode c_F_enter 38 = .ok (.iconst 1, 1) := by decide +kernel
theorem d_F_enter_39 : decode c_F_enter 39 = .ok (.iadd, 1) := by decide +kernel
theorem d_F_enter_40 : decode c_F_enter 40 = .ok (.putfield 35, 3) := by decide +kernel
theorem d_F_enter_43 : decode c_F_enter 43 = .ok (.iload_n 3, 1) := by decide +kernel
theorem d_F_enter_44 : decode c_F_enter 44 = .ok (.ireturn, 1) := by decide +kernel
theorem d_F_died_0 : decode c_F_died 0 = .ok (.aload_n 0, 1) := by decide +kernel
theorem d_F_died_1 : decode c_F_died 1 = .ok (.getfield 21, 3) := by decide +kernel
theorem d_F_died_4 : decode c_F_died 4 = .ok (.iload_n 1, 1) := by decide +kernel
theorem d_F_died_5 : decode c_F_died 5 = .ok (.iaload, 1) := by decide +kernel
theorem d_F_died_6 : decode c_F_died 6 = .ok (.iconst (-1), 1) := by decide +kernel
theorem d_F_died_7 : decode c_F_died 7 = .ok (.if_icmp .eq 7, 3) := by decide +kernel
theorem d_F_died_10 : decode c_F_died 10 = .ok (.iconst 1, 1) := by decide +kernel
theorem d_F_died_11 : decode c_F_died 11 = .ok (.goto 4, 3) := by decide +kernel
theorem d_F_died_14 : decode c_F_died 14 = .ok (.iconst 0, 1) := by decide +kernel
theorem d_F_died_15 : decode c_F_died 15 = .ok (.ireturn, 1) := by decide +kernel
theorem d_F_isFree_0 : decode c_F_isFree 0 = .ok (.aload_n 0, 1) := by decide +kernel
theorem d_F_isFree_1 : decode c_F_isFree 1 = .ok (.iload_n 1, 1) := by decide +kernel
theorem d_F_isFree_2 : decode c_F_isFree 2 = .ok (.invokevirtual 39, 3) := by decide +kernel
theorem d_F_isFree_5 : decode c_F_isFree 5 = .ok (.ifCond .ne 30, 3) := by decide +kernel
theorem d_F_isFree_8 : decode c_F_isFree 8 = .ok (.aload_n 0, 1) := by decide +kernel
theorem d_F_isFree_9 : decode c_F_isFree 9 = .ok (.getfield 18, 3) := by decide +kernel
theorem d_F_isFree_12 : decode c_F_isFree 12 = .ok (.iload_n 1, 1) := by decide +kernel
theorem d_F_isFree_13 : decode c_F_isFree 13 = .ok (.iaload, 1) := by decide +kernel
theorem d_F_isFree_14 : decode c_F_isFree 14 = .ok (.iconst (-1), 1) := by decide +kernel
theorem d_F_isFree_15 : decode c_F_isFree 15 = .ok (.if_icmp .eq 16, 3) := by decide +kernel
theorem d_F_isFree_18 : decode c_F_isFree 18 = .ok (.aload_n 0, 1) := by decide +kernel
theorem d_F_isFree_19 : decode c_F_isFree 19 = .ok (.aload_n 0, 1) := by decide +kernel
theorem d_F_isFree_20 : decode c_F_isFree 20 = .ok (.getfield 18, 3) := by decide +kernel
theorem d_F_isFree_23 : decode c_F_isFree 23 = .ok (.iload_n 1, 1) := by decide +kernel
theorem d_F_isFree_24 : decode c_F_isFree 24 = .ok (.iaload, 1) := by decide +kernel
theorem d_F_isFree_25 : decode c_F_isFree 25 = .ok (.invokevirtual 39, 3) := by decide +kernel
theorem d_F_isFree_28 : decode c_F_isFree 28 = .ok (.ifCond .eq 7, 3) := by decide +kernel
theorem d_F_isFree_31 : decode c_F_isFree 31 = .ok (.iconst 1, 1) := by decide +kernel
theorem d_F_isFree_32 : decode c_F_isFree 32 = .ok (.goto 4, 3) := by decide +kernel
theorem d_F_isFree_35 : decode c_F_isFree 35 = .ok (.iconst 0, 1) := by decide +kernel
theorem d_F_isFree_36 : decode c_F_isFree 36 = .ok (.ireturn, 1) := by decide +kernel
theorem d_F_isChild_0 : decode c_F_isChild 0 = .ok (.aload_n 0, 1) := by decide +kernel
theorem d_F_isChild_1 : decode c_F_isChild 1 = .ok (.getfield 9, 3) := by decide +kernel
theorem d_F_isChild_4 : decode c_F_isChild 4 = .ok (.iload_n 1, 1) := by decide +kernel
theorem d_F_isChild_5 : decode c_F_isChild 5 = .ok (.iaload, 1) := by decide +kernel
theorem d_F_isChild_6 : decode c_F_isChild 6 = .ok (.iload_n 2, 1) := by decide +kernel
theorem d_F_isChild_7 : decode c_F_isChild 7 = .ok (.if_icmp .eq 13, 3) := by decide +kernel
theorem d_F_isChild_10 : decode c_F_isChild 10 = .ok (.aload_n 0, 1) := by decide +kernel
theorem d_F_isChild_11 : decode c_F_isChild 11 = .ok (.getfield 15, 3) := by decide +kernel
theorem d_F_isChild_14 : decode c_F_isChild 14 = .ok (.iload_n 1, 1) := by decide +kernel
theorem d_F_isChild_15 : decode c_F_isChild 15 = .ok (.iaload, 1) := by decide +kernel
theorem d_F_isChild_16 : decode c_F_isChild 16 = .ok (.iload_n 2, 1) := by decide +kernel
theorem d_F_isChild_17 : decode c_F_isChild 17 = .ok (.if_icmp .ne 7, 3) := by decide +kernel
theorem d_F_isChild_20 : decode c_F_isChild 20 = .ok (.iconst 1, 1) := by decide +kernel
theorem d_F_isChild_21 : decode c_F_isChild 21 = .ok (.goto 4, 3) := by decide +kernel
theorem d_F_isChild_24 : decode c_F_isChild 24 = .ok (.iconst 0, 1) := by decide +kernel
theorem d_F_isChild_25 : decode c_F_isChild 25 = .ok (.ireturn, 1) := by decide +kernel
theorem d_F_isExcluded_0 : decode c_F_isExcluded 0 = .ok (.aload_n 0, 1) := by decide +kernel
theorem d_F_isExcluded_1 : decode c_F_isExcluded 1 = .ok (.getfield 32, 3) := by decide +kernel
theorem d_F_isExcluded_4 : decode c_F_isExcluded 4 = .ok (.iload_n 2, 1) := by decide +kernel
theorem d_F_isExcluded_5 : decode c_F_isExcluded 5 = .ok (.iaload, 1) := by decide +kernel
theorem d_F_isExcluded_6 : decode c_F_isExcluded 6 = .ok (.iconst 1, 1) := by decide +kernel
theorem d_F_isExcluded_7 : decode c_F_isExcluded 7 = .ok (.iload_n 1, 1) := by decide +kernel
theorem d_F_isExcluded_8 : decode c_F_isExcluded 8 = .ok (.ishl, 1) := by decide +kernel
theorem d_F_isExcluded_9 : decode c_F_isExcluded 9 = .ok (.iand, 1) := by decide +kernel
theorem d_F_isExcluded_10 : decode c_F_isExcluded 10 = .ok (.ifCond .eq 7, 3) := by decide +kernel
theorem d_F_isExcluded_13 : decode c_F_isExcluded 13 = .ok (.iconst 1, 1) := by decide +kernel
theorem d_F_isExcluded_14 : decode c_F_isExcluded 14 = .ok (.goto 4, 3) := by decide +kernel
theorem d_F_isExcluded_17 : decode c_F_isExcluded 17 = .ok (.iconst 0, 1) := by decide +kernel
theorem d_F_isExcluded_18 : decode c_F_isExcluded 18 = .ok (.ireturn, 1) := by decide +kernel
theorem d_F_setExcluded_0 : decode c_F_setExcluded 0 = .ok (.aload_n 0, 1) := by decide +kernel
theorem d_F_setExcluded_1 : decode c_F_setExcluded 1 = .ok (.getfield 32, 3) := by decide +kernel
theorem d_F_setExcluded_4 : decode c_F_setExcluded 4 = .ok (.iload_n 2, 1) := by decide +kernel
theorem d_F_setExcluded_5 : decode c_F_setExcluded 5 = .ok (.iload_n 3, 1) := by decide +kernel
theorem d_F_setExcluded_6 : decode c_F_setExcluded 6 = .ok (.ifCond .eq 16, 3) := by decide +kernel
theorem d_F_setExcluded_9 : decode c_F_setExcluded 9 = .ok (.aload_n 0, 1) := by decide +kernel
theorem d_F_setExcluded_10 : decode c_F_setExcluded 10 = .ok (.getfield 32, 3) := by decide +kernel
theorem d_F_setExcluded_13 : decode c_F_setExcluded 13 = .ok (.iload_n 2, 1) := by decide +kernel
theorem d_F_setExcluded_14 : decode c_F_setExcluded 14 = .ok (.iaload, 1) := by decide +kernel
theorem d_F_setExcluded_15 : decode c_F_setExcluded 15 = .ok (.iconst 1, 1) := by decide +kernel
theorem d_F_setExcluded_16 : decode c_F_setExcluded 16 = .ok (.iload_n 1, 1) := by decide +kernel
theorem d_F_setExcluded_17 : decode c_F_setExcluded 17 = .ok (.ishl, 1) := by decide +kernel
theorem d_F_setExcluded_18 : decode c_F_setExcluded 18 = .ok (.ior, 1) := by decide +kernel
theorem d_F_setExcluded_19 : decode c_F_setExcluded 19 = .ok (.goto 15, 3) := by decide +kernel
theorem d_F_setExcluded_22 : decode c_F_setExcluded 22 = .ok (.aload_n 0, 1) := by decide +kernel
theorem d_F_setExcluded_23 : decode c_F_setExcluded 23 = .ok (.getfield 32, 3) := by decide +kernel
theorem d_F_setExcluded_26 : decode c_F_setExcluded 26 = .ok (.iload_n 2, 1) := by decide +kernel
theorem d_F_setExcluded_27 : decode c_F_setExcluded 27 = .ok (.iaload, 1) := by decide +kernel
theorem d_F_setExcluded_28 : decode c_F_setExcluded 28 = .ok (.iconst 1, 1) := by decide +kernel
theorem d_F_setExcluded_29 : decode c_F_setExcluded 29 = .ok (.iload_n 1, 1) := by decide +kernel
theorem d_F_setExcluded_30 : decode c_F_setExcluded 30 = .ok (.ishl, 1) := by decide +kernel
theorem d_F_setExcluded_31 : decode c_F_setExcluded 31 = .ok (.iconst (-1), 1) := by decide +kernel
theorem d_F_setExcluded_32 : decode c_F_setExcluded 32 = .ok (.ixor, 1) := by decide +kernel
theorem d_F_setExcluded_33 : decode c_F_setExcluded 33 = .ok (.iand, 1) := by decide +kernel
theorem d_F_setExcluded_34 : decode c_F_setExcluded 34 = .ok (.iastore, 1) := by decide +kernel
theorem d_F_setExcluded_35 : decode c_F_setExcluded 35 = .ok (.return_, 1) := by decide +kernel
theorem d_F_isLeft_0 : decode c_F_isLeft 0 = .ok (.iload_n 1, 1) := by decide +kernel
theorem d_F_isLeft_1 : decode c_F_isLeft 1 = .ok (.iload_n 2, 1) := by decide +kernel
theorem d_F_isLeft_2 : decode c_F_isLeft 2 = .ok (.if_icmp .eq 39, 3) := by decide +kernel
theorem d_F_isLeft_5 : decode c_F_isLeft 5 = .ok (.aload_n 0, 1) := by decide +kernel
theorem d_F_isLeft_6 : decode c_F_isLeft 6 = .ok (.iload_n 1, 1) := by decide +kernel
theorem d_F_isLeft_7 : decode c_F_isLeft 7 = .ok (.iload_n 2, 1) := by decide +kernel
theorem d_F_isLeft_8 : decode c_F_isLeft 8 = .ok (.invokevirtual 43, 3) := by decide +kernel
theorem d_F_isLeft_11 : decode c_F_isLeft 11 = .ok (.ifCond .ne 30, 3) := by decide +kernel
theorem d_F_isLeft_14 : decode c_F_isLeft 14 = .ok (.aload_n 0, 1) := by decide +kernel
theorem d_F_isLeft_15 : decode c_F_isLeft 15 = .ok (.iload_n 1, 1) := by decide +kernel
theorem d_F_isLeft_16 : decode c_F_isLeft 16 = .ok (.invokevirtual 39, 3) := by decide +kernel
theorem d_F_isLeft_19 : decode c_F_isLeft 19 = .ok (.ifCond .eq 18, 3) := by decide +kernel
theorem d_F_isLeft_22 : decode c_F_isLeft 22 = .ok (.aload_n 0, 1) := by decide +kernel
theorem d_F_isLeft_23 : decode c_F_isLeft 23 = .ok (.getfield 21, 3) := by decide +kernel
theorem d_F_isLeft_26 : decode c_F_isLeft 26 = .ok (.iload_n 1, 1) := by decide +kernel
theorem d_F_isLeft_27 : decode c_F_isLeft 27 = .ok (.iaload, 1) := by decide +kernel
theorem d_F_isLeft_28 : decode c_F_isLeft 28 = .ok (.aload_n 0, 1) := by decide +kernel
theorem d_F_isLeft_29 : decode c_F_isLeft 29 = .ok (.getfield 21, 3) := by decide +kernel
theorem d_F_isLeft_32 : decode c_F_isLeft 32 = .ok (.iload_n 2, 1) := by decide +kernel
theorem d_F_isLeft_33 : decode c_F_isLeft 33 = .ok (.iaload, 1) := by decide +kernel
theorem d_F_isLeft_34 : decode c_F_isLeft 34 = .ok (.if_icmp .le 7, 3) := by decide +kernel
theorem d_F_isLeft_37 : decode c_F_isLeft 37 = .ok (.iconst 1, 1) := by decide +kernel
theorem d_F_isLeft_38 : decode c_F_isLeft 38 = .ok (.goto 4, 3) := by decide +kernel
theorem d_F_isLeft_41 : decode c_F_isLeft 41 = .ok (.iconst 0, 1) := by decide +kernel
theorem d_F_isLeft_42 : decode c_F_isLeft 42 = .ok (.ireturn, 1) := by decide +kernel
theorem d_V_init_0 : decode c_V_init 0 = .ok (.aload_n 0, 1) := by decide +kernel
theorem d_V_init_1 : decode c_V_init 1 = .ok (.invokespecial 3, 3) := by decide +kernel
theorem d_V_init_4 : decode c_V_init 4 = .ok (.aload_n 0, 1) := by decide +kernel
theorem d_V_init_5 : decode c_V_init 5 = .ok (.bipush 20, 2) := by decide +kernel
theorem d_V_init_7 : decode c_V_init 7 = .ok (.newarray .boolean, 2) := by decide +kernel
theorem d_V_init_9 : decode c_V_init 9 = .ok (.putfield 9, 3) := by decide +kernel
theorem d_V_init_12 : decode c_V_init 12 = .ok (.aload_n 0, 1) := by decide +kernel
theorem d_V_init_13 : decode c_V_init 13 = .ok (.bipush 20, 2) := by decide +kernel
theorem d_V_init_15 : decode c_V_init 15 = .ok (.newarray .int, 2) := by decide +kernel
theorem d_V_init_17 : decode c_V_init 17 = .ok (.putfield 15, 3) := by decide +kernel
theorem d_V_init_20 : decode c_V_init 20 = .ok (.aload_n 0, 1) := by decide +kernel
theorem d_V_init_21 : decode c_V_init 21 = .ok (.bipush 80, 2) := by decide +kernel
theorem d_V_init_23 : decode c_V_init 23 = .ok (.newarray .boolean, 2) := by decide +kernel
theorem d_V_init_25 : decode c_V_init 25 = .ok (.putfield 19, 3) := by decide +kernel
theorem d_V_init_28 : decode c_V_init 28 = .ok (.aload_n 0, 1) := by decide +kernel
theorem d_V_init_29 : decode c_V_init 29 = .ok (.bipush 20, 2) := by decide +kernel
theorem d_V_init_31 : decode c_V_init 31 = .ok (.newarray .boolean, 2) := by decide +kernel
theorem d_V_init_33 : decode c_V_init 33 = .ok (.putfield 22, 3) := by decide +kernel
theorem d_V_init_36 : decode c_V_init 36 = .ok (.aload_n 0, 1) := by decide +kernel
theorem d_V_init_37 : decode c_V_init 37 = .ok (.aload_n 1, 1) := by decide +kernel
theorem d_V_init_38 : decode c_V_init 38 = .ok (.putfield 25, 3) := by decide +kernel
theorem d_V_init_41 : decode c_V_init 41 = .ok (.return_, 1) := by decide +kernel
theorem d_V_look_0 : decode c_V_look 0 = .ok (.aload_n 0, 1) := by decide +kernel
theorem d_V_look_1 : decode c_V_look 1 = .ok (.iload_n 1, 1) := by decide +kernel
theorem d_V_look_2 : decode c_V_look 2 = .ok (.putfield 29, 3) := by decide +kernel
theorem d_V_look_5 : decode c_V_look 5 = .ok (.aload_n 0, 1) := by decide +kernel
theorem d_V_look_6 : decode c_V_look 6 = .ok (.invokevirtual 33, 3) := by decide +kernel
theorem d_V_look_9 : decode c_V_look 9 = .ok (.aload_n 0, 1) := by decide +kernel
theorem d_V_look_10 : decode c_V_look 10 = .ok (.invokevirtual 36, 3) := by decide +kernel
theorem d_V_look_13 : decode c_V_look 13 = .ok (.aload_n 0, 1) := by decide +kernel
theorem d_V_look_14 : decode c_V_look 14 = .ok (.getfield 25, 3) := by decide +kernel
theorem d_V_look_17 : decode c_V_look 17 = .ok (.getfield 39, 3) := by decide +kernel
theorem d_V_look_20 : decode c_V_look 20 = .ok (.iload_n 1, 1) := by decide +kernel
theorem d_V_look_21 : decode c_V_look 21 = .ok (.iaload, 1) := by decide +kernel
theorem d_V_look_22 : decode c_V_look 22 = .ok (.istore_n 2, 1) := by decide +kernel
theorem d_V_look_23 : decode c_V_look 23 = .ok (.aload_n 0, 1) := by decide +kernel
theorem d_V_look_24 : decode c_V_look 24 = .ok (.iload_n 2, 1) := by decide +kernel
theorem d_V_look_25 : decode c_V_look 25 = .ok (.iconst (-1), 1) := by decide +kernel
theorem d_V_look_26 : decode c_V_look 26 = .ok (.if_icmp .eq 16, 3) := by decide +kernel
theorem d_V_look_29 : decode c_V_look 29 = .ok (.aload_n 0, 1) := by decide +kernel
theorem d_V_look_30 : decode c_V_look 30 = .ok (.getfield 9, 3) := by decide +kernel
theorem d_V_look_33 : decode c_V_look 33 = .ok (.iload_n 2, 1) := by decide +kernel
theorem d_V_look_34 : decode c_V_look 34 = .ok (.baload, 1) := by decide +kernel
theorem d_V_look_35 : decode c_V_look 35 = .ok (.ifCond .eq 7, 3) := by decide +kernel
theorem d_V_look_38 : decode c_V_look 38 = .ok (.iload_n 2, 1) := by decide +kernel
theorem d_V_look_39 : decode c_V_look 39 = .ok (.goto 4, 3) := by decide +kernel
theorem d_V_look_42 : decode c_V_look 42 = .ok (.iconst (-1), 1) := by decide +kernel
theorem d_V_look_43 : decode c_V_look 43 = .ok (.putfield 44, 3) := by decide +kernel
theorem d_V_look_46 : decode c_V_look 46 = .ok (.aload_n 0, 1) := by decide +kernel
theorem d_V_look_47 : decode c_V_look 47 = .ok (.aload_n 0, 1) := by decide +kernel
theorem d_V_look_48 : decode c_V_look 48 = .ok (.invokevirtual 47, 3) := by decide +kernel
theorem d_V_look_51 : decode c_V_look 51 = .ok (.putfield 51, 3) := by decide +kernel
theorem d_V_look_54 : decode c_V_look 54 = .ok (.return_, 1) := by decide +kernel
theorem d_V_hasHeirs_0 : decode c_V_hasHeirs 0 = .ok (.iload_n 1, 1) := by decide +kernel
theorem d_V_hasHeirs_1 : decode c_V_hasHeirs 1 = .ok (.iconst (-1), 1) := by decide +kernel
theorem d_V_hasHeirs_2 : decode c_V_hasHeirs 2 = .ok (.if_icmp .eq 21, 3) := by decide +kernel
theorem d_V_hasHeirs_5 : decode c_V_hasHeirs 5 = .ok (.aload_n 0, 1) := by decide +kernel
theorem d_V_hasHeirs_6 : decode c_V_hasHeirs 6 = .ok (.getfield 19, 3) := by decide +kernel
theorem d_V_hasHeirs_9 : decode c_V_hasHeirs 9 = .ok (.iload_n 2, 1) := by decide +kernel
theorem d_V_hasHeirs_10 : decode c_V_hasHeirs 10 = .ok (.bipush 20, 2) := by decide +kernel
theorem d_V_hasHeirs_12 : decode c_V_hasHeirs 12 = .ok (.imul, 1) := by decide +kernel
theorem d_V_hasHeirs_13 : decode c_V_hasHeirs 13 = .ok (.iload_n 1, 1) := by decide +kernel
theorem d_V_hasHeirs_14 : decode c_V_hasHeirs 14 = .ok (.iadd, 1) := by decide +kernel
theorem d_V_hasHeirs_15 : decode c_V_hasHeirs 15 = .ok (.baload, 1) := by decide +kernel
theorem d_V_hasHeirs_16 : decode c_V_hasHeirs 16 = .ok (.ifCond .eq 7, 3) := by decide +kernel
theorem d_V_hasHeirs_19 : decode c_V_hasHeirs 19 = .ok (.iconst 1, 1) := by decide +kernel
theorem d_V_hasHeirs_20 : decode c_V_hasHeirs 20 = .ok (.goto 4, 3) := by decide +kernel
theorem d_V_hasHeirs_23 : decode c_V_hasHeirs 23 = .ok (.iconst 0, 1) := by decide +kernel
theorem d_V_hasHeirs_24 : decode c_V_hasHeirs 24 = .ok (.ireturn, 1) := by decide +kernel
theorem d_V_spouseQuarters_0 : decode c_V_spouseQuarters 0 = .ok (.aload_n 0, 1) := by decide +kernel
theorem d_V_spouseQuarters_1 : decode c_V_spouseQuarters 1 = .ok (.getfield 44, 3) := by decide +kernel
theorem d_V_spouseQuarters_4 : decode c_V_spouseQuarters 4 = .ok (.iconst (-1), 1) := by decide +kernel
theorem d_V_spouseQuarters_5 : decode c_V_spouseQuarters 5 = .ok (.if_icmp .ne 5, 3) := by decide +kernel
theorem d_V_spouseQuarters_8 : decode c_V_spouseQuarters 8 = .ok (.iconst 0, 1) := by decide +kernel
theorem d_V_spouseQuarters_9 : decode c_V_spouseQuarters 9 = .ok (.ireturn, 1) := by decide +kernel
theorem d_V_spouseQuarters_10 : decode c_V_spouseQuarters 10 = .ok (.aload_n 0, 1) := by decide +kernel
theorem d_V_spouseQuarters_11 : decode c_V_spouseQuarters 11 = .ok (.getfield 51, 3) := by decide +kernel
theorem d_V_spouseQuarters_14 : decode c_V_spouseQuarters 14 = .ok (.ifCond .ne 5, 3) := by decide +kernel
theorem d_V_spouseQuarters_17 : decode c_V_spouseQuarters 17 = .ok (.iconst 1, 1) := by decide +kernel
theorem d_V_spouseQuarters_18 : decode c_V_spouseQuarters 18 = .ok (.ireturn, 1) := by decide +kernel
theorem d_V_spouseQuarters_19 : decode c_V_spouseQuarters 19 = .ok (.aload_n 0, 1) := by decide +kernel
theorem d_V_spouseQuarters_20 : decode c_V_spouseQuarters 20 = .ok (.getfield 51, 3) := by decide +kernel
theorem d_V_spouseQuarters_23 : decode c_V_spouseQuarters 23 = .ok (.iconst 3, 1) := by decide +kernel
theorem d_V_spouseQuarters_24 : decode c_V_spouseQuarters 24 = .ok (.if_icmp .gt 7, 3) := by decide +kernel
theorem d_V_spouseQuarters_27 : decode c_V_spouseQuarters 27 = .ok (.iconst 2, 1) := by decide +kernel
theorem d_V_spouseQuarters_28 : decode c_V_spouseQuarters 28 = .ok (.goto 4, 3) := by decide +kernel
theorem d_V_spouseQuarters_31 : decode c_V_spouseQuarters 31 = .ok (.iconst 4, 1) := by decide +kernel
theorem d_V_spouseQuarters_32 : decode c_V_spouseQuarters 32 = .ok (.ireturn, 1) := by decide +kernel
theorem d_V_findStems_0 : decode c_V_findStems 0 = .ok (.aload_n 0, 1) := by decide +kernel
theorem d_V_findStems_1 : decode c_V_findStems 1 = .ok (.getfield 15, 3) := by decide +kernel
theorem d_V_findStems_4 : decode c_V_findStems 4 = .ok (.iconst 0, 1) := by decide +kernel
theorem d_V_findStems_5 : decode c_V_findStems 5 = .ok (.invokestatic 54, 3) := by decide +kernel
theorem d_V_findStems_8 : decode c_V_findStems 8 = .ok (.aload_n 0, 1) := by decide +kernel
theorem d_V_findStems_9 : decode c_V_findStems 9 = .ok (.getfield 25, 3) := by decide +kernel
theorem d_V_findStems_12 : decode c_V_findStems 12 = .ok (.getfield 60, 3) := by decide +kernel
theorem d_V_findStems_15 : decode c_V_findStems 15 = .ok (.iconst 1, 1) := by decide +kernel
theorem d_V_findStems_16 : decode c_V_findStems 16 = .ok (.isub, 1) := by decide +kernel
theorem d_V_findStems_17 : decode c_V_findStems 17 = .ok (.istore_n 1, 1) := by decide +kernel
theorem d_V_findStems_18 : decode c_V_findStems 18 = .ok (.iload_n 1, 1) := by decide +kernel
theorem d_V_findStems_19 : decode c_V_findStems 19 = .ok (.ifCond .lt 88, 3) := by decide +kernel
theorem d_V_findStems_22 : decode c_V_findStems 22 = .ok (.aload_n 0, 1) := by decide +kernel
theorem d_V_findStems_23 : decode c_V_findStems 23 = .ok (.getfield 9, 3) := by decide +kernel
theorem d_V_findStems_26 : decode c_V_findStems 26 = .ok (.iload_n 1, 1) := by decide +kernel
theorem d_V_findStems_27 : decode c_V_findStems 27 = .ok (.aload_n 0, 1) := by decide +kernel
theorem d_V_findStems_28 : decode c_V_findStems 28 = .ok (.getfield 25, 3) := by decide +kernel
theorem d_V_findStems_31 : decode c_V_findStems 31 = .ok (.iload_n 1, 1) := by decide +kernel
theorem d_V_findStems_32 : decode c_V_findStems 32 = .ok (.aload_n 0, 1) := by decide +kernel
theorem d_V_findStems_33 : decode c_V_findStems 33 = .ok (.getfield 29, 3) := by decide +kernel
theorem d_V_findStems_36 : decode c_V_findStems 36 = .ok (.invokevirtual 63, 3) := by decide +kernel
theorem d_V_findStems_39 : decode c_V_findStems 39 = .ok (.bastore, 1) := by decide +kernel
theorem d_V_findStems_40 : decode c_V_findStems 40 = .ok (.aload_n 0, 1) := by decide +kernel
theorem d_V_findStems_41 : decode c_V_findStems 41 = .ok (.getfield 9, 3) := by decide +kernel
theorem d_V_findStems_44 : decode c_V_findStems 44 = .ok (.iload_n 1, 1) := by decide +kernel
theorem d_V_findStems_45 : decode c_V_findStems 45 = .ok (.baload, 1) := by decide +kernel
theorem d_V_findStems_46 : decode c_V_findStems 46 = .ok (.ifCond .ne 12, 3) := by decide +kernel
theorem d_V_findStems_49 : decode c_V_findStems 49 = .ok (.aload_n 0, 1) := by decide +kernel
theorem d_V_findStems_50 : decode c_V_findStems 50 = .ok (.getfield 15, 3) := by decide +kernel
theorem d_V_findStems_53 : decode c_V_findStems 53 = .ok (.iload_n 1, 1) := by decide +kernel
theorem d_V_findStems_54 : decode c_V_findStems 54 = .ok (.iaload, 1) := by decide +kernel
theorem d_V_findStems_55 : decode c_V_findStems 55 = .ok (.ifCond .le 7, 3) := by decide +kernel
theorem d_V_findStems_58 : decode c_V_findStems 58 = .ok (.iconst 1, 1) := by decide +kernel
theorem d_V_findStems_59 : decode c_V_findStems 59 = .ok (.goto 4, 3) := by decide +kernel
theorem d_V_findStems_62 : decode c_V_findStems 62 = .ok (.iconst 0, 1) := by decide +kernel
theorem d_V_findStems_63 : decode c_V_findStems 63 = .ok (.istore_n 2, 1) := by decide +kernel
theorem d_V_findStems_64 : decode c_V_findStems 64 = .ok (.aload_n 0, 1) := by decide +kernel
theorem d_V_findStems_65 : decode c_V_findStems 65 = .ok (.getfield 19, 3) := by decide +kernel
theorem d_V_findStems_68 : decode c_V_findStems 68 = .ok (.iload_n 1, 1) := by decide +kernel
theorem d_V_findStems_69 : decode c_V_findStems 69 = .ok (.iload_n 2, 1) := by decide +kernel
theorem d_V_findStems_70 : decode c_V_findStems 70 = .ok (.bastore, 1) := by decide +kernel
theorem d_V_findStems_71 : decode c_V_findStems 71 = .ok (.iload_n 2, 1) := by decide +kernel
theorem d_V_findStems_72 : decode c_V_findStems 72 = .ok (.ifCond .eq 29, 3) := by decide +kernel
theorem d_V_findStems_75 : decode c_V_findStems 75 = .ok (.aload_n 0, 1) := by decide +kernel
theorem d_V_findStems_76 : decode c_V_findStems 76 = .ok (.aload_n 0, 1) := by decide +kernel
theorem d_V_findStems_77 : decode c_V_findStems 77 = .ok (.getfield 25, 3) := by decide +kernel
theorem d_V_findStems_80 : decode c_V_findStems 80 = .ok (.getfield 67, 3) := by decide +kernel
theorem d_V_findStems_83 : decode c_V_findStems 83 = .ok (.iload_n 1, 1) := by decide +kernel
theorem d_V_findStems_84 : decode c_V_findStems 84 = .ok (.iaload, 1) := by decide +kernel
theorem d_V_findStems_85 : decode c_V_findStems 85 = .ok (.invokevirtual 70, 3) := by decide +kernel
theorem d_V_findStems_88 : decode c_V_findStems 88 = .ok (.aload_n 0, 1) := by decide +kernel
theorem d_V_findStems_89 : decode c_V_findStems 89 = .ok (.aload_n 0, 1) := by decide +kernel
theorem d_V_findStems_90 : decode c_V_findStems 90 = .ok (.getfield 25, 3) := by decide +kernel
theorem d_V_findStems_93 : decode c_V_findStems 93 = .ok (.getfield 74, 3) := by decide +kernel
theorem d_V_findStems_96 : decode c_V_findStems 96 = .ok (.iload_n 1, 1) := by decide +kernel
theorem d_V_findStems_97 : decode c_V_findStems 97 = .ok (.iaload, 1) := by decide +kernel
theorem d_V_findStems_98 : decode c_V_findStems 98 = .ok (.invokevirtual 70, 3) := by decide +kernel
theorem d_V_findStems_101 : decode c_V_findStems 101 = .ok (.iinc 1 (-1), 3) := by decide +kernel
theorem d_V_findStems_104 : decode c_V_findStems 104 = .ok (.goto (-86), 3) := by decide +kernel
theorem d_V_findStems_107 : decode c_V_findStems 107 = .ok (.return_, 1) := by decide +kernel
theorem d_V_addBranch_0 : decode c_V_addBranch 0 = .ok (.iload_n 1, 1) := by decide +kernel
theorem d_V_addBranch_1 : decode c_V_addBranch 1 = .ok (.iconst (-1), 1) := by decide +kernel
theorem d_V_addBranch_2 : decode c_V_addBranch 2 = .ok (.if_icmp .eq 13, 3) := by decide +kernel
theorem d_V_addBranch_5 : decode c_V_addBranch 5 = .ok (.aload_n 0, 1) := by decide +kernel
theorem d_V_addBranch_6 : decode c_V_addBranch 6 = .ok (.getfield 15, 3) := by decide +kernel
theorem d_V_addBranch_9 : decode c_V_addBranch 9 = .ok (.iload_n 1, 1) := by decide +kernel
theorem d_V_addBranch_10 : decode c_V_addBranch 10 = .ok (.dup2, 1) := by decide +kernel
theorem d_V_addBranch_11 : decode c_V_addBranch 11 = .ok (.iaload, 1) := by decide +kernel
theorem d_V_addBranch_12 : decode c_V_addBranch 12 = .ok (.iconst 1, 1) := by decide +kernel
theorem d_V_addBranch_13 : decode c_V_addBranch 13 = .ok (.iadd, 1) := by decide +kernel
theorem d_V_addBranch_14 : decode c_V_addBranch 14 = .ok (.iastore, 1) := by decide +kernel
theorem d_V_addBranch_15 : decode c_V_addBranch 15 = .ok (.return_, 1) := by decide +kernel
theorem d_V_findLines_0 : decode c_V_findLines 0 = .ok (.iconst 1, 1) := by decide +kernel
theorem d_V_findLines_1 : decode c_V_findLines 1 = .ok (.istore_n 1, 1) := by decide +kernel
theorem d_V_findLines_2 : decode c_V_findLines 2 = .ok (.iload_n 1, 1) := by decide +kernel
theorem d_V_findLines_3 : decode c_V_findLines 3 = .ok (.iconst 3, 1) := by decide +kernel
theorem d_V_findLines_4 : decode c_V_findLines 4 = .ok (.if_icmp .gt 82, 3) := by decide +kernel
theorem d_V_findLines_7 : decode c_V_findLines 7 = .ok (.iconst 0, 1) := by decide +kernel
theorem d_V_findLines_8 : decode c_V_findLines 8 = .ok (.istore_n 2, 1) := by decide +kernel
theorem d_V_findLines_9 : decode c_V_findLines 9 = .ok (.iload_n 2, 1) := by decide +kernel
theorem d_V_findLines_10 : decode c_V_findLines 10 = .ok (.aload_n 0, 1) := by decide +kernel
theorem d_V_findLines_11 : decode c_V_findLines 11 = .ok (.getfield 25, 3) := by decide +kernel
theorem d_V_findLines_14 : decode c_V_findLines 14 = .ok (.getfield 60, 3) := by decide +kernel
theorem d_V_findLines_17 : decode c_V_findLines 17 = .ok (.if_icmp .ge 63, 3) := by decide +kernel
theorem d_V_findLines_20 : decode c_V_findLines 20 = .ok (.aload_n 0, 1) := by decide +kernel
theorem d_V_findLines_21 : decode c_V_findLines 21 = .ok (.getfield 19, 3) := by decide +kernel
theorem d_V_findLines_24 : decode c_V_findLines 24 = .ok (.iload_n 1, 1) := by decide +kernel
theorem d_V_findLines_25 : decode c_V_findLines 25 = .ok (.bipush 20, 2) := by decide +kernel
theorem d_V_findLines_27 : decode c_V_findLines 27 = .ok (.imul, 1) := by decide +kernel
theorem d_V_findLines_28 : decode c_V_findLines 28 = .ok (.iload_n 2, 1) := by decide +kernel
theorem d_V_findLines_29 : decode c_V_findLines 29 = .ok (.iadd, 1) := by decide +kernel
theorem d_V_findLines_30 : decode c_V_findLines 30 = .ok (.aload_n 0, 1) := by decide +kernel
theorem d_V_findLines_31 : decode c_V_findLines 31 = .ok (.aload_n 0, 1) := by decide +kernel
theorem d_V_findLines_32 : decode c_V_findLines 32 = .ok (.getfield 25, 3) := by decide +kernel
theorem d_V_findLines_35 : decode c_V_findLines 35 = .ok (.getfield 67, 3) := by decide +kernel
theorem d_V_findLines_38 : decode c_V_findLines 38 = .ok (.iload_n 2, 1) := by decide +kernel
theorem d_V_findLines_39 : decode c_V_findLines 39 = .ok (.iaload, 1) := by decide +kernel
theorem d_V_findLines_40 : decode c_V_findLines 40 = .ok (.iload_n 1, 1) := by decide +kernel
theorem d_V_findLines_41 : decode c_V_findLines 41 = .ok (.iconst 1, 1) := by decide +kernel
theorem d_V_findLines_42 : decode c_V_findLines 42 = .ok (.isub, 1) := by decide +kernel
theorem d_V_findLines_43 : decode c_V_findLines 43 = .ok (.invokevirtual 77, 3) := by decide +kernel
theorem d_V_findLines_46 : decode c_V_findLines 46 = .ok (.ifCond .ne 22, 3) := by decide +kernel
theorem d_V_findLines_49 : decode c_V_findLines 49 = .ok (.aload_n 0, 1) := by decide +kernel
theorem d_V_findLines_50 : decode c_V_findLines 50 = .ok (.aload_n 0, 1) := by decide +kernel
theorem d_V_findLines_51 : decode c_V_findLines 51 = .ok (.getfield 25, 3) := by decide +kernel
theorem d_V_findLines_54 : decode c_V_findLines 54 = .ok (.getfield 74, 3) := by decide +kernel
theorem d_V_findLines_57 : decode c_V_findLines 57 = .ok (.iload_n 2, 1) := by decide +kernel
theorem d_V_findLines_58 : decode c_V_findLines 58 = .ok (.iaload, 1) := by decide +kernel
theorem d_V_findLines_59 : decode c_V_findLines 59 = .ok (.iload_n 1, 1) := by decide +kernel
theorem d_V_findLines_60 : decode c_V_findLines 60 = .ok (.iconst 1, 1) := by decide +kernel
theorem d_V_findLines_61 : decode c_V_findLines 61 = .ok (.isub, 1) := by decide +kernel
theorem d_V_findLines_62 : decode c_V_findLines 62 = .ok (.invokevirtual 77, 3) := by decide +kernel
theorem d_V_findLines_65 : decode c_V_findLines 65 = .ok (.ifCond .eq 7, 3) := by decide +kernel
theorem d_V_findLines_68 : decode c_V_findLines 68 = .ok (.iconst 1, 1) := by decide +kernel
theorem d_V_findLines_69 : decode c_V_findLines 69 = .ok (.goto 4, 3) := by decide +kernel
theorem d_V_findLines_72 : decode c_V_findLines 72 = .ok (.iconst 0, 1) := by decide +kernel
theorem d_V_findLines_73 : decode c_V_findLines 73 = .ok (.bastore, 1) := by decide +kernel
theorem d_V_findLines_74 : decode c_V_findLines 74 = .ok (.iinc 2 1, 3) := by decide +kernel
theorem d_V_findLines_77 : decode c_V_findLines 77 = .ok (.goto (-68), 3) := by decide +kernel
theorem d_V_findLines_80 : decode c_V_findLines 80 = .ok (.iinc 1 1, 3) := by decide +kernel
theorem d_V_findLines_83 : decode c_V_findLines 83 = .ok (.goto (-81), 3) := by decide +kernel
theorem d_V_findLines_86 : decode c_V_findLines 86 = .ok (.return_, 1) := by decide +kernel
theorem d_V_findTaker_0 : decode c_V_findTaker 0 = .ok (.aload_n 0, 1) := by decide +kernel
theorem d_V_findTaker_1 : decode c_V_findTaker 1 = .ok (.getfield 44, 3) := by decide +kernel
theorem d_V_findTaker_4 : decode c_V_findTaker 4 = .ok (.iconst (-1), 1) := by decide +kernel
theorem d_V_findTaker_5 : decode c_V_findTaker 5 = .ok (.if_icmp .ne 7, 3) := by decide +kernel
theorem d_V_findTaker_8 : decode c_V_findTaker 8 = .ok (.iconst 3, 1) := by decide +kernel
theorem d_V_findTaker_9 : decode c_V_findTaker 9 = .ok (.goto 4, 3) := by decide +kernel
theorem d_V_findTaker_12 : decode c_V_findTaker 12 = .ok (.iconst 2, 1) := by decide +kernel
theorem d_V_findTaker_13 : decode c_V_findTaker 13 = .ok (.istore_n 1, 1) := by decide +kernel
theorem d_V_findTaker_14 : decode c_V_findTaker 14 = .ok (.iconst 0, 1) := by decide +kernel
theorem d_V_findTaker_15 : decode c_V_findTaker 15 = .ok (.istore_n 2, 1) := by decide +kernel
theorem d_V_findTaker_16 : decode c_V_findTaker 16 = .ok (.iload_n 2, 1) := by decide +kernel
theorem d_V_findTaker_17 : decode c_V_findTaker 17 = .ok (.iload_n 1, 1) := by decide +kernel
theorem d_V_findTaker_18 : decode c_V_findTaker 18 = .ok (.if_icmp .gt 23, 3) := by decide +kernel
theorem d_V_findTaker_21 : decode c_V_findTaker 21 = .ok (.aload_n 0, 1) := by decide +kernel
theorem d_V_findTaker_22 : decode c_V_findTaker 22 = .ok (.aload_n 0, 1) := by decide +kernel
theorem d_V_findTaker_23 : decode c_V_findTaker 23 = .ok (.getfield 29, 3) := by decide +kernel
theorem d_V_findTaker_26 : decode c_V_findTaker 26 = .ok (.iload_n 2, 1) := by decide +kernel
theorem d_V_findTaker_27 : decode c_V_findTaker 27 = .ok (.invokevirtual 77, 3) := by decide +kernel
theorem d_V_findTaker_30 : decode c_V_findTaker 30 = .ok (.ifCond .eq 5, 3) := by decide +kernel
theorem d_V_findTaker_33 : decode c_V_findTaker 33 = .ok (.iload_n 2, 1) := by decide +kernel
theorem d_V_findTaker_34 : decode c_V_findTaker 34 = .ok (.ireturn, 1) := by decide +kernel
theorem d_V_findTaker_35 : decode c_V_findTaker 35 = .ok (.iinc 2 1, 3) := by decide +kernel
theorem d_V_findTaker_38 : decode c_V_findTaker 38 = .ok (.goto (-22), 3) := by decide +kernel
theorem d_V_findTaker_41 : decode c_V_findTaker 41 = .ok (.aload_n 0, 1) := by decide +kernel
theorem d_V_findTaker_42 : decode c_V_findTaker 42 = .ok (.getfield 44, 3) := by decide +kernel
theorem d_V_findTaker_45 : decode c_V_findTaker 45 = .ok (.iconst (-1), 1) := by decide +kernel
theorem d_V_findTaker_46 : decode c_V_findTaker 46 = .ok (.if_icmp .ne 7, 3) := by decide +kernel
theorem d_V_findTaker_49 : decode c_V_findTaker 49 = .ok (.iconst 5, 1) := by decide +kernel
theorem d_V_findTaker_50 : decode c_V_findTaker 50 = .ok (.goto 4, 3) := by decide +kernel
theorem d_V_findTaker_53 : decode c_V_findTaker 53 = .ok (.iconst 4, 1) := by decide +kernel
theorem d_V_findTaker_54 : decode c_V_findTaker 54 = .ok (.ireturn, 1) := by decide +kernel
theorem d_V_leastStemOver_0 : decode c_V_leastStemOver 0 = .ok (.aload_n 0, 1) := by decide +kernel
theorem d_V_leastStemOver_1 : decode c_V_leastStemOver 1 = .ok (.getfield 51, 3) := by decide +kernel
theorem d_V_leastStemOver_4 : decode c_V_leastStemOver 4 = .ok (.iconst 3, 1) := by decide +kernel
theorem d_V_leastStemOver_5 : decode c_V_leastStemOver 5 = .ok (.if_icmp .gt 12, 3) := by decide +kernel
theorem d_V_leastStemOver_8 : decode c_V_leastStemOver 8 = .ok (.aload_n 0, 1) := by decide +kernel
theorem d_V_leastStemOver_9 : decode c_V_leastStemOver 9 = .ok (.getfield 9, 3) := by decide +kernel
theorem d_V_leastStemOver_12 : decode c_V_leastStemOver 12 = .ok (.iload_n 1, 1) := by decide +kernel
theorem d_V_leastStemOver_13 : decode c_V_leastStemOver 13 = .ok (.baload, 1) := by decide +kernel
theorem d_V_leastStemOver_14 : decode c_V_leastStemOver 14 = .ok (.ifCond .ne 5, 3) := by decide +kernel
theorem d_V_leastStemOver_17 : decode c_V_leastStemOver 17 = .ok (.iconst (-1), 1) := by decide +kernel
theorem d_V_leastStemOver_18 : decode c_V_leastStemOver 18 = .ok (.ireturn, 1) := by decide +kernel
theorem d_V_leastStemOver_19 : decode c_V_leastStemOver 19 = .ok (.iconst 0, 1) := by decide +kernel
theorem d_V_leastStemOver_20 : decode c_V_leastStemOver 20 = .ok (.istore_n 2, 1) := by decide +kernel
theorem d_V_leastStemOver_21 : decode c_V_leastStemOver 21 = .ok (.iload_n 2, 1) := by decide +kernel
theorem d_V_leastStemOver_22 : decode c_V_leastStemOver 22 = .ok (.iload_n 1, 1) := by decide +kernel
theorem d_V_leastStemOver_23 : decode c_V_leastStemOver 23 = .ok (.if_icmp .gt 28, 3) := by decide +kernel
theorem d_V_leastStemOver_26 : decode c_V_leastStemOver 26 = .ok (.aload_n 0, 1) := by decide +kernel
theorem d_V_leastStemOver_27 : decode c_V_leastStemOver 27 = .ok (.iload_n 2, 1) := by decide +kernel
theorem d_V_leastStemOver_28 : decode c_V_leastStemOver 28 = .ok (.invokevirtual 80, 3) := by decide +kernel
theorem d_V_leastStemOver_31 : decode c_V_leastStemOver 31 = .ok (.ifCond .eq 14, 3) := by decide +kernel
theorem d_V_leastStemOver_34 : decode c_V_leastStemOver 34 = .ok (.aload_n 0, 1) := by decide +kernel
theorem d_V_leastStemOver_35 : decode c_V_leastStemOver 35 = .ok (.iload_n 2, 1) := by decide +kernel
theorem d_V_leastStemOver_36 : decode c_V_leastStemOver 36 = .ok (.iload_n 1, 1) := by decide +kernel
theorem d_V_leastStemOver_37 : decode c_V_leastStemOver 37 = .ok (.invokevirtual 84, 3) := by decide +kernel
theorem d_V_leastStemOver_40 : decode c_V_leastStemOver 40 = .ok (.ifCond .eq 5, 3) := by decide +kernel
theorem d_V_leastStemOver_43 : decode c_V_leastStemOver 43 = .ok (.iload_n 2, 1) := by decide +kernel
theorem d_V_leastStemOver_44 : decode c_V_leastStemOver 44 = .ok (.ireturn, 1) := by decide +kernel
theorem d_V_leastStemOver_45 : decode c_V_leastStemOver 45 = .ok (.iinc 2 1, 3) := by decide +kernel
theorem d_V_leastStemOver_48 : decode c_V_leastStemOver 48 = .ok (.goto (-27), 3) := by decide +kernel
theorem d_V_leastStemOver_51 : decode c_V_leastStemOver 51 = .ok (.iconst (-1), 1) := by decide +kernel
theorem d_V_leastStemOver_52 : decode c_V_leastStemOver 52 = .ok (.ireturn, 1) := by decide +kernel
theorem d_V_beginsOrder_0 : decode c_V_beginsOrder 0 = .ok (.aload_n 0, 1) := by decide +kernel
theorem d_V_beginsOrder_1 : decode c_V_beginsOrder 1 = .ok (.getfield 51, 3) := by decide +kernel
theorem d_V_beginsOrder_4 : decode c_V_beginsOrder 4 = .ok (.ifCond .ne 18, 3) := by decide +kernel
theorem d_V_beginsOrder_7 : decode c_V_beginsOrder 7 = .ok (.aload_n 0, 1) := by decide +kernel
theorem d_V_beginsOrder_8 : decode c_V_beginsOrder 8 = .ok (.getfield 25, 3) := by decide +kernel
theorem d_V_beginsOrder_11 : decode c_V_beginsOrder 11 = .ok (.iload_n 1, 1) := by decide +kernel
theorem d_V_beginsOrder_12 : decode c_V_beginsOrder 12 = .ok (.aload_n 0, 1) := by decide +kernel
theorem d_V_beginsOrder_13 : decode c_V_beginsOrder 13 = .ok (.getfield 29, 3) := by decide +kernel
theorem d_V_beginsOrder_16 : decode c_V_beginsOrder 16 = .ok (.invokevirtual 87, 3) := by decide +kernel
theorem d_V_beginsOrder_19 : decode c_V_beginsOrder 19 = .ok (.goto 19, 3) := by decide +kernel
theorem d_V_beginsOrder_22 : decode c_V_beginsOrder 22 = .ok (.aload_n 0, 1) := by decide +kernel
theorem d_V_beginsOrder_23 : decode c_V_beginsOrder 23 = .ok (.getfield 25, 3) := by decide +kernel
theorem d_V_beginsOrder_26 : decode c_V_beginsOrder 26 = .ok (.iload_n 1, 1) := by decide +kernel
theorem d_V_beginsOrder_27 : decode c_V_beginsOrder 27 = .ok (.aload_n 0, 1) := by decide +kernel
theorem d_V_beginsOrder_28 : decode c_V_beginsOrder 28 = .ok (.getfield 29, 3) := by decide +kernel
theorem d_V_beginsOrder_31 : decode c_V_beginsOrder 31 = .ok (.aload_n 0, 1) := by decide +kernel
theorem d_V_beginsOrder_32 : decode c_V_beginsOrder 32 = .ok (.getfield 51, 3) := by decide +kernel
theorem d_V_beginsOrder_35 : decode c_V_beginsOrder 35 = .ok (.invokestatic 90, 3) := by decide +kernel
theorem d_V_beginsOrder_38 : decode c_V_beginsOrder 38 = .ok (.ireturn, 1) := by decide +kernel
theorem d_V_isAncestor_0 : decode c_V_isAncestor 0 = .ok (.iload_n 2, 1) := by decide +kernel
theorem d_V_isAncestor_1 : decode c_V_isAncestor 1 = .ok (.iconst (-1), 1) := by decide +kernel
theorem d_V_isAncestor_2 : decode c_V_isAncestor 2 = .ok (.if_icmp .eq 7, 3) := by decide +kernel
theorem d_V_isAncestor_5 : decode c_V_isAncestor 5 = .ok (.iload_n 3, 1) := by decide +kernel
theorem d_V_isAncestor_6 : decode c_V_isAncestor 6 = .ok (.ifCond .gt 14, 3) := by decide +kernel
theorem d_V_isAncestor_9 : decode c_V_isAncestor 9 = .ok (.iload_n 2, 1) := by decide +kernel
theorem d_V_isAncestor_10 : decode c_V_isAncestor 10 = .ok (.iload_n 1, 1) := by decide +kernel
theorem d_V_isAncestor_11 : decode c_V_isAncestor 11 = .ok (.if_icmp .ne 7, 3) := by decide +kernel
theorem d_V_isAncestor_14 : decode c_V_isAncestor 14 = .ok (.iconst 1, 1) := by decide +kernel
theorem d_V_isAncestor_15 : decode c_V_isAncestor 15 = .ok (.goto 4, 3) := by decide +kernel
theorem d_V_isAncestor_18 : decode c_V_isAncestor 18 = .ok (.iconst 0, 1) := by decide +kernel
theorem d_V_isAncestor_19 : decode c_V_isAncestor 19 = .ok (.ireturn, 1) := by decide +kernel
theorem d_V_isAncestor_20 : decode c_V_isAncestor 20 = .ok (.aload_n 0, 1) := by decide +kernel
theorem d_V_isAncestor_21 : decode c_V_isAncestor 21 = .ok (.iload_n 1, 1) := by decide +kernel
theorem d_V_isAncestor_22 : decode c_V_isAncestor 22 = .ok (.aload_n 0, 1) := by decide +kernel
theorem d_V_isAncestor_23 : decode c_V_isAncestor 23 = .ok (.getfield 67, 3) := by decide +kernel
theorem d_V_isAncestor_26 : decode c_V_isAncestor 26 = .ok (.iload_n 2, 1) := by decide +kernel
theorem d_V_isAncestor_27 : decode c_V_isAncestor 27 = .ok (.iaload, 1) := by decide +kernel
theorem d_V_isAncestor_28 : decode c_V_isAncestor 28 = .ok (.iload_n 3, 1) := by decide +kernel
theorem d_V_isAncestor_29 : decode c_V_isAncestor 29 = .ok (.iconst 1, 1) := by decide +kernel
theorem d_V_isAncestor_30 : decode c_V_isAncestor 30 = .ok (.isub, 1) := by decide +kernel
theorem d_V_isAncestor_31 : decode c_V_isAncestor 31 = .ok (.invokestatic 90, 3) := by decide +kernel
theorem d_V_isAncestor_34 : decode c_V_isAncestor 34 = .ok (.ifCond .ne 20, 3) := by decide +kernel
theorem d_V_isAncestor_37 : decode c_V_isAncestor 37 = .ok (.aload_n 0, 1) := by decide +kernel
theorem d_V_isAncestor_38 : decode c_V_isAncestor 38 = .ok (.iload_n 1, 1) := by decide +kernel
theorem d_V_isAncestor_39 : decode c_V_isAncestor 39 = .ok (.aload_n 0, 1) := by decide +kernel
theorem d_V_isAncestor_40 : decode c_V_isAncestor 40 = .ok (.getfield 74, 3) := by decide +kernel
theorem d_V_isAncestor_43 : decode c_V_isAncestor 43 = .ok (.iload_n 2, 1) := by decide +kernel
theorem d_V_isAncestor_44 : decode c_V_isAncestor 44 = .ok (.iaload, 1) := by decide +kernel
theorem d_V_isAncestor_45 : decode c_V_isAncestor 45 = .ok (.iload_n 3, 1) := by decide +kernel
theorem d_V_isAncestor_46 : decode c_V_isAncestor 46 = .ok (.iconst 1, 1) := by decide +kernel
theorem d_V_isAncestor_47 : decode c_V_isAncestor 47 = .ok (.isub, 1) := by decide +kernel
theorem d_V_isAncestor_48 : decode c_V_isAncestor 48 = .ok (.invokestatic 90, 3) := by decide +kernel
theorem d_V_isAncestor_51 : decode c_V_isAncestor 51 = .ok (.ifCond .eq 7, 3) := by decide +kernel
theorem d_V_isAncestor_54 : decode c_V_isAncestor 54 = .ok (.iconst 1, 1) := by decide +kernel
theorem d_V_isAncestor_55 : decode c_V_isAncestor 55 = .ok (.goto 4, 3) := by decide +kernel
theorem d_V_isAncestor_58 : decode c_V_isAncestor 58 = .ok (.iconst 0, 1) := by decide +kernel
theorem d_V_isAncestor_59 : decode c_V_isAncestor 59 = .ok (.ireturn, 1) := by decide +kernel
theorem d_V_stemReaches_0 : decode c_V_stemReaches 0 = .ok (.iconst 0, 1) := by decide +kernel
theorem d_V_stemReaches_1 : decode c_V_stemReaches 1 = .ok (.istore_n 3, 1) := by decide +kernel
theorem d_V_stemReaches_2 : decode c_V_stemReaches 2 = .ok (.iload_n 3, 1) := by decide +kernel
theorem d_V_stemReaches_3 : decode c_V_stemReaches 3 = .ok (.iload_n 2, 1) := by decide +kernel
theorem d_V_stemReaches_4 : decode c_V_stemReaches 4 = .ok (.if_icmp .gt 57, 3) := by decide +kernel
theorem d_V_stemReaches_7 : decode c_V_stemReaches 7 = .ok (.aload_n 0, 1) := by decide +kernel
theorem d_V_stemReaches_8 : decode c_V_stemReaches 8 = .ok (.getfield 22, 3) := by decide +kernel
theorem d_V_stemReaches_11 : decode c_V_stemReaches 11 = .ok (.iload_n 3, 1) := by decide +kernel
theorem d_V_stemReaches_12 : decode c_V_stemReaches 12 = .ok (.iload_n 3, 1) := by decide +kernel
theorem d_V_stemReaches_13 : decode c_V_stemReaches 13 = .ok (.iload_n 1, 1) := by decide +kernel
theorem d_V_stemReaches_14 : decode c_V_stemReaches 14 = .ok (.if_icmp .eq 35, 3) := by decide +kernel
theorem d_V_stemReaches_17 : decode c_V_stemReaches 17 = .ok (.aload_n 0, 1) := by decide +kernel
theorem d_V_stemReaches_18 : decode c_V_stemReaches 18 = .ok (.aload_n 0, 1) := by decide +kernel
theorem d_V_stemReaches_19 : decode c_V_stemReaches 19 = .ok (.getfield 25, 3) := by decide +kernel
theorem d_V_stemReaches_22 : decode c_V_stemReaches 22 = .ok (.getfield 67, 3) := by decide +kernel
theorem d_V_stemReaches_25 : decode c_V_stemReaches 25 = .ok (.iload_n 3, 1) := by decide +kernel
theorem d_V_stemReaches_26 : decode c_V_stemReaches 26 = .ok (.iaload, 1) := by decide +kernel
theorem d_V_stemReaches_27 : decode c_V_stemReaches 27 = .ok (.invokevirtual 94, 3) := by decide +kernel
theorem d_V_stemReaches_30 : decode c_V_stemReaches 30 = .ok (.ifCond .ne 19, 3) := by decide +kernel
theorem d_V_stemReaches_33 : decode c_V_stemReaches 33 = .ok (.aload_n 0, 1) := by decide +kernel
theorem d_V_stemReaches_34 : decode c_V_stemReaches 34 = .ok (.aload_n 0, 1) := by decide +kernel
theorem d_V_stemReaches_35 : decode c_V_stemReaches 35 = .ok (.getfield 25, 3) := by decide +kernel
theorem d_V_stemReaches_38 : decode c_V_stemReaches 38 = .ok (.getfield 74, 3) := by decide +kernel
theorem d_V_stemReaches_41 : decode c_V_stemReaches 41 = .ok (.iload_n 3, 1) := by decide +kernel
theorem d_V_stemReaches_42 : decode c_V_stemReaches 42 = .ok (.iaload, 1) := by decide +kernel
theorem d_V_stemReaches_43 : decode c_V_stemReaches 43 = .ok (.invokevirtual 94, 3) := by decide +kernel
theorem d_V_stemReaches_46 : decode c_V_stemReaches 46 = .ok (.ifCond .eq 7, 3) := by decide +kernel
theorem d_V_stemReaches_49 : decode c_V_stemReaches 49 = .ok (.iconst 1, 1) := by decide +kernel
theorem d_V_stemReaches_50 : decode c_V_stemReaches 50 = .ok (.goto 4, 3) := by decide +kernel
theorem d_V_stemReaches_53 : decode c_V_stemReaches 53 = .ok (.iconst 0, 1) := by decide +kernel
theorem d_V_stemReaches_54 : decode c_V_stemReaches 54 = .ok (.bastore, 1) := by decide +kernel
theorem d_V_stemReaches_55 : decode c_V_stemReaches 55 = .ok (.iinc 3 1, 3) := by decide +kernel
theorem d_V_stemReaches_58 : decode c_V_stemReaches 58 = .ok (.goto (-56), 3) := by decide +kernel
theorem d_V_stemReaches_61 : decode c_V_stemReaches 61 = .ok (.aload_n 0, 1) := by decide +kernel
theorem d_V_stemReaches_62 : decode c_V_stemReaches 62 = .ok (.getfield 22, 3) := by decide +kernel
theorem d_V_stemReaches_65 : decode c_V_stemReaches 65 = .ok (.iload_n 2, 1) := by decide +kernel
theorem d_V_stemReaches_66 : decode c_V_stemReaches 66 = .ok (.baload, 1) := by decide +kernel
theorem d_V_stemReaches_67 : decode c_V_stemReaches 67 = .ok (.ireturn, 1) := by decide +kernel
theorem d_V_passesOn_0 : decode c_V_passesOn 0 = .ok (.iload_n 1, 1) := by decide +kernel
theorem d_V_passesOn_1 : decode c_V_passesOn 1 = .ok (.iconst (-1), 1) := by decide +kernel
theorem d_V_passesOn_2 : decode c_V_passesOn 2 = .ok (.if_icmp .eq 25, 3) := by decide +kernel
theorem d_V_passesOn_5 : decode c_V_passesOn 5 = .ok (.aload_n 0, 1) := by decide +kernel
theorem d_V_passesOn_6 : decode c_V_passesOn 6 = .ok (.getfield 22, 3) := by decide +kernel
theorem d_V_passesOn_9 : decode c_V_passesOn 9 = .ok (.iload_n 1, 1) := by decide +kernel
theorem d_V_passesOn_10 : decode c_V_passesOn 10 = .ok (.baload, 1) := by decide +kernel
theorem d_V_passesOn_11 : decode c_V_passesOn 11 = .ok (.ifCond .eq 16, 3) := by decide +kernel
theorem d_V_passesOn_14 : decode c_V_passesOn 14 = .ok (.aload_n 0, 1) := by decide +kernel
theorem d_V_passesOn_15 : decode c_V_passesOn 15 = .ok (.getfield 9, 3) := by decide +kernel
theorem d_V_passesOn_18 : decode c_V_passesOn 18 = .ok (.iload_n 1, 1) := by decide +kernel
theorem d_V_passesOn_19 : decode c_V_passesOn 19 = .ok (.baload, 1) := by decide +kernel
theorem d_V_passesOn_20 : decode c_V_passesOn 20 = .ok (.ifCond .ne 7, 3) := by decide +kernel
theorem d_V_passesOn_23 : decode c_V_passesOn 23 = .ok (.iconst 1, 1) := by decide +kernel
theorem d_V_passesOn_24 : decode c_V_passesOn 24 = .ok (.goto 4, 3) := by decide +kernel
theorem d_V_passesOn_27 : decode c_V_passesOn 27 = .ok (.iconst 0, 1) := by decide +kernel
theorem d_V_passesOn_28 : decode c_V_passesOn 28 = .ok (.ireturn, 1) := by decide +kernel
theorem d_A_fillI_0 : decode c_A_fillI 0 = .ok (.iconst 0, 1) := by decide +kernel
theorem d_A_fillI_1 : decode c_A_fillI 1 = .ok (.istore_n 2, 1) := by decide +kernel
theorem d_A_fillI_2 : decode c_A_fillI 2 = .ok (.aload_n 0, 1) := by decide +kernel
theorem d_A_fillI_3 : decode c_A_fillI 3 = .ok (.arraylength, 1) := by decide +kernel
theorem d_A_fillI_4 : decode c_A_fillI 4 = .ok (.istore_n 3, 1) := by decide +kernel
theorem d_A_fillI_5 : decode c_A_fillI 5 = .ok (.iload_n 2, 1) := by decide +kernel
theorem d_A_fillI_6 : decode c_A_fillI 6 = .ok (.iload_n 3, 1) := by decide +kernel
theorem d_A_fillI_7 : decode c_A_fillI 7 = .ok (.if_icmp .ge 13, 3) := by decide +kernel
theorem d_A_fillI_10 : decode c_A_fillI 10 = .ok (.aload_n 0, 1) := by decide +kernel
theorem d_A_fillI_11 : decode c_A_fillI 11 = .ok (.iload_n 2, 1) := by decide +kernel
theorem d_A_fillI_12 : decode c_A_fillI 12 = .ok (.iload_n 1, 1) := by decide +kernel
theorem d_A_fillI_13 : decode c_A_fillI 13 = .ok (.iastore, 1) := by decide +kernel
theorem d_A_fillI_14 : decode c_A_fillI 14 = .ok (.iinc 2 1, 3) := by decide +kernel
theorem d_A_fillI_17 : decode c_A_fillI 17 = .ok (.goto (-12), 3) := by decide +kernel
theorem d_A_fillI_20 : decode c_A_fillI 20 = .ok (.return_, 1) := by decide +kernel
theorem d_A_fillJ_0 : decode c_A_fillJ 0 = .ok (.iconst 0, 1) := by decide +kernel
theorem d_A_fillJ_1 : decode c_A_fillJ 1 = .ok (.istore_n 3, 1) := by decide +kernel
theorem d_A_fillJ_2 : decode c_A_fillJ 2 = .ok (.aload_n 0, 1) := by decide +kernel
theorem d_A_fillJ_3 : decode c_A_fillJ 3 = .ok (.arraylength, 1) := by decide +kernel
theorem d_A_fillJ_4 : decode c_A_fillJ 4 = .ok (.istore 4, 2) := by decide +kernel
theorem d_A_fillJ_6 : decode c_A_fillJ 6 = .ok (.iload_n 3, 1) := by decide +kernel
theorem d_A_fillJ_7 : decode c_A_fillJ 7 = .ok (.iload 4, 2) := by decide +kernel
theorem d_A_fillJ_9 : decode c_A_fillJ 9 = .ok (.if_icmp .ge 13, 3) := by decide +kernel
theorem d_A_fillJ_12 : decode c_A_fillJ 12 = .ok (.aload_n 0, 1) := by decide +kernel
theorem d_A_fillJ_13 : decode c_A_fillJ 13 = .ok (.iload_n 3, 1) := by decide +kernel
theorem d_A_fillJ_14 : decode c_A_fillJ 14 = .ok (.lload_n 1, 1) := by decide +kernel
theorem d_A_fillJ_15 : decode c_A_fillJ 15 = .ok (.lastore, 1) := by decide +kernel
theorem d_A_fillJ_16 : decode c_A_fillJ 16 = .ok (.iinc 3 1, 3) := by decide +kernel
theorem d_A_fillJ_19 : decode c_A_fillJ 19 = .ok (.goto (-13), 3) := by decide +kernel
theorem d_A_fillJ_22 : decode c_A_fillJ 22 = .ok (.return_, 1) := by decide +kernel
end
section
theorem d_D_init_0 : decode c_D_init 0 = .ok (.aload_n 0, 1) := by decide +kernel
theorem d_D_init_1 : decode c_D_init 1 = .ok (.invokespecial 3, 3) := by decide +kernel
theorem d_D_init_4 : decode c_D_init 4 = .ok (.aload_n 0, 1) := by decide +kernel
theorem d_D_init_5 : decode c_D_init 5 = .ok (.bipush 20, 2) := by decide +kernel
theorem d_D_init_7 : decode c_D_init 7 = .ok (.newarray .long, 2) := by decide +kernel
theorem d_D_init_9 : decode c_D_init 9 = .ok (.putfield 9, 3) := by decide +kernel
theorem d_D_init_12 : decode c_D_init 12 = .ok (.aload_n 0, 1) := by decide +kernel
theorem d_D_init_13 : decode c_D_init 13 = .ok (.lconst 1, 1) := by decide +kernel
theorem d_D_init_14 : decode c_D_init 14 = .ok (.putfield 15, 3) := by decide +kernel
theorem d_D_init_17 : decode c_D_init 17 = .ok (.aload_n 0, 1) := by decide +kernel
theorem d_D_init_18 : decode c_D_init 18 = .ok (.bipush 20, 2) := by decide +kernel
theorem d_D_init_20 : decode c_D_init 20 = .ok (.newarray .long, 2) := by decide +kernel
theorem d_D_init_22 : decode c_D_init 22 = .ok (.putfield 19, 3) := by decide +kernel
theorem d_D_init_25 : decode c_D_init 25 = .ok (.aload_n 0, 1) := by decide +kernel
theorem d_D_init_26 : decode c_D_init 26 = .ok (.bipush 20, 2) := by decide +kernel
theorem d_D_init_28 : decode c_D_init 28 = .ok (.newarray .long, 2) := by decide +kernel
theorem d_D_init_30 : decode c_D_init 30 = .ok (.putfield 22, 3) := by decide +kernel
theorem d_D_init_33 : decode c_D_init 33 = .ok (.aload_n 0, 1) := by decide +kernel
theorem d_D_init_34 : decode c_D_init 34 = .ok (.aload_n 1, 1) := by decide +kernel
theorem d_D_init_35 : decode c_D_init 35 = .ok (.putfield 25, 3) := by decide +kernel
theorem d_D_init_38 : decode c_D_init 38 = .ok (.aload_n 0, 1) := by decide +kernel
theorem d_D_init_39 : decode c_D_init 39 = .ok (.aload_n 2, 1) := by decide +kernel
theorem d_D_init_40 : decode c_D_init 40 = .ok (.putfield 29, 3) := by decide +kernel
theorem d_D_init_43 : decode c_D_init 43 = .ok (.aload_n 0, 1) := by decide +kernel
theorem d_D_init_44 : decode c_D_init 44 = .ok (.new 33, 3) := by decide +kernel
theorem d_D_init_47 : decode c_D_init 47 = .ok (.dup, 1) := by decide +kernel
theorem d_D_init_48 : decode c_D_init 48 = .ok (.aload_n 1, 1) := by decide +kernel
theorem d_D_init_49 : decode c_D_init 49 = .ok (.aload_n 2, 1) := by decide +kernel
theorem d_D_init_50 : decode c_D_init 50 = .ok (.invokespecial 35, 3) := by decide +kernel
theorem d_D_init_53 : decode c_D_init 53 = .ok (.putfield 38, 3) := by decide +kernel
theorem d_D_init_56 : decode c_D_init 56 = .ok (.return_, 1) := by decide +kernel
theorem d_D_divideByShares_0 : decode c_D_divideByShares 0 = .ok (.ldc2_w 42, 3) := by decide +kernel
theorem d_D_divideByShares_3 : decode c_D_divideByShares 3 = .ok (.aload_n 0, 1) := by decide +kernel
theorem d_D_divideByShares_4 : decode c_D_divideByShares 4 = .ok (.invokevirtual 44, 3) := by decide +kernel
theorem d_D_divideByShares_7 : decode c_D_divideByShares 7 = .ok (.lmul, 1) := by decide +kernel
theorem d_D_divideByShares_8 : decode c_D_divideByShares 8 = .ok (.lstore_n 3, 1) := by decide +kernel
theorem d_D_divideByShares_9 : decode c_D_divideByShares 9 = .ok (.aload_n 0, 1) := by decide +kernel
theorem d_D_divideByShares_10 : decode c_D_divideByShares 10 = .ok (.ldc2_w 48, 3) := by decide +kernel
theorem d_D_divideByShares_13 : decode c_D_divideByShares 13 = .ok (.lload_n 3, 1) := by decide +kernel
theorem d_D_divideByShares_14 : decode c_D_divideByShares 14 = .ok (.lmul, 1) := by decide +kernel
theorem d_D_divideByShares_15 : decode c_D_divideByShares 15 = .ok (.lload_n 1, 1) := by decide +kernel
theorem d_D_divideByShares_16 : decode c_D_divideByShares 16 = .ok (.lload_n 3, 1) := by decide +kernel
theorem d_D_divideByShares_17 : decode c_D_divideByShares 17 = .ok (.lmul, 1) := by decide +kernel
theorem d_D_divideByShares_18 : decode c_D_divideByShares 18 = .ok (.invokevirtual 50, 3) := by decide +kernel
theorem d_D_divideByShares_21 : decode c_D_divideByShares 21 = .ok (.aload_n 0, 1) := by decide +kernel
theorem d_D_divideByShares_22 : decode c_D_divideByShares 22 = .ok (.getfield 29, 3) := by decide +kernel
theorem d_D_divideByShares_25 : decode c_D_divideByShares 25 = .ok (.getfield 54, 3) := by decide +kernel
theorem d_D_divideByShares_28 : decode c_D_divideByShares 28 = .ok (.iconst 3, 1) := by decide +kernel
theorem d_D_divideByShares_29 : decode c_D_divideByShares 29 = .ok (.if_icmp .gt 44, 3) := by decide +kernel
theorem d_D_divideByShares_32 : decode c_D_divideByShares 32 = .ok (.aload_n 0, 1) := by decide +kernel
theorem d_D_divideByShares_33 : decode c_D_divideByShares 33 = .ok (.getfield 19, 3) := by decide +kernel
theorem d_D_divideByShares_36 : decode c_D_divideByShares 36 = .ok (.aload_n 0, 1) := by decide +kernel
theorem d_D_divideByShares_37 : decode c_D_divideByShares 37 = .ok (.getfield 29, 3) := by decide +kernel
theorem d_D_divideByShares_40 : decode c_D_divideByShares 40 = .ok (.getfield 60, 3) := by decide +kernel
theorem d_D_divideByShares_43 : decode c_D_divideByShares 43 = .ok (.lload_n 1, 1) := by decide +kernel
theorem d_D_divideByShares_44 : decode c_D_divideByShares 44 = .ok (.lload_n 3, 1) := by decide +kernel
theorem d_D_divideByShares_45 : decode c_D_divideByShares 45 = .ok (.lmul, 1) := by decide +kernel
theorem d_D_divideByShares_46 : decode c_D_divideByShares 46 = .ok (.iconst 4, 1) := by decide +kernel
theorem d_D_divideByShares_47 : decode c_D_divideByShares 47 = .ok (.aload_n 0, 1) := by decide +kernel
theorem d_D_divideByShares_48 : decode c_D_divideByShares 48 = .ok (.getfield 29, 3) := by decide +kernel
theorem d_D_divideByShares_51 : decode c_D_divideByShares 51 = .ok (.invokevirtual 63, 3) := by decide +kernel
theorem d_D_divideByShares_54 : decode c_D_divideByShares 54 = .ok (.isub, 1) := by decide +kernel
theorem d_D_divideByShares_55 : decode c_D_divideByShares 55 = .ok (.i2l, 1) := by decide +kernel
theorem d_D_divideByShares_56 : decode c_D_divideByShares 56 = .ok (.lmul, 1) := by decide +kernel
theorem d_D_divideByShares_57 : decode c_D_divideByShares 57 = .ok (.lastore, 1) := by decide +kernel
theorem d_D_divideByShares_58 : decode c_D_divideByShares 58 = .ok (.aload_n 0, 1) := by decide +kernel
theorem d_D_divideByShares_59 : decode c_D_divideByShares 59 = .ok (.aload_n 0, 1) := by decide +kernel
theorem d_D_divideByShares_60 : decode c_D_divideByShares 60 = .ok (.getfield 29, 3) := by decide +kernel
theorem d_D_divideByShares_63 : decode c_D_divideByShares 63 = .ok (.getfield 54, 3) := by decide +kernel
theorem d_D_divideByShares_66 : decode c_D_divideByShares 66 = .ok (.invokevirtual 67, 3) := by decide +kernel
theorem d_D_divideByShares_69 : decode c_D_divideByShares 69 = .ok (.aload_n 0, 1) := by decide +kernel
theorem d_D_divideByShares_70 : decode c_D_divideByShares 70 = .ok (.invokevirtual 71, 3) := by decide +kernel
theorem d_D_divideByShares_73 : decode c_D_divideByShares 73 = .ok (.return_, 1) := by decide +kernel
theorem d_D_divideWithGifts_0 : decode c_D_divideWithGifts 0 = .ok (.aload_n 0, 1) := by decide +kernel
theorem d_D_divideWithGifts_1 : decode c_D_divideWithGifts 1 = .ok (.getfield 38, 3) := by decide +kernel
theorem d_D_divideWithGifts_4 : decode c_D_divideWithGifts 4 = .ok (.lload_n 1, 1) := by decide +kernel
theorem d_D_divideWithGifts_5 : decode c_D_divideWithGifts 5 = .ok (.iconst 4, 1) := by decide +kernel
theorem d_D_divideWithGifts_6 : decode c_D_divideWithGifts 6 = .ok (.aload_n 0, 1) := by decide +kernel
theorem d_D_divideWithGifts_7 : decode c_D_divideWithGifts 7 = .ok (.getfield 29, 3) := by decide +kernel
theorem d_D_divideWithGifts_10 : decode c_D_divideWithGifts 10 = .ok (.invokevirtual 63, 3) := by decide +kernel
theorem d_D_divideWithGifts_13 : decode c_D_divideWithGifts 13 = .ok (.isub, 1) := by decide +kernel
theorem d_D_divideWithGifts_14 : decode c_D_divideWithGifts 14 = .ok (.i2l, 1) := by decide +kernel
theorem d_D_divideWithGifts_15 : decode c_D_divideWithGifts 15 = .ok (.lmul, 1) := by decide +kernel
theorem d_D_divideWithGifts_16 : decode c_D_divideWithGifts 16 = .ok (.invokevirtual 74, 3) := by decide +kernel
theorem d_D_divideWithGifts_19 : decode c_D_divideWithGifts 19 = .ok (.aload_n 0, 1) := by decide +kernel
theorem d_D_divideWithGifts_20 : decode c_D_divideWithGifts 20 = .ok (.getfield 38, 3) := by decide +kernel
theorem d_D_divideWithGifts_23 : decode c_D_divideWithGifts 23 = .ok (.invokevirtual 78, 3) := by decide +kernel
theorem d_D_divideWithGifts_26 : decode c_D_divideWithGifts 26 = .ok (.aload_n 0, 1) := by decide +kernel
theorem d_D_divideWithGifts_27 : decode c_D_divideWithGifts 27 = .ok (.invokevirtual 44, 3) := by decide +kernel
theorem d_D_divideWithGifts_30 : decode c_D_divideWithGifts 30 = .ok (.lstore_n 3, 1) := by decide +kernel
theorem d_D_divideWithGifts_31 : decode c_D_divideWithGifts 31 = .ok (.lload_n 3, 1) := by decide +kernel
theorem d_D_divideWithGifts_32 : decode c_D_divideWithGifts 32 = .ok (.aload_n 0, 1) := by decide +kernel
theorem d_D_divideWithGifts_33 : decode c_D_divideWithGifts 33 = .ok (.getfield 38, 3) := by decide +kernel
theorem d_D_divideWithGifts_36 : decode c_D_divideWithGifts 36 = .ok (.getfield 81, 3) := by decide +kernel
theorem d_D_divideWithGifts_39 : decode c_D_divideWithGifts 39 = .ok (.i2l, 1) := by decide +kernel
theorem d_D_divideWithGifts_40 : decode c_D_divideWithGifts 40 = .ok (.lmul, 1) := by decide +kernel
theorem d_D_divideWithGifts_41 : decode c_D_divideWithGifts 41 = .ok (.lstore 5, 2) := by decide +kernel
theorem d_D_divideWithGifts_43 : decode c_D_divideWithGifts 43 = .ok (.aload_n 0, 1) := by decide +kernel
theorem d_D_divideWithGifts_44 : decode c_D_divideWithGifts 44 = .ok (.ldc2_w 48, 3) := by decide +kernel
theorem d_D_divideWithGifts_47 : decode c_D_divideWithGifts 47 = .ok (.lload 5, 2) := by decide +kernel
theorem d_D_divideWithGifts_49 : decode c_D_divideWithGifts 49 = .ok (.lmul, 1) := by decide +kernel
theorem d_D_divideWithGifts_50 : decode c_D_divideWithGifts 50 = .ok (.lload_n 1, 1) := by decide +kernel
theorem d_D_divideWithGifts_51 : decode c_D_divideWithGifts 51 = .ok (.lload 5, 2) := by decide +kernel
theorem d_D_divideWithGifts_53 : decode c_D_divideWithGifts 53 = .ok (.lmul, 1) := by decide +kernel
theorem d_D_divideWithGifts_54 : decode c_D_divideWithGifts 54 = .ok (.invokevirtual 50, 3) := by decide +kernel
theorem d_D_divideWithGifts_57 : decode c_D_divideWithGifts 57 = .ok (.iconst 0, 1) := by decide +kernel
theorem d_D_divideWithGifts_58 : decode c_D_divideWithGifts 58 = .ok (.istore 7, 2) := by decide +kernel
theorem d_D_divideWithGifts_60 : decode c_D_divideWithGifts 60 = .ok (.iload 7, 2) := by decide +kernel
theorem d_D_divideWithGifts_62 : decode c_D_divideWithGifts 62 = .ok (.aload_n 0, 1) := by decide +kernel
theorem d_D_divideWithGifts_63 : decode c_D_divideWithGifts 63 = .ok (.getfield 25, 3) := by decide +kernel
theorem d_D_divideWithGifts_66 : decode c_D_divideWithGifts 66 = .ok (.getfield 84, 3) := by decide +kernel
theorem d_D_divideWithGifts_69 : decode c_D_divideWithGifts 69 = .ok (.if_icmp .ge 40, 3) := by decide +kernel
theorem d_D_divideWithGifts_72 : decode c_D_divideWithGifts 72 = .ok (.aload_n 0, 1) := by decide +kernel
theorem d_D_divideWithGifts_73 : decode c_D_divideWithGifts 73 = .ok (.getfield 38, 3) := by decide +kernel
theorem d_D_divideWithGifts_76 : decode c_D_divideWithGifts 76 = .ok (.getfield 89, 3) := by decide +kernel
theorem d_D_divideWithGifts_79 : decode c_D_divideWithGifts 79 = .ok (.iload 7, 2) := by decide +kernel
theorem d_D_divideWithGifts_81 : decode c_D_divideWithGifts 81 = .ok (.baload, 1) := by decide +kernel
theorem d_D_divideWithGifts_82 : decode c_D_divideWithGifts 82 = .ok (.ifCond .eq 21, 3) := by decide +kernel
theorem d_D_divideWithGifts_85 : decode c_D_divideWithGifts 85 = .ok (.aload_n 0, 1) := by decide +kernel
theorem d_D_divideWithGifts_86 : decode c_D_divideWithGifts 86 = .ok (.getfield 19, 3) := by decide +kernel
theorem d_D_divideWithGifts_89 : decode c_D_divideWithGifts 89 = .ok (.iload 7, 2) := by decide +kernel
theorem d_D_divideWithGifts_91 : decode c_D_divideWithGifts 91 = .ok (.aload_n 0, 1) := by decide +kernel
theorem d_D_divideWithGifts_92 : decode c_D_divideWithGifts 92 = .ok (.getfield 38, 3) := by decide +kernel
theorem d_D_divideWithGifts_95 : decode c_D_divideWithGifts 95 = .ok (.iload 7, 2) := by decide +kernel
theorem d_D_divideWithGifts_97 : decode c_D_divideWithGifts 97 = .ok (.invokevirtual 93, 3) := by decide +kernel
theorem d_D_divideWithGifts_100 : decode c_D_divideWithGifts 100 = .ok (.lload_n 3, 1) := by decide +kernel
theorem d_D_divideWithGifts_101 : decode c_D_divideWithGifts 101 = .ok (.lmul, 1) := by decide +kernel
theorem d_D_divideWithGifts_102 : decode c_D_divideWithGifts 102 = .ok (.lastore, 1) := by decide +kernel
theorem d_D_divideWithGifts_103 : decode c_D_divideWithGifts 103 = .ok (.iinc 7 1, 3) := by decide +kernel
theorem d_D_divideWithGifts_106 : decode c_D_divideWithGifts 106 = .ok (.goto (-46), 3) := by decide +kernel
theorem d_D_divideWithGifts_109 : decode c_D_divideWithGifts 109 = .ok (.aload_n 0, 1) := by decide +kernel
theorem d_D_divideWithGifts_110 : decode c_D_divideWithGifts 110 = .ok (.invokevirtual 71, 3) := by decide +kernel
theorem d_D_divideWithGifts_113 : decode c_D_divideWithGifts 113 = .ok (.return_, 1) := by decide +kernel
theorem d_D_branchProduct_0 : decode c_D_branchProduct 0 = .ok (.lconst 1, 1) := by decide +kernel
theorem d_D_branchProduct_1 : decode c_D_branchProduct 1 = .ok (.lstore_n 1, 1) := by decide +kernel
theorem d_D_branchProduct_2 : decode c_D_branchProduct 2 = .ok (.iconst 0, 1) := by decide +kernel
theorem d_D_branchProduct_3 : decode c_D_branchProduct 3 = .ok (.istore_n 3, 1) := by decide +kernel
theorem d_D_branchProduct_4 : decode c_D_branchProduct 4 = .ok (.iload_n 3, 1) := by decide +kernel
theorem d_D_branchProduct_5 : decode c_D_branchProduct 5 = .ok (.aload_n 0, 1) := by decide +kernel
theorem d_D_branchProduct_6 : decode c_D_branchProduct 6 = .ok (.getfield 25, 3) := by decide +kernel
theorem d_D_branchProduct_9 : decode c_D_branchProduct 9 = .ok (.getfield 84, 3) := by decide +kernel
theorem d_D_branchProduct_12 : decode c_D_branchProduct 12 = .ok (.if_icmp .ge 46, 3) := by decide +kernel
theorem d_D_branchProduct_15 : decode c_D_branchProduct 15 = .ok (.aload_n 0, 1) := by decide +kernel
theorem d_D_branchProduct_16 : decode c_D_branchProduct 16 = .ok (.getfield 29, 3) := by decide +kernel
theorem d_D_branchProduct_19 : decode c_D_branchProduct 19 = .ok (.getfield 97, 3) := by decide +kernel
theorem d_D_branchProduct_22 : decode c_D_branchProduct 22 = .ok (.iload_n 3, 1) := by decide +kernel
theorem d_D_branchProduct_23 : decode c_D_branchProduct 23 = .ok (.baload, 1) := by decide +kernel
theorem d_D_branchProduct_24 : decode c_D_branchProduct 24 = .ok (.ifCond .ne 28, 3) := by decide +kernel
theorem d_D_branchProduct_27 : decode c_D_branchProduct 27 = .ok (.aload_n 0, 1) := by decide +kernel
theorem d_D_branchProduct_28 : decode c_D_branchProduct 28 = .ok (.getfield 29, 3) := by decide +kernel
theorem d_D_branchProduct_31 : decode c_D_branchProduct 31 = .ok (.getfield 100, 3) := by decide +kernel
theorem d_D_branchProduct_34 : decode c_D_branchProduct 34 = .ok (.iload_n 3, 1) := by decide +kernel
theorem d_D_branchProduct_35 : decode c_D_branchProduct 35 = .ok (.iaload, 1) := by decide +kernel
theorem d_D_branchProduct_36 : decode c_D_branchProduct 36 = .ok (.ifCond .le 16, 3) := by decide +kernel
theorem d_D_branchProduct_39 : decode c_D_branchProduct 39 = .ok (.lload_n 1, 1) := by decide +kernel
theorem d_D_branchProduct_40 : decode c_D_branchProduct 40 = .ok (.aload_n 0, 1) := by decide +kernel
theorem d_D_branchProduct_41 : decode c_D_branchProduct 41 = .ok (.getfield 29, 3) := by decide +kernel
theorem d_D_branchProduct_44 : decode c_D_branchProduct 44 = .ok (.getfield 100, 3) := by decide +kernel
theorem d_D_branchProduct_47 : decode c_D_branchProduct 47 = .ok (.iload_n 3, 1) := by decide +kernel
theorem d_D_branchProduct_48 : decode c_D_branchProduct 48 = .ok (.iaload, 1) := by decide +kernel
theorem d_D_branchProduct_49 : decode c_D_branchProduct 49 = .ok (.i2l, 1) := by decide +kernel
theorem d_D_branchProduct_50 : decode c_D_branchProduct 50 = .ok (.lmul, 1) := by decide +kernel
theorem d_D_branchProduct_51 : decode c_D_branchProduct 51 = .ok (.lstore_n 1, 1) := by decide +kernel
theorem d_D_branchProduct_52 : decode c_D_branchProduct 52 = .ok (.iinc 3 1, 3) := by decide +kernel
theorem d_D_branchProduct_55 : decode c_D_branchProduct 55 = .ok (.goto (-51), 3) := by decide +kernel
theorem d_D_branchProduct_58 : decode c_D_branchProduct 58 = .ok (.lload_n 1, 1) := by decide +kernel
theorem d_D_branchProduct_59 : decode c_D_branchProduct 59 = .ok (.lreturn, 1) := by decide +kernel
theorem d_D_startWith_0 : decode c_D_startWith 0 = .ok (.aload_n 0, 1) := by decide +kernel
theorem d_D_startWith_1 : decode c_D_startWith 1 = .ok (.lload_n 1, 1) := by decide +kernel
theorem d_D_startWith_2 : decode c_D_startWith 2 = .ok (.putfield 15, 3) := by decide +kernel
theorem d_D_startWith_5 : decode c_D_startWith 5 = .ok (.aload_n 0, 1) := by decide +kernel
theorem d_D_startWith_6 : decode c_D_startWith 6 = .ok (.getfield 19, 3) := by decide +kernel
theorem d_D_startWith_9 : decode c_D_startWith 9 = .ok (.lconst 0, 1) := by decide +kernel
theorem d_D_startWith_10 : decode c_D_startWith 10 = .ok (.invokestatic 104, 3) := by decide +kernel
theorem d_D_startWith_13 : decode c_D_startWith 13 = .ok (.aload_n 0, 1) := by decide +kernel
theorem d_D_startWith_14 : decode c_D_startWith 14 = .ok (.getfield 9, 3) := by decide +kernel
theorem d_D_startWith_17 : decode c_D_startWith 17 = .ok (.lconst 0, 1) := by decide +kernel
theorem d_D_startWith_18 : decode c_D_startWith 18 = .ok (.invokestatic 104, 3) := by decide +kernel
theorem d_D_startWith_21 : decode c_D_startWith 21 = .ok (.aload_n 0, 1) := by decide +kernel
theorem d_D_startWith_22 : decode c_D_startWith 22 = .ok (.getfield 29, 3) := by decide +kernel
theorem d_D_startWith_25 : decode c_D_startWith 25 = .ok (.getfield 110, 3) := by decide +kernel
theorem d_D_startWith_28 : decode c_D_startWith 28 = .ok (.iconst (-1), 1) := by decide +kernel
theorem d_D_startWith_29 : decode c_D_startWith 29 = .ok (.if_icmp .eq 25, 3) := by decide +kernel
theorem d_D_startWith_32 : decode c_D_startWith 32 = .ok (.aload_n 0, 1) := by decide +kernel
theorem d_D_startWith_33 : decode c_D_startWith 33 = .ok (.getfield 9, 3) := by decide +kernel
theorem d_D_startWith_36 : decode c_D_startWith 36 = .ok (.aload_n 0, 1) := by decide +kernel
theorem d_D_startWith_37 : decode c_D_startWith 37 = .ok (.getfield 29, 3) := by decide +kernel
theorem d_D_startWith_40 : decode c_D_startWith 40 = .ok (.getfield 110, 3) := by decide +kernel
theorem d_D_startWith_43 : decode c_D_startWith 43 = .ok (.lload_n 3, 1) := by decide +kernel
theorem d_D_startWith_44 : decode c_D_startWith 44 = .ok (.aload_n 0, 1) := by decide +kernel
theorem d_D_startWith_45 : decode c_D_startWith 45 = .ok (.getfield 29, 3) := by decide +kernel
theorem d_D_startWith_48 : decode c_D_startWith 48 = .ok (.invokevirtual 63, 3) := by decide +kernel
theorem d_D_startWith_51 : decode c_D_startWith 51 = .ok (.i2l, 1) := by decide +kernel
theorem d_D_startWith_52 : decode c_D_startWith 52 = .ok (.lmul, 1) := by decide +kernel
theorem d_D_startWith_53 : decode c_D_startWith 53 = .ok (.lastore, 1) := by decide +kernel
theorem d_D_startWith_54 : decode c_D_startWith 54 = .ok (.return_, 1) := by decide +kernel
theorem d_D_raiseParts_0 : decode c_D_raiseParts 0 = .ok (.iload_n 1, 1) := by decide +kernel
theorem d_D_raiseParts_1 : decode c_D_raiseParts 1 = .ok (.iconst 1, 1) := by decide +kernel
theorem d_D_raiseParts_2 : decode c_D_raiseParts 2 = .ok (.isub, 1) := by decide +kernel
theorem d_D_raiseParts_3 : decode c_D_raiseParts 3 = .ok (.istore_n 2, 1) := by decide +kernel
theorem d_D_raiseParts_4 : decode c_D_raiseParts 4 = .ok (.iload_n 2, 1) := by decide +kernel
theorem d_D_raiseParts_5 : decode c_D_raiseParts 5 = .ok (.ifCond .lt 68, 3) := by decide +kernel
theorem d_D_raiseParts_8 : decode c_D_raiseParts 8 = .ok (.aload_n 0, 1) := by decide +kernel
theorem d_D_raiseParts_9 : decode c_D_raiseParts 9 = .ok (.getfield 22, 3) := by decide +kernel
theorem d_D_raiseParts_12 : decode c_D_raiseParts 12 = .ok (.lconst 0, 1) := by decide +kernel
theorem d_D_raiseParts_13 : decode c_D_raiseParts 13 = .ok (.invokestatic 104, 3) := by decide +kernel
theorem d_D_raiseParts_16 : decode c_D_raiseParts 16 = .ok (.iconst 0, 1) := by decide +kernel
theorem d_D_raiseParts_17 : decode c_D_raiseParts 17 = .ok (.istore_n 3, 1) := by decide +kernel
theorem d_D_raiseParts_18 : decode c_D_raiseParts 18 = .ok (.iload_n 3, 1) := by decide +kernel
theorem d_D_raiseParts_19 : decode c_D_raiseParts 19 = .ok (.aload_n 0, 1) := by decide +kernel
theorem d_D_raiseParts_20 : decode c_D_raiseParts 20 = .ok (.getfield 25, 3) := by decide +kernel
theorem d_D_raiseParts_23 : decode c_D_raiseParts 23 = .ok (.getfield 84, 3) := by decide +kernel
theorem d_D_raiseParts_26 : decode c_D_raiseParts 26 = .ok (.if_icmp .ge 26, 3) := by decide +kernel
theorem d_D_raiseParts_29 : decode c_D_raiseParts 29 = .ok (.aload_n 0, 1) := by decide +kernel
theorem d_D_raiseParts_30 : decode c_D_raiseParts 30 = .ok (.getfield 19, 3) := by decide +kernel
theorem d_D_raiseParts_33 : decode c_D_raiseParts 33 = .ok (.iload_n 3, 1) := by decide +kernel
theorem d_D_raiseParts_34 : decode c_D_raiseParts 34 = .ok (.laload, 1) := by decide +kernel
theorem d_D_raiseParts_35 : decode c_D_raiseParts 35 = .ok (.lconst 0, 1) := by decide +kernel
theorem d_D_raiseParts_36 : decode c_D_raiseParts 36 = .ok (.lcmp, 1) := by decide +kernel
theorem d_D_raiseParts_37 : decode c_D_raiseParts 37 = .ok (.ifCond .le 9, 3) := by decide +kernel
theorem d_D_raiseParts_40 : decode c_D_raiseParts 40 = .ok (.aload_n 0, 1) := by decide +kernel
theorem d_D_raiseParts_41 : decode c_D_raiseParts 41 = .ok (.iload_n 3, 1) := by decide +kernel
theorem d_D_raiseParts_42 : decode c_D_raiseParts 42 = .ok (.iload_n 2, 1) := by decide +kernel
theorem d_D_raiseParts_43 : decode c_D_raiseParts 43 = .ok (.invokevirtual 113, 3) := by decide +kernel
theorem d_D_raiseParts_46 : decode c_D_raiseParts 46 = .ok (.iinc 3 1, 3) := by decide +kernel
theorem d_D_raiseParts_49 : decode c_D_raiseParts 49 = .ok (.goto (-31), 3) := by decide +kernel
theorem d_D_raiseParts_52 : decode c_D_raiseParts 52 = .ok (.aload_n 0, 1) := by decide +kernel
theorem d_D_raiseParts_53 : decode c_D_raiseParts 53 = .ok (.getfield 22, 3) := by decide +kernel
theorem d_D_raiseParts_56 : decode c_D_raiseParts 56 = .ok (.iconst 0, 1) := by decide +kernel
theorem d_D_raiseParts_57 : decode c_D_raiseParts 57 = .ok (.aload_n 0, 1) := by decide +kernel
theorem d_D_raiseParts_58 : decode c_D_raiseParts 58 = .ok (.getfield 19, 3) := by decide +kernel
theorem d_D_raiseParts_61 : decode c_D_raiseParts 61 = .ok (.iconst 0, 1) := by decide +kernel
theorem d_D_raiseParts_62 : decode c_D_raiseParts 62 = .ok (.bipush 20, 2) := by decide +kernel
theorem d_D_raiseParts_64 : decode c_D_raiseParts 64 = .ok (.invokestatic 117, 3) := by decide +kernel
theorem d_D_raiseParts_67 : decode c_D_raiseParts 67 = .ok (.iinc 2 (-1), 3) := by decide +kernel
theorem d_D_raiseParts_70 : decode c_D_raiseParts 70 = .ok (.goto (-66), 3) := by decide +kernel
theorem d_D_raiseParts_73 : decode c_D_raiseParts 73 = .ok (.return_, 1) := by decide +kernel
theorem d_D_raisePart_0 : decode c_D_raisePart 0 = .ok (.aload_n 0, 1) := by decide +kernel
theorem d_D_raisePart_1 : decode c_D_raisePart 1 = .ok (.getfield 25, 3) := by decide +kernel
theorem d_D_raisePart_4 : decode c_D_raisePart 4 = .ok (.getfield 123, 3) := by decide +kernel
theorem d_D_raisePart_7 : decode c_D_raisePart 7 = .ok (.iload_n 1, 1) := by decide +kernel
theorem d_D_raisePart_8 : decode c_D_raisePart 8 = .ok (.iaload, 1) := by decide +kernel
theorem d_D_raisePart_9 : decode c_D_raisePart 9 = .ok (.istore_n 3, 1) := by decide +kernel
theorem d_D_raisePart_10 : decode c_D_raisePart 10 = .ok (.aload_n 0, 1) := by decide +kernel
theorem d_D_raisePart_11 : decode c_D_raisePart 11 = .ok (.getfield 25, 3) := by decide +kernel
theorem d_D_raisePart_14 : decode c_D_raisePart 14 = .ok (.getfield 126, 3) := by decide +kernel
theorem d_D_raisePart_17 : decode c_D_raisePart 17 = .ok (.iload_n 1, 1) := by decide +kernel
theorem d_D_raisePart_18 : decode c_D_raisePart 18 = .ok (.iaload, 1) := by decide +kernel
theorem d_D_raisePart_19 : decode c_D_raisePart 19 = .ok (.istore 4, 2) := by decide +kernel
theorem d_D_raisePart_21 : decode c_D_raisePart 21 = .ok (.aload_n 0, 1) := by decide +kernel
theorem d_D_raisePart_22 : decode c_D_raisePart 22 = .ok (.getfield 29, 3) := by decide +kernel
theorem d_D_raisePart_25 : decode c_D_raisePart 25 = .ok (.iload_n 3, 1) := by decide +kernel
theorem d_D_raisePart_26 : decode c_D_raisePart 26 = .ok (.iload_n 2, 1) := by decide +kernel
theorem d_D_raisePart_27 : decode c_D_raisePart 27 = .ok (.invokevirtual 129, 3) := by decide +kernel
theorem d_D_raisePart_30 : decode c_D_raisePart 30 = .ok (.istore 5, 2) := by decide +kernel
theorem d_D_raisePart_32 : decode c_D_raisePart 32 = .ok (.aload_n 0, 1) := by decide +kernel
theorem d_D_raisePart_33 : decode c_D_raisePart 33 = .ok (.getfield 29, 3) := by decide +kernel
theorem d_D_raisePart_36 : decode c_D_raisePart 36 = .ok (.iload 4, 2) := by decide +kernel
theorem d_D_raisePart_38 : decode c_D_raisePart 38 = .ok (.iload_n 2, 1) := by decide +kernel
theorem d_D_raisePart_39 : decode c_D_raisePart 39 = .ok (.invokevirtual 129, 3) := by decide +kernel
theorem d_D_raisePart_42 : decode c_D_raisePart 42 = .ok (.istore 6, 2) := by decide +kernel
theorem d_D_raisePart_44 : decode c_D_raisePart 44 = .ok (.iload 5, 2) := by decide +kernel
theorem d_D_raisePart_46 : decode c_D_raisePart 46 = .ok (.ifCond .eq 21, 3) := by decide +kernel
theorem d_D_raisePart_49 : decode c_D_raisePart 49 = .ok (.iload 6, 2) := by decide +kernel
theorem d_D_raisePart_51 : decode c_D_raisePart 51 = .ok (.ifCond .eq 16, 3) := by decide +kernel
theorem d_D_raisePart_54 : decode c_D_raisePart 54 = .ok (.aload_n 0, 1) := by decide +kernel
theorem d_D_raisePart_55 : decode c_D_raisePart 55 = .ok (.getfield 19, 3) := by decide +kernel
theorem d_D_raisePart_58 : decode c_D_raisePart 58 = .ok (.iload_n 1, 1) := by decide +kernel
theorem d_D_raisePart_59 : decode c_D_raisePart 59 = .ok (.laload, 1) := by decide +kernel
theorem d_D_raisePart_60 : decode c_D_raisePart 60 = .ok (.ldc2_w 133, 3) := by decide +kernel
theorem d_D_raisePart_63 : decode c_D_raisePart 63 = .ok (.ldiv, 1) := by decide +kernel
theorem d_D_raisePart_64 : decode c_D_raisePart 64 = .ok (.goto 9, 3) := by decide +kernel
theorem d_D_raisePart_67 : decode c_D_raisePart 67 = .ok (.aload_n 0, 1) := by decide +kernel
theorem d_D_raisePart_68 : decode c_D_raisePart 68 = .ok (.getfield 19, 3) := by decide +kernel
theorem d_D_raisePart_71 : decode c_D_raisePart 71 = .ok (.iload_n 1, 1) := by decide +kernel
theorem d_D_raisePart_72 : decode c_D_raisePart 72 = .ok (.laload, 1) := by decide +kernel
theorem d_D_raisePart_73 : decode c_D_raisePart 73 = .ok (.lstore 7, 2) := by decide +kernel
theorem d_D_raisePart_75 : decode c_D_raisePart 75 = .ok (.iload 5, 2) := by decide +kernel
theorem d_D_raisePart_77 : decode c_D_raisePart 77 = .ok (.ifCond .eq 14, 3) := by decide +kernel
theorem d_D_raisePart_80 : decode c_D_raisePart 80 = .ok (.aload_n 0, 1) := by decide +kernel
theorem d_D_raisePart_81 : decode c_D_raisePart 81 = .ok (.getfield 22, 3) := by decide +kernel
theorem d_D_raisePart_84 : decode c_D_raisePart 84 = .ok (.iload_n 3, 1) := by decide +kernel
theorem d_D_raisePart_85 : decode c_D_raisePart 85 = .ok (.dup2, 1) := by decide +kernel
theorem d_D_raisePart_86 : decode c_D_raisePart 86 = .ok (.laload, 1) := by decide +kernel
theorem d_D_raisePart_87 : decode c_D_raisePart 87 = .ok (.lload 7, 2) := by decide +kernel
theorem d_D_raisePart_89 : decode c_D_raisePart 89 = .ok (.ladd, 1) := by decide +kernel
theorem d_D_raisePart_90 : decode c_D_raisePart 90 = .ok (.lastore, 1) := by decide +kernel
theorem d_D_raisePart_91 : decode c_D_raisePart 91 = .ok (.iload 6, 2) := by decide +kernel
theorem d_D_raisePart_93 : decode c_D_raisePart 93 = .ok (.ifCond .eq 15, 3) := by decide +kernel
theorem d_D_raisePart_96 : decode c_D_raisePart 96 = .ok (.aload_n 0, 1) := by decide +kernel
theorem d_D_raisePart_97 : decode c_D_raisePart 97 = .ok (.getfield 22, 3) := by decide +kernel
theorem d_D_raisePart_100 : decode c_D_raisePart 100 = .ok (.iload 4, 2) := by decide +kernel
theorem d_D_raisePart_102 : decode c_D_raisePart 102 = .ok (.dup2, 1) := by decide +kernel
theorem d_D_raisePart_103 : decode c_D_raisePart 103 = .ok (.laload, 1) := by decide +kernel
theorem d_D_raisePart_104 : decode c_D_raisePart 104 = .ok (.lload 7, 2) := by decide +kernel
theorem d_D_raisePart_106 : decode c_D_raisePart 106 = .ok (.ladd, 1) := by decide +kernel
theorem d_D_raisePart_107 : decode c_D_raisePart 107 = .ok (.lastore, 1) := by decide +kernel
theorem d_D_raisePart_108 : decode c_D_raisePart 108 = .ok (.return_, 1) := by decide +kernel
theorem d_D_lowerParts_0 : decode c_D_lowerParts 0 = .ok (.iconst 0, 1) := by decide +kernel
theorem d_D_lowerParts_1 : decode c_D_lowerParts 1 = .ok (.istore_n 1, 1) := by decide +kernel
theorem d_D_lowerParts_2 : decode c_D_lowerParts 2 = .ok (.iload_n 1, 1) := by decide +kernel
theorem d_D_lowerParts_3 : decode c_D_lowerParts 3 = .ok (.aload_n 0, 1) := by decide +kernel
theorem d_D_lowerParts_4 : decode c_D_lowerParts 4 = .ok (.getfield 25, 3) := by decide +kernel
theorem d_D_lowerParts_7 : decode c_D_lowerParts 7 = .ok (.getfield 84, 3) := by decide +kernel
theorem d_D_lowerParts_10 : decode c_D_lowerParts 10 = .ok (.if_icmp .ge 84, 3) := by decide +kernel
theorem d_D_lowerParts_13 : decode c_D_lowerParts 13 = .ok (.aload_n 0, 1) := by decide +kernel
theorem d_D_lowerParts_14 : decode c_D_lowerParts 14 = .ok (.getfield 29, 3) := by decide +kernel
theorem d_D_lowerParts_17 : decode c_D_lowerParts 17 = .ok (.getfield 97, 3) := by decide +kernel
theorem d_D_lowerParts_20 : decode c_D_lowerParts 20 = .ok (.iload_n 1, 1) := by decide +kernel
theorem d_D_lowerParts_21 : decode c_D_lowerParts 21 = .ok (.baload, 1) := by decide +kernel
theorem d_D_lowerParts_22 : decode c_D_lowerParts 22 = .ok (.ifCond .eq 21, 3) := by decide +kernel
theorem d_D_lowerParts_25 : decode c_D_lowerParts 25 = .ok (.aload_n 0, 1) := by decide +kernel
theorem d_D_lowerParts_26 : decode c_D_lowerParts 26 = .ok (.getfield 9, 3) := by decide +kernel
theorem d_D_lowerParts_29 : decode c_D_lowerParts 29 = .ok (.iload_n 1, 1) := by decide +kernel
theorem d_D_lowerParts_30 : decode c_D_lowerParts 30 = .ok (.dup2, 1) := by decide +kernel
theorem d_D_lowerParts_31 : decode c_D_lowerParts 31 = .ok (.laload, 1) := by decide +kernel
theorem d_D_lowerParts_32 : decode c_D_lowerParts 32 = .ok (.aload_n 0, 1) := by decide +kernel
theorem d_D_lowerParts_33 : decode c_D_lowerParts 33 = .ok (.getfield 19, 3) := by decide +kernel
theorem d_D_lowerParts_36 : decode c_D_lowerParts 36 = .ok (.iload_n 1, 1) := by decide +kernel
theorem d_D_lowerParts_37 : decode c_D_lowerParts 37 = .ok (.laload, 1) := by decide +kernel
theorem d_D_lowerParts_38 : decode c_D_lowerParts 38 = .ok (.ladd, 1) := by decide +kernel
theorem d_D_lowerParts_39 : decode c_D_lowerParts 39 = .ok (.lastore, 1) := by decide +kernel
theorem d_D_lowerParts_40 : decode c_D_lowerParts 40 = .ok (.goto 48, 3) := by decide +kernel
theorem d_D_lowerParts_43 : decode c_D_lowerParts 43 = .ok (.aload_n 0, 1) := by decide +kernel
theorem d_D_lowerParts_44 : decode c_D_lowerParts 44 = .ok (.getfield 19, 3) := by decide +kernel
theorem d_D_lowerParts_47 : decode c_D_lowerParts 47 = .ok (.iload_n 1, 1) := by decide +kernel
theorem d_D_lowerParts_48 : decode c_D_lowerParts 48 = .ok (.laload, 1) := by decide +kernel
theorem d_D_lowerParts_49 : decode c_D_lowerParts 49 = .ok (.lconst 0, 1) := by decide +kernel
theorem d_D_lowerParts_50 : decode c_D_lowerParts 50 = .ok (.lcmp, 1) := by decide +kernel
theorem d_D_lowerParts_51 : decode c_D_lowerParts 51 = .ok (.ifCond .le 37, 3) := by decide +kernel
theorem d_D_lowerParts_54 : decode c_D_lowerParts 54 = .ok (.aload_n 0, 1) := by decide +kernel
theorem d_D_lowerParts_55 : decode c_D_lowerParts 55 = .ok (.getfield 29, 3) := by decide +kernel
theorem d_D_lowerParts_58 : decode c_D_lowerParts 58 = .ok (.getfield 100, 3) := by decide +kernel
theorem d_D_lowerParts_61 : decode c_D_lowerParts 61 = .ok (.iload_n 1, 1) := by decide +kernel
theorem d_D_lowerParts_62 : decode c_D_lowerParts 62 = .ok (.iaload, 1) := by decide +kernel
theorem d_D_lowerParts_63 : decode c_D_lowerParts 63 = .ok (.ifCond .le 25, 3) := by decide +kernel
theorem d_D_lowerParts_66 : decode c_D_lowerParts 66 = .ok (.aload_n 0, 1) := by decide +kernel
theorem d_D_lowerParts_67 : decode c_D_lowerParts 67 = .ok (.iload_n 1, 1) := by decide +kernel
theorem d_D_lowerParts_68 : decode c_D_lowerParts 68 = .ok (.aload_n 0, 1) := by decide +kernel
theorem d_D_lowerParts_69 : decode c_D_lowerParts 69 = .ok (.getfield 19, 3) := by decide +kernel
theorem d_D_lowerParts_72 : decode c_D_lowerParts 72 = .ok (.iload_n 1, 1) := by decide +kernel
theorem d_D_lowerParts_73 : decode c_D_lowerParts 73 = .ok (.laload, 1) := by decide +kernel
theorem d_D_lowerParts_74 : decode c_D_lowerParts 74 = .ok (.aload_n 0, 1) := by decide +kernel
theorem d_D_lowerParts_75 : decode c_D_lowerParts 75 = .ok (.getfield 29, 3) := by decide +kernel
theorem d_D_lowerParts_78 : decode c_D_lowerParts 78 = .ok (.getfield 100, 3) := by decide +kernel
theorem d_D_lowerParts_81 : decode c_D_lowerParts 81 = .ok (.iload_n 1, 1) := by decide +kernel
theorem d_D_lowerParts_82 : decode c_D_lowerParts 82 = .ok (.iaload, 1) := by decide +kernel
theorem d_D_lowerParts_83 : decode c_D_lowerParts 83 = .ok (.i2l, 1) := by decide +kernel
theorem d_D_lowerParts_84 : decode c_D_lowerParts 84 = .ok (.ldiv, 1) := by decide +kernel
theorem d_D_lowerParts_85 : decode c_D_lowerParts 85 = .ok (.invokevirtual 135, 3) := by decide +kernel
theorem d_D_lowerParts_88 : decode c_D_lowerParts 88 = .ok (.iinc 1 1, 3) := by decide +kernel
theorem d_D_lowerParts_91 : decode c_D_lowerParts 91 = .ok (.goto (-89), 3) := by decide +kernel
theorem d_D_lowerParts_94 : decode c_D_lowerParts 94 = .ok (.return_, 1) := by decide +kernel
theorem d_D_lowerPart_0 : decode c_D_lowerPart 0 = .ok (.iload_n 1, 1) := by decide +kernel
theorem d_D_lowerPart_1 : decode c_D_lowerPart 1 = .ok (.iconst 1, 1) := by decide +kernel
theorem d_D_lowerPart_2 : decode c_D_lowerPart 2 = .ok (.iadd, 1) := by decide +kernel
theorem d_D_lowerPart_3 : decode c_D_lowerPart 3 = .ok (.istore 4, 2) := by decide +kernel
theorem d_D_lowerPart_5 : decode c_D_lowerPart 5 = .ok (.iload 4, 2) := by decide +kernel
theorem d_D_lowerPart_7 : decode c_D_lowerPart 7 = .ok (.aload_n 0, 1) := by decide +kernel
theorem d_D_lowerPart_8 : decode c_D_lowerPart 8 = .ok (.getfield 25, 3) := by decide +kernel
theorem d_D_lowerPart_11 : decode c_D_lowerPart 11 = .ok (.getfield 84, 3) := by decide +kernel
theorem d_D_lowerPart_14 : decode c_D_lowerPart 14 = .ok (.if_icmp .ge 46, 3) := by decide +kernel
theorem d_D_lowerPart_17 : decode c_D_lowerPart 17 = .ok (.aload_n 0, 1) := by decide +kernel
theorem d_D_lowerPart_18 : decode c_D_lowerPart 18 = .ok (.getfield 25, 3) := by decide +kernel
theorem d_D_lowerPart_21 : decode c_D_lowerPart 21 = .ok (.iload 4, 2) := by decide +kernel
theorem d_D_lowerPart_23 : decode c_D_lowerPart 23 = .ok (.iload_n 1, 1) := by decide +kernel
theorem d_D_lowerPart_24 : decode c_D_lowerPart 24 = .ok (.invokevirtual 139, 3) := by decide +kernel
theorem d_D_lowerPart_27 : decode c_D_lowerPart 27 = .ok (.ifCond .eq 27, 3) := by decide +kernel
theorem d_D_lowerPart_30 : decode c_D_lowerPart 30 = .ok (.aload_n 0, 1) := by decide +kernel
theorem d_D_lowerPart_31 : decode c_D_lowerPart 31 = .ok (.getfield 29, 3) := by decide +kernel
theorem d_D_lowerPart_34 : decode c_D_lowerPart 34 = .ok (.iload 4, 2) := by decide +kernel
theorem d_D_lowerPart_36 : decode c_D_lowerPart 36 = .ok (.iconst 0, 1) := by decide +kernel
theorem d_D_lowerPart_37 : decode c_D_lowerPart 37 = .ok (.invokevirtual 129, 3) := by decide +kernel
theorem d_D_lowerPart_40 : decode c_D_lowerPart 40 = .ok (.ifCond .eq 14, 3) := by decide +kernel
theorem d_D_lowerPart_43 : decode c_D_lowerPart 43 = .ok (.aload_n 0, 1) := by decide +kernel
theorem d_D_lowerPart_44 : decode c_D_lowerPart 44 = .ok (.getfield 19, 3) := by decide +kernel
theorem d_D_lowerPart_47 : decode c_D_lowerPart 47 = .ok (.iload 4, 2) := by decide +kernel
theorem d_D_lowerPart_49 : decode c_D_lowerPart 49 = .ok (.dup2, 1) := by decide +kernel
theorem d_D_lowerPart_50 : decode c_D_lowerPart 50 = .ok (.laload, 1) := by decide +kernel
theorem d_D_lowerPart_51 : decode c_D_lowerPart 51 = .ok (.lload_n 2, 1) := by decide +kernel
theorem d_D_lowerPart_52 : decode c_D_lowerPart 52 = .ok (.ladd, 1) := by decide +kernel
theorem d_D_lowerPart_53 : decode c_D_lowerPart 53 = .ok (.lastore, 1) := by decide +kernel
theorem d_D_lowerPart_54 : decode c_D_lowerPart 54 = .ok (.iinc 4 1, 3) := by decide +kernel
theorem d_D_lowerPart_57 : decode c_D_lowerPart 57 = .ok (.goto (-52), 3) := by decide +kernel
theorem d_D_lowerPart_60 : decode c_D_lowerPart 60 = .ok (.return_, 1) := by decide +kernel
theorem d_D_countTakers_0 : decode c_D_countTakers 0 = .ok (.iconst 0, 1) := by decide +kernel
theorem d_D_countTakers_1 : decode c_D_countTakers 1 = .ok (.istore_n 1, 1) := by decide +kernel
theorem d_D_countTakers_2 : decode c_D_countTakers 2 = .ok (.iconst 0, 1) := by decide +kernel
theorem d_D_countTakers_3 : decode c_D_countTakers 3 = .ok (.istore_n 2, 1) := by decide +kernel
theorem d_D_countTakers_4 : decode c_D_countTakers 4 = .ok (.iload_n 2, 1) := by decide +kernel
theorem d_D_countTakers_5 : decode c_D_countTakers 5 = .ok (.aload_n 0, 1) := by decide +kernel
theorem d_D_countTakers_6 : decode c_D_countTakers 6 = .ok (.getfield 25, 3) := by decide +kernel
theorem d_D_countTakers_9 : decode c_D_countTakers 9 = .ok (.getfield 84, 3) := by decide +kernel
theorem d_D_countTakers_12 : decode c_D_countTakers 12 = .ok (.if_icmp .ge 23, 3) := by decide +kernel
theorem d_D_countTakers_15 : decode c_D_countTakers 15 = .ok (.aload_n 0, 1) := by decide +kernel
theorem d_D_countTakers_16 : decode c_D_countTakers 16 = .ok (.getfield 9, 3) := by decide +kernel
theorem d_D_countTakers_19 : decode c_D_countTakers 19 = .ok (.iload_n 2, 1) := by decide +kernel
theorem d_D_countTakers_20 : decode c_D_countTakers 20 = .ok (.laload, 1) := by decide +kernel
theorem d_D_countTakers_21 : decode c_D_countTakers 21 = .ok (.lconst 0, 1) := by decide +kernel
theorem d_D_countTakers_22 : decode c_D_countTakers 22 = .ok (.lcmp, 1) := by decide +kernel
theorem d_D_countTakers_23 : decode c_D_countTakers 23 = .ok (.ifCond .le 6, 3) := by decide +kernel
theorem d_D_countTakers_26 : decode c_D_countTakers 26 = .ok (.iinc 1 1, 3) := by decide +kernel
theorem d_D_countTakers_29 : decode c_D_countTakers 29 = .ok (.iinc 2 1, 3) := by decide +kernel
theorem d_D_countTakers_32 : decode c_D_countTakers 32 = .ok (.goto (-28), 3) := by decide +kernel
theorem d_D_countTakers_35 : decode c_D_countTakers 35 = .ok (.iload_n 1, 1) := by decide +kernel
theorem d_D_countTakers_36 : decode c_D_countTakers 36 = .ok (.ireturn, 1) := by decide +kernel
theorem d_D_takerAt_0 : decode c_D_takerAt 0 = .ok (.iconst 0, 1) := by decide +kernel
theorem d_D_takerAt_1 : decode c_D_takerAt 1 = .ok (.istore_n 2, 1) := by decide +kernel
theorem d_D_takerAt_2 : decode c_D_takerAt 2 = .ok (.iconst 0, 1) := by decide +kernel
theorem d_D_takerAt_3 : decode c_D_takerAt 3 = .ok (.istore_n 3, 1) := by decide +kernel
theorem d_D_takerAt_4 : decode c_D_takerAt 4 = .ok (.iload_n 3, 1) := by decide +kernel
theorem d_D_takerAt_5 : decode c_D_takerAt 5 = .ok (.aload_n 0, 1) := by decide +kernel
theorem d_D_takerAt_6 : decode c_D_takerAt 6 = .ok (.getfield 25, 3) := by decide +kernel
theorem d_D_takerAt_9 : decode c_D_takerAt 9 = .ok (.getfield 84, 3) := by decide +kernel
theorem d_D_takerAt_12 : decode c_D_takerAt 12 = .ok (.if_icmp .ge 30, 3) := by decide +kernel
theorem d_D_takerAt_15 : decode c_D_takerAt 15 = .ok (.aload_n 0, 1) := by decide +kernel
theorem d_D_takerAt_16 : decode c_D_takerAt 16 = .ok (.getfield 9, 3) := by decide +kernel
theorem d_D_takerAt_19 : decode c_D_takerAt 19 = .ok (.iload_n 3, 1) := by decide +kernel
theorem d_D_takerAt_20 : decode c_D_takerAt 20 = .ok (.laload, 1) := by decide +kernel
theorem d_D_takerAt_21 : decode c_D_takerAt 21 = .ok (.lconst 0, 1) := by decide +kernel
theorem d_D_takerAt_22 : decode c_D_takerAt 22 = .ok (.lcmp, 1) := by decide +kernel
theorem d_D_takerAt_23 : decode c_D_takerAt 23 = .ok (.ifCond .le 13, 3) := by decide +kernel
theorem d_D_takerAt_26 : decode c_D_takerAt 26 = .ok (.iload_n 2, 1) := by decide +kernel
theorem d_D_takerAt_27 : decode c_D_takerAt 27 = .ok (.iload_n 1, 1) := by decide +kernel
theorem d_D_takerAt_28 : decode c_D_takerAt 28 = .ok (.if_icmp .ne 5, 3) := by decide +kernel
theorem d_D_takerAt_31 : decode c_D_takerAt 31 = .ok (.iload_n 3, 1) := by decide +kernel
theorem d_D_takerAt_32 : decode c_D_takerAt 32 = .ok (.ireturn, 1) := by decide +kernel
theorem d_D_takerAt_33 : decode c_D_takerAt 33 = .ok (.iinc 2 1, 3) := by decide +kernel
theorem d_D_takerAt_36 : decode c_D_takerAt 36 = .ok (.iinc 3 1, 3) := by decide +kernel
theorem d_D_takerAt_39 : decode c_D_takerAt 39 = .ok (.goto (-35), 3) := by decide +kernel
theorem d_D_takerAt_42 : decode c_D_takerAt 42 = .ok (.iconst (-1), 1) := by decide +kernel
theorem d_D_takerAt_43 : decode c_D_takerAt 43 = .ok (.ireturn, 1) := by decide +kernel
theorem d_D_inLowestTerms_0 : decode c_D_inLowestTerms 0 = .ok (.aload_n 0, 1) := by decide +kernel
theorem d_D_inLowestTerms_1 : decode c_D_inLowestTerms 1 = .ok (.getfield 9, 3) := by decide +kernel
theorem d_D_inLowestTerms_4 : decode c_D_inLowestTerms 4 = .ok (.iload_n 1, 1) := by decide +kernel
theorem d_D_inLowestTerms_5 : decode c_D_inLowestTerms 5 = .ok (.laload, 1) := by decide +kernel
theorem d_D_inLowestTerms_6 : decode c_D_inLowestTerms 6 = .ok (.lconst 0, 1) := by decide +kernel
theorem d_D_inLowestTerms_7 : decode c_D_inLowestTerms 7 = .ok (.lcmp, 1) := by decide +kernel
theorem d_D_inLowestTerms_8 : decode c_D_inLowestTerms 8 = .ok (.ifCond .gt 5, 3) := by decide +kernel
theorem d_D_inLowestTerms_11 : decode c_D_inLowestTerms 11 = .ok (.lconst 0, 1) := by decide +kernel
theorem d_D_inLowestTerms_12 : decode c_D_inLowestTerms 12 = .ok (.lreturn, 1) := by decide +kernel
theorem d_D_inLowestTerms_13 : decode c_D_inLowestTerms 13 = .ok (.aload_n 0, 1) := by decide +kernel
theorem d_D_inLowestTerms_14 : decode c_D_inLowestTerms 14 = .ok (.getfield 9, 3) := by decide +kernel
theorem d_D_inLowestTerms_17 : decode c_D_inLowestTerms 17 = .ok (.iload_n 1, 1) := by decide +kernel
theorem d_D_inLowestTerms_18 : decode c_D_inLowestTerms 18 = .ok (.laload, 1) := by decide +kernel
theorem d_D_inLowestTerms_19 : decode c_D_inLowestTerms 19 = .ok (.aload_n 0, 1) := by decide +kernel
theorem d_D_inLowestTerms_20 : decode c_D_inLowestTerms 20 = .ok (.getfield 15, 3) := by decide +kernel
theorem d_D_inLowestTerms_23 : decode c_D_inLowestTerms 23 = .ok (.invokestatic 142, 3) := by decide +kernel
theorem d_D_inLowestTerms_26 : decode c_D_inLowestTerms 26 = .ok (.lstore_n 2, 1) := by decide +kernel
theorem d_D_inLowestTerms_27 : decode c_D_inLowestTerms 27 = .ok (.lload_n 2, 1) := by decide +kernel
theorem d_D_inLowestTerms_28 : decode c_D_inLowestTerms 28 = .ok (.lconst 0, 1) := by decide +kernel
theorem d_D_inLowestTerms_29 : decode c_D_inLowestTerms 29 = .ok (.lcmp, 1) := by decide +kernel
theorem d_D_inLowestTerms_30 : decode c_D_inLowestTerms 30 = .ok (.ifCond .gt 7, 3) := by decide +kernel
theorem d_D_inLowestTerms_33 : decode c_D_inLowestTerms 33 = .ok (.lconst 0, 1) := by decide +kernel
theorem d_D_inLowestTerms_34 : decode c_D_inLowestTerms 34 = .ok (.goto 21, 3) := by decide +kernel
theorem d_D_inLowestTerms_37 : decode c_D_inLowestTerms 37 = .ok (.aload_n 0, 1) := by decide +kernel
theorem d_D_inLowestTerms_38 : decode c_D_inLowestTerms 38 = .ok (.getfield 9, 3) := by decide +kernel
theorem d_D_inLowestTerms_41 : decode c_D_inLowestTerms 41 = .ok (.iload_n 1, 1) := by decide +kernel
theorem d_D_inLowestTerms_42 : decode c_D_inLowestTerms 42 = .ok (.laload, 1) := by decide +kernel
theorem d_D_inLowestTerms_43 : decode c_D_inLowestTerms 43 = .ok (.lload_n 2, 1) := by decide +kernel
theorem d_D_inLowestTerms_44 : decode c_D_inLowestTerms 44 = .ok (.ldiv, 1) := by decide +kernel
theorem d_D_inLowestTerms_45 : decode c_D_inLowestTerms 45 = .ok (.bipush 32, 2) := by decide +kernel
theorem d_D_inLowestTerms_47 : decode c_D_inLowestTerms 47 = .ok (.lshl, 1) := by decide +kernel
theorem d_D_inLowestTerms_48 : decode c_D_inLowestTerms 48 = .ok (.aload_n 0, 1) := by decide +kernel
theorem d_D_inLowestTerms_49 : decode c_D_inLowestTerms 49 = .ok (.getfield 15, 3) := by decide +kernel
theorem d_D_inLowestTerms_52 : decode c_D_inLowestTerms 52 = .ok (.lload_n 2, 1) := by decide +kernel
theorem d_D_inLowestTerms_53 : decode c_D_inLowestTerms 53 = .ok (.ldiv, 1) := by decide +kernel
theorem d_D_inLowestTerms_54 : decode c_D_inLowestTerms 54 = .ok (.lor, 1) := by decide +kernel
theorem d_D_inLowestTerms_55 : decode c_D_inLowestTerms 55 = .ok (.lreturn, 1) := by decide +kernel
theorem d_D_commonDivisor_0 : decode c_D_commonDivisor 0 = .ok (.lload_n 0, 1) := by decide +kernel
theorem d_D_commonDivisor_1 : decode c_D_commonDivisor 1 = .ok (.lstore 4, 2) := by decide +kernel
theorem d_D_commonDivisor_3 : decode c_D_commonDivisor 3 = .ok (.lload_n 2, 1) := by decide +kernel
theorem d_D_commonDivisor_4 : decode c_D_commonDivisor 4 = .ok (.lstore 6, 2) := by decide +kernel
theorem d_D_commonDivisor_6 : decode c_D_commonDivisor 6 = .ok (.iconst 0, 1) := by decide +kernel
theorem d_D_commonDivisor_7 : decode c_D_commonDivisor 7 = .ok (.istore 8, 2) := by decide +kernel
theorem d_D_commonDivisor_9 : decode c_D_commonDivisor 9 = .ok (.iload 8, 2) := by decide +kernel
theorem d_D_commonDivisor_11 : decode c_D_commonDivisor 11 = .ok (.bipush 100, 2) := by decide +kernel
theorem d_D_commonDivisor_13 : decode c_D_commonDivisor 13 = .ok (.if_icmp .ge 31, 3) := by decide +kernel
theorem d_D_commonDivisor_16 : decode c_D_commonDivisor 16 = .ok (.lload 6, 2) := by decide +kernel
theorem d_D_commonDivisor_18 : decode c_D_commonDivisor 18 = .ok (.lconst 0, 1) := by decide +kernel
theorem d_D_commonDivisor_19 : decode c_D_commonDivisor 19 = .ok (.lcmp, 1) := by decide +kernel
theorem d_D_commonDivisor_20 : decode c_D_commonDivisor 20 = .ok (.ifCond .le 24, 3) := by decide +kernel
theorem d_D_commonDivisor_23 : decode c_D_commonDivisor 23 = .ok (.lload 4, 2) := by decide +kernel
theorem d_D_commonDivisor_25 : decode c_D_commonDivisor 25 = .ok (.lload 6, 2) := by decide +kernel
theorem d_D_commonDivisor_27 : decode c_D_commonDivisor 27 = .ok (.lrem, 1) := by decide +kernel
theorem d_D_commonDivisor_28 : decode c_D_commonDivisor 28 = .ok (.lstore 9, 2) := by decide +kernel
theorem d_D_commonDivisor_30 : decode c_D_commonDivisor 30 = .ok (.lload 6, 2) := by decide +kernel
theorem d_D_commonDivisor_32 : decode c_D_commonDivisor 32 = .ok (.lstore 4, 2) := by decide +kernel
theorem d_D_commonDivisor_34 : decode c_D_commonDivisor 34 = .ok (.lload 9, 2) := by decide +kernel
theorem d_D_commonDivisor_36 : decode c_D_commonDivisor 36 = .ok (.lstore 6, 2) := by decide +kernel
theorem d_D_commonDivisor_38 : decode c_D_commonDivisor 38 = .ok (.iinc 8 1, 3) := by decide +kernel
theorem d_D_commonDivisor_41 : decode c_D_commonDivisor 41 = .ok (.goto (-32), 3) := by decide +kernel
theorem d_D_commonDivisor_44 : decode c_D_commonDivisor 44 = .ok (.lload 4, 2) := by decide +kernel
theorem d_D_commonDivisor_46 : decode c_D_commonDivisor 46 = .ok (.lreturn, 1) := by decide +kernel
theorem d_H_init_0 : decode c_H_init 0 = .ok (.aload_n 0, 1) := by decide +kernel
theorem d_H_init_1 : decode c_H_init 1 = .ok (.invokespecial 3, 3) := by decide +kernel
theorem d_H_init_4 : decode c_H_init 4 = .ok (.aload_n 0, 1) := by decide +kernel
theorem d_H_init_5 : decode c_H_init 5 = .ok (.bipush 20, 2) := by decide +kernel
theorem d_H_init_7 : decode c_H_init 7 = .ok (.newarray .boolean, 2) := by decide +kernel
theorem d_H_init_9 : decode c_H_init 9 = .ok (.putfield 9, 3) := by decide +kernel
theorem d_H_init_12 : decode c_H_init 12 = .ok (.aload_n 0, 1) := by decide +kernel
theorem d_H_init_13 : decode c_H_init 13 = .ok (.bipush 20, 2) := by decide +kernel
theorem d_H_init_15 : decode c_H_init 15 = .ok (.newarray .long, 2) := by decide +kernel
theorem d_H_init_17 : decode c_H_init 17 = .ok (.putfield 15, 3) := by decide +kernel
theorem d_H_init_20 : decode c_H_init 20 = .ok (.aload_n 0, 1) := by decide +kernel
theorem d_H_init_21 : decode c_H_init 21 = .ok (.aload_n 1, 1) := by decide +kernel
theorem d_H_init_22 : decode c_H_init 22 = .ok (.putfield 19, 3) := by decide +kernel
theorem d_H_init_25 : decode c_H_init 25 = .ok (.aload_n 0, 1) := by decide +kernel
theorem d_H_init_26 : decode c_H_init 26 = .ok (.aload_n 2, 1) := by decide +kernel
theorem d_H_init_27 : decode c_H_init 27 = .ok (.putfield 23, 3) := by decide +kernel
theorem d_H_init_30 : decode c_H_init 30 = .ok (.return_, 1) := by decide +kernel
theorem d_H_gather_0 : decode c_H_gather 0 = .ok (.aload_n 0, 1) := by decide +kernel
theorem d_H_gather_1 : decode c_H_gather 1 = .ok (.lload_n 1, 1) := by decide +kernel
theorem d_H_gather_2 : decode c_H_gather 2 = .ok (.putfield 27, 3) := by decide +kernel
theorem d_H_gather_5 : decode c_H_gather 5 = .ok (.aload_n 0, 1) := by decide +kernel
theorem d_H_gather_6 : decode c_H_gather 6 = .ok (.iconst 0, 1) := by decide +kernel
theorem d_H_gather_7 : decode c_H_gather 7 = .ok (.putfield 31, 3) := by decide +kernel
theorem d_H_gather_10 : decode c_H_gather 10 = .ok (.iconst 0, 1) := by decide +kernel
theorem d_H_gather_11 : decode c_H_gather 11 = .ok (.istore_n 3, 1) := by decide +kernel
theorem d_H_gather_12 : decode c_H_gather 12 = .ok (.iload_n 3, 1) := by decide +kernel
theorem d_H_gather_13 : decode c_H_gather 13 = .ok (.aload_n 0, 1) := by decide +kernel
theorem d_H_gather_14 : decode c_H_gather 14 = .ok (.getfield 19, 3) := by decide +kernel
theorem d_H_gather_17 : decode c_H_gather 17 = .ok (.getfield 35, 3) := by decide +kernel
theorem d_H_gather_20 : decode c_H_gather 20 = .ok (.if_icmp .ge 112, 3) := by decide +kernel
theorem d_H_gather_23 : decode c_H_gather 23 = .ok (.aload_n 0, 1) := by decide +kernel
theorem d_H_gather_24 : decode c_H_gather 24 = .ok (.getfield 9, 3) := by decide +kernel
theorem d_H_gather_27 : decode c_H_gather 27 = .ok (.iload_n 3, 1) := by decide +kernel
theorem d_H_gather_28 : decode c_H_gather 28 = .ok (.aload_n 0, 1) := by decide +kernel
theorem d_H_gather_29 : decode c_H_gather 29 = .ok (.getfield 19, 3) := by decide +kernel
theorem d_H_gather_32 : decode c_H_gather 32 = .ok (.iload_n 3, 1) := by decide +kernel
theorem d_H_gather_33 : decode c_H_gather 33 = .ok (.aload_n 0, 1) := by decide +kernel
theorem d_H_gather_34 : decode c_H_gather 34 = .ok (.getfield 23, 3) := by decide +kernel
theorem d_H_gather_37 : decode c_H_gather 37 = .ok (.getfield 40, 3) := by decide +kernel
theorem d_H_gather_40 : decode c_H_gather 40 = .ok (.invokevirtual 45, 3) := by decide +kernel
theorem d_H_gather_43 : decode c_H_gather 43 = .ok (.ifCond .eq 19, 3) := by decide +kernel
theorem d_H_gather_46 : decode c_H_gather 46 = .ok (.aload_n 0, 1) := by decide +kernel
theorem d_H_gather_47 : decode c_H_gather 47 = .ok (.getfield 23, 3) := by decide +kernel
theorem d_H_gather_50 : decode c_H_gather 50 = .ok (.iload_n 3, 1) := by decide +kernel
theorem d_H_gather_51 : decode c_H_gather 51 = .ok (.iconst 0, 1) := by decide +kernel
theorem d_H_gather_52 : decode c_H_gather 52 = .ok (.invokevirtual 49, 3) := by decide +kernel
theorem d_H_gather_55 : decode c_H_gather 55 = .ok (.ifCond .eq 7, 3) := by decide +kernel
theorem d_H_gather_58 : decode c_H_gather 58 = .ok (.iconst 1, 1) := by decide +kernel
theorem d_H_gather_59 : decode c_H_gather 59 = .ok (.goto 4, 3) := by decide +kernel
theorem d_H_gather_62 : decode c_H_gather 62 = .ok (.iconst 0, 1) := by decide +kernel
theorem d_H_gather_63 : decode c_H_gather 63 = .ok (.bastore, 1) := by decide +kernel
theorem d_H_gather_64 : decode c_H_gather 64 = .ok (.aload_n 0, 1) := by decide +kernel
theorem d_H_gather_65 : decode c_H_gather 65 = .ok (.getfield 9, 3) := by decide +kernel
theorem d_H_gather_68 : decode c_H_gather 68 = .ok (.iload_n 3, 1) := by decide +kernel
theorem d_H_gather_69 : decode c_H_gather 69 = .ok (.baload, 1) := by decide +kernel
theorem d_H_gather_70 : decode c_H_gather 70 = .ok (.ifCond .eq 56, 3) := by decide +kernel
theorem d_H_gather_73 : decode c_H_gather 73 = .ok (.aload_n 0, 1) := by decide +kernel
theorem d_H_gather_74 : decode c_H_gather 74 = .ok (.getfield 15, 3) := by decide +kernel
theorem d_H_gather_77 : decode c_H_gather 77 = .ok (.iload_n 3, 1) := by decide +kernel
theorem d_H_gather_78 : decode c_H_gather 78 = .ok (.ldc2_w 52, 3) := by decide +kernel
theorem d_H_gather_81 : decode c_H_gather 81 = .ok (.aload_n 0, 1) := by decide +kernel
theorem d_H_gather_82 : decode c_H_gather 82 = .ok (.getfield 19, 3) := by decide +kernel
theorem d_H_gather_85 : decode c_H_gather 85 = .ok (.getfield 54, 3) := by decide +kernel
theorem d_H_gather_88 : decode c_H_gather 88 = .ok (.iload_n 3, 1) := by decide +kernel
theorem d_H_gather_89 : decode c_H_gather 89 = .ok (.aaload, 1) := by decide +kernel
theorem d_H_gather_90 : decode c_H_gather 90 = .ok (.aload_n 0, 1) := by decide +kernel
theorem d_H_gather_91 : decode c_H_gather 91 = .ok (.getfield 23, 3) := by decide +kernel
theorem d_H_gather_94 : decode c_H_gather 94 = .ok (.getfield 40, 3) := by decide +kernel
theorem d_H_gather_97 : decode c_H_gather 97 = .ok (.iaload, 1) := by decide +kernel
theorem d_H_gather_98 : decode c_H_gather 98 = .ok (.i2l, 1) := by decide +kernel
theorem d_H_gather_99 : decode c_H_gather 99 = .ok (.lmul, 1) := by decide +kernel
theorem d_H_gather_100 : decode c_H_gather 100 = .ok (.lastore, 1) := by decide +kernel
theorem d_H_gather_101 : decode c_H_gather 101 = .ok (.aload_n 0, 1) := by decide +kernel
theorem d_H_gather_102 : decode c_H_gather 102 = .ok (.dup, 1) := by decide +kernel
theorem d_H_gather_103 : decode c_H_gather 103 = .ok (.getfield 27, 3) := by decide +kernel
theorem d_H_gather_106 : decode c_H_gather 106 = .ok (.aload_n 0, 1) := by decide +kernel
theorem d_H_gather_107 : decode c_H_gather 107 = .ok (.getfield 15, 3) := by decide +kernel
theorem d_H_gather_110 : decode c_H_gather 110 = .ok (.iload_n 3, 1) := by decide +kernel
theorem d_H_gather_111 : decode c_H_gather 111 = .ok (.laload, 1) := by decide +kernel
theorem d_H_gather_112 : decode c_H_gather 112 = .ok (.ladd, 1) := by decide +kernel
theorem d_H_gather_113 : decode c_H_gather 113 = .ok (.putfield 27, 3) := by decide +kernel
theorem d_H_gather_116 : decode c_H_gather 116 = .ok (.aload_n 0, 1) := by decide +kernel
theorem d_H_gather_117 : decode c_H_gather 117 = .ok (.dup, 1) := by decide +kernel
theorem d_H_gather_118 : decode c_H_gather 118 = .ok (.getfield 31, 3) := by decide +kernel
theorem d_H_gather_121 : decode c_H_gather 121 = .ok (.iconst 1, 1) := by decide +kernel
theorem d_H_gather_122 : decode c_H_gather 122 = .ok (.iadd, 1) := by decide +kernel
theorem d_H_gather_123 : decode c_H_gather 123 = .ok (.putfield 31, 3) := by decide +kernel
theorem d_H_gather_126 : decode c_H_gather 126 = .ok (.iinc 3 1, 3) := by decide +kernel
theorem d_H_gather_129 : decode c_H_gather 129 = .ok (.goto (-117), 3) := by decide +kernel
theorem d_H_gather_132 : decode c_H_gather 132 = .ok (.return_, 1) := by decide +kernel
theorem d_H_releaseThoseAbove_0 : decode c_H_releaseThoseAbove 0 = .ok (.iconst 0, 1) := by decide +kernel
theorem d_H_releaseThoseAbove_1 : decode c_H_releaseThoseAbove 1 = .ok (.istore_n 1, 1) := by decide +kernel
theorem d_H_releaseThoseAbove_2 : decode c_H_releaseThoseAbove 2 = .ok (.iload_n 1, 1) := by decide +kernel
theorem d_H_releaseThoseAbove_3 : decode c_H_releaseThoseAbove 3 = .ok (.bipush 20, 2) := by decide +kernel
theorem d_H_releaseThoseAbove_5 : decode c_H_releaseThoseAbove 5 = .ok (.if_icmp .ge 52, 3) := by decide +kernel
theorem d_H_releaseThoseAbove_8 : decode c_H_releaseThoseAbove 8 = .ok (.aload_n 0, 1) := by decide +kernel
theorem d_H_releaseThoseAbove_9 : decode c_H_releaseThoseAbove 9 = .ok (.invokevirtual 57, 3) := by decide +kernel
theorem d_H_releaseThoseAbove_12 : decode c_H_releaseThoseAbove 12 = .ok (.istore_n 2, 1) := by decide +kernel
theorem d_H_releaseThoseAbove_13 : decode c_H_releaseThoseAbove 13 = .ok (.iload_n 2, 1) := by decide +kernel
theorem d_H_releaseThoseAbove_14 : decode c_H_releaseThoseAbove 14 = .ok (.iconst (-1), 1) := by decide +kernel
theorem d_H_releaseThoseAbove_15 : decode c_H_releaseThoseAbove 15 = .ok (.if_icmp .ne 4, 3) := by decide +kernel
theorem d_H_releaseThoseAbove_18 : decode c_H_releaseThoseAbove 18 = .ok (.return_, 1) := by decide +kernel
theorem d_H_releaseThoseAbove_19 : decode c_H_releaseThoseAbove 19 = .ok (.aload_n 0, 1) := by decide +kernel
theorem d_H_releaseThoseAbove_20 : decode c_H_releaseThoseAbove 20 = .ok (.getfield 9, 3) := by decide +kernel
theorem d_H_releaseThoseAbove_23 : decode c_H_releaseThoseAbove 23 = .ok (.iload_n 2, 1) := by decide +kernel
theorem d_H_releaseThoseAbove_24 : decode c_H_releaseThoseAbove 24 = .ok (.iconst 0, 1) := by decide +kernel
theorem d_H_releaseThoseAbove_25 : decode c_H_releaseThoseAbove 25 = .ok (.bastore, 1) := by decide +kernel
theorem d_H_releaseThoseAbove_26 : decode c_H_releaseThoseAbove 26 = .ok (.aload_n 0, 1) := by decide +kernel
theorem d_H_releaseThoseAbove_27 : decode c_H_releaseThoseAbove 27 = .ok (.dup, 1) := by decide +kernel
theorem d_H_releaseThoseAbove_28 : decode c_H_releaseThoseAbove 28 = .ok (.getfield 27, 3) := by decide +kernel
theorem d_H_releaseThoseAbove_31 : decode c_H_releaseThoseAbove 31 = .ok (.aload_n 0, 1) := by decide +kernel
theorem d_H_releaseThoseAbove_32 : decode c_H_releaseThoseAbove 32 = .ok (.getfield 15, 3) := by decide +kernel
theorem d_H_releaseThoseAbove_35 : decode c_H_releaseThoseAbove 35 = .ok (.iload_n 2, 1) := by decide +kernel
theorem d_H_releaseThoseAbove_36 : decode c_H_releaseThoseAbove 36 = .ok (.laload, 1) := by decide +kernel
theorem d_H_releaseThoseAbove_37 : decode c_H_releaseThoseAbove 37 = .ok (.lsub, 1) := by decide +kernel
theorem d_H_releaseThoseAbove_38 : decode c_H_releaseThoseAbove 38 = .ok (.putfield 27, 3) := by decide +kernel
theorem d_H_releaseThoseAbove_41 : decode c_H_releaseThoseAbove 41 = .ok (.aload_n 0, 1) := by decide +kernel
theorem d_H_releaseThoseAbove_42 : decode c_H_releaseThoseAbove 42 = .ok (.dup, 1) := by decide +kernel
theorem d_H_releaseThoseAbove_43 : decode c_H_releaseThoseAbove 43 = .ok (.getfield 31, 3) := by decide +kernel
theorem d_H_releaseThoseAbove_46 : decode c_H_releaseThoseAbove 46 = .ok (.iconst 1, 1) := by decide +kernel
theorem d_H_releaseThoseAbove_47 : decode c_H_releaseThoseAbove 47 = .ok (.isub, 1) := by decide +kernel
theorem d_H_releaseThoseAbove_48 : decode c_H_releaseThoseAbove 48 = .ok (.putfield 31, 3) := by decide +kernel
theorem d_H_releaseThoseAbove_51 : decode c_H_releaseThoseAbove 51 = .ok (.iinc 1 1, 3) := by decide +kernel
theorem d_H_releaseThoseAbove_54 : decode c_H_releaseThoseAbove 54 = .ok (.goto (-52), 3) := by decide +kernel
theorem d_H_releaseThoseAbove_57 : decode c_H_releaseThoseAbove 57 = .ok (.return_, 1) := by decide +kernel
theorem d_H_findOneAbove_0 : decode c_H_findOneAbove 0 = .ok (.iconst 0, 1) := by decide +kernel
theorem d_H_findOneAbove_1 : decode c_H_findOneAbove 1 = .ok (.istore_n 1, 1) := by decide +kernel
theorem d_H_findOneAbove_2 : decode c_H_findOneAbove 2 = .ok (.iload_n 1, 1) := by decide +kernel
theorem d_H_findOneAbove_3 : decode c_H_findOneAbove 3 = .ok (.aload_n 0, 1) := by decide +kernel
theorem d_H_findOneAbove_4 : decode c_H_findOneAbove 4 = .ok (.getfield 19, 3) := by decide +kernel
theorem d_H_findOneAbove_7 : decode c_H_findOneAbove 7 = .ok (.getfield 35, 3) := by decide +kernel
theorem d_H_findOneAbove_10 : decode c_H_findOneAbove 10 = .ok (.if_icmp .ge 30, 3) := by decide +kernel
theorem d_H_findOneAbove_13 : decode c_H_findOneAbove 13 = .ok (.aload_n 0, 1) := by decide +kernel
theorem d_H_findOneAbove_14 : decode c_H_findOneAbove 14 = .ok (.getfield 9, 3) := by decide +kernel
theorem d_H_findOneAbove_17 : decode c_H_findOneAbove 17 = .ok (.iload_n 1, 1) := by decide +kernel
theorem d_H_findOneAbove_18 : decode c_H_findOneAbove 18 = .ok (.baload, 1) := by decide +kernel
theorem d_H_findOneAbove_19 : decode c_H_findOneAbove 19 = .ok (.ifCond .eq 15, 3) := by decide +kernel
theorem d_H_findOneAbove_22 : decode c_H_findOneAbove 22 = .ok (.aload_n 0, 1) := by decide +kernel
theorem d_H_findOneAbove_23 : decode c_H_findOneAbove 23 = .ok (.iload_n 1, 1) := by decide +kernel
theorem d_H_findOneAbove_24 : decode c_H_findOneAbove 24 = .ok (.invokevirtual 61, 3) := by decide +kernel
theorem d_H_findOneAbove_27 : decode c_H_findOneAbove 27 = .ok (.lconst 0, 1) := by decide +kernel
theorem d_H_findOneAbove_28 : decode c_H_findOneAbove 28 = .ok (.lcmp, 1) := by decide +kernel
theorem d_H_findOneAbove_29 : decode c_H_findOneAbove 29 = .ok (.ifCond .ge 5, 3) := by decide +kernel
theorem d_H_findOneAbove_32 : decode c_H_findOneAbove 32 = .ok (.iload_n 1, 1) := by decide +kernel
theorem d_H_findOneAbove_33 : decode c_H_findOneAbove 33 = .ok (.ireturn, 1) := by decide +kernel
theorem d_H_findOneAbove_34 : decode c_H_findOneAbove 34 = .ok (.iinc 1 1, 3) := by decide +kernel
theorem d_H_findOneAbove_37 : decode c_H_findOneAbove 37 = .ok (.goto (-35), 3) := by decide +kernel
theorem d_H_findOneAbove_40 : decode c_H_findOneAbove 40 = .ok (.iconst (-1), 1) := by decide +kernel
theorem d_H_findOneAbove_41 : decode c_H_findOneAbove 41 = .ok (.ireturn, 1) := by decide +kernel
theorem d_H_partTimesSize_0 : decode c_H_partTimesSize 0 = .ok (.aload_n 0, 1) := by decide +kernel
theorem d_H_partTimesSize_1 : decode c_H_partTimesSize 1 = .ok (.getfield 27, 3) := by decide +kernel
theorem d_H_partTimesSize_4 : decode c_H_partTimesSize 4 = .ok (.aload_n 0, 1) := by decide +kernel
theorem d_H_partTimesSize_5 : decode c_H_partTimesSize 5 = .ok (.getfield 31, 3) := by decide +kernel
theorem d_H_partTimesSize_8 : decode c_H_partTimesSize 8 = .ok (.i2l, 1) := by decide +kernel
theorem d_H_partTimesSize_9 : decode c_H_partTimesSize 9 = .ok (.aload_n 0, 1) := by decide +kernel
theorem d_H_partTimesSize_10 : decode c_H_partTimesSize 10 = .ok (.getfield 15, 3) := by decide +kernel
theorem d_H_partTimesSize_13 : decode c_H_partTimesSize 13 = .ok (.iload_n 1, 1) := by decide +kernel
theorem d_H_partTimesSize_14 : decode c_H_partTimesSize 14 = .ok (.laload, 1) := by decide +kernel
theorem d_H_partTimesSize_15 : decode c_H_partTimesSize 15 = .ok (.lmul, 1) := by decide +kernel
theorem d_H_partTimesSize_16 : decode c_H_partTimesSize 16 = .ok (.lsub, 1) := by decide +kernel
theorem d_H_partTimesSize_17 : decode c_H_partTimesSize 17 = .ok (.lreturn, 1) := by decide +kernel
theorem d_L_init_0 : decode c_L_init 0 = .ok (.aload_n 0, 1) := by decide +kernel
theorem d_L_init_1 : decode c_L_init 1 = .ok (.invokespecial 3, 3) := by decide +kernel
theorem d_L_init_4 : decode c_L_init 4 = .ok (.aload_n 0, 1) := by decide +kernel
theorem d_L_init_5 : decode c_L_init 5 = .ok (.bipush 20, 2) := by decide +kernel
theorem d_L_init_7 : decode c_L_init 7 = .ok (.bipush 21, 2) := by decide +kernel
theorem d_L_init_9 : decode c_L_init 9 = .ok (.multianewarray 9 2, 4) := by decide +kernel
theorem d_L_init_13 : decode c_L_init 13 = .ok (.putfield 11, 3) := by decide +kernel
theorem d_L_init_16 : decode c_L_init 16 = .ok (.aload_n 0, 1) := by decide +kernel
theorem d_L_init_17 : decode c_L_init 17 = .ok (.bipush 20, 2) := by decide +kernel
theorem d_L_init_19 : decode c_L_init 19 = .ok (.newarray .long, 2) := by decide +kernel
theorem d_L_init_21 : decode c_L_init 21 = .ok (.putfield 16, 3) := by decide +kernel
theorem d_L_init_24 : decode c_L_init 24 = .ok (.aload_n 0, 1) := by decide +kernel
theorem d_L_init_25 : decode c_L_init 25 = .ok (.bipush 21, 2) := by decide +kernel
theorem d_L_init_27 : decode c_L_init 27 = .ok (.newarray .long, 2) := by decide +kernel
theorem d_L_init_29 : decode c_L_init 29 = .ok (.putfield 20, 3) := by decide +kernel
theorem d_L_init_32 : decode c_L_init 32 = .ok (.aload_n 0, 1) := by decide +kernel
theorem d_L_init_33 : decode c_L_init 33 = .ok (.bipush 20, 2) := by decide +kernel
theorem d_L_init_35 : decode c_L_init 35 = .ok (.newarray .boolean, 2) := by decide +kernel
theorem d_L_init_37 : decode c_L_init 37 = .ok (.putfield 23, 3) := by decide +kernel
theorem d_L_init_40 : decode c_L_init 40 = .ok (.aload_n 0, 1) := by decide +kernel
theorem d_L_init_41 : decode c_L_init 41 = .ok (.bipush 20, 2) := by decide +kernel
theorem d_L_init_43 : decode c_L_init 43 = .ok (.newarray .long, 2) := by decide +kernel
theorem d_L_init_45 : decode c_L_init 45 = .ok (.putfield 27, 3) := by decide +kernel
theorem d_L_init_48 : decode c_L_init 48 = .ok (.aload_n 0, 1) := by decide +kernel
theorem d_L_init_49 : decode c_L_init 49 = .ok (.aload_n 1, 1) := by decide +kernel
theorem d_L_init_50 : decode c_L_init 50 = .ok (.putfield 30, 3) := by decide +kernel
theorem d_L_init_53 : decode c_L_init 53 = .ok (.aload_n 0, 1) := by decide +kernel
theorem d_L_init_54 : decode c_L_init 54 = .ok (.aload_n 2, 1) := by decide +kernel
theorem d_L_init_55 : decode c_L_init 55 = .ok (.putfield 34, 3) := by decide +kernel
theorem d_L_init_58 : decode c_L_init 58 = .ok (.aload_n 0, 1) := by decide +kernel
theorem d_L_init_59 : decode c_L_init 59 = .ok (.aload_n 3, 1) := by decide +kernel
theorem d_L_init_60 : decode c_L_init 60 = .ok (.putfield 38, 3) := by decide +kernel
theorem d_L_init_63 : decode c_L_init 63 = .ok (.return_, 1) := by decide +kernel
theorem d_L_settleAll_0 : decode c_L_settleAll 0 = .ok (.aload_n 0, 1) := by decide +kernel
theorem d_L_settleAll_1 : decode c_L_settleAll 1 = .ok (.invokevirtual 42, 3) := by decide +kernel
theorem d_L_settleAll_4 : decode c_L_settleAll 4 = .ok (.iconst 0, 1) := by decide +kernel
theorem d_L_settleAll_5 : decode c_L_settleAll 5 = .ok (.istore_n 1, 1) := by decide +kernel
theorem d_L_settleAll_6 : decode c_L_settleAll 6 = .ok (.iconst 0, 1) := by decide +kernel
theorem d_L_settleAll_7 : decode c_L_settleAll 7 = .ok (.istore_n 2, 1) := by decide +kernel
theorem d_L_settleAll_8 : decode c_L_settleAll 8 = .ok (.iload_n 2, 1) := by decide +kernel
theorem d_L_settleAll_9 : decode c_L_settleAll 9 = .ok (.aload_n 0, 1) := by decide +kernel
theorem d_L_settleAll_10 : decode c_L_settleAll 10 = .ok (.getfield 30, 3) := by decide +kernel
theorem d_L_settleAll_13 : decode c_L_settleAll 13 = .ok (.getfield 45, 3) := by decide +kernel
theorem d_L_settleAll_16 : decode c_L_settleAll 16 = .ok (.if_icmp .ge 36, 3) := by decide +kernel
theorem d_L_settleAll_19 : decode c_L_settleAll 19 = .ok (.aload_n 0, 1) := by decide +kernel
theorem d_L_settleAll_20 : decode c_L_settleAll 20 = .ok (.invokevirtual 51, 3) := by decide +kernel
theorem d_L_settleAll_23 : decode c_L_settleAll 23 = .ok (.istore_n 3, 1) := by decide +kernel
theorem d_L_settleAll_24 : decode c_L_settleAll 24 = .ok (.iload_n 3, 1) := by decide +kernel
theorem d_L_settleAll_25 : decode c_L_settleAll 25 = .ok (.iconst (-1), 1) := by decide +kernel
theorem d_L_settleAll_26 : decode c_L_settleAll 26 = .ok (.if_icmp .ne 5, 3) := by decide +kernel
theorem d_L_settleAll_29 : decode c_L_settleAll 29 = .ok (.iload_n 1, 1) := by decide +kernel
theorem d_L_settleAll_30 : decode c_L_settleAll 30 = .ok (.ireturn, 1) := by decide +kernel
theorem d_L_settleAll_31 : decode c_L_settleAll 31 = .ok (.aload_n 0, 1) := by decide +kernel
theorem d_L_settleAll_32 : decode c_L_settleAll 32 = .ok (.getfield 23, 3) := by decide +kernel
theorem d_L_settleAll_35 : decode c_L_settleAll 35 = .ok (.iload_n 3, 1) := by decide +kernel
theorem d_L_settleAll_36 : decode c_L_settleAll 36 = .ok (.iconst 1, 1) := by decide +kernel
theorem d_L_settleAll_37 : decode c_L_settleAll 37 = .ok (.bastore, 1) := by decide +kernel
theorem d_L_settleAll_38 : decode c_L_settleAll 38 = .ok (.aload_n 0, 1) := by decide +kernel
theorem d_L_settleAll_39 : decode c_L_settleAll 39 = .ok (.iload_n 3, 1) := by decide +kernel
theorem d_L_settleAll_40 : decode c_L_settleAll 40 = .ok (.invokevirtual 55, 3) := by decide +kernel
theorem d_L_settleAll_43 : decode c_L_settleAll 43 = .ok (.iinc 1 1, 3) := by decide +kernel
theorem d_L_settleAll_46 : decode c_L_settleAll 46 = .ok (.iinc 2 1, 3) := by decide +kernel
theorem d_L_settleAll_49 : decode c_L_settleAll 49 = .ok (.goto (-41), 3) := by decide +kernel
theorem d_L_settleAll_52 : decode c_L_settleAll 52 = .ok (.iload_n 1, 1) := by decide +kernel
theorem d_L_settleAll_53 : decode c_L_settleAll 53 = .ok (.ireturn, 1) := by decide +kernel
theorem d_L_forget_0 : decode c_L_forget 0 = .ok (.aload_n 0, 1) := by decide +kernel
theorem d_L_forget_1 : decode c_L_forget 1 = .ok (.getfield 16, 3) := by decide +kernel
theorem d_L_forget_4 : decode c_L_forget 4 = .ok (.lconst 0, 1) := by decide +kernel
theorem d_L_forget_5 : decode c_L_forget 5 = .ok (.invokestatic 59, 3) := by decide +kernel
theorem d_L_forget_8 : decode c_L_forget 8 = .ok (.aload_n 0, 1) := by decide +kernel
theorem d_L_forget_9 : decode c_L_forget 9 = .ok (.getfield 20, 3) := by decide +kernel
theorem d_L_forget_12 : decode c_L_forget 12 = .ok (.lconst 0, 1) := by decide +kernel
theorem d_L_forget_13 : decode c_L_forget 13 = .ok (.invokestatic 59, 3) := by decide +kernel
theorem d_L_forget_16 : decode c_L_forget 16 = .ok (.iconst 0, 1) := by decide +kernel
theorem d_L_forget_17 : decode c_L_forget 17 = .ok (.istore_n 1, 1) := by decide +kernel
theorem d_L_forget_18 : decode c_L_forget 18 = .ok (.iload_n 1, 1) := by decide +kernel
theorem d_L_forget_19 : decode c_L_forget 19 = .ok (.bipush 20, 2) := by decide +kernel
theorem d_L_forget_21 : decode c_L_forget 21 = .ok (.if_icmp .ge 26, 3) := by decide +kernel
theorem d_L_forget_24 : decode c_L_forget 24 = .ok (.aload_n 0, 1) := by decide +kernel
theorem d_L_forget_25 : decode c_L_forget 25 = .ok (.getfield 11, 3) := by decide +kernel
theorem d_L_forget_28 : decode c_L_forget 28 = .ok (.iload_n 1, 1) := by decide +kernel
theorem d_L_forget_29 : decode c_L_forget 29 = .ok (.aaload, 1) := by decide +kernel
theorem d_L_forget_30 : decode c_L_forget 30 = .ok (.lconst 0, 1) := by decide +kernel
theorem d_L_forget_31 : decode c_L_forget 31 = .ok (.invokestatic 59, 3) := by decide +kernel
theorem d_L_forget_34 : decode c_L_forget 34 = .ok (.aload_n 0, 1) := by decide +kernel
theorem d_L_forget_35 : decode c_L_forget 35 = .ok (.getfield 23, 3) := by decide +kernel
theorem d_L_forget_38 : decode c_L_forget 38 = .ok (.iload_n 1, 1) := by decide +kernel
theorem d_L_forget_39 : decode c_L_forget 39 = .ok (.iconst 0, 1) := by decide +kernel
theorem d_L_forget_40 : decode c_L_forget 40 = .ok (.bastore, 1) := by decide +kernel
theorem d_L_forget_41 : decode c_L_forget 41 = .ok (.iinc 1 1, 3) := by decide +kernel
theorem d_L_forget_44 : decode c_L_forget 44 = .ok (.goto (-26), 3) := by decide +kernel
theorem d_L_forget_47 : decode c_L_forget 47 = .ok (.return_, 1) := by decide +kernel
theorem d_L_earliestUnsettled_0 : decode c_L_earliestUnsettled 0 = .ok (.iconst (-1), 1) := by decide +kernel
theorem d_L_earliestUnsettled_1 : decode c_L_earliestUnsettled 1 = .ok (.istore_n 1, 1) := by decide +kernel
theorem d_L_earliestUnsettled_2 : decode c_L_earliestUnsettled 2 = .ok (.iconst 0, 1) := by decide +kernel
theorem d_L_earliestUnsettled_3 : decode c_L_earliestUnsettled 3 = .ok (.istore_n 2, 1) := by decide +kernel
theorem d_L_earliestUnsettled_4 : decode c_L_earliestUnsettled 4 = .ok (.iload_n 2, 1) := by decide +kernel
theorem d_L_earliestUnsettled_5 : decode c_L_earliestUnsettled 5 = .ok (.aload_n 0, 1) := by decide +kernel
theorem d_L_earliestUnsettled_6 : decode c_L_earliestUnsettled 6 = .ok (.getfield 30, 3) := by decide +kernel
theorem d_L_earliestUnsettled_9 : decode c_L_earliestUnsettled 9 = .ok (.getfield 45, 3) := by decide +kernel
theorem d_L_earliestUnsettled_12 : decode c_L_earliestUnsettled 12 = .ok (.if_icmp .ge 57, 3) := by decide +kernel
theorem d_L_earliestUnsettled_15 : decode c_L_earliestUnsettled 15 = .ok (.aload_n 0, 1) := by decide +kernel
theorem d_L_earliestUnsettled_16 : decode c_L_earliestUnsettled 16 = .ok (.getfield 30, 3) := by decide +kernel
theorem d_L_earliestUnsettled_19 : decode c_L_earliestUnsettled 19 = .ok (.iload_n 2, 1) := by decide +kernel
theorem d_L_earliestUnsettled_20 : decode c_L_earliestUnsettled 20 = .ok (.invokevirtual 65, 3) := by decide +kernel
theorem d_L_earliestUnsettled_23 : decode c_L_earliestUnsettled 23 = .ok (.ifCond .eq 40, 3) := by decide +kernel
theorem d_L_earliestUnsettled_26 : decode c_L_earliestUnsettled 26 = .ok (.aload_n 0, 1) := by decide +kernel
theorem d_L_earliestUnsettled_27 : decode c_L_earliestUnsettled 27 = .ok (.getfield 23, 3) := by decide +kernel
theorem d_L_earliestUnsettled_30 : decode c_L_earliestUnsettled 30 = .ok (.iload_n 2, 1) := by decide +kernel
theorem d_L_earliestUnsettled_31 : decode c_L_earliestUnsettled 31 = .ok (.baload, 1) := by decide +kernel
theorem d_L_earliestUnsettled_32 : decode c_L_earliestUnsettled 32 = .ok (.ifCond .ne 31, 3) := by decide +kernel
theorem d_L_earliestUnsettled_35 : decode c_L_earliestUnsettled 35 = .ok (.iload_n 1, 1) := by decide +kernel
theorem d_L_earliestUnsettled_36 : decode c_L_earliestUnsettled 36 = .ok (.iconst (-1), 1) := by decide +kernel
theorem d_L_earliestUnsettled_37 : decode c_L_earliestUnsettled 37 = .ok (.if_icmp .eq 24, 3) := by decide +kernel
theorem d_L_earliestUnsettled_40 : decode c_L_earliestUnsettled 40 = .ok (.aload_n 0, 1) := by decide +kernel
theorem d_L_earliestUnsettled_41 : decode c_L_earliestUnsettled 41 = .ok (.getfield 30, 3) := by decide +kernel
theorem d_L_earliestUnsettled_44 : decode c_L_earliestUnsettled 44 = .ok (.getfield 69, 3) := by decide +kernel
theorem d_L_earliestUnsettled_47 : decode c_L_earliestUnsettled 47 = .ok (.iload_n 2, 1) := by decide +kernel
theorem d_L_earliestUnsettled_48 : decode c_L_earliestUnsettled 48 = .ok (.iaload, 1) := by decide +kernel
theorem d_L_earliestUnsettled_49 : decode c_L_earliestUnsettled 49 = .ok (.aload_n 0, 1) := by decide +kernel
theorem d_L_earliestUnsettled_50 : decode c_L_earliestUnsettled 50 = .ok (.getfield 30, 3) := by decide +kernel
theorem d_L_earliestUnsettled_53 : decode c_L_earliestUnsettled 53 = .ok (.getfield 69, 3) := by decide +kernel
theorem d_L_earliestUnsettled_56 : decode c_L_earliestUnsettled 56 = .ok (.iload_n 1, 1) := by decide +kernel
theorem d_L_earliestUnsettled_57 : decode c_L_earliestUnsettled 57 = .ok (.iaload, 1) := by decide +kernel
theorem d_L_earliestUnsettled_58 : decode c_L_earliestUnsettled 58 = .ok (.if_icmp .ge 5, 3) := by decide +kernel
theorem d_L_earliestUnsettled_61 : decode c_L_earliestUnsettled 61 = .ok (.iload_n 2, 1) := by decide +kernel
theorem d_L_earliestUnsettled_62 : decode c_L_earliestUnsettled 62 = .ok (.istore_n 1, 1) := by decide +kernel
theorem d_L_earliestUnsettled_63 : decode c_L_earliestUnsettled 63 = .ok (.iinc 2 1, 3) := by decide +kernel
theorem d_L_earliestUnsettled_66 : decode c_L_earliestUnsettled 66 = .ok (.goto (-62), 3) := by decide +kernel
theorem d_L_earliestUnsettled_69 : decode c_L_earliestUnsettled 69 = .ok (.iload_n 1, 1) := by decide +kernel
theorem d_L_earliestUnsettled_70 : decode c_L_earliestUnsettled 70 = .ok (.ireturn, 1) := by decide +kernel
theorem d_L_settleOne_0 : decode c_L_settleOne 0 = .ok (.aload_n 0, 1) := by decide +kernel
theorem d_L_settleOne_1 : decode c_L_settleOne 1 = .ok (.getfield 30, 3) := by decide +kernel
theorem d_L_settleOne_4 : decode c_L_settleOne 4 = .ok (.getfield 73, 3) := by decide +kernel
theorem d_L_settleOne_7 : decode c_L_settleOne 7 = .ok (.iload_n 1, 1) := by decide +kernel
theorem d_L_settleOne_8 : decode c_L_settleOne 8 = .ok (.iaload, 1) := by decide +kernel
theorem d_L_settleOne_9 : decode c_L_settleOne 9 = .ok (.i2l, 1) := by decide +kernel
theorem d_L_settleOne_10 : decode c_L_settleOne 10 = .ok (.aload_n 0, 1) := by decide +kernel
theorem d_L_settleOne_11 : decode c_L_settleOne 11 = .ok (.getfield 20, 3) := by decide +kernel
theorem d_L_settleOne_14 : decode c_L_settleOne 14 = .ok (.iload_n 1, 1) := by decide +kernel
theorem d_L_settleOne_15 : decode c_L_settleOne 15 = .ok (.laload, 1) := by decide +kernel
theorem d_L_settleOne_16 : decode c_L_settleOne 16 = .ok (.ladd, 1) := by decide +kernel
theorem d_L_settleOne_17 : decode c_L_settleOne 17 = .ok (.lstore_n 2, 1) := by decide +kernel
theorem d_L_settleOne_18 : decode c_L_settleOne 18 = .ok (.aload_n 0, 1) := by decide +kernel
theorem d_L_settleOne_19 : decode c_L_settleOne 19 = .ok (.getfield 16, 3) := by decide +kernel
theorem d_L_settleOne_22 : decode c_L_settleOne 22 = .ok (.iload_n 1, 1) := by decide +kernel
theorem d_L_settleOne_23 : decode c_L_settleOne 23 = .ok (.lload_n 2, 1) := by decide +kernel
theorem d_L_settleOne_24 : decode c_L_settleOne 24 = .ok (.lastore, 1) := by decide +kernel
theorem d_L_settleOne_25 : decode c_L_settleOne 25 = .ok (.aload_n 0, 1) := by decide +kernel
theorem d_L_settleOne_26 : decode c_L_settleOne 26 = .ok (.getfield 34, 3) := by decide +kernel
theorem d_L_settleOne_29 : decode c_L_settleOne 29 = .ok (.iload_n 1, 1) := by decide +kernel
theorem d_L_settleOne_30 : decode c_L_settleOne 30 = .ok (.invokevirtual 76, 3) := by decide +kernel
theorem d_L_settleOne_33 : decode c_L_settleOne 33 = .ok (.aload_n 0, 1) := by decide +kernel
theorem d_L_settleOne_34 : decode c_L_settleOne 34 = .ok (.getfield 34, 3) := by decide +kernel
theorem d_L_settleOne_37 : decode c_L_settleOne 37 = .ok (.getfield 81, 3) := by decide +kernel
theorem d_L_settleOne_40 : decode c_L_settleOne 40 = .ok (.iconst 5, 1) := by decide +kernel
theorem d_L_settleOne_41 : decode c_L_settleOne 41 = .ok (.if_icmp .ne 12, 3) := by decide +kernel
theorem d_L_settleOne_44 : decode c_L_settleOne 44 = .ok (.aload_n 0, 1) := by decide +kernel
theorem d_L_settleOne_45 : decode c_L_settleOne 45 = .ok (.iload_n 1, 1) := by decide +kernel
theorem d_L_settleOne_46 : decode c_L_settleOne 46 = .ok (.bipush 20, 2) := by decide +kernel
theorem d_L_settleOne_48 : decode c_L_settleOne 48 = .ok (.lload_n 2, 1) := by decide +kernel
theorem d_L_settleOne_49 : decode c_L_settleOne 49 = .ok (.invokevirtual 84, 3) := by decide +kernel
theorem d_L_settleOne_52 : decode c_L_settleOne 52 = .ok (.return_, 1) := by decide +kernel
theorem d_L_settleOne_53 : decode c_L_settleOne 53 = .ok (.aload_n 0, 1) := by decide +kernel
theorem d_L_settleOne_54 : decode c_L_settleOne 54 = .ok (.getfield 34, 3) := by decide +kernel
theorem d_L_settleOne_57 : decode c_L_settleOne 57 = .ok (.getfield 81, 3) := by decide +kernel
theorem d_L_settleOne_60 : decode c_L_settleOne 60 = .ok (.ifCond .ne 14, 3) := by decide +kernel
theorem d_L_settleOne_63 : decode c_L_settleOne 63 = .ok (.aload_n 0, 1) := by decide +kernel
theorem d_L_settleOne_64 : decode c_L_settleOne 64 = .ok (.getfield 38, 3) := by decide +kernel
theorem d_L_settleOne_67 : decode c_L_settleOne 67 = .ok (.lload_n 2, 1) := by decide +kernel
theorem d_L_settleOne_68 : decode c_L_settleOne 68 = .ok (.invokevirtual 88, 3) := by decide +kernel
theorem d_L_settleOne_71 : decode c_L_settleOne 71 = .ok (.goto 11, 3) := by decide +kernel
theorem d_L_settleOne_74 : decode c_L_settleOne 74 = .ok (.aload_n 0, 1) := by decide +kernel
theorem d_L_settleOne_75 : decode c_L_settleOne 75 = .ok (.getfield 38, 3) := by decide +kernel
theorem d_L_settleOne_78 : decode c_L_settleOne 78 = .ok (.lload_n 2, 1) := by decide +kernel
theorem d_L_settleOne_79 : decode c_L_settleOne 79 = .ok (.invokevirtual 94, 3) := by decide +kernel
theorem d_L_settleOne_82 : decode c_L_settleOne 82 = .ok (.aload_n 0, 1) := by decide +kernel
theorem d_L_settleOne_83 : decode c_L_settleOne 83 = .ok (.iload_n 1, 1) := by decide +kernel
theorem d_L_settleOne_84 : decode c_L_settleOne 84 = .ok (.invokevirtual 97, 3) := by decide +kernel
theorem d_L_settleOne_87 : decode c_L_settleOne 87 = .ok (.return_, 1) := by decide +kernel
theorem d_L_payDues_0 : decode c_L_payDues 0 = .ok (.aload_n 0, 1) := by decide +kernel
theorem d_L_payDues_1 : decode c_L_payDues 1 = .ok (.getfield 38, 3) := by decide +kernel
theorem d_L_payDues_4 : decode c_L_payDues 4 = .ok (.getfield 100, 3) := by decide +kernel
theorem d_L_payDues_7 : decode c_L_payDues 7 = .ok (.lstore_n 2, 1) := by decide +kernel
theorem d_L_payDues_8 : decode c_L_payDues 8 = .ok (.lload_n 2, 1) := by decide +kernel
theorem d_L_payDues_9 : decode c_L_payDues 9 = .ok (.lconst 0, 1) := by decide +kernel
theorem d_L_payDues_10 : decode c_L_payDues 10 = .ok (.lcmp, 1) := by decide +kernel
theorem d_L_payDues_11 : decode c_L_payDues 11 = .ok (.ifCond .gt 4, 3) := by decide +kernel
theorem d_L_payDues_14 : decode c_L_payDues 14 = .ok (.return_, 1) := by decide +kernel
theorem d_L_payDues_15 : decode c_L_payDues 15 = .ok (.aload_n 0, 1) := by decide +kernel
theorem d_L_payDues_16 : decode c_L_payDues 16 = .ok (.getfield 16, 3) := by decide +kernel
theorem d_L_payDues_19 : decode c_L_payDues 19 = .ok (.iload_n 1, 1) := by decide +kernel
theorem d_L_payDues_20 : decode c_L_payDues 20 = .ok (.laload, 1) := by decide +kernel
theorem d_L_payDues_21 : decode c_L_payDues 21 = .ok (.lstore 4, 2) := by decide +kernel
theorem d_L_payDues_23 : decode c_L_payDues 23 = .ok (.iconst 0, 1) := by decide +kernel
theorem d_L_payDues_24 : decode c_L_payDues 24 = .ok (.istore 6, 2) := by decide +kernel
theorem d_L_payDues_26 : decode c_L_payDues 26 = .ok (.iload 6, 2) := by decide +kernel
theorem d_L_payDues_28 : decode c_L_payDues 28 = .ok (.aload_n 0, 1) := by decide +kernel
theorem d_L_payDues_29 : decode c_L_payDues 29 = .ok (.getfield 30, 3) := by decide +kernel
theorem d_L_payDues_32 : decode c_L_payDues 32 = .ok (.getfield 45, 3) := by decide +kernel
theorem d_L_payDues_35 : decode c_L_payDues 35 = .ok (.if_icmp .ge 58, 3) := by decide +kernel
theorem d_L_payDues_38 : decode c_L_payDues 38 = .ok (.aload_n 0, 1) := by decide +kernel
theorem d_L_payDues_39 : decode c_L_payDues 39 = .ok (.getfield 38, 3) := by decide +kernel
theorem d_L_payDues_42 : decode c_L_payDues 42 = .ok (.getfield 104, 3) := by decide +kernel
theorem d_L_payDues_45 : decode c_L_payDues 45 = .ok (.iload 6, 2) := by decide +kernel
theorem d_L_payDues_47 : decode c_L_payDues 47 = .ok (.laload, 1) := by decide +kernel
theorem d_L_payDues_48 : decode c_L_payDues 48 = .ok (.lload_n 2, 1) := by decide +kernel
theorem d_L_payDues_49 : decode c_L_payDues 49 = .ok (.ldiv, 1) := by decide +kernel
theorem d_L_payDues_50 : decode c_L_payDues 50 = .ok (.lstore 7, 2) := by decide +kernel
theorem d_L_payDues_52 : decode c_L_payDues 52 = .ok (.aload_n 0, 1) := by decide +kernel
theorem d_L_payDues_53 : decode c_L_payDues 53 = .ok (.getfield 27, 3) := by decide +kernel
theorem d_L_payDues_56 : decode c_L_payDues 56 = .ok (.iload 6, 2) := by decide +kernel
theorem d_L_payDues_58 : decode c_L_payDues 58 = .ok (.aload_n 0, 1) := by decide +kernel
theorem d_L_payDues_59 : decode c_L_payDues 59 = .ok (.getfield 38, 3) := by decide +kernel
theorem d_L_payDues_62 : decode c_L_payDues 62 = .ok (.getfield 104, 3) := by decide +kernel
theorem d_L_payDues_65 : decode c_L_payDues 65 = .ok (.iload 6, 2) := by decide +kernel
theorem d_L_payDues_67 : decode c_L_payDues 67 = .ok (.laload, 1) := by decide +kernel
theorem d_L_payDues_68 : decode c_L_payDues 68 = .ok (.lload_n 2, 1) := by decide +kernel
theorem d_L_payDues_69 : decode c_L_payDues 69 = .ok (.lrem, 1) := by decide +kernel
theorem d_L_payDues_70 : decode c_L_payDues 70 = .ok (.lastore, 1) := by decide +kernel
theorem d_L_payDues_71 : decode c_L_payDues 71 = .ok (.aload_n 0, 1) := by decide +kernel
theorem d_L_payDues_72 : decode c_L_payDues 72 = .ok (.iload_n 1, 1) := by decide +kernel
theorem d_L_payDues_73 : decode c_L_payDues 73 = .ok (.iload 6, 2) := by decide +kernel
theorem d_L_payDues_75 : decode c_L_payDues 75 = .ok (.lload 7, 2) := by decide +kernel
theorem d_L_payDues_77 : decode c_L_payDues 77 = .ok (.invokevirtual 84, 3) := by decide +kernel
theorem d_L_payDues_80 : decode c_L_payDues 80 = .ok (.lload 4, 2) := by decide +kernel
theorem d_L_payDues_82 : decode c_L_payDues 82 = .ok (.lload 7, 2) := by decide +kernel
theorem d_L_payDues_84 : decode c_L_payDues 84 = .ok (.lsub, 1) := by decide +kernel
theorem d_L_payDues_85 : decode c_L_payDues 85 = .ok (.lstore 4, 2) := by decide +kernel
theorem d_L_payDues_87 : decode c_L_payDues 87 = .ok (.iinc 6 1, 3) := by decide +kernel
theorem d_L_payDues_90 : decode c_L_payDues 90 = .ok (.goto (-64), 3) := by decide +kernel
theorem d_L_payDues_93 : decode c_L_payDues 93 = .ok (.iconst 0, 1) := by decide +kernel
theorem d_L_payDues_94 : decode c_L_payDues 94 = .ok (.istore 6, 2) := by decide +kernel
theorem d_L_payDues_96 : decode c_L_payDues 96 = .ok (.iload 6, 2) := by decide +kernel
theorem d_L_payDues_98 : decode c_L_payDues 98 = .ok (.bipush 20, 2) := by decide +kernel
theorem d_L_payDues_100 : decode c_L_payDues 100 = .ok (.if_icmp .ge 44, 3) := by decide +kernel
theorem d_L_payDues_103 : decode c_L_payDues 103 = .ok (.lload 4, 2) := by decide +kernel
theorem d_L_payDues_105 : decode c_L_payDues 105 = .ok (.lconst 0, 1) := by decide +kernel
theorem d_L_payDues_106 : decode c_L_payDues 106 = .ok (.lcmp, 1) := by decide +kernel
theorem d_L_payDues_107 : decode c_L_payDues 107 = .ok (.ifCond .le 37, 3) := by decide +kernel
theorem d_L_payDues_110 : decode c_L_payDues 110 = .ok (.aload_n 0, 1) := by decide +kernel
theorem d_L_payDues_111 : decode c_L_payDues 111 = .ok (.invokevirtual 107, 3) := by decide +kernel
theorem d_L_payDues_114 : decode c_L_payDues 114 = .ok (.istore 7, 2) := by decide +kernel
theorem d_L_payDues_116 : decode c_L_payDues 116 = .ok (.aload_n 0, 1) := by decide +kernel
theorem d_L_payDues_117 : decode c_L_payDues 117 = .ok (.iload_n 1, 1) := by decide +kernel
theorem d_L_payDues_118 : decode c_L_payDues 118 = .ok (.iload 7, 2) := by decide +kernel
theorem d_L_payDues_120 : decode c_L_payDues 120 = .ok (.lconst 1, 1) := by decide +kernel
theorem d_L_payDues_121 : decode c_L_payDues 121 = .ok (.invokevirtual 84, 3) := by decide +kernel
theorem d_L_payDues_124 : decode c_L_payDues 124 = .ok (.aload_n 0, 1) := by decide +kernel
theorem d_L_payDues_125 : decode c_L_payDues 125 = .ok (.getfield 27, 3) := by decide +kernel
theorem d_L_payDues_128 : decode c_L_payDues 128 = .ok (.iload 7, 2) := by decide +kernel
theorem d_L_payDues_130 : decode c_L_payDues 130 = .ok (.lconst 0, 1) := by decide +kernel
theorem d_L_payDues_131 : decode c_L_payDues 131 = .ok (.lastore, 1) := by decide +kernel
theorem d_L_payDues_132 : decode c_L_payDues 132 = .ok (.lload 4, 2) := by decide +kernel
theorem d_L_payDues_134 : decode c_L_payDues 134 = .ok (.lconst 1, 1) := by decide +kernel
theorem d_L_payDues_135 : decode c_L_payDues 135 = .ok (.lsub, 1) := by decide +kernel
theorem d_L_payDues_136 : decode c_L_payDues 136 = .ok (.lstore 4, 2) := by decide +kernel
theorem d_L_payDues_138 : decode c_L_payDues 138 = .ok (.iinc 6 1, 3) := by decide +kernel
theorem d_L_payDues_141 : decode c_L_payDues 141 = .ok (.goto (-45), 3) := by decide +kernel
theorem d_L_payDues_144 : decode c_L_payDues 144 = .ok (.return_, 1) := by decide +kernel
theorem d_L_greatestRest_0 : decode c_L_greatestRest 0 = .ok (.iconst 0, 1) := by decide +kernel
theorem d_L_greatestRest_1 : decode c_L_greatestRest 1 = .ok (.istore_n 1, 1) := by decide +kernel
theorem d_L_greatestRest_2 : decode c_L_greatestRest 2 = .ok (.iconst 1, 1) := by decide +kernel
theorem d_L_greatestRest_3 : decode c_L_greatestRest 3 = .ok (.istore_n 2, 1) := by decide +kernel
theorem d_L_greatestRest_4 : decode c_L_greatestRest 4 = .ok (.iload_n 2, 1) := by decide +kernel
theorem d_L_greatestRest_5 : decode c_L_greatestRest 5 = .ok (.aload_n 0, 1) := by decide +kernel
theorem d_L_greatestRest_6 : decode c_L_greatestRest 6 = .ok (.getfield 30, 3) := by decide +kernel
theorem d_L_greatestRest_9 : decode c_L_greatestRest 9 = .ok (.getfield 45, 3) := by decide +kernel
theorem d_L_greatestRest_12 : decode c_L_greatestRest 12 = .ok (.if_icmp .ge 27, 3) := by decide +kernel
theorem d_L_greatestRest_15 : decode c_L_greatestRest 15 = .ok (.aload_n 0, 1) := by decide +kernel
theorem d_L_greatestRest_16 : decode c_L_greatestRest 16 = .ok (.getfield 27, 3) := by decide +kernel
theorem d_L_greatestRest_19 : decode c_L_greatestRest 19 = .ok (.iload_n 2, 1) := by decide +kernel
theorem d_L_greatestRest_20 : decode c_L_greatestRest 20 = .ok (.laload, 1) := by decide +kernel
theorem d_L_greatestRest_21 : decode c_L_greatestRest 21 = .ok (.aload_n 0, 1) := by decide +kernel
theorem d_L_greatestRest_22 : decode c_L_greatestRest 22 = .ok (.getfield 27, 3) := by decide +kernel
theorem d_L_greatestRest_25 : decode c_L_greatestRest 25 = .ok (.iload_n 1, 1) := by decide +kernel
theorem d_L_greatestRest_26 : decode c_L_greatestRest 26 = .ok (.laload, 1) := by decide +kernel
theorem d_L_greatestRest_27 : decode c_L_greatestRest 27 = .ok (.lcmp, 1) := by decide +kernel
theorem d_L_greatestRest_28 : decode c_L_greatestRest 28 = .ok (.ifCond .le 5, 3) := by decide +kernel
theorem d_L_greatestRest_31 : decode c_L_greatestRest 31 = .ok (.iload_n 2, 1) := by decide +kernel
theorem d_L_greatestRest_32 : decode c_L_greatestRest 32 = .ok (.istore_n 1, 1) := by decide +kernel
theorem d_L_greatestRest_33 : decode c_L_greatestRest 33 = .ok (.iinc 2 1, 3) := by decide +kernel
theorem d_L_greatestRest_36 : decode c_L_greatestRest 36 = .ok (.goto (-32), 3) := by decide +kernel
theorem d_L_greatestRest_39 : decode c_L_greatestRest 39 = .ok (.iload_n 1, 1) := by decide +kernel
theorem d_L_greatestRest_40 : decode c_L_greatestRest 40 = .ok (.ireturn, 1) := by decide +kernel
theorem d_L_pay_0 : decode c_L_pay 0 = .ok (.aload_n 0, 1) := by decide +kernel
theorem d_L_pay_1 : decode c_L_pay 1 = .ok (.getfield 11, 3) := by decide +kernel
theorem d_L_pay_4 : decode c_L_pay 4 = .ok (.iload_n 1, 1) := by decide +kernel
theorem d_L_pay_5 : decode c_L_pay 5 = .ok (.aaload, 1) := by decide +kernel
theorem d_L_pay_6 : decode c_L_pay 6 = .ok (.iload_n 2, 1) := by decide +kernel
theorem d_L_pay_7 : decode c_L_pay 7 = .ok (.dup2, 1) := by decide +kernel
theorem d_L_pay_8 : decode c_L_pay 8 = .ok (.laload, 1) := by decide +kernel
theorem d_L_pay_9 : decode c_L_pay 9 = .ok (.lload_n 3, 1) := by decide +kernel
theorem d_L_pay_10 : decode c_L_pay 10 = .ok (.ladd, 1) := by decide +kernel
theorem d_L_pay_11 : decode c_L_pay 11 = .ok (.lastore, 1) := by decide +kernel
theorem d_L_pay_12 : decode c_L_pay 12 = .ok (.aload_n 0, 1) := by decide +kernel
theorem d_L_pay_13 : decode c_L_pay 13 = .ok (.getfield 20, 3) := by decide +kernel
theorem d_L_pay_16 : decode c_L_pay 16 = .ok (.iload_n 2, 1) := by decide +kernel
theorem d_L_pay_17 : decode c_L_pay 17 = .ok (.dup2, 1) := by decide +kernel
theorem d_L_pay_18 : decode c_L_pay 18 = .ok (.laload, 1) := by decide +kernel
theorem d_L_pay_19 : decode c_L_pay 19 = .ok (.lload_n 3, 1) := by decide +kernel
theorem d_L_pay_20 : decode c_L_pay 20 = .ok (.ladd, 1) := by decide +kernel
theorem d_L_pay_21 : decode c_L_pay 21 = .ok (.lastore, 1) := by decide +kernel
theorem d_L_pay_22 : decode c_L_pay 22 = .ok (.return_, 1) := by decide +kernel
end
section
theorem d_M_init_0 : decode c_M_init 0 = .ok (.aload_n 0, 1) := by decide +kernel
theorem d_M_init_1 : decode c_M_init 1 = .ok (.invokespecial 1, 3) := by decide +kernel
theorem d_M_init_4 : decode c_M_init 4 = .ok (.aload_n 0, 1) := by decide +kernel
theorem d_M_init_5 : decode c_M_init 5 = .ok (.bipush 20, 2) := by decide +kernel
theorem d_M_init_7 : decode c_M_init 7 = .ok (.newarray .int, 2) := by decide +kernel
theorem d_M_init_9 : decode c_M_init 9 = .ok (.putfield 7, 3) := by decide +kernel
theorem d_M_init_12 : decode c_M_init 12 = .ok (.aload_n 0, 1) := by decide +kernel
theorem d_M_init_13 : decode c_M_init 13 = .ok (.bipush 20, 2) := by decide +kernel
theorem d_M_init_15 : decode c_M_init 15 = .ok (.newarray .int, 2) := by decide +kernel
theorem d_M_init_17 : decode c_M_init 17 = .ok (.putfield 13, 3) := by decide +kernel
theorem d_M_init_20 : decode c_M_init 20 = .ok (.aload_n 0, 1) := by decide +kernel
theorem d_M_init_21 : decode c_M_init 21 = .ok (.bipush 20, 2) := by decide +kernel
theorem d_M_init_23 : decode c_M_init 23 = .ok (.newarray .int, 2) := by decide +kernel
theorem d_M_init_25 : decode c_M_init 25 = .ok (.putfield 16, 3) := by decide +kernel
theorem d_M_init_28 : decode c_M_init 28 = .ok (.aload_n 0, 1) := by decide +kernel
theorem d_M_init_29 : decode c_M_init 29 = .ok (.bipush 20, 2) := by decide +kernel
theorem d_M_init_31 : decode c_M_init 31 = .ok (.newarray .int, 2) := by decide +kernel
theorem d_M_init_33 : decode c_M_init 33 = .ok (.putfield 19, 3) := by decide +kernel
theorem d_M_init_36 : decode c_M_init 36 = .ok (.aload_n 0, 1) := by decide +kernel
theorem d_M_init_37 : decode c_M_init 37 = .ok (.bipush 20, 2) := by decide +kernel
theorem d_M_init_39 : decode c_M_init 39 = .ok (.newarray .int, 2) := by decide +kernel
theorem d_M_init_41 : decode c_M_init 41 = .ok (.putfield 22, 3) := by decide +kernel
theorem d_M_init_44 : decode c_M_init 44 = .ok (.aload_n 0, 1) := by decide +kernel
theorem d_M_init_45 : decode c_M_init 45 = .ok (.sipush 400, 3) := by decide +kernel
theorem d_M_init_48 : decode c_M_init 48 = .ok (.newarray .int, 2) := by decide +kernel
theorem d_M_init_50 : decode c_M_init 50 = .ok (.putfield 25, 3) := by decide +kernel
theorem d_M_init_53 : decode c_M_init 53 = .ok (.aload_n 0, 1) := by decide +kernel
theorem d_M_init_54 : decode c_M_init 54 = .ok (.sipush 400, 3) := by decide +kernel
theorem d_M_init_57 : decode c_M_init 57 = .ok (.newarray .boolean, 2) := by decide +kernel
theorem d_M_init_59 : decode c_M_init 59 = .ok (.putfield 28, 3) := by decide +kernel
theorem d_M_init_62 : decode c_M_init 62 = .ok (.aload_n 0, 1) := by decide +kernel
theorem d_M_init_63 : decode c_M_init 63 = .ok (.bipush 20, 2) := by decide +kernel
theorem d_M_init_65 : decode c_M_init 65 = .ok (.newarray .boolean, 2) := by decide +kernel
theorem d_M_init_67 : decode c_M_init 67 = .ok (.putfield 32, 3) := by decide +kernel
theorem d_M_init_70 : decode c_M_init 70 = .ok (.aload_n 0, 1) := by decide +kernel
theorem d_M_init_71 : decode c_M_init 71 = .ok (.bipush 20, 2) := by decide +kernel
theorem d_M_init_73 : decode c_M_init 73 = .ok (.newarray .int, 2) := by decide +kernel
theorem d_M_init_75 : decode c_M_init 75 = .ok (.putfield 35, 3) := by decide +kernel
theorem d_M_init_78 : decode c_M_init 78 = .ok (.aload_n 0, 1) := by decide +kernel
theorem d_M_init_79 : decode c_M_init 79 = .ok (.bipush 80, 2) := by decide +kernel
theorem d_M_init_81 : decode c_M_init 81 = .ok (.newarray .boolean, 2) := by decide +kernel
theorem d_M_init_83 : decode c_M_init 83 = .ok (.putfield 38, 3) := by decide +kernel
theorem d_M_init_86 : decode c_M_init 86 = .ok (.aload_n 0, 1) := by decide +kernel
theorem d_M_init_87 : decode c_M_init 87 = .ok (.bipush 80, 2) := by decide +kernel
theorem d_M_init_89 : decode c_M_init 89 = .ok (.newarray .long, 2) := by decide +kernel
theorem d_M_init_91 : decode c_M_init 91 = .ok (.putfield 41, 3) := by decide +kernel
theorem d_M_init_94 : decode c_M_init 94 = .ok (.aload_n 0, 1) := by decide +kernel
theorem d_M_init_95 : decode c_M_init 95 = .ok (.bipush 20, 2) := by decide +kernel
theorem d_M_init_97 : decode c_M_init 97 = .ok (.newarray .long, 2) := by decide +kernel
theorem d_M_init_99 : decode c_M_init 99 = .ok (.putfield 45, 3) := by decide +kernel
theorem d_M_init_102 : decode c_M_init 102 = .ok (.aload_n 0, 1) := by decide +kernel
theorem d_M_init_103 : decode c_M_init 103 = .ok (.bipush 20, 2) := by decide +kernel
theorem d_M_init_105 : decode c_M_init 105 = .ok (.newarray .boolean, 2) := by decide +kernel
theorem d_M_init_107 : decode c_M_init 107 = .ok (.putfield 48, 3) := by decide +kernel
theorem d_M_init_110 : decode c_M_init 110 = .ok (.aload_n 0, 1) := by decide +kernel
theorem d_M_init_111 : decode c_M_init 111 = .ok (.sipush 420, 3) := by decide +kernel
theorem d_M_init_114 : decode c_M_init 114 = .ok (.newarray .long, 2) := by decide +kernel
theorem d_M_init_116 : decode c_M_init 116 = .ok (.putfield 51, 3) := by decide +kernel
theorem d_M_init_119 : decode c_M_init 119 = .ok (.aload_n 0, 1) := by decide +kernel
theorem d_M_init_120 : decode c_M_init 120 = .ok (.bipush 20, 2) := by decide +kernel
theorem d_M_init_122 : decode c_M_init 122 = .ok (.newarray .long, 2) := by decide +kernel
theorem d_M_init_124 : decode c_M_init 124 = .ok (.putfield 54, 3) := by decide +kernel
theorem d_M_init_127 : decode c_M_init 127 = .ok (.aload_n 0, 1) := by decide +kernel
theorem d_M_init_128 : decode c_M_init 128 = .ok (.bipush 21, 2) := by decide +kernel
theorem d_M_init_130 : decode c_M_init 130 = .ok (.newarray .long, 2) := by decide +kernel
theorem d_M_init_132 : decode c_M_init 132 = .ok (.putfield 57, 3) := by decide +kernel
theorem d_M_init_135 : decode c_M_init 135 = .ok (.return_, 1) := by decide +kernel
theorem d_M_thrown_0 : decode c_M_thrown 0 = .ok (.aload_n 0, 1) := by decide +kernel
theorem d_M_thrown_1 : decode c_M_thrown 1 = .ok (.getfield 60, 3) := by decide +kernel
theorem d_M_thrown_4 : decode c_M_thrown 4 = .ok (.ireturn, 1) := by decide +kernel
theorem d_M_no_0 : decode c_M_no 0 = .ok (.iload_n 1, 1) := by decide +kernel
theorem d_M_no_1 : decode c_M_no 1 = .ok (.ifCond .lt 11, 3) := by decide +kernel
theorem d_M_no_4 : decode c_M_no 4 = .ok (.iload_n 1, 1) := by decide +kernel
theorem d_M_no_5 : decode c_M_no 5 = .ok (.aload_n 0, 1) := by decide +kernel
theorem d_M_no_6 : decode c_M_no 6 = .ok (.getfield 64, 3) := by decide +kernel
theorem d_M_no_9 : decode c_M_no 9 = .ok (.if_icmp .lt 7, 3) := by decide +kernel
theorem d_M_no_12 : decode c_M_no 12 = .ok (.iconst 1, 1) := by decide +kernel
theorem d_M_no_13 : decode c_M_no 13 = .ok (.goto 4, 3) := by decide +kernel
theorem d_M_no_16 : decode c_M_no 16 = .ok (.iconst 0, 1) := by decide +kernel
theorem d_M_no_17 : decode c_M_no 17 = .ok (.ireturn, 1) := by decide +kernel
theorem d_M_person_0 : decode c_M_person 0 = .ok (.iload_n 1, 1) := by decide +kernel
theorem d_M_person_1 : decode c_M_person 1 = .ok (.iconst (-1), 1) := by decide +kernel
theorem d_M_person_2 : decode c_M_person 2 = .ok (.if_icmp .eq 11, 3) := by decide +kernel
theorem d_M_person_5 : decode c_M_person 5 = .ok (.aload_n 0, 1) := by decide +kernel
theorem d_M_person_6 : decode c_M_person 6 = .ok (.iload_n 1, 1) := by decide +kernel
theorem d_M_person_7 : decode c_M_person 7 = .ok (.invokevirtual 67, 3) := by decide +kernel
theorem d_M_person_10 : decode c_M_person 10 = .ok (.ifCond .ne 26, 3) := by decide +kernel
theorem d_M_person_13 : decode c_M_person 13 = .ok (.iload_n 2, 1) := by decide +kernel
theorem d_M_person_14 : decode c_M_person 14 = .ok (.iconst (-1), 1) := by decide +kernel
theorem d_M_person_15 : decode c_M_person 15 = .ok (.if_icmp .eq 11, 3) := by decide +kernel
theorem d_M_person_18 : decode c_M_person 18 = .ok (.aload_n 0, 1) := by decide +kernel
theorem d_M_person_19 : decode c_M_person 19 = .ok (.iload_n 2, 1) := by decide +kernel
theorem d_M_person_20 : decode c_M_person 20 = .ok (.invokevirtual 67, 3) := by decide +kernel
theorem d_M_person_23 : decode c_M_person 23 = .ok (.ifCond .ne 13, 3) := by decide +kernel
theorem d_M_person_26 : decode c_M_person 26 = .ok (.iload_n 1, 1) := by decide +kernel
theorem d_M_person_27 : decode c_M_person 27 = .ok (.iload_n 2, 1) := by decide +kernel
theorem d_M_person_28 : decode c_M_person 28 = .ok (.if_icmp .ne 12, 3) := by decide +kernel
theorem d_M_person_31 : decode c_M_person 31 = .ok (.iload_n 1, 1) := by decide +kernel
theorem d_M_person_32 : decode c_M_person 32 = .ok (.iconst (-1), 1) := by decide +kernel
theorem d_M_person_33 : decode c_M_person 33 = .ok (.if_icmp .eq 7, 3) := by decide +kernel
theorem d_M_person_36 : decode c_M_person 36 = .ok (.iconst 1, 1) := by decide +kernel
theorem d_M_person_37 : decode c_M_person 37 = .ok (.goto 4, 3) := by decide +kernel
theorem d_M_person_40 : decode c_M_person 40 = .ok (.iconst 0, 1) := by decide +kernel
theorem d_M_person_41 : decode c_M_person 41 = .ok (.istore_n 3, 1) := by decide +kernel
theorem d_M_person_42 : decode c_M_person 42 = .ok (.aload_n 0, 1) := by decide +kernel
theorem d_M_person_43 : decode c_M_person 43 = .ok (.iload_n 3, 1) := by decide +kernel
theorem d_M_person_44 : decode c_M_person 44 = .ok (.ifCond .eq 7, 3) := by decide +kernel
theorem d_M_person_47 : decode c_M_person 47 = .ok (.iconst 1, 1) := by decide +kernel
theorem d_M_person_48 : decode c_M_person 48 = .ok (.goto 17, 3) := by decide +kernel
theorem d_M_person_51 : decode c_M_person 51 = .ok (.aload_n 0, 1) := by decide +kernel
theorem d_M_person_52 : decode c_M_person 52 = .ok (.getfield 64, 3) := by decide +kernel
theorem d_M_person_55 : decode c_M_person 55 = .ok (.bipush 20, 2) := by decide +kernel
theorem d_M_person_57 : decode c_M_person 57 = .ok (.if_icmp .ne 7, 3) := by decide +kernel
theorem d_M_person_60 : decode c_M_person 60 = .ok (.iconst 2, 1) := by decide +kernel
theorem d_M_person_61 : decode c_M_person 61 = .ok (.goto 4, 3) := by decide +kernel
theorem d_M_person_64 : decode c_M_person 64 = .ok (.iconst 0, 1) := by decide +kernel
theorem d_M_person_65 : decode c_M_person 65 = .ok (.putfield 60, 3) := by decide +kernel
theorem d_M_person_68 : decode c_M_person 68 = .ok (.aload_n 0, 1) := by decide +kernel
theorem d_M_person_69 : decode c_M_person 69 = .ok (.getfield 60, 3) := by decide +kernel
theorem d_M_person_72 : decode c_M_person 72 = .ok (.ifCond .le 5, 3) := by decide +kernel
theorem d_M_person_75 : decode c_M_person 75 = .ok (.iconst 0, 1) := by decide +kernel
theorem d_M_person_76 : decode c_M_person 76 = .ok (.ireturn, 1) := by decide +kernel
theorem d_M_person_77 : decode c_M_person 77 = .ok (.aload_n 0, 1) := by decide +kernel
theorem d_M_person_78 : decode c_M_person 78 = .ok (.getfield 7, 3) := by decide +kernel
theorem d_M_person_81 : decode c_M_person 81 = .ok (.aload_n 0, 1) := by decide +kernel
theorem d_M_person_82 : decode c_M_person 82 = .ok (.getfield 64, 3) := by decide +kernel
theorem d_M_person_85 : decode c_M_person 85 = .ok (.iload_n 1, 1) := by decide +kernel
theorem d_M_person_86 : decode c_M_person 86 = .ok (.iastore, 1) := by decide +kernel
theorem d_M_person_87 : decode c_M_person 87 = .ok (.aload_n 0, 1) := by decide +kernel
theorem d_M_person_88 : decode c_M_person 88 = .ok (.getfield 13, 3) := by decide +kernel
theorem d_M_person_91 : decode c_M_person 91 = .ok (.aload_n 0, 1) := by decide +kernel
theorem d_M_person_92 : decode c_M_person 92 = .ok (.getfield 64, 3) := by decide +kernel
theorem d_M_person_95 : decode c_M_person 95 = .ok (.iload_n 2, 1) := by decide +kernel
theorem d_M_person_96 : decode c_M_person 96 = .ok (.iastore, 1) := by decide +kernel
theorem d_M_person_97 : decode c_M_person 97 = .ok (.aload_n 0, 1) := by decide +kernel
theorem d_M_person_98 : decode c_M_person 98 = .ok (.getfield 16, 3) := by decide +kernel
theorem d_M_person_101 : decode c_M_person 101 = .ok (.aload_n 0, 1) := by decide +kernel
theorem d_M_person_102 : decode c_M_person 102 = .ok (.getfield 64, 3) := by decide +kernel
theorem d_M_person_105 : decode c_M_person 105 = .ok (.iconst (-1), 1) := by decide +kernel
theorem d_M_person_106 : decode c_M_person 106 = .ok (.iastore, 1) := by decide +kernel
theorem d_M_person_107 : decode c_M_person 107 = .ok (.aload_n 0, 1) := by decide +kernel
theorem d_M_person_108 : decode c_M_person 108 = .ok (.getfield 19, 3) := by decide +kernel
theorem d_M_person_111 : decode c_M_person 111 = .ok (.aload_n 0, 1) := by decide +kernel
theorem d_M_person_112 : decode c_M_person 112 = .ok (.getfield 64, 3) := by decide +kernel
theorem d_M_person_115 : decode c_M_person 115 = .ok (.iconst (-1), 1) := by decide +kernel
theorem d_M_person_116 : decode c_M_person 116 = .ok (.iastore, 1) := by decide +kernel
theorem d_M_person_117 : decode c_M_person 117 = .ok (.aload_n 0, 1) := by decide +kernel
theorem d_M_person_118 : decode c_M_person 118 = .ok (.getfield 22, 3) := by decide +kernel
theorem d_M_person_121 : decode c_M_person 121 = .ok (.aload_n 0, 1) := by decide +kernel
theorem d_M_person_122 : decode c_M_person 122 = .ok (.getfield 64, 3) := by decide +kernel
theorem d_M_person_125 : decode c_M_person 125 = .ok (.iconst 0, 1) := by decide +kernel
theorem d_M_person_126 : decode c_M_person 126 = .ok (.iastore, 1) := by decide +kernel
theorem d_M_person_127 : decode c_M_person 127 = .ok (.aload_n 0, 1) := by decide +kernel
theorem d_M_person_128 : decode c_M_person 128 = .ok (.dup, 1) := by decide +kernel
theorem d_M_person_129 : decode c_M_person 129 = .ok (.getfield 64, 3) := by decide +kernel
theorem d_M_person_132 : decode c_M_person 132 = .ok (.iconst 1, 1) := by decide +kernel
theorem d_M_person_133 : decode c_M_person 133 = .ok (.iadd, 1) := by decide +kernel
theorem d_M_person_134 : decode c_M_person 134 = .ok (.putfield 64, 3) := by decide +kernel
theorem d_M_person_137 : decode c_M_person 137 = .ok (.aload_n 0, 1) := by decide +kernel
theorem d_M_person_138 : decode c_M_person 138 = .ok (.getfield 64, 3) := by decide +kernel
theorem d_M_person_141 : decode c_M_person 141 = .ok (.iconst 1, 1) := by decide +kernel
theorem d_M_person_142 : decode c_M_person 142 = .ok (.isub, 1) := by decide +kernel
theorem d_M_person_143 : decode c_M_person 143 = .ok (.ireturn, 1) := by decide +kernel
theorem d_M_amend_0 : decode c_M_amend 0 = .ok (.aload_n 0, 1) := by decide +kernel
theorem d_M_amend_1 : decode c_M_amend 1 = .ok (.iload_n 1, 1) := by decide +kernel
theorem d_M_amend_2 : decode c_M_amend 2 = .ok (.invokevirtual 67, 3) := by decide +kernel
theorem d_M_amend_5 : decode c_M_amend 5 = .ok (.ifCond .ne 39, 3) := by decide +kernel
theorem d_M_amend_8 : decode c_M_amend 8 = .ok (.iload_n 2, 1) := by decide +kernel
theorem d_M_amend_9 : decode c_M_amend 9 = .ok (.iconst (-1), 1) := by decide +kernel
theorem d_M_amend_10 : decode c_M_amend 10 = .ok (.if_icmp .eq 16, 3) := by decide +kernel
theorem d_M_amend_13 : decode c_M_amend 13 = .ok (.aload_n 0, 1) := by decide +kernel
theorem d_M_amend_14 : decode c_M_amend 14 = .ok (.iload_n 2, 1) := by decide +kernel
theorem d_M_amend_15 : decode c_M_amend 15 = .ok (.invokevirtual 67, 3) := by decide +kernel
theorem d_M_amend_18 : decode c_M_amend 18 = .ok (.ifCond .ne 26, 3) := by decide +kernel
theorem d_M_amend_21 : decode c_M_amend 21 = .ok (.iload_n 2, 1) := by decide +kernel
theorem d_M_amend_22 : decode c_M_amend 22 = .ok (.iload_n 1, 1) := by decide +kernel
theorem d_M_amend_23 : decode c_M_amend 23 = .ok (.if_icmp .ge 21, 3) := by decide +kernel
theorem d_M_amend_26 : decode c_M_amend 26 = .ok (.iload_n 3, 1) := by decide +kernel
theorem d_M_amend_27 : decode c_M_amend 27 = .ok (.iconst (-1), 1) := by decide +kernel
theorem d_M_amend_28 : decode c_M_amend 28 = .ok (.if_icmp .eq 20, 3) := by decide +kernel
theorem d_M_amend_31 : decode c_M_amend 31 = .ok (.aload_n 0, 1) := by decide +kernel
theorem d_M_amend_32 : decode c_M_amend 32 = .ok (.iload_n 3, 1) := by decide +kernel
theorem d_M_amend_33 : decode c_M_amend 33 = .ok (.invokevirtual 67, 3) := by decide +kernel
theorem d_M_amend_36 : decode c_M_amend 36 = .ok (.ifCond .ne 8, 3) := by decide +kernel
theorem d_M_amend_39 : decode c_M_amend 39 = .ok (.iload_n 3, 1) := by decide +kernel
theorem d_M_amend_40 : decode c_M_amend 40 = .ok (.iload_n 1, 1) := by decide +kernel
theorem d_M_amend_41 : decode c_M_amend 41 = .ok (.if_icmp .lt 7, 3) := by decide +kernel
theorem d_M_amend_44 : decode c_M_amend 44 = .ok (.iconst 1, 1) := by decide +kernel
theorem d_M_amend_45 : decode c_M_amend 45 = .ok (.goto 4, 3) := by decide +kernel
theorem d_M_amend_48 : decode c_M_amend 48 = .ok (.iconst 0, 1) := by decide +kernel
theorem d_M_amend_49 : decode c_M_amend 49 = .ok (.istore 4, 2) := by decide +kernel
theorem d_M_amend_51 : decode c_M_amend 51 = .ok (.aload_n 0, 1) := by decide +kernel
theorem d_M_amend_52 : decode c_M_amend 52 = .ok (.iload 4, 2) := by decide +kernel
theorem d_M_amend_54 : decode c_M_amend 54 = .ok (.ifCond .ne 13, 3) := by decide +kernel
theorem d_M_amend_57 : decode c_M_amend 57 = .ok (.iload_n 2, 1) := by decide +kernel
theorem d_M_amend_58 : decode c_M_amend 58 = .ok (.iload_n 3, 1) := by decide +kernel
theorem d_M_amend_59 : decode c_M_amend 59 = .ok (.if_icmp .ne 12, 3) := by decide +kernel
theorem d_M_amend_62 : decode c_M_amend 62 = .ok (.iload_n 2, 1) := by decide +kernel
theorem d_M_amend_63 : decode c_M_amend 63 = .ok (.iconst (-1), 1) := by decide +kernel
theorem d_M_amend_64 : decode c_M_amend 64 = .ok (.if_icmp .eq 7, 3) := by decide +kernel
theorem d_M_amend_67 : decode c_M_amend 67 = .ok (.iconst 1, 1) := by decide +kernel
theorem d_M_amend_68 : decode c_M_amend 68 = .ok (.goto 4, 3) := by decide +kernel
theorem d_M_amend_71 : decode c_M_amend 71 = .ok (.iconst 0, 1) := by decide +kernel
theorem d_M_amend_72 : decode c_M_amend 72 = .ok (.putfield 60, 3) := by decide +kernel
theorem d_M_amend_75 : decode c_M_amend 75 = .ok (.aload_n 0, 1) := by decide +kernel
theorem d_M_amend_76 : decode c_M_amend 76 = .ok (.getfield 60, 3) := by decide +kernel
theorem d_M_amend_79 : decode c_M_amend 79 = .ok (.ifCond .ne 17, 3) := by decide +kernel
theorem d_M_amend_82 : decode c_M_amend 82 = .ok (.aload_n 0, 1) := by decide +kernel
theorem d_M_amend_83 : decode c_M_amend 83 = .ok (.getfield 7, 3) := by decide +kernel
theorem d_M_amend_86 : decode c_M_amend 86 = .ok (.iload_n 1, 1) := by decide +kernel
theorem d_M_amend_87 : decode c_M_amend 87 = .ok (.iload_n 2, 1) := by decide +kernel
theorem d_M_amend_88 : decode c_M_amend 88 = .ok (.iastore, 1) := by decide +kernel
theorem d_M_amend_89 : decode c_M_amend 89 = .ok (.aload_n 0, 1) := by decide +kernel
theorem d_M_amend_90 : decode c_M_amend 90 = .ok (.getfield 13, 3) := by decide +kernel
theorem d_M_amend_93 : decode c_M_amend 93 = .ok (.iload_n 1, 1) := by decide +kernel
theorem d_M_amend_94 : decode c_M_amend 94 = .ok (.iload_n 3, 1) := by decide +kernel
theorem d_M_amend_95 : decode c_M_amend 95 = .ok (.iastore, 1) := by decide +kernel
theorem d_M_amend_96 : decode c_M_amend 96 = .ok (.return_, 1) := by decide +kernel
theorem d_M_isMarried_0 : decode c_M_isMarried 0 = .ok (.aload_n 0, 1) := by decide +kernel
theorem d_M_isMarried_1 : decode c_M_isMarried 1 = .ok (.getfield 16, 3) := by decide +kernel
theorem d_M_isMarried_4 : decode c_M_isMarried 4 = .ok (.iload_n 1, 1) := by decide +kernel
theorem d_M_isMarried_5 : decode c_M_isMarried 5 = .ok (.iaload, 1) := by decide +kernel
theorem d_M_isMarried_6 : decode c_M_isMarried 6 = .ok (.ifCond .lt 21, 3) := by decide +kernel
theorem d_M_isMarried_9 : decode c_M_isMarried 9 = .ok (.aload_n 0, 1) := by decide +kernel
theorem d_M_isMarried_10 : decode c_M_isMarried 10 = .ok (.getfield 19, 3) := by decide +kernel
theorem d_M_isMarried_13 : decode c_M_isMarried 13 = .ok (.aload_n 0, 1) := by decide +kernel
theorem d_M_isMarried_14 : decode c_M_isMarried 14 = .ok (.getfield 16, 3) := by decide +kernel
theorem d_M_isMarried_17 : decode c_M_isMarried 17 = .ok (.iload_n 1, 1) := by decide +kernel
theorem d_M_isMarried_18 : decode c_M_isMarried 18 = .ok (.iaload, 1) := by decide +kernel
theorem d_M_isMarried_19 : decode c_M_isMarried 19 = .ok (.iaload, 1) := by decide +kernel
theorem d_M_isMarried_20 : decode c_M_isMarried 20 = .ok (.ifCond .ge 7, 3) := by decide +kernel
theorem d_M_isMarried_23 : decode c_M_isMarried 23 = .ok (.iconst 1, 1) := by decide +kernel
theorem d_M_isMarried_24 : decode c_M_isMarried 24 = .ok (.goto 4, 3) := by decide +kernel
theorem d_M_isMarried_27 : decode c_M_isMarried 27 = .ok (.iconst 0, 1) := by decide +kernel
theorem d_M_isMarried_28 : decode c_M_isMarried 28 = .ok (.ireturn, 1) := by decide +kernel
theorem d_M_marry_0 : decode c_M_marry 0 = .ok (.aload_n 0, 1) := by decide +kernel
theorem d_M_marry_1 : decode c_M_marry 1 = .ok (.aload_n 0, 1) := by decide +kernel
theorem d_M_marry_2 : decode c_M_marry 2 = .ok (.iload_n 1, 1) := by decide +kernel
theorem d_M_marry_3 : decode c_M_marry 3 = .ok (.invokevirtual 67, 3) := by decide +kernel
theorem d_M_marry_6 : decode c_M_marry 6 = .ok (.ifCond .ne 16, 3) := by decide +kernel
theorem d_M_marry_9 : decode c_M_marry 9 = .ok (.aload_n 0, 1) := by decide +kernel
theorem d_M_marry_10 : decode c_M_marry 10 = .ok (.iload_n 2, 1) := by decide +kernel
theorem d_M_marry_11 : decode c_M_marry 11 = .ok (.invokevirtual 67, 3) := by decide +kernel
theorem d_M_marry_14 : decode c_M_marry 14 = .ok (.ifCond .ne 8, 3) := by decide +kernel
theorem d_M_marry_17 : decode c_M_marry 17 = .ok (.iload_n 1, 1) := by decide +kernel
theorem d_M_marry_18 : decode c_M_marry 18 = .ok (.iload_n 2, 1) := by decide +kernel
theorem d_M_marry_19 : decode c_M_marry 19 = .ok (.if_icmp .ne 7, 3) := by decide +kernel
theorem d_M_marry_22 : decode c_M_marry 22 = .ok (.iconst 1, 1) := by decide +kernel
theorem d_M_marry_23 : decode c_M_marry 23 = .ok (.goto 42, 3) := by decide +kernel
theorem d_M_marry_26 : decode c_M_marry 26 = .ok (.aload_n 0, 1) := by decide +kernel
theorem d_M_marry_27 : decode c_M_marry 27 = .ok (.getfield 19, 3) := by decide +kernel
theorem d_M_marry_30 : decode c_M_marry 30 = .ok (.iload_n 1, 1) := by decide +kernel
theorem d_M_marry_31 : decode c_M_marry 31 = .ok (.iaload, 1) := by decide +kernel
theorem d_M_marry_32 : decode c_M_marry 32 = .ok (.ifCond .ge 28, 3) := by decide +kernel
theorem d_M_marry_35 : decode c_M_marry 35 = .ok (.aload_n 0, 1) := by decide +kernel
theorem d_M_marry_36 : decode c_M_marry 36 = .ok (.getfield 19, 3) := by decide +kernel
theorem d_M_marry_39 : decode c_M_marry 39 = .ok (.iload_n 2, 1) := by decide +kernel
theorem d_M_marry_40 : decode c_M_marry 40 = .ok (.iaload, 1) := by decide +kernel
theorem d_M_marry_41 : decode c_M_marry 41 = .ok (.ifCond .ge 19, 3) := by decide +kernel
theorem d_M_marry_44 : decode c_M_marry 44 = .ok (.aload_n 0, 1) := by decide +kernel
theorem d_M_marry_45 : decode c_M_marry 45 = .ok (.iload_n 1, 1) := by decide +kernel
theorem d_M_marry_46 : decode c_M_marry 46 = .ok (.invokevirtual 71, 3) := by decide +kernel
theorem d_M_marry_49 : decode c_M_marry 49 = .ok (.ifCond .ne 11, 3) := by decide +kernel
theorem d_M_marry_52 : decode c_M_marry 52 = .ok (.aload_n 0, 1) := by decide +kernel
theorem d_M_marry_53 : decode c_M_marry 53 = .ok (.iload_n 2, 1) := by decide +kernel
theorem d_M_marry_54 : decode c_M_marry 54 = .ok (.invokevirtual 71, 3) := by decide +kernel
theorem d_M_marry_57 : decode c_M_marry 57 = .ok (.ifCond .eq 7, 3) := by decide +kernel
theorem d_M_marry_60 : decode c_M_marry 60 = .ok (.iconst 2, 1) := by decide +kernel
theorem d_M_marry_61 : decode c_M_marry 61 = .ok (.goto 4, 3) := by decide +kernel
theorem d_M_marry_64 : decode c_M_marry 64 = .ok (.iconst 0, 1) := by decide +kernel
theorem d_M_marry_65 : decode c_M_marry 65 = .ok (.putfield 60, 3) := by decide +kernel
theorem d_M_marry_68 : decode c_M_marry 68 = .ok (.aload_n 0, 1) := by decide +kernel
theorem d_M_marry_69 : decode c_M_marry 69 = .ok (.getfield 60, 3) := by decide +kernel
theorem d_M_marry_72 : decode c_M_marry 72 = .ok (.ifCond .ne 17, 3) := by decide +kernel
theorem d_M_marry_75 : decode c_M_marry 75 = .ok (.aload_n 0, 1) := by decide +kernel
theorem d_M_marry_76 : decode c_M_marry 76 = .ok (.getfield 16, 3) := by decide +kernel
theorem d_M_marry_79 : decode c_M_marry 79 = .ok (.iload_n 1, 1) := by decide +kernel
theorem d_M_marry_80 : decode c_M_marry 80 = .ok (.iload_n 2, 1) := by decide +kernel
theorem d_M_marry_81 : decode c_M_marry 81 = .ok (.iastore, 1) := by decide +kernel
theorem d_M_marry_82 : decode c_M_marry 82 = .ok (.aload_n 0, 1) := by decide +kernel
theorem d_M_marry_83 : decode c_M_marry 83 = .ok (.getfield 16, 3) := by decide +kernel
theorem d_M_marry_86 : decode c_M_marry 86 = .ok (.iload_n 2, 1) := by decide +kernel
theorem d_M_marry_87 : decode c_M_marry 87 = .ok (.iload_n 1, 1) := by decide +kernel
theorem d_M_marry_88 : decode c_M_marry 88 = .ok (.iastore, 1) := by decide +kernel
theorem d_M_marry_89 : decode c_M_marry 89 = .ok (.return_, 1) := by decide +kernel
theorem d_M_divorce_0 : decode c_M_divorce 0 = .ok (.aload_n 0, 1) := by decide +kernel
theorem d_M_divorce_1 : decode c_M_divorce 1 = .ok (.aload_n 0, 1) := by decide +kernel
theorem d_M_divorce_2 : decode c_M_divorce 2 = .ok (.iload_n 1, 1) := by decide +kernel
theorem d_M_divorce_3 : decode c_M_divorce 3 = .ok (.invokevirtual 67, 3) := by decide +kernel
theorem d_M_divorce_6 : decode c_M_divorce 6 = .ok (.ifCond .eq 7, 3) := by decide +kernel
theorem d_M_divorce_9 : decode c_M_divorce 9 = .ok (.iconst 1, 1) := by decide +kernel
theorem d_M_divorce_10 : decode c_M_divorce 10 = .ok (.goto 4, 3) := by decide +kernel
theorem d_M_divorce_13 : decode c_M_divorce 13 = .ok (.iconst 0, 1) := by decide +kernel
theorem d_M_divorce_14 : decode c_M_divorce 14 = .ok (.putfield 60, 3) := by decide +kernel
theorem d_M_divorce_17 : decode c_M_divorce 17 = .ok (.aload_n 0, 1) := by decide +kernel
theorem d_M_divorce_18 : decode c_M_divorce 18 = .ok (.getfield 60, 3) := by decide +kernel
theorem d_M_divorce_21 : decode c_M_divorce 21 = .ok (.ifCond .gt 20, 3) := by decide +kernel
theorem d_M_divorce_24 : decode c_M_divorce 24 = .ok (.aload_n 0, 1) := by decide +kernel
theorem d_M_divorce_25 : decode c_M_divorce 25 = .ok (.getfield 19, 3) := by decide +kernel
theorem d_M_divorce_28 : decode c_M_divorce 28 = .ok (.iload_n 1, 1) := by decide +kernel
theorem d_M_divorce_29 : decode c_M_divorce 29 = .ok (.iaload, 1) := by decide +kernel
theorem d_M_divorce_30 : decode c_M_divorce 30 = .ok (.ifCond .ge 11, 3) := by decide +kernel
theorem d_M_divorce_33 : decode c_M_divorce 33 = .ok (.aload_n 0, 1) := by decide +kernel
theorem d_M_divorce_34 : decode c_M_divorce 34 = .ok (.iload_n 1, 1) := by decide +kernel
theorem d_M_divorce_35 : decode c_M_divorce 35 = .ok (.invokevirtual 71, 3) := by decide +kernel
theorem d_M_divorce_38 : decode c_M_divorce 38 = .ok (.ifCond .ne 5, 3) := by decide +kernel
theorem d_M_divorce_41 : decode c_M_divorce 41 = .ok (.iconst 0, 1) := by decide +kernel
theorem d_M_divorce_42 : decode c_M_divorce 42 = .ok (.ireturn, 1) := by decide +kernel
theorem d_M_divorce_43 : decode c_M_divorce 43 = .ok (.aload_n 0, 1) := by decide +kernel
theorem d_M_divorce_44 : decode c_M_divorce 44 = .ok (.getfield 16, 3) := by decide +kernel
theorem d_M_divorce_47 : decode c_M_divorce 47 = .ok (.aload_n 0, 1) := by decide +kernel
theorem d_M_divorce_48 : decode c_M_divorce 48 = .ok (.getfield 16, 3) := by decide +kernel
theorem d_M_divorce_51 : decode c_M_divorce 51 = .ok (.iload_n 1, 1) := by decide +kernel
theorem d_M_divorce_52 : decode c_M_divorce 52 = .ok (.iaload, 1) := by decide +kernel
theorem d_M_divorce_53 : decode c_M_divorce 53 = .ok (.iconst (-1), 1) := by decide +kernel
theorem d_M_divorce_54 : decode c_M_divorce 54 = .ok (.iastore, 1) := by decide +kernel
theorem d_M_divorce_55 : decode c_M_divorce 55 = .ok (.aload_n 0, 1) := by decide +kernel
theorem d_M_divorce_56 : decode c_M_divorce 56 = .ok (.getfield 16, 3) := by decide +kernel
theorem d_M_divorce_59 : decode c_M_divorce 59 = .ok (.iload_n 1, 1) := by decide +kernel
theorem d_M_divorce_60 : decode c_M_divorce 60 = .ok (.iconst (-1), 1) := by decide +kernel
theorem d_M_divorce_61 : decode c_M_divorce 61 = .ok (.iastore, 1) := by decide +kernel
theorem d_M_divorce_62 : decode c_M_divorce 62 = .ok (.iconst 1, 1) := by decide +kernel
theorem d_M_divorce_63 : decode c_M_divorce 63 = .ok (.ireturn, 1) := by decide +kernel
theorem d_M_spouse_0 : decode c_M_spouse 0 = .ok (.aload_n 0, 1) := by decide +kernel
theorem d_M_spouse_1 : decode c_M_spouse 1 = .ok (.aload_n 0, 1) := by decide +kernel
theorem d_M_spouse_2 : decode c_M_spouse 2 = .ok (.iload_n 1, 1) := by decide +kernel
theorem d_M_spouse_3 : decode c_M_spouse 3 = .ok (.invokevirtual 67, 3) := by decide +kernel
theorem d_M_spouse_6 : decode c_M_spouse 6 = .ok (.ifCond .eq 7, 3) := by decide +kernel
theorem d_M_spouse_9 : decode c_M_spouse 9 = .ok (.iconst 1, 1) := by decide +kernel
theorem d_M_spouse_10 : decode c_M_spouse 10 = .ok (.goto 4, 3) := by decide +kernel
theorem d_M_spouse_13 : decode c_M_spouse 13 = .ok (.iconst 0, 1) := by decide +kernel
theorem d_M_spouse_14 : decode c_M_spouse 14 = .ok (.putfield 60, 3) := by decide +kernel
theorem d_M_spouse_17 : decode c_M_spouse 17 = .ok (.aload_n 0, 1) := by decide +kernel
theorem d_M_spouse_18 : decode c_M_spouse 18 = .ok (.getfield 60, 3) := by decide +kernel
theorem d_M_spouse_21 : decode c_M_spouse 21 = .ok (.ifCond .le 7, 3) := by decide +kernel
theorem d_M_spouse_24 : decode c_M_spouse 24 = .ok (.iconst 0, 1) := by decide +kernel
theorem d_M_spouse_25 : decode c_M_spouse 25 = .ok (.goto 9, 3) := by decide +kernel
theorem d_M_spouse_28 : decode c_M_spouse 28 = .ok (.aload_n 0, 1) := by decide +kernel
theorem d_M_spouse_29 : decode c_M_spouse 29 = .ok (.getfield 16, 3) := by decide +kernel
theorem d_M_spouse_32 : decode c_M_spouse 32 = .ok (.iload_n 1, 1) := by decide +kernel
theorem d_M_spouse_33 : decode c_M_spouse 33 = .ok (.iaload, 1) := by decide +kernel
theorem d_M_spouse_34 : decode c_M_spouse 34 = .ok (.ireturn, 1) := by decide +kernel
theorem d_M_dies_0 : decode c_M_dies 0 = .ok (.aload_n 0, 1) := by decide +kernel
theorem d_M_dies_1 : decode c_M_dies 1 = .ok (.aload_n 0, 1) := by decide +kernel
theorem d_M_dies_2 : decode c_M_dies 2 = .ok (.iload_n 1, 1) := by decide +kernel
theorem d_M_dies_3 : decode c_M_dies 3 = .ok (.invokevirtual 67, 3) := by decide +kernel
theorem d_M_dies_6 : decode c_M_dies 6 = .ok (.ifCond .ne 14, 3) := by decide +kernel
theorem d_M_dies_9 : decode c_M_dies 9 = .ok (.iload_n 2, 1) := by decide +kernel
theorem d_M_dies_10 : decode c_M_dies 10 = .ok (.ifCond .lt 10, 3) := by decide +kernel
theorem d_M_dies_13 : decode c_M_dies 13 = .ok (.iload_n 2, 1) := by decide +kernel
theorem d_M_dies_14 : decode c_M_dies 14 = .ok (.sipush 999, 3) := by decide +kernel
theorem d_M_dies_17 : decode c_M_dies 17 = .ok (.if_icmp .le 7, 3) := by decide +kernel
theorem d_M_dies_20 : decode c_M_dies 20 = .ok (.iconst 1, 1) := by decide +kernel
theorem d_M_dies_21 : decode c_M_dies 21 = .ok (.goto 17, 3) := by decide +kernel
theorem d_M_dies_24 : decode c_M_dies 24 = .ok (.aload_n 0, 1) := by decide +kernel
theorem d_M_dies_25 : decode c_M_dies 25 = .ok (.getfield 19, 3) := by decide +kernel
theorem d_M_dies_28 : decode c_M_dies 28 = .ok (.iload_n 1, 1) := by decide +kernel
theorem d_M_dies_29 : decode c_M_dies 29 = .ok (.iaload, 1) := by decide +kernel
theorem d_M_dies_30 : decode c_M_dies 30 = .ok (.ifCond .lt 7, 3) := by decide +kernel
theorem d_M_dies_33 : decode c_M_dies 33 = .ok (.iconst 2, 1) := by decide +kernel
theorem d_M_dies_34 : decode c_M_dies 34 = .ok (.goto 4, 3) := by decide +kernel
theorem d_M_dies_37 : decode c_M_dies 37 = .ok (.iconst 0, 1) := by decide +kernel
theorem d_M_dies_38 : decode c_M_dies 38 = .ok (.putfield 60, 3) := by decide +kernel
theorem d_M_dies_41 : decode c_M_dies 41 = .ok (.aload_n 0, 1) := by decide +kernel
theorem d_M_dies_42 : decode c_M_dies 42 = .ok (.getfield 60, 3) := by decide +kernel
theorem d_M_dies_45 : decode c_M_dies 45 = .ok (.ifCond .ne 10, 3) := by decide +kernel
theorem d_M_dies_48 : decode c_M_dies 48 = .ok (.aload_n 0, 1) := by decide +kernel
theorem d_M_dies_49 : decode c_M_dies 49 = .ok (.getfield 19, 3) := by decide +kernel
theorem d_M_dies_52 : decode c_M_dies 52 = .ok (.iload_n 1, 1) := by decide +kernel
theorem d_M_dies_53 : decode c_M_dies 53 = .ok (.iload_n 2, 1) := by decide +kernel
theorem d_M_dies_54 : decode c_M_dies 54 = .ok (.iastore, 1) := by decide +kernel
theorem d_M_dies_55 : decode c_M_dies 55 = .ok (.return_, 1) := by decide +kernel
theorem d_M_exclude_0 : decode c_M_exclude 0 = .ok (.aload_n 0, 1) := by decide +kernel
theorem d_M_exclude_1 : decode c_M_exclude 1 = .ok (.aload_n 0, 1) := by decide +kernel
theorem d_M_exclude_2 : decode c_M_exclude 2 = .ok (.iload_n 1, 1) := by decide +kernel
theorem d_M_exclude_3 : decode c_M_exclude 3 = .ok (.invokevirtual 67, 3) := by decide +kernel
theorem d_M_exclude_6 : decode c_M_exclude 6 = .ok (.ifCond .ne 11, 3) := by decide +kernel
theorem d_M_exclude_9 : decode c_M_exclude 9 = .ok (.aload_n 0, 1) := by decide +kernel
theorem d_M_exclude_10 : decode c_M_exclude 10 = .ok (.iload_n 2, 1) := by decide +kernel
theorem d_M_exclude_11 : decode c_M_exclude 11 = .ok (.invokevirtual 67, 3) := by decide +kernel
theorem d_M_exclude_14 : decode c_M_exclude 14 = .ok (.ifCond .eq 7, 3) := by decide +kernel
theorem d_M_exclude_17 : decode c_M_exclude 17 = .ok (.iconst 1, 1) := by decide +kernel
theorem d_M_exclude_18 : decode c_M_exclude 18 = .ok (.goto 4, 3) := by decide +kernel
theorem d_M_exclude_21 : decode c_M_exclude 21 = .ok (.iconst 0, 1) := by decide +kernel
theorem d_M_exclude_22 : decode c_M_exclude 22 = .ok (.putfield 60, 3) := by decide +kernel
theorem d_M_exclude_25 : decode c_M_exclude 25 = .ok (.aload_n 0, 1) := by decide +kernel
theorem d_M_exclude_26 : decode c_M_exclude 26 = .ok (.getfield 60, 3) := by decide +kernel
theorem d_M_exclude_29 : decode c_M_exclude 29 = .ok (.ifCond .le 5, 3) := by decide +kernel
theorem d_M_exclude_32 : decode c_M_exclude 32 = .ok (.iconst 0, 1) := by decide +kernel
theorem d_M_exclude_33 : decode c_M_exclude 33 = .ok (.ireturn, 1) := by decide +kernel
theorem d_M_exclude_34 : decode c_M_exclude 34 = .ok (.aload_n 0, 1) := by decide +kernel
theorem d_M_exclude_35 : decode c_M_exclude 35 = .ok (.getfield 28, 3) := by decide +kernel
theorem d_M_exclude_38 : decode c_M_exclude 38 = .ok (.bipush 20, 2) := by decide +kernel
theorem d_M_exclude_40 : decode c_M_exclude 40 = .ok (.iload_n 1, 1) := by decide +kernel
theorem d_M_exclude_41 : decode c_M_exclude 41 = .ok (.imul, 1) := by decide +kernel
theorem d_M_exclude_42 : decode c_M_exclude 42 = .ok (.iload_n 2, 1) := by decide +kernel
theorem d_M_exclude_43 : decode c_M_exclude 43 = .ok (.iadd, 1) := by decide +kernel
theorem d_M_exclude_44 : decode c_M_exclude 44 = .ok (.baload, 1) := by decide +kernel
theorem d_M_exclude_45 : decode c_M_exclude 45 = .ok (.istore 4, 2) := by decide +kernel
theorem d_M_exclude_47 : decode c_M_exclude 47 = .ok (.aload_n 0, 1) := by decide +kernel
theorem d_M_exclude_48 : decode c_M_exclude 48 = .ok (.getfield 28, 3) := by decide +kernel
theorem d_M_exclude_51 : decode c_M_exclude 51 = .ok (.bipush 20, 2) := by decide +kernel
theorem d_M_exclude_53 : decode c_M_exclude 53 = .ok (.iload_n 1, 1) := by decide +kernel
theorem d_M_exclude_54 : decode c_M_exclude 54 = .ok (.imul, 1) := by decide +kernel
theorem d_M_exclude_55 : decode c_M_exclude 55 = .ok (.iload_n 2, 1) := by decide +kernel
theorem d_M_exclude_56 : decode c_M_exclude 56 = .ok (.iadd, 1) := by decide +kernel
theorem d_M_exclude_57 : decode c_M_exclude 57 = .ok (.iload_n 3, 1) := by decide +kernel
theorem d_M_exclude_58 : decode c_M_exclude 58 = .ok (.bastore, 1) := by decide +kernel
theorem d_M_exclude_59 : decode c_M_exclude 59 = .ok (.iload 4, 2) := by decide +kernel
theorem d_M_exclude_61 : decode c_M_exclude 61 = .ok (.iload_n 3, 1) := by decide +kernel
theorem d_M_exclude_62 : decode c_M_exclude 62 = .ok (.if_icmp .eq 7, 3) := by decide +kernel
theorem d_M_exclude_65 : decode c_M_exclude 65 = .ok (.iconst 1, 1) := by decide +kernel
theorem d_M_exclude_66 : decode c_M_exclude 66 = .ok (.goto 4, 3) := by decide +kernel
theorem d_M_exclude_69 : decode c_M_exclude 69 = .ok (.iconst 0, 1) := by decide +kernel
theorem d_M_exclude_70 : decode c_M_exclude 70 = .ok (.ireturn, 1) := by decide +kernel
theorem d_M_gift_0 : decode c_M_gift 0 = .ok (.aload_n 0, 1) := by decide +kernel
theorem d_M_gift_1 : decode c_M_gift 1 = .ok (.iload_n 1, 1) := by decide +kernel
theorem d_M_gift_2 : decode c_M_gift 2 = .ok (.invokevirtual 67, 3) := by decide +kernel
theorem d_M_gift_5 : decode c_M_gift 5 = .ok (.ifCond .ne 22, 3) := by decide +kernel
theorem d_M_gift_8 : decode c_M_gift 8 = .ok (.aload_n 0, 1) := by decide +kernel
theorem d_M_gift_9 : decode c_M_gift 9 = .ok (.iload_n 2, 1) := by decide +kernel
theorem d_M_gift_10 : decode c_M_gift 10 = .ok (.invokevirtual 67, 3) := by decide +kernel
theorem d_M_gift_13 : decode c_M_gift 13 = .ok (.ifCond .ne 14, 3) := by decide +kernel
theorem d_M_gift_16 : decode c_M_gift 16 = .ok (.iload_n 3, 1) := by decide +kernel
theorem d_M_gift_17 : decode c_M_gift 17 = .ok (.iconst 1, 1) := by decide +kernel
theorem d_M_gift_18 : decode c_M_gift 18 = .ok (.if_icmp .lt 9, 3) := by decide +kernel
theorem d_M_gift_21 : decode c_M_gift 21 = .ok (.iload_n 3, 1) := by decide +kernel
theorem d_M_gift_22 : decode c_M_gift 22 = .ok (.ldc 74, 2) := by decide +kernel
theorem d_M_gift_24 : decode c_M_gift 24 = .ok (.if_icmp .le 7, 3) := by decide +kernel
theorem d_M_gift_27 : decode c_M_gift 27 = .ok (.iconst 1, 1) := by decide +kernel
theorem d_M_gift_28 : decode c_M_gift 28 = .ok (.goto 4, 3) := by decide +kernel
theorem d_M_gift_31 : decode c_M_gift 31 = .ok (.iconst 0, 1) := by decide +kernel
theorem d_M_gift_32 : decode c_M_gift 32 = .ok (.istore 4, 2) := by decide +kernel
theorem d_M_gift_34 : decode c_M_gift 34 = .ok (.iload 4, 2) := by decide +kernel
theorem d_M_gift_36 : decode c_M_gift 36 = .ok (.ifCond .ne 23, 3) := by decide +kernel
theorem d_M_gift_39 : decode c_M_gift 39 = .ok (.aload_n 0, 1) := by decide +kernel
theorem d_M_gift_40 : decode c_M_gift 40 = .ok (.getfield 7, 3) := by decide +kernel
theorem d_M_gift_43 : decode c_M_gift 43 = .ok (.iload_n 1, 1) := by decide +kernel
theorem d_M_gift_44 : decode c_M_gift 44 = .ok (.iaload, 1) := by decide +kernel
theorem d_M_gift_45 : decode c_M_gift 45 = .ok (.iload_n 2, 1) := by decide +kernel
theorem d_M_gift_46 : decode c_M_gift 46 = .ok (.if_icmp .eq 17, 3) := by decide +kernel
theorem d_M_gift_49 : decode c_M_gift 49 = .ok (.aload_n 0, 1) := by decide +kernel
theorem d_M_gift_50 : decode c_M_gift 50 = .ok (.getfield 13, 3) := by decide +kernel
theorem d_M_gift_53 : decode c_M_gift 53 = .ok (.iload_n 1, 1) := by decide +kernel
theorem d_M_gift_54 : decode c_M_gift 54 = .ok (.iaload, 1) := by decide +kernel
theorem d_M_gift_55 : decode c_M_gift 55 = .ok (.iload_n 2, 1) := by decide +kernel
theorem d_M_gift_56 : decode c_M_gift 56 = .ok (.if_icmp .eq 7, 3) := by decide +kernel
theorem d_M_gift_59 : decode c_M_gift 59 = .ok (.iconst 1, 1) := by decide +kernel
theorem d_M_gift_60 : decode c_M_gift 60 = .ok (.goto 4, 3) := by decide +kernel
theorem d_M_gift_63 : decode c_M_gift 63 = .ok (.iconst 0, 1) := by decide +kernel
theorem d_M_gift_64 : decode c_M_gift 64 = .ok (.istore 4, 2) := by decide +kernel
theorem d_M_gift_66 : decode c_M_gift 66 = .ok (.aload_n 0, 1) := by decide +kernel
theorem d_M_gift_67 : decode c_M_gift 67 = .ok (.iload 4, 2) := by decide +kernel
theorem d_M_gift_69 : decode c_M_gift 69 = .ok (.ifCond .eq 7, 3) := by decide +kernel
theorem d_M_gift_72 : decode c_M_gift 72 = .ok (.iconst 1, 1) := by decide +kernel
theorem d_M_gift_73 : decode c_M_gift 73 = .ok (.goto 26, 3) := by decide +kernel
theorem d_M_gift_76 : decode c_M_gift 76 = .ok (.aload_n 0, 1) := by decide +kernel
theorem d_M_gift_77 : decode c_M_gift 77 = .ok (.getfield 25, 3) := by decide +kernel
theorem d_M_gift_80 : decode c_M_gift 80 = .ok (.bipush 20, 2) := by decide +kernel
theorem d_M_gift_82 : decode c_M_gift 82 = .ok (.iload_n 1, 1) := by decide +kernel
theorem d_M_gift_83 : decode c_M_gift 83 = .ok (.imul, 1) := by decide +kernel
theorem d_M_gift_84 : decode c_M_gift 84 = .ok (.iload_n 2, 1) := by decide +kernel
theorem d_M_gift_85 : decode c_M_gift 85 = .ok (.iadd, 1) := by decide +kernel
theorem d_M_gift_86 : decode c_M_gift 86 = .ok (.iaload, 1) := by decide +kernel
theorem d_M_gift_87 : decode c_M_gift 87 = .ok (.iload_n 3, 1) := by decide +kernel
theorem d_M_gift_88 : decode c_M_gift 88 = .ok (.iadd, 1) := by decide +kernel
theorem d_M_gift_89 : decode c_M_gift 89 = .ok (.ldc 74, 2) := by decide +kernel
theorem d_M_gift_91 : decode c_M_gift 91 = .ok (.if_icmp .le 7, 3) := by decide +kernel
theorem d_M_gift_94 : decode c_M_gift 94 = .ok (.iconst 2, 1) := by decide +kernel
theorem d_M_gift_95 : decode c_M_gift 95 = .ok (.goto 4, 3) := by decide +kernel
theorem d_M_gift_98 : decode c_M_gift 98 = .ok (.iconst 0, 1) := by decide +kernel
theorem d_M_gift_99 : decode c_M_gift 99 = .ok (.putfield 60, 3) := by decide +kernel
theorem d_M_gift_102 : decode c_M_gift 102 = .ok (.aload_n 0, 1) := by decide +kernel
theorem d_M_gift_103 : decode c_M_gift 103 = .ok (.getfield 60, 3) := by decide +kernel
theorem d_M_gift_106 : decode c_M_gift 106 = .ok (.ifCond .le 5, 3) := by decide +kernel
theorem d_M_gift_109 : decode c_M_gift 109 = .ok (.iconst 0, 1) := by decide +kernel
theorem d_M_gift_110 : decode c_M_gift 110 = .ok (.ireturn, 1) := by decide +kernel
theorem d_M_gift_111 : decode c_M_gift 111 = .ok (.aload_n 0, 1) := by decide +kernel
theorem d_M_gift_112 : decode c_M_gift 112 = .ok (.getfield 25, 3) := by decide +kernel
theorem d_M_gift_115 : decode c_M_gift 115 = .ok (.bipush 20, 2) := by decide +kernel
theorem d_M_gift_117 : decode c_M_gift 117 = .ok (.iload_n 1, 1) := by decide +kernel
theorem d_M_gift_118 : decode c_M_gift 118 = .ok (.imul, 1) := by decide +kernel
theorem d_M_gift_119 : decode c_M_gift 119 = .ok (.iload_n 2, 1) := by decide +kernel
theorem d_M_gift_120 : decode c_M_gift 120 = .ok (.iadd, 1) := by decide +kernel
theorem d_M_gift_121 : decode c_M_gift 121 = .ok (.aload_n 0, 1) := by decide +kernel
theorem d_M_gift_122 : decode c_M_gift 122 = .ok (.getfield 25, 3) := by decide +kernel
theorem d_M_gift_125 : decode c_M_gift 125 = .ok (.bipush 20, 2) := by decide +kernel
theorem d_M_gift_127 : decode c_M_gift 127 = .ok (.iload_n 1, 1) := by decide +kernel
theorem d_M_gift_128 : decode c_M_gift 128 = .ok (.imul, 1) := by decide +kernel
theorem d_M_gift_129 : decode c_M_gift 129 = .ok (.iload_n 2, 1) := by decide +kernel
theorem d_M_gift_130 : decode c_M_gift 130 = .ok (.iadd, 1) := by decide +kernel
theorem d_M_gift_131 : decode c_M_gift 131 = .ok (.iaload, 1) := by decide +kernel
theorem d_M_gift_132 : decode c_M_gift 132 = .ok (.iload_n 3, 1) := by decide +kernel
theorem d_M_gift_133 : decode c_M_gift 133 = .ok (.iadd, 1) := by decide +kernel
theorem d_M_gift_134 : decode c_M_gift 134 = .ok (.iastore, 1) := by decide +kernel
theorem d_M_gift_135 : decode c_M_gift 135 = .ok (.aload_n 0, 1) := by decide +kernel
theorem d_M_gift_136 : decode c_M_gift 136 = .ok (.getfield 25, 3) := by decide +kernel
theorem d_M_gift_139 : decode c_M_gift 139 = .ok (.bipush 20, 2) := by decide +kernel
theorem d_M_gift_141 : decode c_M_gift 141 = .ok (.iload_n 1, 1) := by decide +kernel
theorem d_M_gift_142 : decode c_M_gift 142 = .ok (.imul, 1) := by decide +kernel
theorem d_M_gift_143 : decode c_M_gift 143 = .ok (.iload_n 2, 1) := by decide +kernel
theorem d_M_gift_144 : decode c_M_gift 144 = .ok (.iadd, 1) := by decide +kernel
theorem d_M_gift_145 : decode c_M_gift 145 = .ok (.iaload, 1) := by decide +kernel
theorem d_M_gift_146 : decode c_M_gift 146 = .ok (.ireturn, 1) := by decide +kernel
theorem d_M_estate_0 : decode c_M_estate 0 = .ok (.aload_n 0, 1) := by decide +kernel
theorem d_M_estate_1 : decode c_M_estate 1 = .ok (.aload_n 0, 1) := by decide +kernel
theorem d_M_estate_2 : decode c_M_estate 2 = .ok (.iload_n 1, 1) := by decide +kernel
theorem d_M_estate_3 : decode c_M_estate 3 = .ok (.invokevirtual 67, 3) := by decide +kernel
theorem d_M_estate_6 : decode c_M_estate 6 = .ok (.ifCond .ne 13, 3) := by decide +kernel
theorem d_M_estate_9 : decode c_M_estate 9 = .ok (.iload_n 2, 1) := by decide +kernel
theorem d_M_estate_10 : decode c_M_estate 10 = .ok (.ifCond .lt 9, 3) := by decide +kernel
theorem d_M_estate_13 : decode c_M_estate 13 = .ok (.iload_n 2, 1) := by decide +kernel
theorem d_M_estate_14 : decode c_M_estate 14 = .ok (.ldc 74, 2) := by decide +kernel
theorem d_M_estate_16 : decode c_M_estate 16 = .ok (.if_icmp .le 7, 3) := by decide +kernel
theorem d_M_estate_19 : decode c_M_estate 19 = .ok (.iconst 1, 1) := by decide +kernel
theorem d_M_estate_20 : decode c_M_estate 20 = .ok (.goto 4, 3) := by decide +kernel
theorem d_M_estate_23 : decode c_M_estate 23 = .ok (.iconst 0, 1) := by decide +kernel
theorem d_M_estate_24 : decode c_M_estate 24 = .ok (.putfield 60, 3) := by decide +kernel
theorem d_M_estate_27 : decode c_M_estate 27 = .ok (.aload_n 0, 1) := by decide +kernel
theorem d_M_estate_28 : decode c_M_estate 28 = .ok (.getfield 60, 3) := by decide +kernel
theorem d_M_estate_31 : decode c_M_estate 31 = .ok (.ifCond .ne 10, 3) := by decide +kernel
theorem d_M_estate_34 : decode c_M_estate 34 = .ok (.aload_n 0, 1) := by decide +kernel
theorem d_M_estate_35 : decode c_M_estate 35 = .ok (.getfield 22, 3) := by decide +kernel
theorem d_M_estate_38 : decode c_M_estate 38 = .ok (.iload_n 1, 1) := by decide +kernel
theorem d_M_estate_39 : decode c_M_estate 39 = .ok (.iload_n 2, 1) := by decide +kernel
theorem d_M_estate_40 : decode c_M_estate 40 = .ok (.iastore, 1) := by decide +kernel
theorem d_M_estate_41 : decode c_M_estate 41 = .ok (.return_, 1) := by decide +kernel
theorem d_M_isChild_0 : decode c_M_isChild 0 = .ok (.aload_n 0, 1) := by decide +kernel
theorem d_M_isChild_1 : decode c_M_isChild 1 = .ok (.getfield 7, 3) := by decide +kernel
theorem d_M_isChild_4 : decode c_M_isChild 4 = .ok (.iload_n 1, 1) := by decide +kernel
theorem d_M_isChild_5 : decode c_M_isChild 5 = .ok (.iaload, 1) := by decide +kernel
theorem d_M_isChild_6 : decode c_M_isChild 6 = .ok (.iload_n 2, 1) := by decide +kernel
theorem d_M_isChild_7 : decode c_M_isChild 7 = .ok (.if_icmp .eq 13, 3) := by decide +kernel
theorem d_M_isChild_10 : decode c_M_isChild 10 = .ok (.aload_n 0, 1) := by decide +kernel
theorem d_M_isChild_11 : decode c_M_isChild 11 = .ok (.getfield 13, 3) := by decide +kernel
theorem d_M_isChild_14 : decode c_M_isChild 14 = .ok (.iload_n 1, 1) := by decide +kernel
theorem d_M_isChild_15 : decode c_M_isChild 15 = .ok (.iaload, 1) := by decide +kernel
theorem d_M_isChild_16 : decode c_M_isChild 16 = .ok (.iload_n 2, 1) := by decide +kernel
theorem d_M_isChild_17 : decode c_M_isChild 17 = .ok (.if_icmp .ne 7, 3) := by decide +kernel
theorem d_M_isChild_20 : decode c_M_isChild 20 = .ok (.iconst 1, 1) := by decide +kernel
theorem d_M_isChild_21 : decode c_M_isChild 21 = .ok (.goto 4, 3) := by decide +kernel
theorem d_M_isChild_24 : decode c_M_isChild 24 = .ok (.iconst 0, 1) := by decide +kernel
theorem d_M_isChild_25 : decode c_M_isChild 25 = .ok (.ireturn, 1) := by decide +kernel
theorem d_M_look_0 : decode c_M_look 0 = .ok (.aload_n 0, 1) := by decide +kernel
theorem d_M_look_1 : decode c_M_look 1 = .ok (.iload_n 1, 1) := by decide +kernel
theorem d_M_look_2 : decode c_M_look 2 = .ok (.putfield 75, 3) := by decide +kernel
theorem d_M_look_5 : decode c_M_look 5 = .ok (.aload_n 0, 1) := by decide +kernel
theorem d_M_look_6 : decode c_M_look 6 = .ok (.lconst 1, 1) := by decide +kernel
theorem d_M_look_7 : decode c_M_look 7 = .ok (.putfield 78, 3) := by decide +kernel
theorem d_M_look_10 : decode c_M_look 10 = .ok (.aload_n 0, 1) := by decide +kernel
theorem d_M_look_11 : decode c_M_look 11 = .ok (.getfield 64, 3) := by decide +kernel
theorem d_M_look_14 : decode c_M_look 14 = .ok (.iconst 1, 1) := by decide +kernel
theorem d_M_look_15 : decode c_M_look 15 = .ok (.isub, 1) := by decide +kernel
theorem d_M_look_16 : decode c_M_look 16 = .ok (.istore_n 2, 1) := by decide +kernel
theorem d_M_look_17 : decode c_M_look 17 = .ok (.iload_n 2, 1) := by decide +kernel
theorem d_M_look_18 : decode c_M_look 18 = .ok (.ifCond .lt 199, 3) := by decide +kernel
theorem d_M_look_21 : decode c_M_look 21 = .ok (.aload_n 0, 1) := by decide +kernel
theorem d_M_look_22 : decode c_M_look 22 = .ok (.getfield 32, 3) := by decide +kernel
theorem d_M_look_25 : decode c_M_look 25 = .ok (.iload_n 2, 1) := by decide +kernel
theorem d_M_look_26 : decode c_M_look 26 = .ok (.iload_n 2, 1) := by decide +kernel
theorem d_M_look_27 : decode c_M_look 27 = .ok (.iload_n 1, 1) := by decide +kernel
theorem d_M_look_28 : decode c_M_look 28 = .ok (.if_icmp .eq 45, 3) := by decide +kernel
theorem d_M_look_31 : decode c_M_look 31 = .ok (.aload_n 0, 1) := by decide +kernel
theorem d_M_look_32 : decode c_M_look 32 = .ok (.getfield 28, 3) := by decide +kernel
theorem d_M_look_35 : decode c_M_look 35 = .ok (.bipush 20, 2) := by decide +kernel
theorem d_M_look_37 : decode c_M_look 37 = .ok (.iload_n 2, 1) := by decide +kernel
theorem d_M_look_38 : decode c_M_look 38 = .ok (.imul, 1) := by decide +kernel
theorem d_M_look_39 : decode c_M_look 39 = .ok (.iload_n 1, 1) := by decide +kernel
theorem d_M_look_40 : decode c_M_look 40 = .ok (.iadd, 1) := by decide +kernel
theorem d_M_look_41 : decode c_M_look 41 = .ok (.baload, 1) := by decide +kernel
theorem d_M_look_42 : decode c_M_look 42 = .ok (.ifCond .ne 31, 3) := by decide +kernel
theorem d_M_look_45 : decode c_M_look 45 = .ok (.aload_n 0, 1) := by decide +kernel
theorem d_M_look_46 : decode c_M_look 46 = .ok (.getfield 19, 3) := by decide +kernel
theorem d_M_look_49 : decode c_M_look 49 = .ok (.iload_n 2, 1) := by decide +kernel
theorem d_M_look_50 : decode c_M_look 50 = .ok (.iaload, 1) := by decide +kernel
theorem d_M_look_51 : decode c_M_look 51 = .ok (.ifCond .lt 18, 3) := by decide +kernel
theorem d_M_look_54 : decode c_M_look 54 = .ok (.aload_n 0, 1) := by decide +kernel
theorem d_M_look_55 : decode c_M_look 55 = .ok (.getfield 19, 3) := by decide +kernel
theorem d_M_look_58 : decode c_M_look 58 = .ok (.iload_n 2, 1) := by decide +kernel
theorem d_M_look_59 : decode c_M_look 59 = .ok (.iaload, 1) := by decide +kernel
theorem d_M_look_60 : decode c_M_look 60 = .ok (.aload_n 0, 1) := by decide +kernel
theorem d_M_look_61 : decode c_M_look 61 = .ok (.getfield 19, 3) := by decide +kernel
theorem d_M_look_64 : decode c_M_look 64 = .ok (.iload_n 1, 1) := by decide +kernel
theorem d_M_look_65 : decode c_M_look 65 = .ok (.iaload, 1) := by decide +kernel
theorem d_M_look_66 : decode c_M_look 66 = .ok (.if_icmp .le 7, 3) := by decide +kernel
theorem d_M_look_69 : decode c_M_look 69 = .ok (.iconst 1, 1) := by decide +kernel
theorem d_M_look_70 : decode c_M_look 70 = .ok (.goto 4, 3) := by decide +kernel
theorem d_M_look_73 : decode c_M_look 73 = .ok (.iconst 0, 1) := by decide +kernel
theorem d_M_look_74 : decode c_M_look 74 = .ok (.bastore, 1) := by decide +kernel
theorem d_M_look_75 : decode c_M_look 75 = .ok (.aload_n 0, 1) := by decide +kernel
theorem d_M_look_76 : decode c_M_look 76 = .ok (.getfield 35, 3) := by decide +kernel
theorem d_M_look_79 : decode c_M_look 79 = .ok (.iload_n 2, 1) := by decide +kernel
theorem d_M_look_80 : decode c_M_look 80 = .ok (.iconst 0, 1) := by decide +kernel
theorem d_M_look_81 : decode c_M_look 81 = .ok (.iastore, 1) := by decide +kernel
theorem d_M_look_82 : decode c_M_look 82 = .ok (.iload_n 2, 1) := by decide +kernel
theorem d_M_look_83 : decode c_M_look 83 = .ok (.iconst 1, 1) := by decide +kernel
theorem d_M_look_84 : decode c_M_look 84 = .ok (.iadd, 1) := by decide +kernel
theorem d_M_look_85 : decode c_M_look 85 = .ok (.istore_n 3, 1) := by decide +kernel
theorem d_M_look_86 : decode c_M_look 86 = .ok (.iload_n 3, 1) := by decide +kernel
theorem d_M_look_87 : decode c_M_look 87 = .ok (.aload_n 0, 1) := by decide +kernel
theorem d_M_look_88 : decode c_M_look 88 = .ok (.getfield 64, 3) := by decide +kernel
theorem d_M_look_91 : decode c_M_look 91 = .ok (.if_icmp .ge 50, 3) := by decide +kernel
theorem d_M_look_94 : decode c_M_look 94 = .ok (.aload_n 0, 1) := by decide +kernel
theorem d_M_look_95 : decode c_M_look 95 = .ok (.getfield 35, 3) := by decide +kernel
theorem d_M_look_98 : decode c_M_look 98 = .ok (.iload_n 2, 1) := by decide +kernel
theorem d_M_look_99 : decode c_M_look 99 = .ok (.aload_n 0, 1) := by decide +kernel
theorem d_M_look_100 : decode c_M_look 100 = .ok (.iload_n 3, 1) := by decide +kernel
theorem d_M_look_101 : decode c_M_look 101 = .ok (.iload_n 2, 1) := by decide +kernel
theorem d_M_look_102 : decode c_M_look 102 = .ok (.invokevirtual 82, 3) := by decide +kernel
theorem d_M_look_105 : decode c_M_look 105 = .ok (.ifCond .eq 23, 3) := by decide +kernel
theorem d_M_look_108 : decode c_M_look 108 = .ok (.aload_n 0, 1) := by decide +kernel
theorem d_M_look_109 : decode c_M_look 109 = .ok (.getfield 38, 3) := by decide +kernel
theorem d_M_look_112 : decode c_M_look 112 = .ok (.iload_n 3, 1) := by decide +kernel
theorem d_M_look_113 : decode c_M_look 113 = .ok (.baload, 1) := by decide +kernel
theorem d_M_look_114 : decode c_M_look 114 = .ok (.ifCond .eq 14, 3) := by decide +kernel
theorem d_M_look_117 : decode c_M_look 117 = .ok (.aload_n 0, 1) := by decide +kernel
theorem d_M_look_118 : decode c_M_look 118 = .ok (.getfield 35, 3) := by decide +kernel
theorem d_M_look_121 : decode c_M_look 121 = .ok (.iload_n 2, 1) := by decide +kernel
theorem d_M_look_122 : decode c_M_look 122 = .ok (.iaload, 1) := by decide +kernel
theorem d_M_look_123 : decode c_M_look 123 = .ok (.iconst 1, 1) := by decide +kernel
theorem d_M_look_124 : decode c_M_look 124 = .ok (.iadd, 1) := by decide +kernel
theorem d_M_look_125 : decode c_M_look 125 = .ok (.goto 9, 3) := by decide +kernel
theorem d_M_look_128 : decode c_M_look 128 = .ok (.aload_n 0, 1) := by decide +kernel
theorem d_M_look_129 : decode c_M_look 129 = .ok (.getfield 35, 3) := by decide +kernel
theorem d_M_look_132 : decode c_M_look 132 = .ok (.iload_n 2, 1) := by decide +kernel
theorem d_M_look_133 : decode c_M_look 133 = .ok (.iaload, 1) := by decide +kernel
theorem d_M_look_134 : decode c_M_look 134 = .ok (.iastore, 1) := by decide +kernel
theorem d_M_look_135 : decode c_M_look 135 = .ok (.iinc 3 1, 3) := by decide +kernel
theorem d_M_look_138 : decode c_M_look 138 = .ok (.goto (-52), 3) := by decide +kernel
theorem d_M_look_141 : decode c_M_look 141 = .ok (.aload_n 0, 1) := by decide +kernel
theorem d_M_look_142 : decode c_M_look 142 = .ok (.getfield 38, 3) := by decide +kernel
theorem d_M_look_145 : decode c_M_look 145 = .ok (.iload_n 2, 1) := by decide +kernel
theorem d_M_look_146 : decode c_M_look 146 = .ok (.aload_n 0, 1) := by decide +kernel
theorem d_M_look_147 : decode c_M_look 147 = .ok (.getfield 32, 3) := by decide +kernel
theorem d_M_look_150 : decode c_M_look 150 = .ok (.iload_n 2, 1) := by decide +kernel
theorem d_M_look_151 : decode c_M_look 151 = .ok (.baload, 1) := by decide +kernel
theorem d_M_look_152 : decode c_M_look 152 = .ok (.ifCond .ne 12, 3) := by decide +kernel
theorem d_M_look_155 : decode c_M_look 155 = .ok (.aload_n 0, 1) := by decide +kernel
theorem d_M_look_156 : decode c_M_look 156 = .ok (.getfield 35, 3) := by decide +kernel
theorem d_M_look_159 : decode c_M_look 159 = .ok (.iload_n 2, 1) := by decide +kernel
theorem d_M_look_160 : decode c_M_look 160 = .ok (.iaload, 1) := by decide +kernel
theorem d_M_look_161 : decode c_M_look 161 = .ok (.ifCond .le 7, 3) := by decide +kernel
theorem d_M_look_164 : decode c_M_look 164 = .ok (.iconst 1, 1) := by decide +kernel
theorem d_M_look_165 : decode c_M_look 165 = .ok (.goto 4, 3) := by decide +kernel
theorem d_M_look_168 : decode c_M_look 168 = .ok (.iconst 0, 1) := by decide +kernel
theorem d_M_look_169 : decode c_M_look 169 = .ok (.bastore, 1) := by decide +kernel
theorem d_M_look_170 : decode c_M_look 170 = .ok (.aload_n 0, 1) := by decide +kernel
theorem d_M_look_171 : decode c_M_look 171 = .ok (.aload_n 0, 1) := by decide +kernel
theorem d_M_look_172 : decode c_M_look 172 = .ok (.getfield 32, 3) := by decide +kernel
theorem d_M_look_175 : decode c_M_look 175 = .ok (.iload_n 2, 1) := by decide +kernel
theorem d_M_look_176 : decode c_M_look 176 = .ok (.baload, 1) := by decide +kernel
theorem d_M_look_177 : decode c_M_look 177 = .ok (.ifCond .ne 27, 3) := by decide +kernel
theorem d_M_look_180 : decode c_M_look 180 = .ok (.aload_n 0, 1) := by decide +kernel
theorem d_M_look_181 : decode c_M_look 181 = .ok (.getfield 35, 3) := by decide +kernel
theorem d_M_look_184 : decode c_M_look 184 = .ok (.iload_n 2, 1) := by decide +kernel
theorem d_M_look_185 : decode c_M_look 185 = .ok (.iaload, 1) := by decide +kernel
theorem d_M_look_186 : decode c_M_look 186 = .ok (.ifCond .le 18, 3) := by decide +kernel
theorem d_M_look_189 : decode c_M_look 189 = .ok (.aload_n 0, 1) := by decide +kernel
theorem d_M_look_190 : decode c_M_look 190 = .ok (.getfield 78, 3) := by decide +kernel
theorem d_M_look_193 : decode c_M_look 193 = .ok (.aload_n 0, 1) := by decide +kernel
theorem d_M_look_194 : decode c_M_look 194 = .ok (.getfield 35, 3) := by decide +kernel
theorem d_M_look_197 : decode c_M_look 197 = .ok (.iload_n 2, 1) := by decide +kernel
theorem d_M_look_198 : decode c_M_look 198 = .ok (.iaload, 1) := by decide +kernel
theorem d_M_look_199 : decode c_M_look 199 = .ok (.i2l, 1) := by decide +kernel
theorem d_M_look_200 : decode c_M_look 200 = .ok (.lmul, 1) := by decide +kernel
theorem d_M_look_201 : decode c_M_look 201 = .ok (.goto 7, 3) := by decide +kernel
theorem d_M_look_204 : decode c_M_look 204 = .ok (.aload_n 0, 1) := by decide +kernel
theorem d_M_look_205 : decode c_M_look 205 = .ok (.getfield 78, 3) := by decide +kernel
theorem d_M_look_208 : decode c_M_look 208 = .ok (.putfield 78, 3) := by decide +kernel
theorem d_M_look_211 : decode c_M_look 211 = .ok (.iinc 2 (-1), 3) := by decide +kernel
theorem d_M_look_214 : decode c_M_look 214 = .ok (.goto (-197), 3) := by decide +kernel
theorem d_M_look_217 : decode c_M_look 217 = .ok (.iconst 1, 1) := by decide +kernel
theorem d_M_look_218 : decode c_M_look 218 = .ok (.istore_n 2, 1) := by decide +kernel
theorem d_M_look_219 : decode c_M_look 219 = .ok (.iload_n 2, 1) := by decide +kernel
theorem d_M_look_220 : decode c_M_look 220 = .ok (.iconst 4, 1) := by decide +kernel
theorem d_M_look_221 : decode c_M_look 221 = .ok (.if_icmp .ge 73, 3) := by decide +kernel
theorem d_M_look_224 : decode c_M_look 224 = .ok (.iconst 0, 1) := by decide +kernel
theorem d_M_look_225 : decode c_M_look 225 = .ok (.istore_n 3, 1) := by decide +kernel
theorem d_M_look_226 : decode c_M_look 226 = .ok (.iload_n 3, 1) := by decide +kernel
theorem d_M_look_227 : decode c_M_look 227 = .ok (.aload_n 0, 1) := by decide +kernel
theorem d_M_look_228 : decode c_M_look 228 = .ok (.getfield 64, 3) := by decide +kernel
theorem d_M_look_231 : decode c_M_look 231 = .ok (.if_icmp .ge 57, 3) := by decide +kernel
theorem d_M_look_234 : decode c_M_look 234 = .ok (.aload_n 0, 1) := by decide +kernel
theorem d_M_look_235 : decode c_M_look 235 = .ok (.getfield 38, 3) := by decide +kernel
theorem d_M_look_238 : decode c_M_look 238 = .ok (.bipush 20, 2) := by decide +kernel
theorem d_M_look_240 : decode c_M_look 240 = .ok (.iload_n 2, 1) := by decide +kernel
theorem d_M_look_241 : decode c_M_look 241 = .ok (.imul, 1) := by decide +kernel
theorem d_M_look_242 : decode c_M_look 242 = .ok (.iload_n 3, 1) := by decide +kernel
theorem d_M_look_243 : decode c_M_look 243 = .ok (.iadd, 1) := by decide +kernel
theorem d_M_look_244 : decode c_M_look 244 = .ok (.aload_n 0, 1) := by decide +kernel
theorem d_M_look_245 : decode c_M_look 245 = .ok (.iload_n 2, 1) := by decide +kernel
theorem d_M_look_246 : decode c_M_look 246 = .ok (.iconst 1, 1) := by decide +kernel
theorem d_M_look_247 : decode c_M_look 247 = .ok (.isub, 1) := by decide +kernel
theorem d_M_look_248 : decode c_M_look 248 = .ok (.aload_n 0, 1) := by decide +kernel
theorem d_M_look_249 : decode c_M_look 249 = .ok (.getfield 7, 3) := by decide +kernel
theorem d_M_look_252 : decode c_M_look 252 = .ok (.iload_n 3, 1) := by decide +kernel
theorem d_M_look_253 : decode c_M_look 253 = .ok (.iaload, 1) := by decide +kernel
theorem d_M_look_254 : decode c_M_look 254 = .ok (.invokevirtual 86, 3) := by decide +kernel
theorem d_M_look_257 : decode c_M_look 257 = .ok (.ifCond .ne 19, 3) := by decide +kernel
theorem d_M_look_260 : decode c_M_look 260 = .ok (.aload_n 0, 1) := by decide +kernel
theorem d_M_look_261 : decode c_M_look 261 = .ok (.iload_n 2, 1) := by decide +kernel
theorem d_M_look_262 : decode c_M_look 262 = .ok (.iconst 1, 1) := by decide +kernel
theorem d_M_look_263 : decode c_M_look 263 = .ok (.isub, 1) := by decide +kernel
theorem d_M_look_264 : decode c_M_look 264 = .ok (.aload_n 0, 1) := by decide +kernel
theorem d_M_look_265 : decode c_M_look 265 = .ok (.getfield 13, 3) := by decide +kernel
theorem d_M_look_268 : decode c_M_look 268 = .ok (.iload_n 3, 1) := by decide +kernel
theorem d_M_look_269 : decode c_M_look 269 = .ok (.iaload, 1) := by decide +kernel
theorem d_M_look_270 : decode c_M_look 270 = .ok (.invokevirtual 86, 3) := by decide +kernel
theorem d_M_look_273 : decode c_M_look 273 = .ok (.ifCond .eq 7, 3) := by decide +kernel
theorem d_M_look_276 : decode c_M_look 276 = .ok (.iconst 1, 1) := by decide +kernel
theorem d_M_look_277 : decode c_M_look 277 = .ok (.goto 4, 3) := by decide +kernel
theorem d_M_look_280 : decode c_M_look 280 = .ok (.iconst 0, 1) := by decide +kernel
theorem d_M_look_281 : decode c_M_look 281 = .ok (.bastore, 1) := by decide +kernel
theorem d_M_look_282 : decode c_M_look 282 = .ok (.iinc 3 1, 3) := by decide +kernel
theorem d_M_look_285 : decode c_M_look 285 = .ok (.goto (-59), 3) := by decide +kernel
theorem d_M_look_288 : decode c_M_look 288 = .ok (.iinc 2 1, 3) := by decide +kernel
theorem d_M_look_291 : decode c_M_look 291 = .ok (.goto (-72), 3) := by decide +kernel
theorem d_M_look_294 : decode c_M_look 294 = .ok (.aload_n 0, 1) := by decide +kernel
theorem d_M_look_295 : decode c_M_look 295 = .ok (.aload_n 0, 1) := by decide +kernel
theorem d_M_look_296 : decode c_M_look 296 = .ok (.getfield 16, 3) := by decide +kernel
theorem d_M_look_299 : decode c_M_look 299 = .ok (.iload_n 1, 1) := by decide +kernel
theorem d_M_look_300 : decode c_M_look 300 = .ok (.iaload, 1) := by decide +kernel
theorem d_M_look_301 : decode c_M_look 301 = .ok (.ifCond .lt 21, 3) := by decide +kernel
theorem d_M_look_304 : decode c_M_look 304 = .ok (.aload_n 0, 1) := by decide +kernel
theorem d_M_look_305 : decode c_M_look 305 = .ok (.getfield 32, 3) := by decide +kernel
theorem d_M_look_308 : decode c_M_look 308 = .ok (.aload_n 0, 1) := by decide +kernel
theorem d_M_look_309 : decode c_M_look 309 = .ok (.getfield 16, 3) := by decide +kernel
theorem d_M_look_312 : decode c_M_look 312 = .ok (.iload_n 1, 1) := by decide +kernel
theorem d_M_look_313 : decode c_M_look 313 = .ok (.iaload, 1) := by decide +kernel
theorem d_M_look_314 : decode c_M_look 314 = .ok (.baload, 1) := by decide +kernel
theorem d_M_look_315 : decode c_M_look 315 = .ok (.ifCond .eq 7, 3) := by decide +kernel
theorem d_M_look_318 : decode c_M_look 318 = .ok (.iconst 1, 1) := by decide +kernel
theorem d_M_look_319 : decode c_M_look 319 = .ok (.goto 4, 3) := by decide +kernel
theorem d_M_look_322 : decode c_M_look 322 = .ok (.iconst 0, 1) := by decide +kernel
theorem d_M_look_323 : decode c_M_look 323 = .ok (.putfield 89, 3) := by decide +kernel
theorem d_M_look_326 : decode c_M_look 326 = .ok (.aload_n 0, 1) := by decide +kernel
theorem d_M_look_327 : decode c_M_look 327 = .ok (.aload_n 0, 1) := by decide +kernel
theorem d_M_look_328 : decode c_M_look 328 = .ok (.getfield 89, 3) := by decide +kernel
theorem d_M_look_331 : decode c_M_look 331 = .ok (.ifCond .eq 7, 3) := by decide +kernel
theorem d_M_look_334 : decode c_M_look 334 = .ok (.iconst 4, 1) := by decide +kernel
theorem d_M_look_335 : decode c_M_look 335 = .ok (.goto 4, 3) := by decide +kernel
theorem d_M_look_338 : decode c_M_look 338 = .ok (.iconst 5, 1) := by decide +kernel
theorem d_M_look_339 : decode c_M_look 339 = .ok (.putfield 93, 3) := by decide +kernel
theorem d_M_look_342 : decode c_M_look 342 = .ok (.iconst 3, 1) := by decide +kernel
theorem d_M_look_343 : decode c_M_look 343 = .ok (.istore_n 2, 1) := by decide +kernel
theorem d_M_look_344 : decode c_M_look 344 = .ok (.iload_n 2, 1) := by decide +kernel
theorem d_M_look_345 : decode c_M_look 345 = .ok (.ifCond .le 47, 3) := by decide +kernel
theorem d_M_look_348 : decode c_M_look 348 = .ok (.aload_n 0, 1) := by decide +kernel
theorem d_M_look_349 : decode c_M_look 349 = .ok (.aload_n 0, 1) := by decide +kernel
theorem d_M_look_350 : decode c_M_look 350 = .ok (.getfield 38, 3) := by decide +kernel
theorem d_M_look_353 : decode c_M_look 353 = .ok (.bipush 20, 2) := by decide +kernel
theorem d_M_look_355 : decode c_M_look 355 = .ok (.iload_n 2, 1) := by decide +kernel
theorem d_M_look_356 : decode c_M_look 356 = .ok (.imul, 1) := by decide +kernel
theorem d_M_look_357 : decode c_M_look 357 = .ok (.iload_n 1, 1) := by decide +kernel
theorem d_M_look_358 : decode c_M_look 358 = .ok (.iadd, 1) := by decide +kernel
theorem d_M_look_359 : decode c_M_look 359 = .ok (.baload, 1) := by decide +kernel
theorem d_M_look_360 : decode c_M_look 360 = .ok (.ifCond .eq 19, 3) := by decide +kernel
theorem d_M_look_363 : decode c_M_look 363 = .ok (.iload_n 2, 1) := by decide +kernel
theorem d_M_look_364 : decode c_M_look 364 = .ok (.iconst 3, 1) := by decide +kernel
theorem d_M_look_365 : decode c_M_look 365 = .ok (.if_icmp .lt 10, 3) := by decide +kernel
theorem d_M_look_368 : decode c_M_look 368 = .ok (.aload_n 0, 1) := by decide +kernel
theorem d_M_look_369 : decode c_M_look 369 = .ok (.getfield 89, 3) := by decide +kernel
theorem d_M_look_372 : decode c_M_look 372 = .ok (.ifCond .ne 7, 3) := by decide +kernel
theorem d_M_look_375 : decode c_M_look 375 = .ok (.iload_n 2, 1) := by decide +kernel
theorem d_M_look_376 : decode c_M_look 376 = .ok (.goto 7, 3) := by decide +kernel
theorem d_M_look_379 : decode c_M_look 379 = .ok (.aload_n 0, 1) := by decide +kernel
theorem d_M_look_380 : decode c_M_look 380 = .ok (.getfield 93, 3) := by decide +kernel
theorem d_M_look_383 : decode c_M_look 383 = .ok (.putfield 93, 3) := by decide +kernel
theorem d_M_look_386 : decode c_M_look 386 = .ok (.iinc 2 (-1), 3) := by decide +kernel
theorem d_M_look_389 : decode c_M_look 389 = .ok (.goto (-45), 3) := by decide +kernel
theorem d_M_look_392 : decode c_M_look 392 = .ok (.aload_n 0, 1) := by decide +kernel
theorem d_M_look_393 : decode c_M_look 393 = .ok (.aload_n 0, 1) := by decide +kernel
theorem d_M_look_394 : decode c_M_look 394 = .ok (.getfield 35, 3) := by decide +kernel
theorem d_M_look_397 : decode c_M_look 397 = .ok (.iload_n 1, 1) := by decide +kernel
theorem d_M_look_398 : decode c_M_look 398 = .ok (.iaload, 1) := by decide +kernel
theorem d_M_look_399 : decode c_M_look 399 = .ok (.ifCond .le 7, 3) := by decide +kernel
theorem d_M_look_402 : decode c_M_look 402 = .ok (.iconst 0, 1) := by decide +kernel
theorem d_M_look_403 : decode c_M_look 403 = .ok (.goto 7, 3) := by decide +kernel
theorem d_M_look_406 : decode c_M_look 406 = .ok (.aload_n 0, 1) := by decide +kernel
theorem d_M_look_407 : decode c_M_look 407 = .ok (.getfield 93, 3) := by decide +kernel
theorem d_M_look_410 : decode c_M_look 410 = .ok (.putfield 93, 3) := by decide +kernel
theorem d_M_look_413 : decode c_M_look 413 = .ok (.return_, 1) := by decide +kernel
theorem d_M_hasLine_0 : decode c_M_hasLine 0 = .ok (.iload_n 2, 1) := by decide +kernel
theorem d_M_hasLine_1 : decode c_M_hasLine 1 = .ok (.ifCond .lt 21, 3) := by decide +kernel
theorem d_M_hasLine_4 : decode c_M_hasLine 4 = .ok (.aload_n 0, 1) := by decide +kernel
theorem d_M_hasLine_5 : decode c_M_hasLine 5 = .ok (.getfield 38, 3) := by decide +kernel
theorem d_M_hasLine_8 : decode c_M_hasLine 8 = .ok (.bipush 20, 2) := by decide +kernel
theorem d_M_hasLine_10 : decode c_M_hasLine 10 = .ok (.iload_n 1, 1) := by decide +kernel
theorem d_M_hasLine_11 : decode c_M_hasLine 11 = .ok (.imul, 1) := by decide +kernel
theorem d_M_hasLine_12 : decode c_M_hasLine 12 = .ok (.iload_n 2, 1) := by decide +kernel
theorem d_M_hasLine_13 : decode c_M_hasLine 13 = .ok (.iadd, 1) := by decide +kernel
theorem d_M_hasLine_14 : decode c_M_hasLine 14 = .ok (.baload, 1) := by decide +kernel
theorem d_M_hasLine_15 : decode c_M_hasLine 15 = .ok (.ifCond .eq 7, 3) := by decide +kernel
theorem d_M_hasLine_18 : decode c_M_hasLine 18 = .ok (.iconst 1, 1) := by decide +kernel
theorem d_M_hasLine_19 : decode c_M_hasLine 19 = .ok (.goto 4, 3) := by decide +kernel
theorem d_M_hasLine_22 : decode c_M_hasLine 22 = .ok (.iconst 0, 1) := by decide +kernel
theorem d_M_hasLine_23 : decode c_M_hasLine 23 = .ok (.ireturn, 1) := by decide +kernel
theorem d_M_clear_0 : decode c_M_clear 0 = .ok (.iconst 0, 1) := by decide +kernel
theorem d_M_clear_1 : decode c_M_clear 1 = .ok (.istore_n 1, 1) := by decide +kernel
theorem d_M_clear_2 : decode c_M_clear 2 = .ok (.iload_n 1, 1) := by decide +kernel
theorem d_M_clear_3 : decode c_M_clear 3 = .ok (.bipush 80, 2) := by decide +kernel
theorem d_M_clear_5 : decode c_M_clear 5 = .ok (.if_icmp .ge 16, 3) := by decide +kernel
theorem d_M_clear_8 : decode c_M_clear 8 = .ok (.aload_n 0, 1) := by decide +kernel
theorem d_M_clear_9 : decode c_M_clear 9 = .ok (.getfield 41, 3) := by decide +kernel
theorem d_M_clear_12 : decode c_M_clear 12 = .ok (.iload_n 1, 1) := by decide +kernel
theorem d_M_clear_13 : decode c_M_clear 13 = .ok (.lconst 0, 1) := by decide +kernel
theorem d_M_clear_14 : decode c_M_clear 14 = .ok (.lastore, 1) := by decide +kernel
theorem d_M_clear_15 : decode c_M_clear 15 = .ok (.iinc 1 1, 3) := by decide +kernel
theorem d_M_clear_18 : decode c_M_clear 18 = .ok (.goto (-16), 3) := by decide +kernel
theorem d_M_clear_21 : decode c_M_clear 21 = .ok (.iconst 0, 1) := by decide +kernel
theorem d_M_clear_22 : decode c_M_clear 22 = .ok (.istore_n 1, 1) := by decide +kernel
theorem d_M_clear_23 : decode c_M_clear 23 = .ok (.iload_n 1, 1) := by decide +kernel
theorem d_M_clear_24 : decode c_M_clear 24 = .ok (.bipush 20, 2) := by decide +kernel
theorem d_M_clear_26 : decode c_M_clear 26 = .ok (.if_icmp .ge 16, 3) := by decide +kernel
theorem d_M_clear_29 : decode c_M_clear 29 = .ok (.aload_n 0, 1) := by decide +kernel
theorem d_M_clear_30 : decode c_M_clear 30 = .ok (.getfield 45, 3) := by decide +kernel
theorem d_M_clear_33 : decode c_M_clear 33 = .ok (.iload_n 1, 1) := by decide +kernel
theorem d_M_clear_34 : decode c_M_clear 34 = .ok (.lconst 0, 1) := by decide +kernel
theorem d_M_clear_35 : decode c_M_clear 35 = .ok (.lastore, 1) := by decide +kernel
theorem d_M_clear_36 : decode c_M_clear 36 = .ok (.iinc 1 1, 3) := by decide +kernel
theorem d_M_clear_39 : decode c_M_clear 39 = .ok (.goto (-16), 3) := by decide +kernel
theorem d_M_clear_42 : decode c_M_clear 42 = .ok (.return_, 1) := by decide +kernel
theorem d_M_climb_0 : decode c_M_climb 0 = .ok (.iload_n 1, 1) := by decide +kernel
theorem d_M_climb_1 : decode c_M_climb 1 = .ok (.istore_n 2, 1) := by decide +kernel
theorem d_M_climb_2 : decode c_M_climb 2 = .ok (.iload_n 2, 1) := by decide +kernel
theorem d_M_climb_3 : decode c_M_climb 3 = .ok (.ifCond .le 166, 3) := by decide +kernel
theorem d_M_climb_6 : decode c_M_climb 6 = .ok (.iconst 0, 1) := by decide +kernel
theorem d_M_climb_7 : decode c_M_climb 7 = .ok (.istore_n 3, 1) := by decide +kernel
theorem d_M_climb_8 : decode c_M_climb 8 = .ok (.iload_n 3, 1) := by decide +kernel
theorem d_M_climb_9 : decode c_M_climb 9 = .ok (.aload_n 0, 1) := by decide +kernel
theorem d_M_climb_10 : decode c_M_climb 10 = .ok (.getfield 64, 3) := by decide +kernel
theorem d_M_climb_13 : decode c_M_climb 13 = .ok (.if_icmp .ge 150, 3) := by decide +kernel
theorem d_M_climb_16 : decode c_M_climb 16 = .ok (.aload_n 0, 1) := by decide +kernel
theorem d_M_climb_17 : decode c_M_climb 17 = .ok (.getfield 41, 3) := by decide +kernel
theorem d_M_climb_20 : decode c_M_climb 20 = .ok (.bipush 20, 2) := by decide +kernel
theorem d_M_climb_22 : decode c_M_climb 22 = .ok (.iload_n 2, 1) := by decide +kernel
theorem d_M_climb_23 : decode c_M_climb 23 = .ok (.imul, 1) := by decide +kernel
theorem d_M_climb_24 : decode c_M_climb 24 = .ok (.iload_n 3, 1) := by decide +kernel
theorem d_M_climb_25 : decode c_M_climb 25 = .ok (.iadd, 1) := by decide +kernel
theorem d_M_climb_26 : decode c_M_climb 26 = .ok (.laload, 1) := by decide +kernel
theorem d_M_climb_27 : decode c_M_climb 27 = .ok (.lstore 4, 2) := by decide +kernel
theorem d_M_climb_29 : decode c_M_climb 29 = .ok (.aload_n 0, 1) := by decide +kernel
theorem d_M_climb_30 : decode c_M_climb 30 = .ok (.iload_n 2, 1) := by decide +kernel
theorem d_M_climb_31 : decode c_M_climb 31 = .ok (.iconst 1, 1) := by decide +kernel
theorem d_M_climb_32 : decode c_M_climb 32 = .ok (.isub, 1) := by decide +kernel
theorem d_M_climb_33 : decode c_M_climb 33 = .ok (.aload_n 0, 1) := by decide +kernel
theorem d_M_climb_34 : decode c_M_climb 34 = .ok (.getfield 7, 3) := by decide +kernel
theorem d_M_climb_37 : decode c_M_climb 37 = .ok (.iload_n 3, 1) := by decide +kernel
theorem d_M_climb_38 : decode c_M_climb 38 = .ok (.iaload, 1) := by decide +kernel
theorem d_M_climb_39 : decode c_M_climb 39 = .ok (.invokevirtual 86, 3) := by decide +kernel
theorem d_M_climb_42 : decode c_M_climb 42 = .ok (.istore 6, 2) := by decide +kernel
theorem d_M_climb_44 : decode c_M_climb 44 = .ok (.aload_n 0, 1) := by decide +kernel
theorem d_M_climb_45 : decode c_M_climb 45 = .ok (.iload_n 2, 1) := by decide +kernel
theorem d_M_climb_46 : decode c_M_climb 46 = .ok (.iconst 1, 1) := by decide +kernel
theorem d_M_climb_47 : decode c_M_climb 47 = .ok (.isub, 1) := by decide +kernel
theorem d_M_climb_48 : decode c_M_climb 48 = .ok (.aload_n 0, 1) := by decide +kernel
theorem d_M_climb_49 : decode c_M_climb 49 = .ok (.getfield 13, 3) := by decide +kernel
theorem d_M_climb_52 : decode c_M_climb 52 = .ok (.iload_n 3, 1) := by decide +kernel
theorem d_M_climb_53 : decode c_M_climb 53 = .ok (.iaload, 1) := by decide +kernel
theorem d_M_climb_54 : decode c_M_climb 54 = .ok (.invokevirtual 86, 3) := by decide +kernel
theorem d_M_climb_57 : decode c_M_climb 57 = .ok (.istore 7, 2) := by decide +kernel
theorem d_M_climb_59 : decode c_M_climb 59 = .ok (.lload 4, 2) := by decide +kernel
theorem d_M_climb_61 : decode c_M_climb 61 = .ok (.lconst 0, 1) := by decide +kernel
theorem d_M_climb_62 : decode c_M_climb 62 = .ok (.lcmp, 1) := by decide +kernel
theorem d_M_climb_63 : decode c_M_climb 63 = .ok (.ifCond .le 45, 3) := by decide +kernel
theorem d_M_climb_66 : decode c_M_climb 66 = .ok (.iload 6, 2) := by decide +kernel
theorem d_M_climb_68 : decode c_M_climb 68 = .ok (.ifCond .eq 40, 3) := by decide +kernel
theorem d_M_climb_71 : decode c_M_climb 71 = .ok (.aload_n 0, 1) := by decide +kernel
theorem d_M_climb_72 : decode c_M_climb 72 = .ok (.getfield 41, 3) := by decide +kernel
theorem d_M_climb_75 : decode c_M_climb 75 = .ok (.bipush 20, 2) := by decide +kernel
theorem d_M_climb_77 : decode c_M_climb 77 = .ok (.iload_n 2, 1) := by decide +kernel
theorem d_M_climb_78 : decode c_M_climb 78 = .ok (.iconst 1, 1) := by decide +kernel
theorem d_M_climb_79 : decode c_M_climb 79 = .ok (.isub, 1) := by decide +kernel
theorem d_M_climb_80 : decode c_M_climb 80 = .ok (.imul, 1) := by decide +kernel
theorem d_M_climb_81 : decode c_M_climb 81 = .ok (.aload_n 0, 1) := by decide +kernel
theorem d_M_climb_82 : decode c_M_climb 82 = .ok (.getfield 7, 3) := by decide +kernel
theorem d_M_climb_85 : decode c_M_climb 85 = .ok (.iload_n 3, 1) := by decide +kernel
theorem d_M_climb_86 : decode c_M_climb 86 = .ok (.iaload, 1) := by decide +kernel
theorem d_M_climb_87 : decode c_M_climb 87 = .ok (.iadd, 1) := by decide +kernel
theorem d_M_climb_88 : decode c_M_climb 88 = .ok (.dup2, 1) := by decide +kernel
theorem d_M_climb_89 : decode c_M_climb 89 = .ok (.laload, 1) := by decide +kernel
theorem d_M_climb_90 : decode c_M_climb 90 = .ok (.iload 7, 2) := by decide +kernel
theorem d_M_climb_92 : decode c_M_climb 92 = .ok (.ifCond .eq 12, 3) := by decide +kernel
theorem d_M_climb_95 : decode c_M_climb 95 = .ok (.lload 4, 2) := by decide +kernel
theorem d_M_climb_97 : decode c_M_climb 97 = .ok (.ldc2_w 96, 3) := by decide +kernel
theorem d_M_climb_100 : decode c_M_climb 100 = .ok (.ldiv, 1) := by decide +kernel
theorem d_M_climb_101 : decode c_M_climb 101 = .ok (.goto 5, 3) := by decide +kernel
theorem d_M_climb_104 : decode c_M_climb 104 = .ok (.lload 4, 2) := by decide +kernel
theorem d_M_climb_106 : decode c_M_climb 106 = .ok (.ladd, 1) := by decide +kernel
theorem d_M_climb_107 : decode c_M_climb 107 = .ok (.lastore, 1) := by decide +kernel
theorem d_M_climb_108 : decode c_M_climb 108 = .ok (.lload 4, 2) := by decide +kernel
theorem d_M_climb_110 : decode c_M_climb 110 = .ok (.lconst 0, 1) := by decide +kernel
theorem d_M_climb_111 : decode c_M_climb 111 = .ok (.lcmp, 1) := by decide +kernel
theorem d_M_climb_112 : decode c_M_climb 112 = .ok (.ifCond .le 45, 3) := by decide +kernel
theorem d_M_climb_115 : decode c_M_climb 115 = .ok (.iload 7, 2) := by decide +kernel
theorem d_M_climb_117 : decode c_M_climb 117 = .ok (.ifCond .eq 40, 3) := by decide +kernel
theorem d_M_climb_120 : decode c_M_climb 120 = .ok (.aload_n 0, 1) := by decide +kernel
theorem d_M_climb_121 : decode c_M_climb 121 = .ok (.getfield 41, 3) := by decide +kernel
theorem d_M_climb_124 : decode c_M_climb 124 = .ok (.bipush 20, 2) := by decide +kernel
theorem d_M_climb_126 : decode c_M_climb 126 = .ok (.iload_n 2, 1) := by decide +kernel
theorem d_M_climb_127 : decode c_M_climb 127 = .ok (.iconst 1, 1) := by decide +kernel
theorem d_M_climb_128 : decode c_M_climb 128 = .ok (.isub, 1) := by decide +kernel
theorem d_M_climb_129 : decode c_M_climb 129 = .ok (.imul, 1) := by decide +kernel
theorem d_M_climb_130 : decode c_M_climb 130 = .ok (.aload_n 0, 1) := by decide +kernel
theorem d_M_climb_131 : decode c_M_climb 131 = .ok (.getfield 13, 3) := by decide +kernel
theorem d_M_climb_134 : decode c_M_climb 134 = .ok (.iload_n 3, 1) := by decide +kernel
theorem d_M_climb_135 : decode c_M_climb 135 = .ok (.iaload, 1) := by decide +kernel
theorem d_M_climb_136 : decode c_M_climb 136 = .ok (.iadd, 1) := by decide +kernel
theorem d_M_climb_137 : decode c_M_climb 137 = .ok (.dup2, 1) := by decide +kernel
theorem d_M_climb_138 : decode c_M_climb 138 = .ok (.laload, 1) := by decide +kernel
theorem d_M_climb_139 : decode c_M_climb 139 = .ok (.iload 6, 2) := by decide +kernel
theorem d_M_climb_141 : decode c_M_climb 141 = .ok (.ifCond .eq 12, 3) := by decide +kernel
theorem d_M_climb_144 : decode c_M_climb 144 = .ok (.lload 4, 2) := by decide +kernel
theorem d_M_climb_146 : decode c_M_climb 146 = .ok (.ldc2_w 96, 3) := by decide +kernel
theorem d_M_climb_149 : decode c_M_climb 149 = .ok (.ldiv, 1) := by decide +kernel
theorem d_M_climb_150 : decode c_M_climb 150 = .ok (.goto 5, 3) := by decide +kernel
theorem d_M_climb_153 : decode c_M_climb 153 = .ok (.lload 4, 2) := by decide +kernel
theorem d_M_climb_155 : decode c_M_climb 155 = .ok (.ladd, 1) := by decide +kernel
theorem d_M_climb_156 : decode c_M_climb 156 = .ok (.lastore, 1) := by decide +kernel
theorem d_M_climb_157 : decode c_M_climb 157 = .ok (.iinc 3 1, 3) := by decide +kernel
theorem d_M_climb_160 : decode c_M_climb 160 = .ok (.goto (-152), 3) := by decide +kernel
theorem d_M_climb_163 : decode c_M_climb 163 = .ok (.iinc 2 (-1), 3) := by decide +kernel
theorem d_M_climb_166 : decode c_M_climb 166 = .ok (.goto (-164), 3) := by decide +kernel
theorem d_M_climb_169 : decode c_M_climb 169 = .ok (.return_, 1) := by decide +kernel
theorem d_M_descend_0 : decode c_M_descend 0 = .ok (.iconst 0, 1) := by decide +kernel
theorem d_M_descend_1 : decode c_M_descend 1 = .ok (.istore_n 1, 1) := by decide +kernel
theorem d_M_descend_2 : decode c_M_descend 2 = .ok (.iload_n 1, 1) := by decide +kernel
theorem d_M_descend_3 : decode c_M_descend 3 = .ok (.aload_n 0, 1) := by decide +kernel
theorem d_M_descend_4 : decode c_M_descend 4 = .ok (.getfield 64, 3) := by decide +kernel
theorem d_M_descend_7 : decode c_M_descend 7 = .ok (.if_icmp .ge 103, 3) := by decide +kernel
theorem d_M_descend_10 : decode c_M_descend 10 = .ok (.aload_n 0, 1) := by decide +kernel
theorem d_M_descend_11 : decode c_M_descend 11 = .ok (.getfield 41, 3) := by decide +kernel
theorem d_M_descend_14 : decode c_M_descend 14 = .ok (.iload_n 1, 1) := by decide +kernel
theorem d_M_descend_15 : decode c_M_descend 15 = .ok (.laload, 1) := by decide +kernel
theorem d_M_descend_16 : decode c_M_descend 16 = .ok (.lstore_n 2, 1) := by decide +kernel
theorem d_M_descend_17 : decode c_M_descend 17 = .ok (.aload_n 0, 1) := by decide +kernel
theorem d_M_descend_18 : decode c_M_descend 18 = .ok (.getfield 32, 3) := by decide +kernel
theorem d_M_descend_21 : decode c_M_descend 21 = .ok (.iload_n 1, 1) := by decide +kernel
theorem d_M_descend_22 : decode c_M_descend 22 = .ok (.baload, 1) := by decide +kernel
theorem d_M_descend_23 : decode c_M_descend 23 = .ok (.ifCond .eq 16, 3) := by decide +kernel
theorem d_M_descend_26 : decode c_M_descend 26 = .ok (.aload_n 0, 1) := by decide +kernel
theorem d_M_descend_27 : decode c_M_descend 27 = .ok (.getfield 45, 3) := by decide +kernel
theorem d_M_descend_30 : decode c_M_descend 30 = .ok (.iload_n 1, 1) := by decide +kernel
theorem d_M_descend_31 : decode c_M_descend 31 = .ok (.dup2, 1) := by decide +kernel
theorem d_M_descend_32 : decode c_M_descend 32 = .ok (.laload, 1) := by decide +kernel
theorem d_M_descend_33 : decode c_M_descend 33 = .ok (.lload_n 2, 1) := by decide +kernel
theorem d_M_descend_34 : decode c_M_descend 34 = .ok (.ladd, 1) := by decide +kernel
theorem d_M_descend_35 : decode c_M_descend 35 = .ok (.lastore, 1) := by decide +kernel
theorem d_M_descend_36 : decode c_M_descend 36 = .ok (.goto 68, 3) := by decide +kernel
theorem d_M_descend_39 : decode c_M_descend 39 = .ok (.lload_n 2, 1) := by decide +kernel
theorem d_M_descend_40 : decode c_M_descend 40 = .ok (.lconst 0, 1) := by decide +kernel
theorem d_M_descend_41 : decode c_M_descend 41 = .ok (.lcmp, 1) := by decide +kernel
theorem d_M_descend_42 : decode c_M_descend 42 = .ok (.ifCond .le 62, 3) := by decide +kernel
theorem d_M_descend_45 : decode c_M_descend 45 = .ok (.iload_n 1, 1) := by decide +kernel
theorem d_M_descend_46 : decode c_M_descend 46 = .ok (.iconst 1, 1) := by decide +kernel
theorem d_M_descend_47 : decode c_M_descend 47 = .ok (.iadd, 1) := by decide +kernel
theorem d_M_descend_48 : decode c_M_descend 48 = .ok (.istore 4, 2) := by decide +kernel
theorem d_M_descend_50 : decode c_M_descend 50 = .ok (.iload 4, 2) := by decide +kernel
theorem d_M_descend_52 : decode c_M_descend 52 = .ok (.aload_n 0, 1) := by decide +kernel
theorem d_M_descend_53 : decode c_M_descend 53 = .ok (.getfield 64, 3) := by decide +kernel
theorem d_M_descend_56 : decode c_M_descend 56 = .ok (.if_icmp .ge 48, 3) := by decide +kernel
theorem d_M_descend_59 : decode c_M_descend 59 = .ok (.aload_n 0, 1) := by decide +kernel
theorem d_M_descend_60 : decode c_M_descend 60 = .ok (.iload 4, 2) := by decide +kernel
theorem d_M_descend_62 : decode c_M_descend 62 = .ok (.iload_n 1, 1) := by decide +kernel
theorem d_M_descend_63 : decode c_M_descend 63 = .ok (.invokevirtual 82, 3) := by decide +kernel
theorem d_M_descend_66 : decode c_M_descend 66 = .ok (.ifCond .eq 32, 3) := by decide +kernel
theorem d_M_descend_69 : decode c_M_descend 69 = .ok (.aload_n 0, 1) := by decide +kernel
theorem d_M_descend_70 : decode c_M_descend 70 = .ok (.getfield 38, 3) := by decide +kernel
theorem d_M_descend_73 : decode c_M_descend 73 = .ok (.iload 4, 2) := by decide +kernel
theorem d_M_descend_75 : decode c_M_descend 75 = .ok (.baload, 1) := by decide +kernel
theorem d_M_descend_76 : decode c_M_descend 76 = .ok (.ifCond .eq 22, 3) := by decide +kernel
theorem d_M_descend_79 : decode c_M_descend 79 = .ok (.aload_n 0, 1) := by decide +kernel
theorem d_M_descend_80 : decode c_M_descend 80 = .ok (.getfield 41, 3) := by decide +kernel
theorem d_M_descend_83 : decode c_M_descend 83 = .ok (.iload 4, 2) := by decide +kernel
theorem d_M_descend_85 : decode c_M_descend 85 = .ok (.dup2, 1) := by decide +kernel
theorem d_M_descend_86 : decode c_M_descend 86 = .ok (.laload, 1) := by decide +kernel
theorem d_M_descend_87 : decode c_M_descend 87 = .ok (.lload_n 2, 1) := by decide +kernel
theorem d_M_descend_88 : decode c_M_descend 88 = .ok (.aload_n 0, 1) := by decide +kernel
theorem d_M_descend_89 : decode c_M_descend 89 = .ok (.getfield 35, 3) := by decide +kernel
theorem d_M_descend_92 : decode c_M_descend 92 = .ok (.iload_n 1, 1) := by decide +kernel
theorem d_M_descend_93 : decode c_M_descend 93 = .ok (.iaload, 1) := by decide +kernel
theorem d_M_descend_94 : decode c_M_descend 94 = .ok (.i2l, 1) := by decide +kernel
theorem d_M_descend_95 : decode c_M_descend 95 = .ok (.ldiv, 1) := by decide +kernel
theorem d_M_descend_96 : decode c_M_descend 96 = .ok (.ladd, 1) := by decide +kernel
theorem d_M_descend_97 : decode c_M_descend 97 = .ok (.lastore, 1) := by decide +kernel
theorem d_M_descend_98 : decode c_M_descend 98 = .ok (.iinc 4 1, 3) := by decide +kernel
theorem d_M_descend_101 : decode c_M_descend 101 = .ok (.goto (-51), 3) := by decide +kernel
theorem d_M_descend_104 : decode c_M_descend 104 = .ok (.iinc 1 1, 3) := by decide +kernel
theorem d_M_descend_107 : decode c_M_descend 107 = .ok (.goto (-105), 3) := by decide +kernel
theorem d_M_descend_110 : decode c_M_descend 110 = .ok (.return_, 1) := by decide +kernel
theorem d_M_divide_0 : decode c_M_divide 0 = .ok (.aload_n 0, 1) := by decide +kernel
theorem d_M_divide_1 : decode c_M_divide 1 = .ok (.iload_n 1, 1) := by decide +kernel
theorem d_M_divide_2 : decode c_M_divide 2 = .ok (.invokevirtual 98, 3) := by decide +kernel
theorem d_M_divide_5 : decode c_M_divide 5 = .ok (.aload_n 0, 1) := by decide +kernel
theorem d_M_divide_6 : decode c_M_divide 6 = .ok (.invokevirtual 102, 3) := by decide +kernel
theorem d_M_divide_9 : decode c_M_divide 9 = .ok (.aload_n 0, 1) := by decide +kernel
theorem d_M_divide_10 : decode c_M_divide 10 = .ok (.ldc2_w 105, 3) := by decide +kernel
theorem d_M_divide_13 : decode c_M_divide 13 = .ok (.aload_n 0, 1) := by decide +kernel
theorem d_M_divide_14 : decode c_M_divide 14 = .ok (.getfield 78, 3) := by decide +kernel
theorem d_M_divide_17 : decode c_M_divide 17 = .ok (.lmul, 1) := by decide +kernel
theorem d_M_divide_18 : decode c_M_divide 18 = .ok (.putfield 107, 3) := by decide +kernel
theorem d_M_divide_21 : decode c_M_divide 21 = .ok (.aload_n 0, 1) := by decide +kernel
theorem d_M_divide_22 : decode c_M_divide 22 = .ok (.getfield 107, 3) := by decide +kernel
theorem d_M_divide_25 : decode c_M_divide 25 = .ok (.lstore_n 2, 1) := by decide +kernel
theorem d_M_divide_26 : decode c_M_divide 26 = .ok (.aload_n 0, 1) := by decide +kernel
theorem d_M_divide_27 : decode c_M_divide 27 = .ok (.getfield 89, 3) := by decide +kernel
theorem d_M_divide_30 : decode c_M_divide 30 = .ok (.ifCond .eq 67, 3) := by decide +kernel
theorem d_M_divide_33 : decode c_M_divide 33 = .ok (.aload_n 0, 1) := by decide +kernel
theorem d_M_divide_34 : decode c_M_divide 34 = .ok (.getfield 93, 3) := by decide +kernel
theorem d_M_divide_37 : decode c_M_divide 37 = .ok (.ifCond .ne 14, 3) := by decide +kernel
theorem d_M_divide_40 : decode c_M_divide 40 = .ok (.aload_n 0, 1) := by decide +kernel
theorem d_M_divide_41 : decode c_M_divide 41 = .ok (.getfield 107, 3) := by decide +kernel
theorem d_M_divide_44 : decode c_M_divide 44 = .ok (.ldc2_w 110, 3) := by decide +kernel
theorem d_M_divide_47 : decode c_M_divide 47 = .ok (.ldiv, 1) := by decide +kernel
theorem d_M_divide_48 : decode c_M_divide 48 = .ok (.goto 26, 3) := by decide +kernel
theorem d_M_divide_51 : decode c_M_divide 51 = .ok (.aload_n 0, 1) := by decide +kernel
theorem d_M_divide_52 : decode c_M_divide 52 = .ok (.getfield 93, 3) := by decide +kernel
theorem d_M_divide_55 : decode c_M_divide 55 = .ok (.iconst 3, 1) := by decide +kernel
theorem d_M_divide_56 : decode c_M_divide 56 = .ok (.if_icmp .ge 14, 3) := by decide +kernel
theorem d_M_divide_59 : decode c_M_divide 59 = .ok (.aload_n 0, 1) := by decide +kernel
theorem d_M_divide_60 : decode c_M_divide 60 = .ok (.getfield 107, 3) := by decide +kernel
theorem d_M_divide_63 : decode c_M_divide 63 = .ok (.ldc2_w 96, 3) := by decide +kernel
theorem d_M_divide_66 : decode c_M_divide 66 = .ok (.ldiv, 1) := by decide +kernel
theorem d_M_divide_67 : decode c_M_divide 67 = .ok (.goto 7, 3) := by decide +kernel
theorem d_M_divide_70 : decode c_M_divide 70 = .ok (.aload_n 0, 1) := by decide +kernel
theorem d_M_divide_71 : decode c_M_divide 71 = .ok (.getfield 107, 3) := by decide +kernel
theorem d_M_divide_74 : decode c_M_divide 74 = .ok (.lstore 4, 2) := by decide +kernel
theorem d_M_divide_76 : decode c_M_divide 76 = .ok (.aload_n 0, 1) := by decide +kernel
theorem d_M_divide_77 : decode c_M_divide 77 = .ok (.getfield 45, 3) := by decide +kernel
theorem d_M_divide_80 : decode c_M_divide 80 = .ok (.aload_n 0, 1) := by decide +kernel
theorem d_M_divide_81 : decode c_M_divide 81 = .ok (.getfield 16, 3) := by decide +kernel
theorem d_M_divide_84 : decode c_M_divide 84 = .ok (.iload_n 1, 1) := by decide +kernel
theorem d_M_divide_85 : decode c_M_divide 85 = .ok (.iaload, 1) := by decide +kernel
theorem d_M_divide_86 : decode c_M_divide 86 = .ok (.lload 4, 2) := by decide +kernel
theorem d_M_divide_88 : decode c_M_divide 88 = .ok (.lastore, 1) := by decide +kernel
theorem d_M_divide_89 : decode c_M_divide 89 = .ok (.aload_n 0, 1) := by decide +kernel
theorem d_M_divide_90 : decode c_M_divide 90 = .ok (.getfield 107, 3) := by decide +kernel
theorem d_M_divide_93 : decode c_M_divide 93 = .ok (.lload 4, 2) := by decide +kernel
theorem d_M_divide_95 : decode c_M_divide 95 = .ok (.lsub, 1) := by decide +kernel
theorem d_M_divide_96 : decode c_M_divide 96 = .ok (.lstore_n 2, 1) := by decide +kernel
theorem d_M_divide_97 : decode c_M_divide 97 = .ok (.aload_n 0, 1) := by decide +kernel
theorem d_M_divide_98 : decode c_M_divide 98 = .ok (.getfield 93, 3) := by decide +kernel
theorem d_M_divide_101 : decode c_M_divide 101 = .ok (.ifCond .ne 13, 3) := by decide +kernel
theorem d_M_divide_104 : decode c_M_divide 104 = .ok (.aload_n 0, 1) := by decide +kernel
theorem d_M_divide_105 : decode c_M_divide 105 = .ok (.getfield 41, 3) := by decide +kernel
theorem d_M_divide_108 : decode c_M_divide 108 = .ok (.iload_n 1, 1) := by decide +kernel
theorem d_M_divide_109 : decode c_M_divide 109 = .ok (.lload_n 2, 1) := by decide +kernel
theorem d_M_divide_110 : decode c_M_divide 110 = .ok (.lastore, 1) := by decide +kernel
theorem d_M_divide_111 : decode c_M_divide 111 = .ok (.goto 34, 3) := by decide +kernel
theorem d_M_divide_114 : decode c_M_divide 114 = .ok (.aload_n 0, 1) := by decide +kernel
theorem d_M_divide_115 : decode c_M_divide 115 = .ok (.getfield 93, 3) := by decide +kernel
theorem d_M_divide_118 : decode c_M_divide 118 = .ok (.iconst 4, 1) := by decide +kernel
theorem d_M_divide_119 : decode c_M_divide 119 = .ok (.if_icmp .ge 26, 3) := by decide +kernel
theorem d_M_divide_122 : decode c_M_divide 122 = .ok (.aload_n 0, 1) := by decide +kernel
theorem d_M_divide_123 : decode c_M_divide 123 = .ok (.getfield 41, 3) := by decide +kernel
theorem d_M_divide_126 : decode c_M_divide 126 = .ok (.bipush 20, 2) := by decide +kernel
theorem d_M_divide_128 : decode c_M_divide 128 = .ok (.aload_n 0, 1) := by decide +kernel
theorem d_M_divide_129 : decode c_M_divide 129 = .ok (.getfield 93, 3) := by decide +kernel
theorem d_M_divide_132 : decode c_M_divide 132 = .ok (.imul, 1) := by decide +kernel
theorem d_M_divide_133 : decode c_M_divide 133 = .ok (.iload_n 1, 1) := by decide +kernel
theorem d_M_divide_134 : decode c_M_divide 134 = .ok (.iadd, 1) := by decide +kernel
theorem d_M_divide_135 : decode c_M_divide 135 = .ok (.lload_n 2, 1) := by decide +kernel
theorem d_M_divide_136 : decode c_M_divide 136 = .ok (.lastore, 1) := by decide +kernel
theorem d_M_divide_137 : decode c_M_divide 137 = .ok (.aload_n 0, 1) := by decide +kernel
theorem d_M_divide_138 : decode c_M_divide 138 = .ok (.aload_n 0, 1) := by decide +kernel
theorem d_M_divide_139 : decode c_M_divide 139 = .ok (.getfield 93, 3) := by decide +kernel
theorem d_M_divide_142 : decode c_M_divide 142 = .ok (.invokevirtual 112, 3) := by decide +kernel
theorem d_M_divide_145 : decode c_M_divide 145 = .ok (.aload_n 0, 1) := by decide +kernel
theorem d_M_divide_146 : decode c_M_divide 146 = .ok (.invokevirtual 115, 3) := by decide +kernel
theorem d_M_divide_149 : decode c_M_divide 149 = .ok (.return_, 1) := by decide +kernel
theorem d_M_unsettled_0 : decode c_M_unsettled 0 = .ok (.aload_n 0, 1) := by decide +kernel
theorem d_M_unsettled_1 : decode c_M_unsettled 1 = .ok (.iload_n 1, 1) := by decide +kernel
theorem d_M_unsettled_2 : decode c_M_unsettled 2 = .ok (.invokevirtual 67, 3) := by decide +kernel
theorem d_M_unsettled_5 : decode c_M_unsettled 5 = .ok (.ifCond .eq 7, 3) := by decide +kernel
theorem d_M_unsettled_8 : decode c_M_unsettled 8 = .ok (.iconst 1, 1) := by decide +kernel
theorem d_M_unsettled_9 : decode c_M_unsettled 9 = .ok (.goto 17, 3) := by decide +kernel
theorem d_M_unsettled_12 : decode c_M_unsettled 12 = .ok (.aload_n 0, 1) := by decide +kernel
theorem d_M_unsettled_13 : decode c_M_unsettled 13 = .ok (.getfield 19, 3) := by decide +kernel
theorem d_M_unsettled_16 : decode c_M_unsettled 16 = .ok (.iload_n 1, 1) := by decide +kernel
theorem d_M_unsettled_17 : decode c_M_unsettled 17 = .ok (.iaload, 1) := by decide +kernel
theorem d_M_unsettled_18 : decode c_M_unsettled 18 = .ok (.ifCond .ge 7, 3) := by decide +kernel
theorem d_M_unsettled_21 : decode c_M_unsettled 21 = .ok (.iconst 2, 1) := by decide +kernel
theorem d_M_unsettled_22 : decode c_M_unsettled 22 = .ok (.goto 4, 3) := by decide +kernel
theorem d_M_unsettled_25 : decode c_M_unsettled 25 = .ok (.iconst 0, 1) := by decide +kernel
theorem d_M_unsettled_26 : decode c_M_unsettled 26 = .ok (.ireturn, 1) := by decide +kernel
theorem d_M_heirs_0 : decode c_M_heirs 0 = .ok (.aload_n 0, 1) := by decide +kernel
theorem d_M_heirs_1 : decode c_M_heirs 1 = .ok (.aload_n 0, 1) := by decide +kernel
theorem d_M_heirs_2 : decode c_M_heirs 2 = .ok (.iload_n 1, 1) := by decide +kernel
theorem d_M_heirs_3 : decode c_M_heirs 3 = .ok (.invokevirtual 118, 3) := by decide +kernel
theorem d_M_heirs_6 : decode c_M_heirs 6 = .ok (.putfield 60, 3) := by decide +kernel
theorem d_M_heirs_9 : decode c_M_heirs 9 = .ok (.aload_n 0, 1) := by decide +kernel
theorem d_M_heirs_10 : decode c_M_heirs 10 = .ok (.getfield 60, 3) := by decide +kernel
theorem d_M_heirs_13 : decode c_M_heirs 13 = .ok (.ifCond .le 5, 3) := by decide +kernel
theorem d_M_heirs_16 : decode c_M_heirs 16 = .ok (.iconst 0, 1) := by decide +kernel
theorem d_M_heirs_17 : decode c_M_heirs 17 = .ok (.ireturn, 1) := by decide +kernel
theorem d_M_heirs_18 : decode c_M_heirs 18 = .ok (.aload_n 0, 1) := by decide +kernel
theorem d_M_heirs_19 : decode c_M_heirs 19 = .ok (.iload_n 1, 1) := by decide +kernel
theorem d_M_heirs_20 : decode c_M_heirs 20 = .ok (.invokevirtual 122, 3) := by decide +kernel
theorem d_M_heirs_23 : decode c_M_heirs 23 = .ok (.iconst 0, 1) := by decide +kernel
theorem d_M_heirs_24 : decode c_M_heirs 24 = .ok (.istore_n 2, 1) := by decide +kernel
theorem d_M_heirs_25 : decode c_M_heirs 25 = .ok (.iconst 0, 1) := by decide +kernel
theorem d_M_heirs_26 : decode c_M_heirs 26 = .ok (.istore_n 3, 1) := by decide +kernel
theorem d_M_heirs_27 : decode c_M_heirs 27 = .ok (.iload_n 3, 1) := by decide +kernel
theorem d_M_heirs_28 : decode c_M_heirs 28 = .ok (.aload_n 0, 1) := by decide +kernel
theorem d_M_heirs_29 : decode c_M_heirs 29 = .ok (.getfield 64, 3) := by decide +kernel
theorem d_M_heirs_32 : decode c_M_heirs 32 = .ok (.if_icmp .ge 28, 3) := by decide +kernel
theorem d_M_heirs_35 : decode c_M_heirs 35 = .ok (.aload_n 0, 1) := by decide +kernel
theorem d_M_heirs_36 : decode c_M_heirs 36 = .ok (.getfield 45, 3) := by decide +kernel
theorem d_M_heirs_39 : decode c_M_heirs 39 = .ok (.iload_n 3, 1) := by decide +kernel
theorem d_M_heirs_40 : decode c_M_heirs 40 = .ok (.laload, 1) := by decide +kernel
theorem d_M_heirs_41 : decode c_M_heirs 41 = .ok (.lconst 0, 1) := by decide +kernel
theorem d_M_heirs_42 : decode c_M_heirs 42 = .ok (.lcmp, 1) := by decide +kernel
theorem d_M_heirs_43 : decode c_M_heirs 43 = .ok (.ifCond .le 9, 3) := by decide +kernel
theorem d_M_heirs_46 : decode c_M_heirs 46 = .ok (.iload_n 2, 1) := by decide +kernel
theorem d_M_heirs_47 : decode c_M_heirs 47 = .ok (.iconst 1, 1) := by decide +kernel
theorem d_M_heirs_48 : decode c_M_heirs 48 = .ok (.iadd, 1) := by decide +kernel
theorem d_M_heirs_49 : decode c_M_heirs 49 = .ok (.goto 4, 3) := by decide +kernel
theorem d_M_heirs_52 : decode c_M_heirs 52 = .ok (.iload_n 2, 1) := by decide +kernel
theorem d_M_heirs_53 : decode c_M_heirs 53 = .ok (.istore_n 2, 1) := by decide +kernel
theorem d_M_heirs_54 : decode c_M_heirs 54 = .ok (.iinc 3 1, 3) := by decide +kernel
theorem d_M_heirs_57 : decode c_M_heirs 57 = .ok (.goto (-30), 3) := by decide +kernel
theorem d_M_heirs_60 : decode c_M_heirs 60 = .ok (.iload_n 2, 1) := by decide +kernel
theorem d_M_heirs_61 : decode c_M_heirs 61 = .ok (.ireturn, 1) := by decide +kernel
theorem d_M_heir_0 : decode c_M_heir 0 = .ok (.aload_n 0, 1) := by decide +kernel
theorem d_M_heir_1 : decode c_M_heir 1 = .ok (.aload_n 0, 1) := by decide +kernel
theorem d_M_heir_2 : decode c_M_heir 2 = .ok (.iload_n 1, 1) := by decide +kernel
theorem d_M_heir_3 : decode c_M_heir 3 = .ok (.invokevirtual 118, 3) := by decide +kernel
theorem d_M_heir_6 : decode c_M_heir 6 = .ok (.putfield 60, 3) := by decide +kernel
theorem d_M_heir_9 : decode c_M_heir 9 = .ok (.aload_n 0, 1) := by decide +kernel
theorem d_M_heir_10 : decode c_M_heir 10 = .ok (.getfield 60, 3) := by decide +kernel
theorem d_M_heir_13 : decode c_M_heir 13 = .ok (.ifCond .le 5, 3) := by decide +kernel
theorem d_M_heir_16 : decode c_M_heir 16 = .ok (.iconst 0, 1) := by decide +kernel
theorem d_M_heir_17 : decode c_M_heir 17 = .ok (.ireturn, 1) := by decide +kernel
theorem d_M_heir_18 : decode c_M_heir 18 = .ok (.aload_n 0, 1) := by decide +kernel
theorem d_M_heir_19 : decode c_M_heir 19 = .ok (.iload_n 1, 1) := by decide +kernel
theorem d_M_heir_20 : decode c_M_heir 20 = .ok (.invokevirtual 122, 3) := by decide +kernel
theorem d_M_heir_23 : decode c_M_heir 23 = .ok (.iload_n 2, 1) := by decide +kernel
theorem d_M_heir_24 : decode c_M_heir 24 = .ok (.istore_n 3, 1) := by decide +kernel
theorem d_M_heir_25 : decode c_M_heir 25 = .ok (.iconst 0, 1) := by decide +kernel
theorem d_M_heir_26 : decode c_M_heir 26 = .ok (.istore 4, 2) := by decide +kernel
theorem d_M_heir_28 : decode c_M_heir 28 = .ok (.iload 4, 2) := by decide +kernel
theorem d_M_heir_30 : decode c_M_heir 30 = .ok (.aload_n 0, 1) := by decide +kernel
theorem d_M_heir_31 : decode c_M_heir 31 = .ok (.getfield 64, 3) := by decide +kernel
theorem d_M_heir_34 : decode c_M_heir 34 = .ok (.if_icmp .ge 31, 3) := by decide +kernel
theorem d_M_heir_37 : decode c_M_heir 37 = .ok (.aload_n 0, 1) := by decide +kernel
theorem d_M_heir_38 : decode c_M_heir 38 = .ok (.getfield 45, 3) := by decide +kernel
theorem d_M_heir_41 : decode c_M_heir 41 = .ok (.iload 4, 2) := by decide +kernel
theorem d_M_heir_43 : decode c_M_heir 43 = .ok (.laload, 1) := by decide +kernel
theorem d_M_heir_44 : decode c_M_heir 44 = .ok (.lconst 0, 1) := by decide +kernel
theorem d_M_heir_45 : decode c_M_heir 45 = .ok (.lcmp, 1) := by decide +kernel
theorem d_M_heir_46 : decode c_M_heir 46 = .ok (.ifCond .le 13, 3) := by decide +kernel
theorem d_M_heir_49 : decode c_M_heir 49 = .ok (.iload_n 3, 1) := by decide +kernel
theorem d_M_heir_50 : decode c_M_heir 50 = .ok (.ifCond .ne 6, 3) := by decide +kernel
theorem d_M_heir_53 : decode c_M_heir 53 = .ok (.iload 4, 2) := by decide +kernel
theorem d_M_heir_55 : decode c_M_heir 55 = .ok (.ireturn, 1) := by decide +kernel
theorem d_M_heir_56 : decode c_M_heir 56 = .ok (.iinc 3 (-1), 3) := by decide +kernel
theorem d_M_heir_59 : decode c_M_heir 59 = .ok (.iinc 4 1, 3) := by decide +kernel
theorem d_M_heir_62 : decode c_M_heir 62 = .ok (.goto (-34), 3) := by decide +kernel
theorem d_M_heir_65 : decode c_M_heir 65 = .ok (.iconst (-1), 1) := by decide +kernel
theorem d_M_heir_66 : decode c_M_heir 66 = .ok (.ireturn, 1) := by decide +kernel
theorem d_M_divisor_0 : decode c_M_divisor 0 = .ok (.lload_n 0, 1) := by decide +kernel
theorem d_M_divisor_1 : decode c_M_divisor 1 = .ok (.lstore 4, 2) := by decide +kernel
theorem d_M_divisor_3 : decode c_M_divisor 3 = .ok (.lload_n 2, 1) := by decide +kernel
theorem d_M_divisor_4 : decode c_M_divisor 4 = .ok (.lstore 6, 2) := by decide +kernel
theorem d_M_divisor_6 : decode c_M_divisor 6 = .ok (.lload 6, 2) := by decide +kernel
theorem d_M_divisor_8 : decode c_M_divisor 8 = .ok (.lconst 0, 1) := by decide +kernel
theorem d_M_divisor_9 : decode c_M_divisor 9 = .ok (.lcmp, 1) := by decide +kernel
theorem d_M_divisor_10 : decode c_M_divisor 10 = .ok (.ifCond .eq 21, 3) := by decide +kernel
theorem d_M_divisor_13 : decode c_M_divisor 13 = .ok (.lload 4, 2) := by decide +kernel
theorem d_M_divisor_15 : decode c_M_divisor 15 = .ok (.lload 6, 2) := by decide +kernel
theorem d_M_divisor_17 : decode c_M_divisor 17 = .ok (.lrem, 1) := by decide +kernel
theorem d_M_divisor_18 : decode c_M_divisor 18 = .ok (.lstore 8, 2) := by decide +kernel
theorem d_M_divisor_20 : decode c_M_divisor 20 = .ok (.lload 6, 2) := by decide +kernel
theorem d_M_divisor_22 : decode c_M_divisor 22 = .ok (.lstore 4, 2) := by decide +kernel
theorem d_M_divisor_24 : decode c_M_divisor 24 = .ok (.lload 8, 2) := by decide +kernel
theorem d_M_divisor_26 : decode c_M_divisor 26 = .ok (.lstore 6, 2) := by decide +kernel
theorem d_M_divisor_28 : decode c_M_divisor 28 = .ok (.goto (-22), 3) := by decide +kernel
theorem d_M_divisor_31 : decode c_M_divisor 31 = .ok (.lload 4, 2) := by decide +kernel
theorem d_M_divisor_33 : decode c_M_divisor 33 = .ok (.lreturn, 1) := by decide +kernel
theorem d_M_share_0 : decode c_M_share 0 = .ok (.aload_n 0, 1) := by decide +kernel
theorem d_M_share_1 : decode c_M_share 1 = .ok (.aload_n 0, 1) := by decide +kernel
theorem d_M_share_2 : decode c_M_share 2 = .ok (.iload_n 1, 1) := by decide +kernel
theorem d_M_share_3 : decode c_M_share 3 = .ok (.invokevirtual 67, 3) := by decide +kernel
theorem d_M_share_6 : decode c_M_share 6 = .ok (.ifCond .ne 11, 3) := by decide +kernel
theorem d_M_share_9 : decode c_M_share 9 = .ok (.aload_n 0, 1) := by decide +kernel
theorem d_M_share_10 : decode c_M_share 10 = .ok (.iload_n 2, 1) := by decide +kernel
theorem d_M_share_11 : decode c_M_share 11 = .ok (.invokevirtual 67, 3) := by decide +kernel
theorem d_M_share_14 : decode c_M_share 14 = .ok (.ifCond .eq 7, 3) := by decide +kernel
theorem d_M_share_17 : decode c_M_share 17 = .ok (.iconst 1, 1) := by decide +kernel
theorem d_M_share_18 : decode c_M_share 18 = .ok (.goto 17, 3) := by decide +kernel
theorem d_M_share_21 : decode c_M_share 21 = .ok (.aload_n 0, 1) := by decide +kernel
theorem d_M_share_22 : decode c_M_share 22 = .ok (.getfield 19, 3) := by decide +kernel
theorem d_M_share_25 : decode c_M_share 25 = .ok (.iload_n 1, 1) := by decide +kernel
theorem d_M_share_26 : decode c_M_share 26 = .ok (.iaload, 1) := by decide +kernel
theorem d_M_share_27 : decode c_M_share 27 = .ok (.ifCond .ge 7, 3) := by decide +kernel
theorem d_M_share_30 : decode c_M_share 30 = .ok (.iconst 2, 1) := by decide +kernel
theorem d_M_share_31 : decode c_M_share 31 = .ok (.goto 4, 3) := by decide +kernel
theorem d_M_share_34 : decode c_M_share 34 = .ok (.iconst 0, 1) := by decide +kernel
theorem d_M_share_35 : decode c_M_share 35 = .ok (.putfield 60, 3) := by decide +kernel
theorem d_M_share_38 : decode c_M_share 38 = .ok (.aload_n 0, 1) := by decide +kernel
theorem d_M_share_39 : decode c_M_share 39 = .ok (.getfield 60, 3) := by decide +kernel
theorem d_M_share_42 : decode c_M_share 42 = .ok (.ifCond .le 5, 3) := by decide +kernel
theorem d_M_share_45 : decode c_M_share 45 = .ok (.lconst 0, 1) := by decide +kernel
theorem d_M_share_46 : decode c_M_share 46 = .ok (.lreturn, 1) := by decide +kernel
theorem d_M_share_47 : decode c_M_share 47 = .ok (.aload_n 0, 1) := by decide +kernel
theorem d_M_share_48 : decode c_M_share 48 = .ok (.iload_n 1, 1) := by decide +kernel
theorem d_M_share_49 : decode c_M_share 49 = .ok (.invokevirtual 122, 3) := by decide +kernel
theorem d_M_share_52 : decode c_M_share 52 = .ok (.aload_n 0, 1) := by decide +kernel
theorem d_M_share_53 : decode c_M_share 53 = .ok (.getfield 45, 3) := by decide +kernel
theorem d_M_share_56 : decode c_M_share 56 = .ok (.iload_n 2, 1) := by decide +kernel
theorem d_M_share_57 : decode c_M_share 57 = .ok (.laload, 1) := by decide +kernel
theorem d_M_share_58 : decode c_M_share 58 = .ok (.lconst 0, 1) := by decide +kernel
theorem d_M_share_59 : decode c_M_share 59 = .ok (.lcmp, 1) := by decide +kernel
theorem d_M_share_60 : decode c_M_share 60 = .ok (.ifCond .ne 5, 3) := by decide +kernel
theorem d_M_share_63 : decode c_M_share 63 = .ok (.lconst 0, 1) := by decide +kernel
theorem d_M_share_64 : decode c_M_share 64 = .ok (.lreturn, 1) := by decide +kernel
theorem d_M_share_65 : decode c_M_share 65 = .ok (.aload_n 0, 1) := by decide +kernel
theorem d_M_share_66 : decode c_M_share 66 = .ok (.getfield 45, 3) := by decide +kernel
theorem d_M_share_69 : decode c_M_share 69 = .ok (.iload_n 2, 1) := by decide +kernel
theorem d_M_share_70 : decode c_M_share 70 = .ok (.laload, 1) := by decide +kernel
theorem d_M_share_71 : decode c_M_share 71 = .ok (.aload_n 0, 1) := by decide +kernel
theorem d_M_share_72 : decode c_M_share 72 = .ok (.getfield 107, 3) := by decide +kernel
theorem d_M_share_75 : decode c_M_share 75 = .ok (.invokestatic 125, 3) := by decide +kernel
theorem d_M_share_78 : decode c_M_share 78 = .ok (.lstore_n 3, 1) := by decide +kernel
theorem d_M_share_79 : decode c_M_share 79 = .ok (.aload_n 0, 1) := by decide +kernel
theorem d_M_share_80 : decode c_M_share 80 = .ok (.getfield 45, 3) := by decide +kernel
theorem d_M_share_83 : decode c_M_share 83 = .ok (.iload_n 2, 1) := by decide +kernel
theorem d_M_share_84 : decode c_M_share 84 = .ok (.laload, 1) := by decide +kernel
theorem d_M_share_85 : decode c_M_share 85 = .ok (.lload_n 3, 1) := by decide +kernel
theorem d_M_share_86 : decode c_M_share 86 = .ok (.ldiv, 1) := by decide +kernel
theorem d_M_share_87 : decode c_M_share 87 = .ok (.bipush 32, 2) := by decide +kernel
theorem d_M_share_89 : decode c_M_share 89 = .ok (.lshl, 1) := by decide +kernel
theorem d_M_share_90 : decode c_M_share 90 = .ok (.aload_n 0, 1) := by decide +kernel
theorem d_M_share_91 : decode c_M_share 91 = .ok (.getfield 107, 3) := by decide +kernel
theorem d_M_share_94 : decode c_M_share 94 = .ok (.lload_n 3, 1) := by decide +kernel
theorem d_M_share_95 : decode c_M_share 95 = .ok (.ldiv, 1) := by decide +kernel
theorem d_M_share_96 : decode c_M_share 96 = .ok (.lor, 1) := by decide +kernel
theorem d_M_share_97 : decode c_M_share 97 = .ok (.lreturn, 1) := by decide +kernel
theorem d_M_order_0 : decode c_M_order 0 = .ok (.aload_n 0, 1) := by decide +kernel
theorem d_M_order_1 : decode c_M_order 1 = .ok (.aload_n 0, 1) := by decide +kernel
theorem d_M_order_2 : decode c_M_order 2 = .ok (.iload_n 1, 1) := by decide +kernel
theorem d_M_order_3 : decode c_M_order 3 = .ok (.invokevirtual 118, 3) := by decide +kernel
theorem d_M_order_6 : decode c_M_order 6 = .ok (.putfield 60, 3) := by decide +kernel
theorem d_M_order_9 : decode c_M_order 9 = .ok (.aload_n 0, 1) := by decide +kernel
theorem d_M_order_10 : decode c_M_order 10 = .ok (.getfield 60, 3) := by decide +kernel
theorem d_M_order_13 : decode c_M_order 13 = .ok (.ifCond .le 5, 3) := by decide +kernel
theorem d_M_order_16 : decode c_M_order 16 = .ok (.iconst 0, 1) := by decide +kernel
theorem d_M_order_17 : decode c_M_order 17 = .ok (.ireturn, 1) := by decide +kernel
theorem d_M_order_18 : decode c_M_order 18 = .ok (.aload_n 0, 1) := by decide +kernel
theorem d_M_order_19 : decode c_M_order 19 = .ok (.iload_n 1, 1) := by decide +kernel
theorem d_M_order_20 : decode c_M_order 20 = .ok (.invokevirtual 98, 3) := by decide +kernel
theorem d_M_order_23 : decode c_M_order 23 = .ok (.aload_n 0, 1) := by decide +kernel
theorem d_M_order_24 : decode c_M_order 24 = .ok (.getfield 93, 3) := by decide +kernel
theorem d_M_order_27 : decode c_M_order 27 = .ok (.ireturn, 1) := by decide +kernel
theorem d_M_stem_0 : decode c_M_stem 0 = .ok (.aload_n 0, 1) := by decide +kernel
theorem d_M_stem_1 : decode c_M_stem 1 = .ok (.aload_n 0, 1) := by decide +kernel
theorem d_M_stem_2 : decode c_M_stem 2 = .ok (.iload_n 1, 1) := by decide +kernel
theorem d_M_stem_3 : decode c_M_stem 3 = .ok (.invokevirtual 67, 3) := by decide +kernel
theorem d_M_stem_6 : decode c_M_stem 6 = .ok (.ifCond .ne 11, 3) := by decide +kernel
theorem d_M_stem_9 : decode c_M_stem 9 = .ok (.aload_n 0, 1) := by decide +kernel
theorem d_M_stem_10 : decode c_M_stem 10 = .ok (.iload_n 2, 1) := by decide +kernel
theorem d_M_stem_11 : decode c_M_stem 11 = .ok (.invokevirtual 67, 3) := by decide +kernel
theorem d_M_stem_14 : decode c_M_stem 14 = .ok (.ifCond .eq 7, 3) := by decide +kernel
theorem d_M_stem_17 : decode c_M_stem 17 = .ok (.iconst 1, 1) := by decide +kernel
theorem d_M_stem_18 : decode c_M_stem 18 = .ok (.goto 17, 3) := by decide +kernel
theorem d_M_stem_21 : decode c_M_stem 21 = .ok (.aload_n 0, 1) := by decide +kernel
theorem d_M_stem_22 : decode c_M_stem 22 = .ok (.getfield 19, 3) := by decide +kernel
theorem d_M_stem_25 : decode c_M_stem 25 = .ok (.iload_n 1, 1) := by decide +kernel
theorem d_M_stem_26 : decode c_M_stem 26 = .ok (.iaload, 1) := by decide +kernel
theorem d_M_stem_27 : decode c_M_stem 27 = .ok (.ifCond .ge 7, 3) := by decide +kernel
theorem d_M_stem_30 : decode c_M_stem 30 = .ok (.iconst 2, 1) := by decide +kernel
theorem d_M_stem_31 : decode c_M_stem 31 = .ok (.goto 4, 3) := by decide +kernel
theorem d_M_stem_34 : decode c_M_stem 34 = .ok (.iconst 0, 1) := by decide +kernel
theorem d_M_stem_35 : decode c_M_stem 35 = .ok (.putfield 60, 3) := by decide +kernel
theorem d_M_stem_38 : decode c_M_stem 38 = .ok (.aload_n 0, 1) := by decide +kernel
theorem d_M_stem_39 : decode c_M_stem 39 = .ok (.getfield 60, 3) := by decide +kernel
theorem d_M_stem_42 : decode c_M_stem 42 = .ok (.ifCond .le 5, 3) := by decide +kernel
theorem d_M_stem_45 : decode c_M_stem 45 = .ok (.iconst 0, 1) := by decide +kernel
theorem d_M_stem_46 : decode c_M_stem 46 = .ok (.ireturn, 1) := by decide +kernel
theorem d_M_stem_47 : decode c_M_stem 47 = .ok (.aload_n 0, 1) := by decide +kernel
theorem d_M_stem_48 : decode c_M_stem 48 = .ok (.iload_n 1, 1) := by decide +kernel
theorem d_M_stem_49 : decode c_M_stem 49 = .ok (.invokevirtual 98, 3) := by decide +kernel
theorem d_M_stem_52 : decode c_M_stem 52 = .ok (.aload_n 0, 1) := by decide +kernel
theorem d_M_stem_53 : decode c_M_stem 53 = .ok (.getfield 93, 3) := by decide +kernel
theorem d_M_stem_56 : decode c_M_stem 56 = .ok (.iconst 3, 1) := by decide +kernel
theorem d_M_stem_57 : decode c_M_stem 57 = .ok (.if_icmp .le 5, 3) := by decide +kernel
theorem d_M_stem_60 : decode c_M_stem 60 = .ok (.iconst (-1), 1) := by decide +kernel
theorem d_M_stem_61 : decode c_M_stem 61 = .ok (.ireturn, 1) := by decide +kernel
theorem d_M_stem_62 : decode c_M_stem 62 = .ok (.aload_n 0, 1) := by decide +kernel
theorem d_M_stem_63 : decode c_M_stem 63 = .ok (.getfield 48, 3) := by decide +kernel
theorem d_M_stem_66 : decode c_M_stem 66 = .ok (.astore_n 3, 1) := by decide +kernel
theorem d_M_stem_67 : decode c_M_stem 67 = .ok (.iconst 0, 1) := by decide +kernel
theorem d_M_stem_68 : decode c_M_stem 68 = .ok (.istore 4, 2) := by decide +kernel
theorem d_M_stem_70 : decode c_M_stem 70 = .ok (.iload 4, 2) := by decide +kernel
theorem d_M_stem_72 : decode c_M_stem 72 = .ok (.bipush 20, 2) := by decide +kernel
theorem d_M_stem_74 : decode c_M_stem 74 = .ok (.if_icmp .ge 54, 3) := by decide +kernel
theorem d_M_stem_77 : decode c_M_stem 77 = .ok (.aload_n 3, 1) := by decide +kernel
theorem d_M_stem_78 : decode c_M_stem 78 = .ok (.iload 4, 2) := by decide +kernel
theorem d_M_stem_80 : decode c_M_stem 80 = .ok (.iload 4, 2) := by decide +kernel
theorem d_M_stem_82 : decode c_M_stem 82 = .ok (.aload_n 0, 1) := by decide +kernel
theorem d_M_stem_83 : decode c_M_stem 83 = .ok (.getfield 64, 3) := by decide +kernel
theorem d_M_stem_86 : decode c_M_stem 86 = .ok (.if_icmp .ge 34, 3) := by decide +kernel
theorem d_M_stem_89 : decode c_M_stem 89 = .ok (.aload_n 0, 1) := by decide +kernel
theorem d_M_stem_90 : decode c_M_stem 90 = .ok (.getfield 93, 3) := by decide +kernel
theorem d_M_stem_93 : decode c_M_stem 93 = .ok (.ifCond .ne 27, 3) := by decide +kernel
theorem d_M_stem_96 : decode c_M_stem 96 = .ok (.aload_n 0, 1) := by decide +kernel
theorem d_M_stem_97 : decode c_M_stem 97 = .ok (.iload 4, 2) := by decide +kernel
theorem d_M_stem_99 : decode c_M_stem 99 = .ok (.iload_n 1, 1) := by decide +kernel
theorem d_M_stem_100 : decode c_M_stem 100 = .ok (.invokevirtual 82, 3) := by decide +kernel
theorem d_M_stem_103 : decode c_M_stem 103 = .ok (.ifCond .eq 17, 3) := by decide +kernel
theorem d_M_stem_106 : decode c_M_stem 106 = .ok (.aload_n 0, 1) := by decide +kernel
theorem d_M_stem_107 : decode c_M_stem 107 = .ok (.getfield 38, 3) := by decide +kernel
theorem d_M_stem_110 : decode c_M_stem 110 = .ok (.iload 4, 2) := by decide +kernel
theorem d_M_stem_112 : decode c_M_stem 112 = .ok (.baload, 1) := by decide +kernel
theorem d_M_stem_113 : decode c_M_stem 113 = .ok (.ifCond .eq 7, 3) := by decide +kernel
theorem d_M_stem_116 : decode c_M_stem 116 = .ok (.iconst 1, 1) := by decide +kernel
theorem d_M_stem_117 : decode c_M_stem 117 = .ok (.goto 4, 3) := by decide +kernel
theorem d_M_stem_120 : decode c_M_stem 120 = .ok (.iconst 0, 1) := by decide +kernel
theorem d_M_stem_121 : decode c_M_stem 121 = .ok (.bastore, 1) := by decide +kernel
theorem d_M_stem_122 : decode c_M_stem 122 = .ok (.iinc 4 1, 3) := by decide +kernel
theorem d_M_stem_125 : decode c_M_stem 125 = .ok (.goto (-55), 3) := by decide +kernel
theorem d_M_stem_128 : decode c_M_stem 128 = .ok (.aload_n 0, 1) := by decide +kernel
theorem d_M_stem_129 : decode c_M_stem 129 = .ok (.getfield 93, 3) := by decide +kernel
theorem d_M_stem_132 : decode c_M_stem 132 = .ok (.ifCond .le 71, 3) := by decide +kernel
theorem d_M_stem_135 : decode c_M_stem 135 = .ok (.aload_n 0, 1) := by decide +kernel
theorem d_M_stem_136 : decode c_M_stem 136 = .ok (.invokevirtual 102, 3) := by decide +kernel
theorem d_M_stem_139 : decode c_M_stem 139 = .ok (.aload_n 0, 1) := by decide +kernel
theorem d_M_stem_140 : decode c_M_stem 140 = .ok (.getfield 41, 3) := by decide +kernel
theorem d_M_stem_143 : decode c_M_stem 143 = .ok (.bipush 20, 2) := by decide +kernel
theorem d_M_stem_145 : decode c_M_stem 145 = .ok (.aload_n 0, 1) := by decide +kernel
theorem d_M_stem_146 : decode c_M_stem 146 = .ok (.getfield 93, 3) := by decide +kernel
theorem d_M_stem_149 : decode c_M_stem 149 = .ok (.imul, 1) := by decide +kernel
theorem d_M_stem_150 : decode c_M_stem 150 = .ok (.iload_n 1, 1) := by decide +kernel
theorem d_M_stem_151 : decode c_M_stem 151 = .ok (.iadd, 1) := by decide +kernel
theorem d_M_stem_152 : decode c_M_stem 152 = .ok (.ldc2_w 129, 3) := by decide +kernel
theorem d_M_stem_155 : decode c_M_stem 155 = .ok (.lastore, 1) := by decide +kernel
theorem d_M_stem_156 : decode c_M_stem 156 = .ok (.aload_n 0, 1) := by decide +kernel
theorem d_M_stem_157 : decode c_M_stem 157 = .ok (.aload_n 0, 1) := by decide +kernel
theorem d_M_stem_158 : decode c_M_stem 158 = .ok (.getfield 93, 3) := by decide +kernel
theorem d_M_stem_161 : decode c_M_stem 161 = .ok (.invokevirtual 112, 3) := by decide +kernel
theorem d_M_stem_164 : decode c_M_stem 164 = .ok (.iconst 0, 1) := by decide +kernel
theorem d_M_stem_165 : decode c_M_stem 165 = .ok (.istore 4, 2) := by decide +kernel
theorem d_M_stem_167 : decode c_M_stem 167 = .ok (.iload 4, 2) := by decide +kernel
theorem d_M_stem_169 : decode c_M_stem 169 = .ok (.aload_n 0, 1) := by decide +kernel
theorem d_M_stem_170 : decode c_M_stem 170 = .ok (.getfield 64, 3) := by decide +kernel
theorem d_M_stem_173 : decode c_M_stem 173 = .ok (.if_icmp .ge 30, 3) := by decide +kernel
theorem d_M_stem_176 : decode c_M_stem 176 = .ok (.aload_n 3, 1) := by decide +kernel
theorem d_M_stem_177 : decode c_M_stem 177 = .ok (.iload 4, 2) := by decide +kernel
theorem d_M_stem_179 : decode c_M_stem 179 = .ok (.aload_n 0, 1) := by decide +kernel
theorem d_M_stem_180 : decode c_M_stem 180 = .ok (.getfield 41, 3) := by decide +kernel
theorem d_M_stem_183 : decode c_M_stem 183 = .ok (.iload 4, 2) := by decide +kernel
theorem d_M_stem_185 : decode c_M_stem 185 = .ok (.laload, 1) := by decide +kernel
theorem d_M_stem_186 : decode c_M_stem 186 = .ok (.lconst 0, 1) := by decide +kernel
theorem d_M_stem_187 : decode c_M_stem 187 = .ok (.lcmp, 1) := by decide +kernel
theorem d_M_stem_188 : decode c_M_stem 188 = .ok (.ifCond .le 7, 3) := by decide +kernel
theorem d_M_stem_191 : decode c_M_stem 191 = .ok (.iconst 1, 1) := by decide +kernel
theorem d_M_stem_192 : decode c_M_stem 192 = .ok (.goto 4, 3) := by decide +kernel
theorem d_M_stem_195 : decode c_M_stem 195 = .ok (.iconst 0, 1) := by decide +kernel
theorem d_M_stem_196 : decode c_M_stem 196 = .ok (.bastore, 1) := by decide +kernel
theorem d_M_stem_197 : decode c_M_stem 197 = .ok (.iinc 4 1, 3) := by decide +kernel
theorem d_M_stem_200 : decode c_M_stem 200 = .ok (.goto (-33), 3) := by decide +kernel
theorem d_M_stem_203 : decode c_M_stem 203 = .ok (.iconst 0, 1) := by decide +kernel
theorem d_M_stem_204 : decode c_M_stem 204 = .ok (.istore 4, 2) := by decide +kernel
theorem d_M_stem_206 : decode c_M_stem 206 = .ok (.iload 4, 2) := by decide +kernel
theorem d_M_stem_208 : decode c_M_stem 208 = .ok (.aload_n 0, 1) := by decide +kernel
theorem d_M_stem_209 : decode c_M_stem 209 = .ok (.getfield 64, 3) := by decide +kernel
theorem d_M_stem_212 : decode c_M_stem 212 = .ok (.if_icmp .ge 49, 3) := by decide +kernel
theorem d_M_stem_215 : decode c_M_stem 215 = .ok (.aload_n 3, 1) := by decide +kernel
theorem d_M_stem_216 : decode c_M_stem 216 = .ok (.iload 4, 2) := by decide +kernel
theorem d_M_stem_218 : decode c_M_stem 218 = .ok (.baload, 1) := by decide +kernel
theorem d_M_stem_219 : decode c_M_stem 219 = .ok (.ifCond .eq 36, 3) := by decide +kernel
theorem d_M_stem_222 : decode c_M_stem 222 = .ok (.aload_n 0, 1) := by decide +kernel
theorem d_M_stem_223 : decode c_M_stem 223 = .ok (.invokevirtual 102, 3) := by decide +kernel
theorem d_M_stem_226 : decode c_M_stem 226 = .ok (.aload_n 0, 1) := by decide +kernel
theorem d_M_stem_227 : decode c_M_stem 227 = .ok (.getfield 41, 3) := by decide +kernel
theorem d_M_stem_230 : decode c_M_stem 230 = .ok (.iload 4, 2) := by decide +kernel
theorem d_M_stem_232 : decode c_M_stem 232 = .ok (.aload_n 0, 1) := by decide +kernel
theorem d_M_stem_233 : decode c_M_stem 233 = .ok (.getfield 78, 3) := by decide +kernel
theorem d_M_stem_236 : decode c_M_stem 236 = .ok (.lastore, 1) := by decide +kernel
theorem d_M_stem_237 : decode c_M_stem 237 = .ok (.aload_n 0, 1) := by decide +kernel
theorem d_M_stem_238 : decode c_M_stem 238 = .ok (.invokevirtual 115, 3) := by decide +kernel
theorem d_M_stem_241 : decode c_M_stem 241 = .ok (.aload_n 0, 1) := by decide +kernel
theorem d_M_stem_242 : decode c_M_stem 242 = .ok (.getfield 45, 3) := by decide +kernel
theorem d_M_stem_245 : decode c_M_stem 245 = .ok (.iload_n 2, 1) := by decide +kernel
theorem d_M_stem_246 : decode c_M_stem 246 = .ok (.laload, 1) := by decide +kernel
theorem d_M_stem_247 : decode c_M_stem 247 = .ok (.lconst 0, 1) := by decide +kernel
theorem d_M_stem_248 : decode c_M_stem 248 = .ok (.lcmp, 1) := by decide +kernel
theorem d_M_stem_249 : decode c_M_stem 249 = .ok (.ifCond .le 6, 3) := by decide +kernel
theorem d_M_stem_252 : decode c_M_stem 252 = .ok (.iload 4, 2) := by decide +kernel
theorem d_M_stem_254 : decode c_M_stem 254 = .ok (.ireturn, 1) := by decide +kernel
theorem d_M_stem_255 : decode c_M_stem 255 = .ok (.iinc 4 1, 3) := by decide +kernel
theorem d_M_stem_258 : decode c_M_stem 258 = .ok (.goto (-52), 3) := by decide +kernel
theorem d_M_stem_261 : decode c_M_stem 261 = .ok (.iconst (-1), 1) := by decide +kernel
theorem d_M_stem_262 : decode c_M_stem 262 = .ok (.ireturn, 1) := by decide +kernel
theorem d_M_sift_0 : decode c_M_sift 0 = .ok (.iconst 0, 1) := by decide +kernel
theorem d_M_sift_1 : decode c_M_sift 1 = .ok (.istore_n 3, 1) := by decide +kernel
theorem d_M_sift_2 : decode c_M_sift 2 = .ok (.iconst 0, 1) := by decide +kernel
theorem d_M_sift_3 : decode c_M_sift 3 = .ok (.istore 4, 2) := by decide +kernel
theorem d_M_sift_5 : decode c_M_sift 5 = .ok (.iload 4, 2) := by decide +kernel
theorem d_M_sift_7 : decode c_M_sift 7 = .ok (.aload_n 0, 1) := by decide +kernel
theorem d_M_sift_8 : decode c_M_sift 8 = .ok (.getfield 64, 3) := by decide +kernel
theorem d_M_sift_11 : decode c_M_sift 11 = .ok (.if_icmp .ge 62, 3) := by decide +kernel
theorem d_M_sift_14 : decode c_M_sift 14 = .ok (.aload_n 0, 1) := by decide +kernel
theorem d_M_sift_15 : decode c_M_sift 15 = .ok (.getfield 48, 3) := by decide +kernel
theorem d_M_sift_18 : decode c_M_sift 18 = .ok (.iload 4, 2) := by decide +kernel
theorem d_M_sift_20 : decode c_M_sift 20 = .ok (.aload_n 0, 1) := by decide +kernel
theorem d_M_sift_21 : decode c_M_sift 21 = .ok (.iload 4, 2) := by decide +kernel
theorem d_M_sift_23 : decode c_M_sift 23 = .ok (.aload_n 0, 1) := by decide +kernel
theorem d_M_sift_24 : decode c_M_sift 24 = .ok (.getfield 75, 3) := by decide +kernel
theorem d_M_sift_27 : decode c_M_sift 27 = .ok (.invokevirtual 82, 3) := by decide +kernel
theorem d_M_sift_30 : decode c_M_sift 30 = .ok (.ifCond .eq 17, 3) := by decide +kernel
theorem d_M_sift_33 : decode c_M_sift 33 = .ok (.aload_n 0, 1) := by decide +kernel
theorem d_M_sift_34 : decode c_M_sift 34 = .ok (.getfield 38, 3) := by decide +kernel
theorem d_M_sift_37 : decode c_M_sift 37 = .ok (.iload 4, 2) := by decide +kernel
theorem d_M_sift_39 : decode c_M_sift 39 = .ok (.baload, 1) := by decide +kernel
theorem d_M_sift_40 : decode c_M_sift 40 = .ok (.ifCond .eq 7, 3) := by decide +kernel
theorem d_M_sift_43 : decode c_M_sift 43 = .ok (.iconst 1, 1) := by decide +kernel
theorem d_M_sift_44 : decode c_M_sift 44 = .ok (.goto 4, 3) := by decide +kernel
theorem d_M_sift_47 : decode c_M_sift 47 = .ok (.iconst 0, 1) := by decide +kernel
theorem d_M_sift_48 : decode c_M_sift 48 = .ok (.bastore, 1) := by decide +kernel
theorem d_M_sift_49 : decode c_M_sift 49 = .ok (.aload_n 0, 1) := by decide +kernel
theorem d_M_sift_50 : decode c_M_sift 50 = .ok (.getfield 48, 3) := by decide +kernel
theorem d_M_sift_53 : decode c_M_sift 53 = .ok (.iload 4, 2) := by decide +kernel
theorem d_M_sift_55 : decode c_M_sift 55 = .ok (.baload, 1) := by decide +kernel
theorem d_M_sift_56 : decode c_M_sift 56 = .ok (.ifCond .eq 9, 3) := by decide +kernel
theorem d_M_sift_59 : decode c_M_sift 59 = .ok (.iload_n 3, 1) := by decide +kernel
theorem d_M_sift_60 : decode c_M_sift 60 = .ok (.iconst 1, 1) := by decide +kernel
theorem d_M_sift_61 : decode c_M_sift 61 = .ok (.iadd, 1) := by decide +kernel
theorem d_M_sift_62 : decode c_M_sift 62 = .ok (.goto 4, 3) := by decide +kernel
theorem d_M_sift_65 : decode c_M_sift 65 = .ok (.iload_n 3, 1) := by decide +kernel
theorem d_M_sift_66 : decode c_M_sift 66 = .ok (.istore_n 3, 1) := by decide +kernel
theorem d_M_sift_67 : decode c_M_sift 67 = .ok (.iinc 4 1, 3) := by decide +kernel
theorem d_M_sift_70 : decode c_M_sift 70 = .ok (.goto (-65), 3) := by decide +kernel
theorem d_M_sift_73 : decode c_M_sift 73 = .ok (.iconst 1, 1) := by decide +kernel
theorem d_M_sift_74 : decode c_M_sift 74 = .ok (.istore 4, 2) := by decide +kernel
theorem d_M_sift_76 : decode c_M_sift 76 = .ok (.iload 4, 2) := by decide +kernel
theorem d_M_sift_78 : decode c_M_sift 78 = .ok (.ifCond .eq 97, 3) := by decide +kernel
theorem d_M_sift_81 : decode c_M_sift 81 = .ok (.iconst 0, 1) := by decide +kernel
theorem d_M_sift_82 : decode c_M_sift 82 = .ok (.istore 4, 2) := by decide +kernel
theorem d_M_sift_84 : decode c_M_sift 84 = .ok (.lload_n 1, 1) := by decide +kernel
theorem d_M_sift_85 : decode c_M_sift 85 = .ok (.ldc2_w 110, 3) := by decide +kernel
theorem d_M_sift_88 : decode c_M_sift 88 = .ok (.aload_n 0, 1) := by decide +kernel
theorem d_M_sift_89 : decode c_M_sift 89 = .ok (.invokevirtual 131, 3) := by decide +kernel
theorem d_M_sift_92 : decode c_M_sift 92 = .ok (.lmul, 1) := by decide +kernel
theorem d_M_sift_93 : decode c_M_sift 93 = .ok (.ladd, 1) := by decide +kernel
theorem d_M_sift_94 : decode c_M_sift 94 = .ok (.lstore 5, 2) := by decide +kernel
theorem d_M_sift_96 : decode c_M_sift 96 = .ok (.iconst 0, 1) := by decide +kernel
theorem d_M_sift_97 : decode c_M_sift 97 = .ok (.istore 7, 2) := by decide +kernel
theorem d_M_sift_99 : decode c_M_sift 99 = .ok (.iload 7, 2) := by decide +kernel
theorem d_M_sift_101 : decode c_M_sift 101 = .ok (.aload_n 0, 1) := by decide +kernel
theorem d_M_sift_102 : decode c_M_sift 102 = .ok (.getfield 64, 3) := by decide +kernel
theorem d_M_sift_105 : decode c_M_sift 105 = .ok (.if_icmp .ge 67, 3) := by decide +kernel
theorem d_M_sift_108 : decode c_M_sift 108 = .ok (.iload 4, 2) := by decide +kernel
theorem d_M_sift_110 : decode c_M_sift 110 = .ok (.ifCond .ne 62, 3) := by decide +kernel
theorem d_M_sift_113 : decode c_M_sift 113 = .ok (.aload_n 0, 1) := by decide +kernel
theorem d_M_sift_114 : decode c_M_sift 114 = .ok (.getfield 48, 3) := by decide +kernel
theorem d_M_sift_117 : decode c_M_sift 117 = .ok (.iload 7, 2) := by decide +kernel
theorem d_M_sift_119 : decode c_M_sift 119 = .ok (.baload, 1) := by decide +kernel
theorem d_M_sift_120 : decode c_M_sift 120 = .ok (.ifCond .eq 46, 3) := by decide +kernel
theorem d_M_sift_123 : decode c_M_sift 123 = .ok (.ldc2_w 110, 3) := by decide +kernel
theorem d_M_sift_126 : decode c_M_sift 126 = .ok (.iload_n 3, 1) := by decide +kernel
theorem d_M_sift_127 : decode c_M_sift 127 = .ok (.i2l, 1) := by decide +kernel
theorem d_M_sift_128 : decode c_M_sift 128 = .ok (.lmul, 1) := by decide +kernel
theorem d_M_sift_129 : decode c_M_sift 129 = .ok (.aload_n 0, 1) := by decide +kernel
theorem d_M_sift_130 : decode c_M_sift 130 = .ok (.getfield 25, 3) := by decide +kernel
theorem d_M_sift_133 : decode c_M_sift 133 = .ok (.bipush 20, 2) := by decide +kernel
theorem d_M_sift_135 : decode c_M_sift 135 = .ok (.iload 7, 2) := by decide +kernel
theorem d_M_sift_137 : decode c_M_sift 137 = .ok (.imul, 1) := by decide +kernel
theorem d_M_sift_138 : decode c_M_sift 138 = .ok (.aload_n 0, 1) := by decide +kernel
theorem d_M_sift_139 : decode c_M_sift 139 = .ok (.getfield 75, 3) := by decide +kernel
theorem d_M_sift_142 : decode c_M_sift 142 = .ok (.iadd, 1) := by decide +kernel
theorem d_M_sift_143 : decode c_M_sift 143 = .ok (.iaload, 1) := by decide +kernel
theorem d_M_sift_144 : decode c_M_sift 144 = .ok (.i2l, 1) := by decide +kernel
theorem d_M_sift_145 : decode c_M_sift 145 = .ok (.lmul, 1) := by decide +kernel
theorem d_M_sift_146 : decode c_M_sift 146 = .ok (.lload 5, 2) := by decide +kernel
theorem d_M_sift_148 : decode c_M_sift 148 = .ok (.lcmp, 1) := by decide +kernel
theorem d_M_sift_149 : decode c_M_sift 149 = .ok (.ifCond .le 17, 3) := by decide +kernel
theorem d_M_sift_152 : decode c_M_sift 152 = .ok (.aload_n 0, 1) := by decide +kernel
theorem d_M_sift_153 : decode c_M_sift 153 = .ok (.getfield 48, 3) := by decide +kernel
theorem d_M_sift_156 : decode c_M_sift 156 = .ok (.iload 7, 2) := by decide +kernel
theorem d_M_sift_158 : decode c_M_sift 158 = .ok (.iconst 0, 1) := by decide +kernel
theorem d_M_sift_159 : decode c_M_sift 159 = .ok (.bastore, 1) := by decide +kernel
theorem d_M_sift_160 : decode c_M_sift 160 = .ok (.iinc 3 (-1), 3) := by decide +kernel
theorem d_M_sift_163 : decode c_M_sift 163 = .ok (.iconst 1, 1) := by decide +kernel
theorem d_M_sift_164 : decode c_M_sift 164 = .ok (.istore 4, 2) := by decide +kernel
theorem d_M_sift_166 : decode c_M_sift 166 = .ok (.iinc 7 1, 3) := by decide +kernel
theorem d_M_sift_169 : decode c_M_sift 169 = .ok (.goto (-70), 3) := by decide +kernel
theorem d_M_sift_172 : decode c_M_sift 172 = .ok (.goto (-96), 3) := by decide +kernel
theorem d_M_sift_175 : decode c_M_sift 175 = .ok (.iload_n 3, 1) := by decide +kernel
theorem d_M_sift_176 : decode c_M_sift 176 = .ok (.ireturn, 1) := by decide +kernel
theorem d_M_giftsIn_0 : decode c_M_giftsIn 0 = .ok (.lconst 0, 1) := by decide +kernel
theorem d_M_giftsIn_1 : decode c_M_giftsIn 1 = .ok (.lstore_n 1, 1) := by decide +kernel
theorem d_M_giftsIn_2 : decode c_M_giftsIn 2 = .ok (.iconst 0, 1) := by decide +kernel
theorem d_M_giftsIn_3 : decode c_M_giftsIn 3 = .ok (.istore_n 3, 1) := by decide +kernel
theorem d_M_giftsIn_4 : decode c_M_giftsIn 4 = .ok (.iload_n 3, 1) := by decide +kernel
theorem d_M_giftsIn_5 : decode c_M_giftsIn 5 = .ok (.aload_n 0, 1) := by decide +kernel
theorem d_M_giftsIn_6 : decode c_M_giftsIn 6 = .ok (.getfield 64, 3) := by decide +kernel
theorem d_M_giftsIn_9 : decode c_M_giftsIn 9 = .ok (.if_icmp .ge 40, 3) := by decide +kernel
theorem d_M_giftsIn_12 : decode c_M_giftsIn 12 = .ok (.aload_n 0, 1) := by decide +kernel
theorem d_M_giftsIn_13 : decode c_M_giftsIn 13 = .ok (.getfield 48, 3) := by decide +kernel
theorem d_M_giftsIn_16 : decode c_M_giftsIn 16 = .ok (.iload_n 3, 1) := by decide +kernel
theorem d_M_giftsIn_17 : decode c_M_giftsIn 17 = .ok (.baload, 1) := by decide +kernel
theorem d_M_giftsIn_18 : decode c_M_giftsIn 18 = .ok (.ifCond .eq 23, 3) := by decide +kernel
theorem d_M_giftsIn_21 : decode c_M_giftsIn 21 = .ok (.lload_n 1, 1) := by decide +kernel
theorem d_M_giftsIn_22 : decode c_M_giftsIn 22 = .ok (.aload_n 0, 1) := by decide +kernel
theorem d_M_giftsIn_23 : decode c_M_giftsIn 23 = .ok (.getfield 25, 3) := by decide +kernel
theorem d_M_giftsIn_26 : decode c_M_giftsIn 26 = .ok (.bipush 20, 2) := by decide +kernel
theorem d_M_giftsIn_28 : decode c_M_giftsIn 28 = .ok (.iload_n 3, 1) := by decide +kernel
theorem d_M_giftsIn_29 : decode c_M_giftsIn 29 = .ok (.imul, 1) := by decide +kernel
theorem d_M_giftsIn_30 : decode c_M_giftsIn 30 = .ok (.aload_n 0, 1) := by decide +kernel
theorem d_M_giftsIn_31 : decode c_M_giftsIn 31 = .ok (.getfield 75, 3) := by decide +kernel
theorem d_M_giftsIn_34 : decode c_M_giftsIn 34 = .ok (.iadd, 1) := by decide +kernel
theorem d_M_giftsIn_35 : decode c_M_giftsIn 35 = .ok (.iaload, 1) := by decide +kernel
theorem d_M_giftsIn_36 : decode c_M_giftsIn 36 = .ok (.i2l, 1) := by decide +kernel
theorem d_M_giftsIn_37 : decode c_M_giftsIn 37 = .ok (.ladd, 1) := by decide +kernel
theorem d_M_giftsIn_38 : decode c_M_giftsIn 38 = .ok (.goto 4, 3) := by decide +kernel
theorem d_M_giftsIn_41 : decode c_M_giftsIn 41 = .ok (.lload_n 1, 1) := by decide +kernel
theorem d_M_giftsIn_42 : decode c_M_giftsIn 42 = .ok (.lstore_n 1, 1) := by decide +kernel
theorem d_M_giftsIn_43 : decode c_M_giftsIn 43 = .ok (.iinc 3 1, 3) := by decide +kernel
theorem d_M_giftsIn_46 : decode c_M_giftsIn 46 = .ok (.goto (-42), 3) := by decide +kernel
theorem d_M_giftsIn_49 : decode c_M_giftsIn 49 = .ok (.lload_n 1, 1) := by decide +kernel
theorem d_M_giftsIn_50 : decode c_M_giftsIn 50 = .ok (.lreturn, 1) := by decide +kernel
theorem d_M_due_0 : decode c_M_due 0 = .ok (.aload_n 0, 1) := by decide +kernel
theorem d_M_due_1 : decode c_M_due 1 = .ok (.iload_n 1, 1) := by decide +kernel
theorem d_M_due_2 : decode c_M_due 2 = .ok (.invokevirtual 98, 3) := by decide +kernel
theorem d_M_due_5 : decode c_M_due 5 = .ok (.aload_n 0, 1) := by decide +kernel
theorem d_M_due_6 : decode c_M_due 6 = .ok (.getfield 93, 3) := by decide +kernel
theorem d_M_due_9 : decode c_M_due 9 = .ok (.ifCond .eq 43, 3) := by decide +kernel
theorem d_M_due_12 : decode c_M_due 12 = .ok (.aload_n 0, 1) := by decide +kernel
theorem d_M_due_13 : decode c_M_due 13 = .ok (.iload_n 1, 1) := by decide +kernel
theorem d_M_due_14 : decode c_M_due 14 = .ok (.invokevirtual 122, 3) := by decide +kernel
theorem d_M_due_17 : decode c_M_due 17 = .ok (.iconst 0, 1) := by decide +kernel
theorem d_M_due_18 : decode c_M_due 18 = .ok (.istore 4, 2) := by decide +kernel
theorem d_M_due_20 : decode c_M_due 20 = .ok (.iload 4, 2) := by decide +kernel
theorem d_M_due_22 : decode c_M_due 22 = .ok (.aload_n 0, 1) := by decide +kernel
theorem d_M_due_23 : decode c_M_due 23 = .ok (.getfield 64, 3) := by decide +kernel
theorem d_M_due_26 : decode c_M_due 26 = .ok (.if_icmp .ge 25, 3) := by decide +kernel
theorem d_M_due_29 : decode c_M_due 29 = .ok (.aload_n 0, 1) := by decide +kernel
theorem d_M_due_30 : decode c_M_due 30 = .ok (.getfield 45, 3) := by decide +kernel
theorem d_M_due_33 : decode c_M_due 33 = .ok (.iload 4, 2) := by decide +kernel
theorem d_M_due_35 : decode c_M_due 35 = .ok (.aload_n 0, 1) := by decide +kernel
theorem d_M_due_36 : decode c_M_due 36 = .ok (.getfield 45, 3) := by decide +kernel
theorem d_M_due_39 : decode c_M_due 39 = .ok (.iload 4, 2) := by decide +kernel
theorem d_M_due_41 : decode c_M_due 41 = .ok (.laload, 1) := by decide +kernel
theorem d_M_due_42 : decode c_M_due 42 = .ok (.lload_n 2, 1) := by decide +kernel
theorem d_M_due_43 : decode c_M_due 43 = .ok (.lmul, 1) := by decide +kernel
theorem d_M_due_44 : decode c_M_due 44 = .ok (.lastore, 1) := by decide +kernel
theorem d_M_due_45 : decode c_M_due 45 = .ok (.iinc 4 1, 3) := by decide +kernel
theorem d_M_due_48 : decode c_M_due 48 = .ok (.goto (-28), 3) := by decide +kernel
theorem d_M_due_51 : decode c_M_due 51 = .ok (.return_, 1) := by decide +kernel
theorem d_M_due_52 : decode c_M_due 52 = .ok (.aload_n 0, 1) := by decide +kernel
theorem d_M_due_53 : decode c_M_due 53 = .ok (.getfield 89, 3) := by decide +kernel
theorem d_M_due_56 : decode c_M_due 56 = .ok (.ifCond .eq 11, 3) := by decide +kernel
theorem d_M_due_59 : decode c_M_due 59 = .ok (.ldc2_w 135, 3) := by decide +kernel
theorem d_M_due_62 : decode c_M_due 62 = .ok (.lload_n 2, 1) := by decide +kernel
theorem d_M_due_63 : decode c_M_due 63 = .ok (.lmul, 1) := by decide +kernel
theorem d_M_due_64 : decode c_M_due 64 = .ok (.goto 8, 3) := by decide +kernel
theorem d_M_due_67 : decode c_M_due 67 = .ok (.ldc2_w 110, 3) := by decide +kernel
theorem d_M_due_70 : decode c_M_due 70 = .ok (.lload_n 2, 1) := by decide +kernel
theorem d_M_due_71 : decode c_M_due 71 = .ok (.lmul, 1) := by decide +kernel
theorem d_M_due_72 : decode c_M_due 72 = .ok (.lstore 4, 2) := by decide +kernel
theorem d_M_due_74 : decode c_M_due 74 = .ok (.aload_n 0, 1) := by decide +kernel
theorem d_M_due_75 : decode c_M_due 75 = .ok (.lload 4, 2) := by decide +kernel
theorem d_M_due_77 : decode c_M_due 77 = .ok (.invokevirtual 137, 3) := by decide +kernel
theorem d_M_due_80 : decode c_M_due 80 = .ok (.istore 6, 2) := by decide +kernel
theorem d_M_due_82 : decode c_M_due 82 = .ok (.lload 4, 2) := by decide +kernel
theorem d_M_due_84 : decode c_M_due 84 = .ok (.ldc2_w 110, 3) := by decide +kernel
theorem d_M_due_87 : decode c_M_due 87 = .ok (.aload_n 0, 1) := by decide +kernel
theorem d_M_due_88 : decode c_M_due 88 = .ok (.invokevirtual 131, 3) := by decide +kernel
theorem d_M_due_91 : decode c_M_due 91 = .ok (.lmul, 1) := by decide +kernel
theorem d_M_due_92 : decode c_M_due 92 = .ok (.ladd, 1) := by decide +kernel
theorem d_M_due_93 : decode c_M_due 93 = .ok (.lstore 7, 2) := by decide +kernel
theorem d_M_due_95 : decode c_M_due 95 = .ok (.aload_n 0, 1) := by decide +kernel
theorem d_M_due_96 : decode c_M_due 96 = .ok (.invokevirtual 102, 3) := by decide +kernel
theorem d_M_due_99 : decode c_M_due 99 = .ok (.aload_n 0, 1) := by decide +kernel
theorem d_M_due_100 : decode c_M_due 100 = .ok (.ldc2_w 110, 3) := by decide +kernel
theorem d_M_due_103 : decode c_M_due 103 = .ok (.iload 6, 2) := by decide +kernel
theorem d_M_due_105 : decode c_M_due 105 = .ok (.i2l, 1) := by decide +kernel
theorem d_M_due_106 : decode c_M_due 106 = .ok (.lmul, 1) := by decide +kernel
theorem d_M_due_107 : decode c_M_due 107 = .ok (.aload_n 0, 1) := by decide +kernel
theorem d_M_due_108 : decode c_M_due 108 = .ok (.getfield 78, 3) := by decide +kernel
theorem d_M_due_111 : decode c_M_due 111 = .ok (.lmul, 1) := by decide +kernel
theorem d_M_due_112 : decode c_M_due 112 = .ok (.putfield 107, 3) := by decide +kernel
theorem d_M_due_115 : decode c_M_due 115 = .ok (.aload_n 0, 1) := by decide +kernel
theorem d_M_due_116 : decode c_M_due 116 = .ok (.getfield 89, 3) := by decide +kernel
theorem d_M_due_119 : decode c_M_due 119 = .ok (.ifCond .eq 24, 3) := by decide +kernel
theorem d_M_due_122 : decode c_M_due 122 = .ok (.aload_n 0, 1) := by decide +kernel
theorem d_M_due_123 : decode c_M_due 123 = .ok (.getfield 45, 3) := by decide +kernel
theorem d_M_due_126 : decode c_M_due 126 = .ok (.aload_n 0, 1) := by decide +kernel
theorem d_M_due_127 : decode c_M_due 127 = .ok (.getfield 16, 3) := by decide +kernel
theorem d_M_due_130 : decode c_M_due 130 = .ok (.iload_n 1, 1) := by decide +kernel
theorem d_M_due_131 : decode c_M_due 131 = .ok (.iaload, 1) := by decide +kernel
theorem d_M_due_132 : decode c_M_due 132 = .ok (.lload_n 2, 1) := by decide +kernel
theorem d_M_due_133 : decode c_M_due 133 = .ok (.iload 6, 2) := by decide +kernel
theorem d_M_due_135 : decode c_M_due 135 = .ok (.i2l, 1) := by decide +kernel
theorem d_M_due_136 : decode c_M_due 136 = .ok (.lmul, 1) := by decide +kernel
theorem d_M_due_137 : decode c_M_due 137 = .ok (.aload_n 0, 1) := by decide +kernel
theorem d_M_due_138 : decode c_M_due 138 = .ok (.getfield 78, 3) := by decide +kernel
theorem d_M_due_141 : decode c_M_due 141 = .ok (.lmul, 1) := by decide +kernel
theorem d_M_due_142 : decode c_M_due 142 = .ok (.lastore, 1) := by decide +kernel
theorem d_M_due_143 : decode c_M_due 143 = .ok (.iconst 0, 1) := by decide +kernel
theorem d_M_due_144 : decode c_M_due 144 = .ok (.istore 9, 2) := by decide +kernel
theorem d_M_due_146 : decode c_M_due 146 = .ok (.iload 9, 2) := by decide +kernel
theorem d_M_due_148 : decode c_M_due 148 = .ok (.aload_n 0, 1) := by decide +kernel
theorem d_M_due_149 : decode c_M_due 149 = .ok (.getfield 64, 3) := by decide +kernel
theorem d_M_due_152 : decode c_M_due 152 = .ok (.if_icmp .ge 59, 3) := by decide +kernel
theorem d_M_due_155 : decode c_M_due 155 = .ok (.aload_n 0, 1) := by decide +kernel
theorem d_M_due_156 : decode c_M_due 156 = .ok (.getfield 41, 3) := by decide +kernel
theorem d_M_due_159 : decode c_M_due 159 = .ok (.iload 9, 2) := by decide +kernel
theorem d_M_due_161 : decode c_M_due 161 = .ok (.aload_n 0, 1) := by decide +kernel
theorem d_M_due_162 : decode c_M_due 162 = .ok (.getfield 48, 3) := by decide +kernel
theorem d_M_due_165 : decode c_M_due 165 = .ok (.iload 9, 2) := by decide +kernel
theorem d_M_due_167 : decode c_M_due 167 = .ok (.baload, 1) := by decide +kernel
theorem d_M_due_168 : decode c_M_due 168 = .ok (.ifCond .eq 35, 3) := by decide +kernel
theorem d_M_due_171 : decode c_M_due 171 = .ok (.lload 7, 2) := by decide +kernel
theorem d_M_due_173 : decode c_M_due 173 = .ok (.ldc2_w 110, 3) := by decide +kernel
theorem d_M_due_176 : decode c_M_due 176 = .ok (.iload 6, 2) := by decide +kernel
theorem d_M_due_178 : decode c_M_due 178 = .ok (.i2l, 1) := by decide +kernel
theorem d_M_due_179 : decode c_M_due 179 = .ok (.lmul, 1) := by decide +kernel
theorem d_M_due_180 : decode c_M_due 180 = .ok (.aload_n 0, 1) := by decide +kernel
theorem d_M_due_181 : decode c_M_due 181 = .ok (.getfield 25, 3) := by decide +kernel
theorem d_M_due_184 : decode c_M_due 184 = .ok (.bipush 20, 2) := by decide +kernel
theorem d_M_due_186 : decode c_M_due 186 = .ok (.iload 9, 2) := by decide +kernel
theorem d_M_due_188 : decode c_M_due 188 = .ok (.imul, 1) := by decide +kernel
theorem d_M_due_189 : decode c_M_due 189 = .ok (.iload_n 1, 1) := by decide +kernel
theorem d_M_due_190 : decode c_M_due 190 = .ok (.iadd, 1) := by decide +kernel
theorem d_M_due_191 : decode c_M_due 191 = .ok (.iaload, 1) := by decide +kernel
theorem d_M_due_192 : decode c_M_due 192 = .ok (.i2l, 1) := by decide +kernel
theorem d_M_due_193 : decode c_M_due 193 = .ok (.lmul, 1) := by decide +kernel
theorem d_M_due_194 : decode c_M_due 194 = .ok (.lsub, 1) := by decide +kernel
theorem d_M_due_195 : decode c_M_due 195 = .ok (.aload_n 0, 1) := by decide +kernel
theorem d_M_due_196 : decode c_M_due 196 = .ok (.getfield 78, 3) := by decide +kernel
theorem d_M_due_199 : decode c_M_due 199 = .ok (.lmul, 1) := by decide +kernel
theorem d_M_due_200 : decode c_M_due 200 = .ok (.goto 4, 3) := by decide +kernel
theorem d_M_due_203 : decode c_M_due 203 = .ok (.lconst 0, 1) := by decide +kernel
theorem d_M_due_204 : decode c_M_due 204 = .ok (.lastore, 1) := by decide +kernel
theorem d_M_due_205 : decode c_M_due 205 = .ok (.iinc 9 1, 3) := by decide +kernel
theorem d_M_due_208 : decode c_M_due 208 = .ok (.goto (-62), 3) := by decide +kernel
theorem d_M_due_211 : decode c_M_due 211 = .ok (.aload_n 0, 1) := by decide +kernel
theorem d_M_due_212 : decode c_M_due 212 = .ok (.invokevirtual 115, 3) := by decide +kernel
theorem d_M_due_215 : decode c_M_due 215 = .ok (.return_, 1) := by decide +kernel
theorem d_M_pay_0 : decode c_M_pay 0 = .ok (.aload_n 0, 1) := by decide +kernel
theorem d_M_pay_1 : decode c_M_pay 1 = .ok (.getfield 51, 3) := by decide +kernel
theorem d_M_pay_4 : decode c_M_pay 4 = .ok (.bipush 21, 2) := by decide +kernel
theorem d_M_pay_6 : decode c_M_pay 6 = .ok (.iload_n 1, 1) := by decide +kernel
theorem d_M_pay_7 : decode c_M_pay 7 = .ok (.imul, 1) := by decide +kernel
theorem d_M_pay_8 : decode c_M_pay 8 = .ok (.iload_n 2, 1) := by decide +kernel
theorem d_M_pay_9 : decode c_M_pay 9 = .ok (.iadd, 1) := by decide +kernel
theorem d_M_pay_10 : decode c_M_pay 10 = .ok (.dup2, 1) := by decide +kernel
theorem d_M_pay_11 : decode c_M_pay 11 = .ok (.laload, 1) := by decide +kernel
theorem d_M_pay_12 : decode c_M_pay 12 = .ok (.lload_n 3, 1) := by decide +kernel
theorem d_M_pay_13 : decode c_M_pay 13 = .ok (.ladd, 1) := by decide +kernel
theorem d_M_pay_14 : decode c_M_pay 14 = .ok (.lastore, 1) := by decide +kernel
theorem d_M_pay_15 : decode c_M_pay 15 = .ok (.aload_n 0, 1) := by decide +kernel
theorem d_M_pay_16 : decode c_M_pay 16 = .ok (.getfield 57, 3) := by decide +kernel
theorem d_M_pay_19 : decode c_M_pay 19 = .ok (.iload_n 2, 1) := by decide +kernel
theorem d_M_pay_20 : decode c_M_pay 20 = .ok (.dup2, 1) := by decide +kernel
theorem d_M_pay_21 : decode c_M_pay 21 = .ok (.laload, 1) := by decide +kernel
theorem d_M_pay_22 : decode c_M_pay 22 = .ok (.lload_n 3, 1) := by decide +kernel
theorem d_M_pay_23 : decode c_M_pay 23 = .ok (.ladd, 1) := by decide +kernel
theorem d_M_pay_24 : decode c_M_pay 24 = .ok (.lastore, 1) := by decide +kernel
theorem d_M_pay_25 : decode c_M_pay 25 = .ok (.return_, 1) := by decide +kernel
theorem d_M_settleOne_0 : decode c_M_settleOne 0 = .ok (.aload_n 0, 1) := by decide +kernel
theorem d_M_settleOne_1 : decode c_M_settleOne 1 = .ok (.getfield 54, 3) := by decide +kernel
theorem d_M_settleOne_4 : decode c_M_settleOne 4 = .ok (.iload_n 1, 1) := by decide +kernel
theorem d_M_settleOne_5 : decode c_M_settleOne 5 = .ok (.laload, 1) := by decide +kernel
theorem d_M_settleOne_6 : decode c_M_settleOne 6 = .ok (.lstore_n 2, 1) := by decide +kernel
theorem d_M_settleOne_7 : decode c_M_settleOne 7 = .ok (.aload_n 0, 1) := by decide +kernel
theorem d_M_settleOne_8 : decode c_M_settleOne 8 = .ok (.iload_n 1, 1) := by decide +kernel
theorem d_M_settleOne_9 : decode c_M_settleOne 9 = .ok (.lload_n 2, 1) := by decide +kernel
theorem d_M_settleOne_10 : decode c_M_settleOne 10 = .ok (.invokevirtual 141, 3) := by decide +kernel
theorem d_M_settleOne_13 : decode c_M_settleOne 13 = .ok (.aload_n 0, 1) := by decide +kernel
theorem d_M_settleOne_14 : decode c_M_settleOne 14 = .ok (.getfield 93, 3) := by decide +kernel
theorem d_M_settleOne_17 : decode c_M_settleOne 17 = .ok (.iconst 5, 1) := by decide +kernel
theorem d_M_settleOne_18 : decode c_M_settleOne 18 = .ok (.if_icmp .ne 12, 3) := by decide +kernel
theorem d_M_settleOne_21 : decode c_M_settleOne 21 = .ok (.aload_n 0, 1) := by decide +kernel
theorem d_M_settleOne_22 : decode c_M_settleOne 22 = .ok (.iload_n 1, 1) := by decide +kernel
theorem d_M_settleOne_23 : decode c_M_settleOne 23 = .ok (.bipush 20, 2) := by decide +kernel
theorem d_M_settleOne_25 : decode c_M_settleOne 25 = .ok (.lload_n 2, 1) := by decide +kernel
theorem d_M_settleOne_26 : decode c_M_settleOne 26 = .ok (.invokevirtual 145, 3) := by decide +kernel
theorem d_M_settleOne_29 : decode c_M_settleOne 29 = .ok (.return_, 1) := by decide +kernel
theorem d_M_settleOne_30 : decode c_M_settleOne 30 = .ok (.lload_n 2, 1) := by decide +kernel
theorem d_M_settleOne_31 : decode c_M_settleOne 31 = .ok (.lstore 4, 2) := by decide +kernel
theorem d_M_settleOne_33 : decode c_M_settleOne 33 = .ok (.iconst 0, 1) := by decide +kernel
theorem d_M_settleOne_34 : decode c_M_settleOne 34 = .ok (.istore 6, 2) := by decide +kernel
theorem d_M_settleOne_36 : decode c_M_settleOne 36 = .ok (.iload 6, 2) := by decide +kernel
theorem d_M_settleOne_38 : decode c_M_settleOne 38 = .ok (.aload_n 0, 1) := by decide +kernel
theorem d_M_settleOne_39 : decode c_M_settleOne 39 = .ok (.getfield 64, 3) := by decide +kernel
theorem d_M_settleOne_42 : decode c_M_settleOne 42 = .ok (.if_icmp .ge 64, 3) := by decide +kernel
theorem d_M_settleOne_45 : decode c_M_settleOne 45 = .ok (.lload 4, 2) := by decide +kernel
theorem d_M_settleOne_47 : decode c_M_settleOne 47 = .ok (.aload_n 0, 1) := by decide +kernel
theorem d_M_settleOne_48 : decode c_M_settleOne 48 = .ok (.getfield 45, 3) := by decide +kernel
theorem d_M_settleOne_51 : decode c_M_settleOne 51 = .ok (.iload 6, 2) := by decide +kernel
theorem d_M_settleOne_53 : decode c_M_settleOne 53 = .ok (.laload, 1) := by decide +kernel
theorem d_M_settleOne_54 : decode c_M_settleOne 54 = .ok (.aload_n 0, 1) := by decide +kernel
theorem d_M_settleOne_55 : decode c_M_settleOne 55 = .ok (.getfield 107, 3) := by decide +kernel
theorem d_M_settleOne_58 : decode c_M_settleOne 58 = .ok (.ldiv, 1) := by decide +kernel
theorem d_M_settleOne_59 : decode c_M_settleOne 59 = .ok (.lsub, 1) := by decide +kernel
theorem d_M_settleOne_60 : decode c_M_settleOne 60 = .ok (.lstore 4, 2) := by decide +kernel
theorem d_M_settleOne_62 : decode c_M_settleOne 62 = .ok (.aload_n 0, 1) := by decide +kernel
theorem d_M_settleOne_63 : decode c_M_settleOne 63 = .ok (.iload_n 1, 1) := by decide +kernel
theorem d_M_settleOne_64 : decode c_M_settleOne 64 = .ok (.iload 6, 2) := by decide +kernel
theorem d_M_settleOne_66 : decode c_M_settleOne 66 = .ok (.aload_n 0, 1) := by decide +kernel
theorem d_M_settleOne_67 : decode c_M_settleOne 67 = .ok (.getfield 45, 3) := by decide +kernel
theorem d_M_settleOne_70 : decode c_M_settleOne 70 = .ok (.iload 6, 2) := by decide +kernel
theorem d_M_settleOne_72 : decode c_M_settleOne 72 = .ok (.laload, 1) := by decide +kernel
theorem d_M_settleOne_73 : decode c_M_settleOne 73 = .ok (.aload_n 0, 1) := by decide +kernel
theorem d_M_settleOne_74 : decode c_M_settleOne 74 = .ok (.getfield 107, 3) := by decide +kernel
theorem d_M_settleOne_77 : decode c_M_settleOne 77 = .ok (.ldiv, 1) := by decide +kernel
theorem d_M_settleOne_78 : decode c_M_settleOne 78 = .ok (.invokevirtual 145, 3) := by decide +kernel
theorem d_M_settleOne_81 : decode c_M_settleOne 81 = .ok (.aload_n 0, 1) := by decide +kernel
theorem d_M_settleOne_82 : decode c_M_settleOne 82 = .ok (.getfield 45, 3) := by decide +kernel
theorem d_M_settleOne_85 : decode c_M_settleOne 85 = .ok (.iload 6, 2) := by decide +kernel
theorem d_M_settleOne_87 : decode c_M_settleOne 87 = .ok (.aload_n 0, 1) := by decide +kernel
theorem d_M_settleOne_88 : decode c_M_settleOne 88 = .ok (.getfield 45, 3) := by decide +kernel
theorem d_M_settleOne_91 : decode c_M_settleOne 91 = .ok (.iload 6, 2) := by decide +kernel
theorem d_M_settleOne_93 : decode c_M_settleOne 93 = .ok (.laload, 1) := by decide +kernel
theorem d_M_settleOne_94 : decode c_M_settleOne 94 = .ok (.aload_n 0, 1) := by decide +kernel
theorem d_M_settleOne_95 : decode c_M_settleOne 95 = .ok (.getfield 107, 3) := by decide +kernel
theorem d_M_settleOne_98 : decode c_M_settleOne 98 = .ok (.lrem, 1) := by decide +kernel
theorem d_M_settleOne_99 : decode c_M_settleOne 99 = .ok (.lastore, 1) := by decide +kernel
theorem d_M_settleOne_100 : decode c_M_settleOne 100 = .ok (.iinc 6 1, 3) := by decide +kernel
theorem d_M_settleOne_103 : decode c_M_settleOne 103 = .ok (.goto (-67), 3) := by decide +kernel
theorem d_M_settleOne_106 : decode c_M_settleOne 106 = .ok (.lload 4, 2) := by decide +kernel
theorem d_M_settleOne_108 : decode c_M_settleOne 108 = .ok (.lconst 0, 1) := by decide +kernel
theorem d_M_settleOne_109 : decode c_M_settleOne 109 = .ok (.lcmp, 1) := by decide +kernel
theorem d_M_settleOne_110 : decode c_M_settleOne 110 = .ok (.ifCond .le 78, 3) := by decide +kernel
theorem d_M_settleOne_113 : decode c_M_settleOne 113 = .ok (.iconst 0, 1) := by decide +kernel
theorem d_M_settleOne_114 : decode c_M_settleOne 114 = .ok (.istore 6, 2) := by decide +kernel
theorem d_M_settleOne_116 : decode c_M_settleOne 116 = .ok (.iconst 1, 1) := by decide +kernel
theorem d_M_settleOne_117 : decode c_M_settleOne 117 = .ok (.istore 7, 2) := by decide +kernel
theorem d_M_settleOne_119 : decode c_M_settleOne 119 = .ok (.iload 7, 2) := by decide +kernel
theorem d_M_settleOne_121 : decode c_M_settleOne 121 = .ok (.aload_n 0, 1) := by decide +kernel
theorem d_M_settleOne_122 : decode c_M_settleOne 122 = .ok (.getfield 64, 3) := by decide +kernel
theorem d_M_settleOne_125 : decode c_M_settleOne 125 = .ok (.if_icmp .ge 36, 3) := by decide +kernel
theorem d_M_settleOne_128 : decode c_M_settleOne 128 = .ok (.aload_n 0, 1) := by decide +kernel
theorem d_M_settleOne_129 : decode c_M_settleOne 129 = .ok (.getfield 45, 3) := by decide +kernel
theorem d_M_settleOne_132 : decode c_M_settleOne 132 = .ok (.iload 7, 2) := by decide +kernel
theorem d_M_settleOne_134 : decode c_M_settleOne 134 = .ok (.laload, 1) := by decide +kernel
theorem d_M_settleOne_135 : decode c_M_settleOne 135 = .ok (.aload_n 0, 1) := by decide +kernel
theorem d_M_settleOne_136 : decode c_M_settleOne 136 = .ok (.getfield 45, 3) := by decide +kernel
theorem d_M_settleOne_139 : decode c_M_settleOne 139 = .ok (.iload 6, 2) := by decide +kernel
theorem d_M_settleOne_141 : decode c_M_settleOne 141 = .ok (.laload, 1) := by decide +kernel
theorem d_M_settleOne_142 : decode c_M_settleOne 142 = .ok (.lcmp, 1) := by decide +kernel
theorem d_M_settleOne_143 : decode c_M_settleOne 143 = .ok (.ifCond .le 8, 3) := by decide +kernel
theorem d_M_settleOne_146 : decode c_M_settleOne 146 = .ok (.iload 7, 2) := by decide +kernel
theorem d_M_settleOne_148 : decode c_M_settleOne 148 = .ok (.goto 5, 3) := by decide +kernel
theorem d_M_settleOne_151 : decode c_M_settleOne 151 = .ok (.iload 6, 2) := by decide +kernel
theorem d_M_settleOne_153 : decode c_M_settleOne 153 = .ok (.istore 6, 2) := by decide +kernel
theorem d_M_settleOne_155 : decode c_M_settleOne 155 = .ok (.iinc 7 1, 3) := by decide +kernel
theorem d_M_settleOne_158 : decode c_M_settleOne 158 = .ok (.goto (-39), 3) := by decide +kernel
theorem d_M_settleOne_161 : decode c_M_settleOne 161 = .ok (.aload_n 0, 1) := by decide +kernel
theorem d_M_settleOne_162 : decode c_M_settleOne 162 = .ok (.getfield 45, 3) := by decide +kernel
theorem d_M_settleOne_165 : decode c_M_settleOne 165 = .ok (.iload 6, 2) := by decide +kernel
theorem d_M_settleOne_167 : decode c_M_settleOne 167 = .ok (.ldc2_w 149, 3) := by decide +kernel
theorem d_M_settleOne_170 : decode c_M_settleOne 170 = .ok (.lastore, 1) := by decide +kernel
theorem d_M_settleOne_171 : decode c_M_settleOne 171 = .ok (.aload_n 0, 1) := by decide +kernel
theorem d_M_settleOne_172 : decode c_M_settleOne 172 = .ok (.iload_n 1, 1) := by decide +kernel
theorem d_M_settleOne_173 : decode c_M_settleOne 173 = .ok (.iload 6, 2) := by decide +kernel
theorem d_M_settleOne_175 : decode c_M_settleOne 175 = .ok (.lconst 1, 1) := by decide +kernel
theorem d_M_settleOne_176 : decode c_M_settleOne 176 = .ok (.invokevirtual 145, 3) := by decide +kernel
theorem d_M_settleOne_179 : decode c_M_settleOne 179 = .ok (.lload 4, 2) := by decide +kernel
theorem d_M_settleOne_181 : decode c_M_settleOne 181 = .ok (.lconst 1, 1) := by decide +kernel
theorem d_M_settleOne_182 : decode c_M_settleOne 182 = .ok (.lsub, 1) := by decide +kernel
theorem d_M_settleOne_183 : decode c_M_settleOne 183 = .ok (.lstore 4, 2) := by decide +kernel
theorem d_M_settleOne_185 : decode c_M_settleOne 185 = .ok (.goto (-79), 3) := by decide +kernel
theorem d_M_settleOne_188 : decode c_M_settleOne 188 = .ok (.return_, 1) := by decide +kernel
theorem d_M_settle_0 : decode c_M_settle 0 = .ok (.aload_n 0, 1) := by decide +kernel
theorem d_M_settle_1 : decode c_M_settle 1 = .ok (.iconst 0, 1) := by decide +kernel
theorem d_M_settle_2 : decode c_M_settle 2 = .ok (.putfield 60, 3) := by decide +kernel
theorem d_M_settle_5 : decode c_M_settle 5 = .ok (.iconst 0, 1) := by decide +kernel
theorem d_M_settle_6 : decode c_M_settle 6 = .ok (.istore_n 1, 1) := by decide +kernel
theorem d_M_settle_7 : decode c_M_settle 7 = .ok (.iload_n 1, 1) := by decide +kernel
theorem d_M_settle_8 : decode c_M_settle 8 = .ok (.sipush 420, 3) := by decide +kernel
theorem d_M_settle_11 : decode c_M_settle 11 = .ok (.if_icmp .ge 16, 3) := by decide +kernel
theorem d_M_settle_14 : decode c_M_settle 14 = .ok (.aload_n 0, 1) := by decide +kernel
theorem d_M_settle_15 : decode c_M_settle 15 = .ok (.getfield 51, 3) := by decide +kernel
theorem d_M_settle_18 : decode c_M_settle 18 = .ok (.iload_n 1, 1) := by decide +kernel
theorem d_M_settle_19 : decode c_M_settle 19 = .ok (.lconst 0, 1) := by decide +kernel
theorem d_M_settle_20 : decode c_M_settle 20 = .ok (.lastore, 1) := by decide +kernel
theorem d_M_settle_21 : decode c_M_settle 21 = .ok (.iinc 1 1, 3) := by decide +kernel
theorem d_M_settle_24 : decode c_M_settle 24 = .ok (.goto (-17), 3) := by decide +kernel
theorem d_M_settle_27 : decode c_M_settle 27 = .ok (.iconst 0, 1) := by decide +kernel
theorem d_M_settle_28 : decode c_M_settle 28 = .ok (.istore_n 1, 1) := by decide +kernel
theorem d_M_settle_29 : decode c_M_settle 29 = .ok (.iload_n 1, 1) := by decide +kernel
theorem d_M_settle_30 : decode c_M_settle 30 = .ok (.bipush 21, 2) := by decide +kernel
theorem d_M_settle_32 : decode c_M_settle 32 = .ok (.if_icmp .ge 16, 3) := by decide +kernel
theorem d_M_settle_35 : decode c_M_settle 35 = .ok (.aload_n 0, 1) := by decide +kernel
theorem d_M_settle_36 : decode c_M_settle 36 = .ok (.getfield 57, 3) := by decide +kernel
theorem d_M_settle_39 : decode c_M_settle 39 = .ok (.iload_n 1, 1) := by decide +kernel
theorem d_M_settle_40 : decode c_M_settle 40 = .ok (.lconst 0, 1) := by decide +kernel
theorem d_M_settle_41 : decode c_M_settle 41 = .ok (.lastore, 1) := by decide +kernel
theorem d_M_settle_42 : decode c_M_settle 42 = .ok (.iinc 1 1, 3) := by decide +kernel
theorem d_M_settle_45 : decode c_M_settle 45 = .ok (.goto (-16), 3) := by decide +kernel
theorem d_M_settle_48 : decode c_M_settle 48 = .ok (.iconst 0, 1) := by decide +kernel
theorem d_M_settle_49 : decode c_M_settle 49 = .ok (.istore_n 1, 1) := by decide +kernel
theorem d_M_settle_50 : decode c_M_settle 50 = .ok (.iconst 0, 1) := by decide +kernel
theorem d_M_settle_51 : decode c_M_settle 51 = .ok (.istore_n 2, 1) := by decide +kernel
theorem d_M_settle_52 : decode c_M_settle 52 = .ok (.iload_n 2, 1) := by decide +kernel
theorem d_M_settle_53 : decode c_M_settle 53 = .ok (.bipush 20, 2) := by decide +kernel
theorem d_M_settle_55 : decode c_M_settle 55 = .ok (.if_icmp .ge 16, 3) := by decide +kernel
theorem d_M_settle_58 : decode c_M_settle 58 = .ok (.aload_n 0, 1) := by decide +kernel
theorem d_M_settle_59 : decode c_M_settle 59 = .ok (.getfield 54, 3) := by decide +kernel
theorem d_M_settle_62 : decode c_M_settle 62 = .ok (.iload_n 2, 1) := by decide +kernel
theorem d_M_settle_63 : decode c_M_settle 63 = .ok (.lconst 0, 1) := by decide +kernel
theorem d_M_settle_64 : decode c_M_settle 64 = .ok (.lastore, 1) := by decide +kernel
theorem d_M_settle_65 : decode c_M_settle 65 = .ok (.iinc 2 1, 3) := by decide +kernel
theorem d_M_settle_68 : decode c_M_settle 68 = .ok (.goto (-16), 3) := by decide +kernel
theorem d_M_settle_71 : decode c_M_settle 71 = .ok (.iconst 0, 1) := by decide +kernel
theorem d_M_settle_72 : decode c_M_settle 72 = .ok (.istore_n 2, 1) := by decide +kernel
theorem d_M_settle_73 : decode c_M_settle 73 = .ok (.iload_n 2, 1) := by decide +kernel
theorem d_M_settle_74 : decode c_M_settle 74 = .ok (.sipush 1000, 3) := by decide +kernel
theorem d_M_settle_77 : decode c_M_settle 77 = .ok (.if_icmp .ge 98, 3) := by decide +kernel
theorem d_M_settle_80 : decode c_M_settle 80 = .ok (.iconst 0, 1) := by decide +kernel
theorem d_M_settle_81 : decode c_M_settle 81 = .ok (.istore_n 3, 1) := by decide +kernel
theorem d_M_settle_82 : decode c_M_settle 82 = .ok (.iload_n 3, 1) := by decide +kernel
theorem d_M_settle_83 : decode c_M_settle 83 = .ok (.aload_n 0, 1) := by decide +kernel
theorem d_M_settle_84 : decode c_M_settle 84 = .ok (.getfield 64, 3) := by decide +kernel
theorem d_M_settle_87 : decode c_M_settle 87 = .ok (.if_icmp .ge 48, 3) := by decide +kernel
theorem d_M_settle_90 : decode c_M_settle 90 = .ok (.aload_n 0, 1) := by decide +kernel
theorem d_M_settle_91 : decode c_M_settle 91 = .ok (.getfield 54, 3) := by decide +kernel
theorem d_M_settle_94 : decode c_M_settle 94 = .ok (.iload_n 3, 1) := by decide +kernel
theorem d_M_settle_95 : decode c_M_settle 95 = .ok (.aload_n 0, 1) := by decide +kernel
theorem d_M_settle_96 : decode c_M_settle 96 = .ok (.getfield 19, 3) := by decide +kernel
theorem d_M_settle_99 : decode c_M_settle 99 = .ok (.iload_n 3, 1) := by decide +kernel
theorem d_M_settle_100 : decode c_M_settle 100 = .ok (.iaload, 1) := by decide +kernel
theorem d_M_settle_101 : decode c_M_settle 101 = .ok (.iload_n 2, 1) := by decide +kernel
theorem d_M_settle_102 : decode c_M_settle 102 = .ok (.if_icmp .ne 20, 3) := by decide +kernel
theorem d_M_settle_105 : decode c_M_settle 105 = .ok (.aload_n 0, 1) := by decide +kernel
theorem d_M_settle_106 : decode c_M_settle 106 = .ok (.getfield 22, 3) := by decide +kernel
theorem d_M_settle_109 : decode c_M_settle 109 = .ok (.iload_n 3, 1) := by decide +kernel
theorem d_M_settle_110 : decode c_M_settle 110 = .ok (.iaload, 1) := by decide +kernel
theorem d_M_settle_111 : decode c_M_settle 111 = .ok (.i2l, 1) := by decide +kernel
theorem d_M_settle_112 : decode c_M_settle 112 = .ok (.aload_n 0, 1) := by decide +kernel
theorem d_M_settle_113 : decode c_M_settle 113 = .ok (.getfield 57, 3) := by decide +kernel
theorem d_M_settle_116 : decode c_M_settle 116 = .ok (.iload_n 3, 1) := by decide +kernel
theorem d_M_settle_117 : decode c_M_settle 117 = .ok (.laload, 1) := by decide +kernel
theorem d_M_settle_118 : decode c_M_settle 118 = .ok (.ladd, 1) := by decide +kernel
theorem d_M_settle_119 : decode c_M_settle 119 = .ok (.goto 9, 3) := by decide +kernel
theorem d_M_settle_122 : decode c_M_settle 122 = .ok (.aload_n 0, 1) := by decide +kernel
theorem d_M_settle_123 : decode c_M_settle 123 = .ok (.getfield 54, 3) := by decide +kernel
theorem d_M_settle_126 : decode c_M_settle 126 = .ok (.iload_n 3, 1) := by decide +kernel
theorem d_M_settle_127 : decode c_M_settle 127 = .ok (.laload, 1) := by decide +kernel
theorem d_M_settle_128 : decode c_M_settle 128 = .ok (.lastore, 1) := by decide +kernel
theorem d_M_settle_129 : decode c_M_settle 129 = .ok (.iinc 3 1, 3) := by decide +kernel
theorem d_M_settle_132 : decode c_M_settle 132 = .ok (.goto (-50), 3) := by decide +kernel
theorem d_M_settle_135 : decode c_M_settle 135 = .ok (.iconst 0, 1) := by decide +kernel
theorem d_M_settle_136 : decode c_M_settle 136 = .ok (.istore_n 3, 1) := by decide +kernel
theorem d_M_settle_137 : decode c_M_settle 137 = .ok (.iload_n 3, 1) := by decide +kernel
theorem d_M_settle_138 : decode c_M_settle 138 = .ok (.aload_n 0, 1) := by decide +kernel
theorem d_M_settle_139 : decode c_M_settle 139 = .ok (.getfield 64, 3) := by decide +kernel
theorem d_M_settle_142 : decode c_M_settle 142 = .ok (.if_icmp .ge 27, 3) := by decide +kernel
theorem d_M_settle_145 : decode c_M_settle 145 = .ok (.aload_n 0, 1) := by decide +kernel
theorem d_M_settle_146 : decode c_M_settle 146 = .ok (.getfield 19, 3) := by decide +kernel
theorem d_M_settle_149 : decode c_M_settle 149 = .ok (.iload_n 3, 1) := by decide +kernel
theorem d_M_settle_150 : decode c_M_settle 150 = .ok (.iaload, 1) := by decide +kernel
theorem d_M_settle_151 : decode c_M_settle 151 = .ok (.iload_n 2, 1) := by decide +kernel
theorem d_M_settle_152 : decode c_M_settle 152 = .ok (.if_icmp .ne 11, 3) := by decide +kernel
theorem d_M_settle_155 : decode c_M_settle 155 = .ok (.aload_n 0, 1) := by decide +kernel
theorem d_M_settle_156 : decode c_M_settle 156 = .ok (.iload_n 3, 1) := by decide +kernel
theorem d_M_settle_157 : decode c_M_settle 157 = .ok (.invokevirtual 151, 3) := by decide +kernel
theorem d_M_settle_160 : decode c_M_settle 160 = .ok (.iinc 1 1, 3) := by decide +kernel
theorem d_M_settle_163 : decode c_M_settle 163 = .ok (.iinc 3 1, 3) := by decide +kernel
theorem d_M_settle_166 : decode c_M_settle 166 = .ok (.goto (-29), 3) := by decide +kernel
theorem d_M_settle_169 : decode c_M_settle 169 = .ok (.iinc 2 1, 3) := by decide +kernel
theorem d_M_settle_172 : decode c_M_settle 172 = .ok (.goto (-99), 3) := by decide +kernel
theorem d_M_settle_175 : decode c_M_settle 175 = .ok (.iload_n 1, 1) := by decide +kernel
theorem d_M_settle_176 : decode c_M_settle 176 = .ok (.ireturn, 1) := by decide +kernel
theorem d_M_paid_0 : decode c_M_paid 0 = .ok (.aload_n 0, 1) := by decide +kernel
theorem d_M_paid_1 : decode c_M_paid 1 = .ok (.aload_n 0, 1) := by decide +kernel
theorem d_M_paid_2 : decode c_M_paid 2 = .ok (.iload_n 1, 1) := by decide +kernel
theorem d_M_paid_3 : decode c_M_paid 3 = .ok (.invokevirtual 67, 3) := by decide +kernel
theorem d_M_paid_6 : decode c_M_paid 6 = .ok (.ifCond .ne 16, 3) := by decide +kernel
theorem d_M_paid_9 : decode c_M_paid 9 = .ok (.iload_n 2, 1) := by decide +kernel
theorem d_M_paid_10 : decode c_M_paid 10 = .ok (.iconst (-1), 1) := by decide +kernel
theorem d_M_paid_11 : decode c_M_paid 11 = .ok (.if_icmp .eq 15, 3) := by decide +kernel
theorem d_M_paid_14 : decode c_M_paid 14 = .ok (.aload_n 0, 1) := by decide +kernel
theorem d_M_paid_15 : decode c_M_paid 15 = .ok (.iload_n 2, 1) := by decide +kernel
theorem d_M_paid_16 : decode c_M_paid 16 = .ok (.invokevirtual 67, 3) := by decide +kernel
theorem d_M_paid_19 : decode c_M_paid 19 = .ok (.ifCond .eq 7, 3) := by decide +kernel
theorem d_M_paid_22 : decode c_M_paid 22 = .ok (.iconst 1, 1) := by decide +kernel
theorem d_M_paid_23 : decode c_M_paid 23 = .ok (.goto 4, 3) := by decide +kernel
theorem d_M_paid_26 : decode c_M_paid 26 = .ok (.iconst 0, 1) := by decide +kernel
theorem d_M_paid_27 : decode c_M_paid 27 = .ok (.putfield 60, 3) := by decide +kernel
theorem d_M_paid_30 : decode c_M_paid 30 = .ok (.aload_n 0, 1) := by decide +kernel
theorem d_M_paid_31 : decode c_M_paid 31 = .ok (.getfield 60, 3) := by decide +kernel
theorem d_M_paid_34 : decode c_M_paid 34 = .ok (.ifCond .le 7, 3) := by decide +kernel
theorem d_M_paid_37 : decode c_M_paid 37 = .ok (.lconst 0, 1) := by decide +kernel
theorem d_M_paid_38 : decode c_M_paid 38 = .ok (.goto 24, 3) := by decide +kernel
theorem d_M_paid_41 : decode c_M_paid 41 = .ok (.aload_n 0, 1) := by decide +kernel
theorem d_M_paid_42 : decode c_M_paid 42 = .ok (.getfield 51, 3) := by decide +kernel
theorem d_M_paid_45 : decode c_M_paid 45 = .ok (.bipush 21, 2) := by decide +kernel
theorem d_M_paid_47 : decode c_M_paid 47 = .ok (.iload_n 1, 1) := by decide +kernel
theorem d_M_paid_48 : decode c_M_paid 48 = .ok (.imul, 1) := by decide +kernel
theorem d_M_paid_49 : decode c_M_paid 49 = .ok (.iload_n 2, 1) := by decide +kernel
theorem d_M_paid_50 : decode c_M_paid 50 = .ok (.iconst (-1), 1) := by decide +kernel
theorem d_M_paid_51 : decode c_M_paid 51 = .ok (.if_icmp .ne 8, 3) := by decide +kernel
theorem d_M_paid_54 : decode c_M_paid 54 = .ok (.bipush 20, 2) := by decide +kernel
theorem d_M_paid_56 : decode c_M_paid 56 = .ok (.goto 4, 3) := by decide +kernel
theorem d_M_paid_59 : decode c_M_paid 59 = .ok (.iload_n 2, 1) := by decide +kernel
theorem d_M_paid_60 : decode c_M_paid 60 = .ok (.iadd, 1) := by decide +kernel
theorem d_M_paid_61 : decode c_M_paid 61 = .ok (.laload, 1) := by decide +kernel
theorem d_M_paid_62 : decode c_M_paid 62 = .ok (.lreturn, 1) := by decide +kernel
theorem d_M_total_0 : decode c_M_total 0 = .ok (.aload_n 0, 1) := by decide +kernel
theorem d_M_total_1 : decode c_M_total 1 = .ok (.aload_n 0, 1) := by decide +kernel
theorem d_M_total_2 : decode c_M_total 2 = .ok (.iload_n 1, 1) := by decide +kernel
theorem d_M_total_3 : decode c_M_total 3 = .ok (.invokevirtual 67, 3) := by decide +kernel
theorem d_M_total_6 : decode c_M_total 6 = .ok (.ifCond .eq 7, 3) := by decide +kernel
theorem d_M_total_9 : decode c_M_total 9 = .ok (.iconst 1, 1) := by decide +kernel
theorem d_M_total_10 : decode c_M_total 10 = .ok (.goto 4, 3) := by decide +kernel
theorem d_M_total_13 : decode c_M_total 13 = .ok (.iconst 0, 1) := by decide +kernel
theorem d_M_total_14 : decode c_M_total 14 = .ok (.putfield 60, 3) := by decide +kernel
theorem d_M_total_17 : decode c_M_total 17 = .ok (.aload_n 0, 1) := by decide +kernel
theorem d_M_total_18 : decode c_M_total 18 = .ok (.getfield 60, 3) := by decide +kernel
theorem d_M_total_21 : decode c_M_total 21 = .ok (.ifCond .le 7, 3) := by decide +kernel
theorem d_M_total_24 : decode c_M_total 24 = .ok (.lconst 0, 1) := by decide +kernel
theorem d_M_total_25 : decode c_M_total 25 = .ok (.goto 9, 3) := by decide +kernel
theorem d_M_total_28 : decode c_M_total 28 = .ok (.aload_n 0, 1) := by decide +kernel
theorem d_M_total_29 : decode c_M_total 29 = .ok (.getfield 54, 3) := by decide +kernel
theorem d_M_total_32 : decode c_M_total 32 = .ok (.iload_n 1, 1) := by decide +kernel
theorem d_M_total_33 : decode c_M_total 33 = .ok (.laload, 1) := by decide +kernel
theorem d_M_total_34 : decode c_M_total 34 = .ok (.lreturn, 1) := by decide +kernel
theorem d_M_got_0 : decode c_M_got 0 = .ok (.aload_n 0, 1) := by decide +kernel
theorem d_M_got_1 : decode c_M_got 1 = .ok (.iload_n 1, 1) := by decide +kernel
theorem d_M_got_2 : decode c_M_got 2 = .ok (.iconst (-1), 1) := by decide +kernel
theorem d_M_got_3 : decode c_M_got 3 = .ok (.if_icmp .eq 15, 3) := by decide +kernel
theorem d_M_got_6 : decode c_M_got 6 = .ok (.aload_n 0, 1) := by decide +kernel
theorem d_M_got_7 : decode c_M_got 7 = .ok (.iload_n 1, 1) := by decide +kernel
theorem d_M_got_8 : decode c_M_got 8 = .ok (.invokevirtual 67, 3) := by decide +kernel
theorem d_M_got_11 : decode c_M_got 11 = .ok (.ifCond .eq 7, 3) := by decide +kernel
theorem d_M_got_14 : decode c_M_got 14 = .ok (.iconst 1, 1) := by decide +kernel
theorem d_M_got_15 : decode c_M_got 15 = .ok (.goto 4, 3) := by decide +kernel
theorem d_M_got_18 : decode c_M_got 18 = .ok (.iconst 0, 1) := by decide +kernel
theorem d_M_got_19 : decode c_M_got 19 = .ok (.putfield 60, 3) := by decide +kernel
theorem d_M_got_22 : decode c_M_got 22 = .ok (.aload_n 0, 1) := by decide +kernel
theorem d_M_got_23 : decode c_M_got 23 = .ok (.getfield 60, 3) := by decide +kernel
theorem d_M_got_26 : decode c_M_got 26 = .ok (.ifCond .le 7, 3) := by decide +kernel
theorem d_M_got_29 : decode c_M_got 29 = .ok (.lconst 0, 1) := by decide +kernel
theorem d_M_got_30 : decode c_M_got 30 = .ok (.goto 19, 3) := by decide +kernel
theorem d_M_got_33 : decode c_M_got 33 = .ok (.aload_n 0, 1) := by decide +kernel
theorem d_M_got_34 : decode c_M_got 34 = .ok (.getfield 57, 3) := by decide +kernel
theorem d_M_got_37 : decode c_M_got 37 = .ok (.iload_n 1, 1) := by decide +kernel
theorem d_M_got_38 : decode c_M_got 38 = .ok (.iconst (-1), 1) := by decide +kernel
theorem d_M_got_39 : decode c_M_got 39 = .ok (.if_icmp .ne 8, 3) := by decide +kernel
theorem d_M_got_42 : decode c_M_got 42 = .ok (.bipush 20, 2) := by decide +kernel
theorem d_M_got_44 : decode c_M_got 44 = .ok (.goto 4, 3) := by decide +kernel
theorem d_M_got_47 : decode c_M_got 47 = .ok (.iload_n 1, 1) := by decide +kernel
theorem d_M_got_48 : decode c_M_got 48 = .ok (.laload, 1) := by decide +kernel
theorem d_M_got_49 : decode c_M_got 49 = .ok (.lreturn, 1) := by decide +kernel
end
section
theorem d_W_person_0 : decode c_W_person 0 = .ok (.aload_n 3, 1) := by decide +kernel
theorem d_W_person_1 : decode c_W_person 1 = .ok (.iconst 0, 1) := by decide +kernel
theorem d_W_person_2 : decode c_W_person 2 = .ok (.aload_n 0, 1) := by decide +kernel
theorem d_W_person_3 : decode c_W_person 3 = .ok (.iload_n 1, 1) := by decide +kernel
theorem d_W_person_4 : decode c_W_person 4 = .ok (.iload_n 2, 1) := by decide +kernel
theorem d_W_person_5 : decode c_W_person 5 = .ok (.invokevirtual 7, 3) := by decide +kernel
theorem d_W_person_8 : decode c_W_person 8 = .ok (.i2l, 1) := by decide +kernel
theorem d_W_person_9 : decode c_W_person 9 = .ok (.lastore, 1) := by decide +kernel
theorem d_W_person_10 : decode c_W_person 10 = .ok (.goto 11, 3) := by decide +kernel
theorem d_W_person_13 : decode c_W_person 13 = .ok (.astore 4, 2) := by decide +kernel
theorem d_W_person_15 : decode c_W_person 15 = .ok (.iconst 1, 1) := by decide +kernel
theorem d_W_person_16 : decode c_W_person 16 = .ok (.ireturn, 1) := by decide +kernel
theorem d_W_person_17 : decode c_W_person 17 = .ok (.astore 4, 2) := by decide +kernel
theorem d_W_person_19 : decode c_W_person 19 = .ok (.iconst 2, 1) := by decide +kernel
theorem d_W_person_20 : decode c_W_person 20 = .ok (.ireturn, 1) := by decide +kernel
theorem d_W_person_21 : decode c_W_person 21 = .ok (.iconst 0, 1) := by decide +kernel
theorem d_W_person_22 : decode c_W_person 22 = .ok (.ireturn, 1) := by decide +kernel
theorem d_W_amend_0 : decode c_W_amend 0 = .ok (.aload_n 0, 1) := by decide +kernel
theorem d_W_amend_1 : decode c_W_amend 1 = .ok (.iload_n 1, 1) := by decide +kernel
theorem d_W_amend_2 : decode c_W_amend 2 = .ok (.iload_n 2, 1) := by decide +kernel
theorem d_W_amend_3 : decode c_W_amend 3 = .ok (.iload_n 3, 1) := by decide +kernel
theorem d_W_amend_4 : decode c_W_amend 4 = .ok (.invokevirtual 17, 3) := by decide +kernel
theorem d_W_amend_7 : decode c_W_amend 7 = .ok (.goto 7, 3) := by decide +kernel
theorem d_W_amend_10 : decode c_W_amend 10 = .ok (.astore 4, 2) := by decide +kernel
theorem d_W_amend_12 : decode c_W_amend 12 = .ok (.iconst 1, 1) := by decide +kernel
theorem d_W_amend_13 : decode c_W_amend 13 = .ok (.ireturn, 1) := by decide +kernel
theorem d_W_amend_14 : decode c_W_amend 14 = .ok (.iconst 0, 1) := by decide +kernel
theorem d_W_amend_15 : decode c_W_amend 15 = .ok (.ireturn, 1) := by decide +kernel
theorem d_W_marry_0 : decode c_W_marry 0 = .ok (.aload_n 0, 1) := by decide +kernel
theorem d_W_marry_1 : decode c_W_marry 1 = .ok (.iload_n 1, 1) := by decide +kernel
theorem d_W_marry_2 : decode c_W_marry 2 = .ok (.iload_n 2, 1) := by decide +kernel
theorem d_W_marry_3 : decode c_W_marry 3 = .ok (.invokevirtual 21, 3) := by decide +kernel
theorem d_W_marry_6 : decode c_W_marry 6 = .ok (.goto 9, 3) := by decide +kernel
theorem d_W_marry_9 : decode c_W_marry 9 = .ok (.astore_n 3, 1) := by decide +kernel
theorem d_W_marry_10 : decode c_W_marry 10 = .ok (.iconst 1, 1) := by decide +kernel
theorem d_W_marry_11 : decode c_W_marry 11 = .ok (.ireturn, 1) := by decide +kernel
theorem d_W_marry_12 : decode c_W_marry 12 = .ok (.astore_n 3, 1) := by decide +kernel
theorem d_W_marry_13 : decode c_W_marry 13 = .ok (.iconst 2, 1) := by decide +kernel
theorem d_W_marry_14 : decode c_W_marry 14 = .ok (.ireturn, 1) := by decide +kernel
theorem d_W_marry_15 : decode c_W_marry 15 = .ok (.iconst 0, 1) := by decide +kernel
theorem d_W_marry_16 : decode c_W_marry 16 = .ok (.ireturn, 1) := by decide +kernel
theorem d_W_divorce_0 : decode c_W_divorce 0 = .ok (.aload_n 2, 1) := by decide +kernel
theorem d_W_divorce_1 : decode c_W_divorce 1 = .ok (.iconst 0, 1) := by decide +kernel
theorem d_W_divorce_2 : decode c_W_divorce 2 = .ok (.aload_n 0, 1) := by decide +kernel
theorem d_W_divorce_3 : decode c_W_divorce 3 = .ok (.iload_n 1, 1) := by decide +kernel
theorem d_W_divorce_4 : decode c_W_divorce 4 = .ok (.invokevirtual 25, 3) := by decide +kernel
theorem d_W_divorce_7 : decode c_W_divorce 7 = .ok (.ifCond .eq 7, 3) := by decide +kernel
theorem d_W_divorce_10 : decode c_W_divorce 10 = .ok (.lconst 1, 1) := by decide +kernel
theorem d_W_divorce_11 : decode c_W_divorce 11 = .ok (.goto 4, 3) := by decide +kernel
theorem d_W_divorce_14 : decode c_W_divorce 14 = .ok (.lconst 0, 1) := by decide +kernel
theorem d_W_divorce_15 : decode c_W_divorce 15 = .ok (.lastore, 1) := by decide +kernel
theorem d_W_divorce_16 : decode c_W_divorce 16 = .ok (.goto 6, 3) := by decide +kernel
theorem d_W_divorce_19 : decode c_W_divorce 19 = .ok (.astore_n 3, 1) := by decide +kernel
theorem d_W_divorce_20 : decode c_W_divorce 20 = .ok (.iconst 1, 1) := by decide +kernel
theorem d_W_divorce_21 : decode c_W_divorce 21 = .ok (.ireturn, 1) := by decide +kernel
theorem d_W_divorce_22 : decode c_W_divorce 22 = .ok (.iconst 0, 1) := by decide +kernel
theorem d_W_divorce_23 : decode c_W_divorce 23 = .ok (.ireturn, 1) := by decide +kernel
theorem d_W_spouse_0 : decode c_W_spouse 0 = .ok (.aload_n 2, 1) := by decide +kernel
theorem d_W_spouse_1 : decode c_W_spouse 1 = .ok (.iconst 0, 1) := by decide +kernel
theorem d_W_spouse_2 : decode c_W_spouse 2 = .ok (.aload_n 0, 1) := by decide +kernel
theorem d_W_spouse_3 : decode c_W_spouse 3 = .ok (.iload_n 1, 1) := by decide +kernel
theorem d_W_spouse_4 : decode c_W_spouse 4 = .ok (.invokevirtual 29, 3) := by decide +kernel
theorem d_W_spouse_7 : decode c_W_spouse 7 = .ok (.i2l, 1) := by decide +kernel
theorem d_W_spouse_8 : decode c_W_spouse 8 = .ok (.lastore, 1) := by decide +kernel
theorem d_W_spouse_9 : decode c_W_spouse 9 = .ok (.goto 6, 3) := by decide +kernel
theorem d_W_spouse_12 : decode c_W_spouse 12 = .ok (.astore_n 3, 1) := by decide +kernel
theorem d_W_spouse_13 : decode c_W_spouse 13 = .ok (.iconst 1, 1) := by decide +kernel
theorem d_W_spouse_14 : decode c_W_spouse 14 = .ok (.ireturn, 1) := by decide +kernel
theorem d_W_spouse_15 : decode c_W_spouse 15 = .ok (.iconst 0, 1) := by decide +kernel
theorem d_W_spouse_16 : decode c_W_spouse 16 = .ok (.ireturn, 1) := by decide +kernel
theorem d_W_dies_0 : decode c_W_dies 0 = .ok (.aload_n 0, 1) := by decide +kernel
theorem d_W_dies_1 : decode c_W_dies 1 = .ok (.iload_n 1, 1) := by decide +kernel
theorem d_W_dies_2 : decode c_W_dies 2 = .ok (.iload_n 2, 1) := by decide +kernel
theorem d_W_dies_3 : decode c_W_dies 3 = .ok (.invokevirtual 33, 3) := by decide +kernel
theorem d_W_dies_6 : decode c_W_dies 6 = .ok (.goto 9, 3) := by decide +kernel
theorem d_W_dies_9 : decode c_W_dies 9 = .ok (.astore_n 3, 1) := by decide +kernel
theorem d_W_dies_10 : decode c_W_dies 10 = .ok (.iconst 1, 1) := by decide +kernel
theorem d_W_dies_11 : decode c_W_dies 11 = .ok (.ireturn, 1) := by decide +kernel
theorem d_W_dies_12 : decode c_W_dies 12 = .ok (.astore_n 3, 1) := by decide +kernel
theorem d_W_dies_13 : decode c_W_dies 13 = .ok (.iconst 2, 1) := by decide +kernel
theorem d_W_dies_14 : decode c_W_dies 14 = .ok (.ireturn, 1) := by decide +kernel
theorem d_W_dies_15 : decode c_W_dies 15 = .ok (.iconst 0, 1) := by decide +kernel
theorem d_W_dies_16 : decode c_W_dies 16 = .ok (.ireturn, 1) := by decide +kernel
theorem d_W_exclude_0 : decode c_W_exclude 0 = .ok (.aload 4, 2) := by decide +kernel
theorem d_W_exclude_2 : decode c_W_exclude 2 = .ok (.iconst 0, 1) := by decide +kernel
theorem d_W_exclude_3 : decode c_W_exclude 3 = .ok (.aload_n 0, 1) := by decide +kernel
theorem d_W_exclude_4 : decode c_W_exclude 4 = .ok (.iload_n 1, 1) := by decide +kernel
theorem d_W_exclude_5 : decode c_W_exclude 5 = .ok (.iload_n 2, 1) := by decide +kernel
theorem d_W_exclude_6 : decode c_W_exclude 6 = .ok (.iload_n 3, 1) := by decide +kernel
theorem d_W_exclude_7 : decode c_W_exclude 7 = .ok (.invokevirtual 36, 3) := by decide +kernel
theorem d_W_exclude_10 : decode c_W_exclude 10 = .ok (.ifCond .eq 7, 3) := by decide +kernel
theorem d_W_exclude_13 : decode c_W_exclude 13 = .ok (.lconst 1, 1) := by decide +kernel
theorem d_W_exclude_14 : decode c_W_exclude 14 = .ok (.goto 4, 3) := by decide +kernel
theorem d_W_exclude_17 : decode c_W_exclude 17 = .ok (.lconst 0, 1) := by decide +kernel
theorem d_W_exclude_18 : decode c_W_exclude 18 = .ok (.lastore, 1) := by decide +kernel
theorem d_W_exclude_19 : decode c_W_exclude 19 = .ok (.goto 7, 3) := by decide +kernel
theorem d_W_exclude_22 : decode c_W_exclude 22 = .ok (.astore 5, 2) := by decide +kernel
theorem d_W_exclude_24 : decode c_W_exclude 24 = .ok (.iconst 1, 1) := by decide +kernel
theorem d_W_exclude_25 : decode c_W_exclude 25 = .ok (.ireturn, 1) := by decide +kernel
theorem d_W_exclude_26 : decode c_W_exclude 26 = .ok (.iconst 0, 1) := by decide +kernel
theorem d_W_exclude_27 : decode c_W_exclude 27 = .ok (.ireturn, 1) := by decide +kernel
theorem d_W_gift_0 : decode c_W_gift 0 = .ok (.aload 4, 2) := by decide +kernel
theorem d_W_gift_2 : decode c_W_gift 2 = .ok (.iconst 0, 1) := by decide +kernel
theorem d_W_gift_3 : decode c_W_gift 3 = .ok (.aload_n 0, 1) := by decide +kernel
theorem d_W_gift_4 : decode c_W_gift 4 = .ok (.iload_n 1, 1) := by decide +kernel
theorem d_W_gift_5 : decode c_W_gift 5 = .ok (.iload_n 2, 1) := by decide +kernel
theorem d_W_gift_6 : decode c_W_gift 6 = .ok (.iload_n 3, 1) := by decide +kernel
theorem d_W_gift_7 : decode c_W_gift 7 = .ok (.invokevirtual 40, 3) := by decide +kernel
theorem d_W_gift_10 : decode c_W_gift 10 = .ok (.i2l, 1) := by decide +kernel
theorem d_W_gift_11 : decode c_W_gift 11 = .ok (.lastore, 1) := by decide +kernel
theorem d_W_gift_12 : decode c_W_gift 12 = .ok (.goto 11, 3) := by decide +kernel
theorem d_W_gift_15 : decode c_W_gift 15 = .ok (.astore 5, 2) := by decide +kernel
theorem d_W_gift_17 : decode c_W_gift 17 = .ok (.iconst 1, 1) := by decide +kernel
theorem d_W_gift_18 : decode c_W_gift 18 = .ok (.ireturn, 1) := by decide +kernel
theorem d_W_gift_19 : decode c_W_gift 19 = .ok (.astore 5, 2) := by decide +kernel
theorem d_W_gift_21 : decode c_W_gift 21 = .ok (.iconst 2, 1) := by decide +kernel
theorem d_W_gift_22 : decode c_W_gift 22 = .ok (.ireturn, 1) := by decide +kernel
theorem d_W_gift_23 : decode c_W_gift 23 = .ok (.iconst 0, 1) := by decide +kernel
theorem d_W_gift_24 : decode c_W_gift 24 = .ok (.ireturn, 1) := by decide +kernel
theorem d_W_estate_0 : decode c_W_estate 0 = .ok (.aload_n 0, 1) := by decide +kernel
theorem d_W_estate_1 : decode c_W_estate 1 = .ok (.iload_n 1, 1) := by decide +kernel
theorem d_W_estate_2 : decode c_W_estate 2 = .ok (.iload_n 2, 1) := by decide +kernel
theorem d_W_estate_3 : decode c_W_estate 3 = .ok (.invokevirtual 44, 3) := by decide +kernel
theorem d_W_estate_6 : decode c_W_estate 6 = .ok (.goto 6, 3) := by decide +kernel
theorem d_W_estate_9 : decode c_W_estate 9 = .ok (.astore_n 3, 1) := by decide +kernel
theorem d_W_estate_10 : decode c_W_estate 10 = .ok (.iconst 1, 1) := by decide +kernel
theorem d_W_estate_11 : decode c_W_estate 11 = .ok (.ireturn, 1) := by decide +kernel
theorem d_W_estate_12 : decode c_W_estate 12 = .ok (.iconst 0, 1) := by decide +kernel
theorem d_W_estate_13 : decode c_W_estate 13 = .ok (.ireturn, 1) := by decide +kernel
theorem d_W_heirs_0 : decode c_W_heirs 0 = .ok (.aload_n 2, 1) := by decide +kernel
theorem d_W_heirs_1 : decode c_W_heirs 1 = .ok (.iconst 0, 1) := by decide +kernel
theorem d_W_heirs_2 : decode c_W_heirs 2 = .ok (.aload_n 0, 1) := by decide +kernel
theorem d_W_heirs_3 : decode c_W_heirs 3 = .ok (.iload_n 1, 1) := by decide +kernel
theorem d_W_heirs_4 : decode c_W_heirs 4 = .ok (.invokevirtual 47, 3) := by decide +kernel
theorem d_W_heirs_7 : decode c_W_heirs 7 = .ok (.i2l, 1) := by decide +kernel
theorem d_W_heirs_8 : decode c_W_heirs 8 = .ok (.lastore, 1) := by decide +kernel
theorem d_W_heirs_9 : decode c_W_heirs 9 = .ok (.goto 9, 3) := by decide +kernel
theorem d_W_heirs_12 : decode c_W_heirs 12 = .ok (.astore_n 3, 1) := by decide +kernel
theorem d_W_heirs_13 : decode c_W_heirs 13 = .ok (.iconst 1, 1) := by decide +kernel
theorem d_W_heirs_14 : decode c_W_heirs 14 = .ok (.ireturn, 1) := by decide +kernel
theorem d_W_heirs_15 : decode c_W_heirs 15 = .ok (.astore_n 3, 1) := by decide +kernel
theorem d_W_heirs_16 : decode c_W_heirs 16 = .ok (.iconst 2, 1) := by decide +kernel
theorem d_W_heirs_17 : decode c_W_heirs 17 = .ok (.ireturn, 1) := by decide +kernel
theorem d_W_heirs_18 : decode c_W_heirs 18 = .ok (.iconst 0, 1) := by decide +kernel
theorem d_W_heirs_19 : decode c_W_heirs 19 = .ok (.ireturn, 1) := by decide +kernel
theorem d_W_heir_0 : decode c_W_heir 0 = .ok (.aload_n 3, 1) := by decide +kernel
theorem d_W_heir_1 : decode c_W_heir 1 = .ok (.iconst 0, 1) := by decide +kernel
theorem d_W_heir_2 : decode c_W_heir 2 = .ok (.aload_n 0, 1) := by decide +kernel
theorem d_W_heir_3 : decode c_W_heir 3 = .ok (.iload_n 1, 1) := by decide +kernel
theorem d_W_heir_4 : decode c_W_heir 4 = .ok (.iload_n 2, 1) := by decide +kernel
theorem d_W_heir_5 : decode c_W_heir 5 = .ok (.invokevirtual 50, 3) := by decide +kernel
theorem d_W_heir_8 : decode c_W_heir 8 = .ok (.i2l, 1) := by decide +kernel
theorem d_W_heir_9 : decode c_W_heir 9 = .ok (.lastore, 1) := by decide +kernel
theorem d_W_heir_10 : decode c_W_heir 10 = .ok (.goto 11, 3) := by decide +kernel
theorem d_W_heir_13 : decode c_W_heir 13 = .ok (.astore 4, 2) := by decide +kernel
theorem d_W_heir_15 : decode c_W_heir 15 = .ok (.iconst 1, 1) := by decide +kernel
theorem d_W_heir_16 : decode c_W_heir 16 = .ok (.ireturn, 1) := by decide +kernel
theorem d_W_heir_17 : decode c_W_heir 17 = .ok (.astore 4, 2) := by decide +kernel
theorem d_W_heir_19 : decode c_W_heir 19 = .ok (.iconst 2, 1) := by decide +kernel
theorem d_W_heir_20 : decode c_W_heir 20 = .ok (.ireturn, 1) := by decide +kernel
theorem d_W_heir_21 : decode c_W_heir 21 = .ok (.iconst 0, 1) := by decide +kernel
theorem d_W_heir_22 : decode c_W_heir 22 = .ok (.ireturn, 1) := by decide +kernel
theorem d_W_share_0 : decode c_W_share 0 = .ok (.aload_n 3, 1) := by decide +kernel
theorem d_W_share_1 : decode c_W_share 1 = .ok (.iconst 0, 1) := by decide +kernel
theorem d_W_share_2 : decode c_W_share 2 = .ok (.aload_n 0, 1) := by decide +kernel
theorem d_W_share_3 : decode c_W_share 3 = .ok (.iload_n 1, 1) := by decide +kernel
theorem d_W_share_4 : decode c_W_share 4 = .ok (.iload_n 2, 1) := by decide +kernel
theorem d_W_share_5 : decode c_W_share 5 = .ok (.invokevirtual 53, 3) := by decide +kernel
theorem d_W_share_8 : decode c_W_share 8 = .ok (.lastore, 1) := by decide +kernel
theorem d_W_share_9 : decode c_W_share 9 = .ok (.goto 11, 3) := by decide +kernel
theorem d_W_share_12 : decode c_W_share 12 = .ok (.astore 4, 2) := by decide +kernel
theorem d_W_share_14 : decode c_W_share 14 = .ok (.iconst 1, 1) := by decide +kernel
theorem d_W_share_15 : decode c_W_share 15 = .ok (.ireturn, 1) := by decide +kernel
theorem d_W_share_16 : decode c_W_share 16 = .ok (.astore 4, 2) := by decide +kernel
theorem d_W_share_18 : decode c_W_share 18 = .ok (.iconst 2, 1) := by decide +kernel
theorem d_W_share_19 : decode c_W_share 19 = .ok (.ireturn, 1) := by decide +kernel
theorem d_W_share_20 : decode c_W_share 20 = .ok (.iconst 0, 1) := by decide +kernel
theorem d_W_share_21 : decode c_W_share 21 = .ok (.ireturn, 1) := by decide +kernel
theorem d_W_order_0 : decode c_W_order 0 = .ok (.aload_n 2, 1) := by decide +kernel
theorem d_W_order_1 : decode c_W_order 1 = .ok (.iconst 0, 1) := by decide +kernel
theorem d_W_order_2 : decode c_W_order 2 = .ok (.aload_n 0, 1) := by decide +kernel
theorem d_W_order_3 : decode c_W_order 3 = .ok (.iload_n 1, 1) := by decide +kernel
theorem d_W_order_4 : decode c_W_order 4 = .ok (.invokevirtual 57, 3) := by decide +kernel
theorem d_W_order_7 : decode c_W_order 7 = .ok (.i2l, 1) := by decide +kernel
theorem d_W_order_8 : decode c_W_order 8 = .ok (.lastore, 1) := by decide +kernel
theorem d_W_order_9 : decode c_W_order 9 = .ok (.goto 9, 3) := by decide +kernel
theorem d_W_order_12 : decode c_W_order 12 = .ok (.astore_n 3, 1) := by decide +kernel
theorem d_W_order_13 : decode c_W_order 13 = .ok (.iconst 1, 1) := by decide +kernel
theorem d_W_order_14 : decode c_W_order 14 = .ok (.ireturn, 1) := by decide +kernel
theorem d_W_order_15 : decode c_W_order 15 = .ok (.astore_n 3, 1) := by decide +kernel
theorem d_W_order_16 : decode c_W_order 16 = .ok (.iconst 2, 1) := by decide +kernel
theorem d_W_order_17 : decode c_W_order 17 = .ok (.ireturn, 1) := by decide +kernel
theorem d_W_order_18 : decode c_W_order 18 = .ok (.iconst 0, 1) := by decide +kernel
theorem d_W_order_19 : decode c_W_order 19 = .ok (.ireturn, 1) := by decide +kernel
theorem d_W_stem_0 : decode c_W_stem 0 = .ok (.aload_n 3, 1) := by decide +kernel
theorem d_W_stem_1 : decode c_W_stem 1 = .ok (.iconst 0, 1) := by decide +kernel
theorem d_W_stem_2 : decode c_W_stem 2 = .ok (.aload_n 0, 1) := by decide +kernel
theorem d_W_stem_3 : decode c_W_stem 3 = .ok (.iload_n 1, 1) := by decide +kernel
theorem d_W_stem_4 : decode c_W_stem 4 = .ok (.iload_n 2, 1) := by decide +kernel
theorem d_W_stem_5 : decode c_W_stem 5 = .ok (.invokevirtual 60, 3) := by decide +kernel
theorem d_W_stem_8 : decode c_W_stem 8 = .ok (.i2l, 1) := by decide +kernel
theorem d_W_stem_9 : decode c_W_stem 9 = .ok (.lastore, 1) := by decide +kernel
theorem d_W_stem_10 : decode c_W_stem 10 = .ok (.goto 11, 3) := by decide +kernel
theorem d_W_stem_13 : decode c_W_stem 13 = .ok (.astore 4, 2) := by decide +kernel
theorem d_W_stem_15 : decode c_W_stem 15 = .ok (.iconst 1, 1) := by decide +kernel
theorem d_W_stem_16 : decode c_W_stem 16 = .ok (.ireturn, 1) := by decide +kernel
theorem d_W_stem_17 : decode c_W_stem 17 = .ok (.astore 4, 2) := by decide +kernel
theorem d_W_stem_19 : decode c_W_stem 19 = .ok (.iconst 2, 1) := by decide +kernel
theorem d_W_stem_20 : decode c_W_stem 20 = .ok (.ireturn, 1) := by decide +kernel
theorem d_W_stem_21 : decode c_W_stem 21 = .ok (.iconst 0, 1) := by decide +kernel
theorem d_W_stem_22 : decode c_W_stem 22 = .ok (.ireturn, 1) := by decide +kernel
theorem d_W_paid_0 : decode c_W_paid 0 = .ok (.aload_n 3, 1) := by decide +kernel
theorem d_W_paid_1 : decode c_W_paid 1 = .ok (.iconst 0, 1) := by decide +kernel
theorem d_W_paid_2 : decode c_W_paid 2 = .ok (.aload_n 0, 1) := by decide +kernel
theorem d_W_paid_3 : decode c_W_paid 3 = .ok (.iload_n 1, 1) := by decide +kernel
theorem d_W_paid_4 : decode c_W_paid 4 = .ok (.iload_n 2, 1) := by decide +kernel
theorem d_W_paid_5 : decode c_W_paid 5 = .ok (.invokevirtual 63, 3) := by decide +kernel
theorem d_W_paid_8 : decode c_W_paid 8 = .ok (.lastore, 1) := by decide +kernel
theorem d_W_paid_9 : decode c_W_paid 9 = .ok (.goto 7, 3) := by decide +kernel
theorem d_W_paid_12 : decode c_W_paid 12 = .ok (.astore 4, 2) := by decide +kernel
theorem d_W_paid_14 : decode c_W_paid 14 = .ok (.iconst 1, 1) := by decide +kernel
theorem d_W_paid_15 : decode c_W_paid 15 = .ok (.ireturn, 1) := by decide +kernel
theorem d_W_paid_16 : decode c_W_paid 16 = .ok (.iconst 0, 1) := by decide +kernel
theorem d_W_paid_17 : decode c_W_paid 17 = .ok (.ireturn, 1) := by decide +kernel
theorem d_W_total_0 : decode c_W_total 0 = .ok (.aload_n 2, 1) := by decide +kernel
theorem d_W_total_1 : decode c_W_total 1 = .ok (.iconst 0, 1) := by decide +kernel
theorem d_W_total_2 : decode c_W_total 2 = .ok (.aload_n 0, 1) := by decide +kernel
theorem d_W_total_3 : decode c_W_total 3 = .ok (.iload_n 1, 1) := by decide +kernel
theorem d_W_total_4 : decode c_W_total 4 = .ok (.invokevirtual 66, 3) := by decide +kernel
theorem d_W_total_7 : decode c_W_total 7 = .ok (.lastore, 1) := by decide +kernel
theorem d_W_total_8 : decode c_W_total 8 = .ok (.goto 6, 3) := by decide +kernel
theorem d_W_total_11 : decode c_W_total 11 = .ok (.astore_n 3, 1) := by decide +kernel
theorem d_W_total_12 : decode c_W_total 12 = .ok (.iconst 1, 1) := by decide +kernel
theorem d_W_total_13 : decode c_W_total 13 = .ok (.ireturn, 1) := by decide +kernel
theorem d_W_total_14 : decode c_W_total 14 = .ok (.iconst 0, 1) := by decide +kernel
theorem d_W_total_15 : decode c_W_total 15 = .ok (.ireturn, 1) := by decide +kernel
theorem d_W_got_0 : decode c_W_got 0 = .ok (.aload_n 2, 1) := by decide +kernel
theorem d_W_got_1 : decode c_W_got 1 = .ok (.iconst 0, 1) := by decide +kernel
theorem d_W_got_2 : decode c_W_got 2 = .ok (.aload_n 0, 1) := by decide +kernel
theorem d_W_got_3 : decode c_W_got 3 = .ok (.iload_n 1, 1) := by decide +kernel
theorem d_W_got_4 : decode c_W_got 4 = .ok (.invokevirtual 70, 3) := by decide +kernel
theorem d_W_got_7 : decode c_W_got 7 = .ok (.lastore, 1) := by decide +kernel
theorem d_W_got_8 : decode c_W_got 8 = .ok (.goto 6, 3) := by decide +kernel
theorem d_W_got_11 : decode c_W_got 11 = .ok (.astore_n 3, 1) := by decide +kernel
theorem d_W_got_12 : decode c_W_got 12 = .ok (.iconst 1, 1) := by decide +kernel
theorem d_W_got_13 : decode c_W_got 13 = .ok (.ireturn, 1) := by decide +kernel
theorem d_W_got_14 : decode c_W_got 14 = .ok (.iconst 0, 1) := by decide +kernel
theorem d_W_got_15 : decode c_W_got 15 = .ok (.ireturn, 1) := by decide +kernel
theorem d_W_law_0 : decode code 0 = .ok (.new 8, 3) := by decide +kernel
theorem d_W_law_3 : decode code 3 = .ok (.dup, 1) := by decide +kernel
theorem d_W_law_4 : decode code 4 = .ok (.invokespecial 73, 3) := by decide +kernel
theorem d_W_law_7 : decode code 7 = .ok (.astore_n 1, 1) := by decide +kernel
theorem d_W_law_8 : decode code 8 = .ok (.new 74, 3) := by decide +kernel
theorem d_W_law_11 : decode code 11 = .ok (.dup, 1) := by decide +kernel
theorem d_W_law_12 : decode code 12 = .ok (.invokespecial 76, 3) := by decide +kernel
theorem d_W_law_15 : decode code 15 = .ok (.astore_n 2, 1) := by decide +kernel
theorem d_W_law_16 : decode code 16 = .ok (.iconst 1, 1) := by decide +kernel
theorem d_W_law_17 : decode code 17 = .ok (.newarray .long, 2) := by decide +kernel
theorem d_W_law_19 : decode code 19 = .ok (.astore_n 3, 1) := by decide +kernel
theorem d_W_law_20 : decode code 20 = .ok (.iconst 0, 1) := by decide +kernel
theorem d_W_law_21 : decode code 21 = .ok (.istore 4, 2) := by decide +kernel
theorem d_W_law_23 : decode code 23 = .ok (.iload 4, 2) := by decide +kernel
theorem d_W_law_25 : decode code 25 = .ok (.aload_n 0, 1) := by decide +kernel
theorem d_W_law_26 : decode code 26 = .ok (.arraylength, 1) := by decide +kernel
theorem d_W_law_27 : decode code 27 = .ok (.iconst 4, 1) := by decide +kernel
theorem d_W_law_28 : decode code 28 = .ok (.isub, 1) := by decide +kernel
theorem d_W_law_29 : decode code 29 = .ok (.if_icmp .gt 1180, 3) := by decide +kernel
theorem d_W_law_32 : decode code 32 = .ok (.aload_n 0, 1) := by decide +kernel
theorem d_W_law_33 : decode code 33 = .ok (.iload 4, 2) := by decide +kernel
theorem d_W_law_35 : decode code 35 = .ok (.iaload, 1) := by decide +kernel
theorem d_W_law_36 : decode code 36 = .ok (.bipush 31, 2) := by decide +kernel
theorem d_W_law_38 : decode code 38 = .ok (.iand, 1) := by decide +kernel
theorem d_W_law_39 : decode code 39 = .ok (.tableswitch 1164 0 17 #[85, 153, 213, 261, 324, 380, 428, 531, 611, 659, 715, 783, 850, 906, 974, 987, 1054, 1109], 85) := by decide +kernel
theorem d_W_law_124 : decode code 124 = .ok (.aload_n 1, 1) := by decide +kernel
theorem d_W_law_125 : decode code 125 = .ok (.aload_n 0, 1) := by decide +kernel
theorem d_W_law_126 : decode code 126 = .ok (.iload 4, 2) := by decide +kernel
theorem d_W_law_128 : decode code 128 = .ok (.iconst 1, 1) := by decide +kernel
theorem d_W_law_129 : decode code 129 = .ok (.iadd, 1) := by decide +kernel
theorem d_W_law_130 : decode code 130 = .ok (.iaload, 1) := by decide +kernel
theorem d_W_law_131 : decode code 131 = .ok (.aload_n 0, 1) := by decide +kernel
theorem d_W_law_132 : decode code 132 = .ok (.iload 4, 2) := by decide +kernel
theorem d_W_law_134 : decode code 134 = .ok (.iconst 2, 1) := by decide +kernel
theorem d_W_law_135 : decode code 135 = .ok (.iadd, 1) := by decide +kernel
theorem d_W_law_136 : decode code 136 = .ok (.iaload, 1) := by decide +kernel
theorem d_W_law_137 : decode code 137 = .ok (.aload_n 3, 1) := by decide +kernel
theorem d_W_law_138 : decode code 138 = .ok (.invokestatic 77, 3) := by decide +kernel
theorem d_W_law_141 : decode code 141 = .ok (.istore 5, 2) := by decide +kernel
theorem d_W_law_143 : decode code 143 = .ok (.aload_n 2, 1) := by decide +kernel
theorem d_W_law_144 : decode code 144 = .ok (.aload_n 0, 1) := by decide +kernel
theorem d_W_law_145 : decode code 145 = .ok (.iload 4, 2) := by decide +kernel
theorem d_W_law_147 : decode code 147 = .ok (.iconst 1, 1) := by decide +kernel
theorem d_W_law_148 : decode code 148 = .ok (.iadd, 1) := by decide +kernel
theorem d_W_law_149 : decode code 149 = .ok (.iaload, 1) := by decide +kernel
theorem d_W_law_150 : decode code 150 = .ok (.aload_n 0, 1) := by decide +kernel
theorem d_W_law_151 : decode code 151 = .ok (.iload 4, 2) := by decide +kernel
theorem d_W_law_153 : decode code 153 = .ok (.iconst 2, 1) := by decide +kernel
theorem d_W_law_154 : decode code 154 = .ok (.iadd, 1) := by decide +kernel
theorem d_W_law_155 : decode code 155 = .ok (.iaload, 1) := by decide +kernel
theorem d_W_law_156 : decode code 156 = .ok (.invokevirtual 82, 3) := by decide +kernel
theorem d_W_law_159 : decode code 159 = .ok (.istore 6, 2) := by decide +kernel
theorem d_W_law_161 : decode code 161 = .ok (.aload_n 2, 1) := by decide +kernel
theorem d_W_law_162 : decode code 162 = .ok (.invokevirtual 83, 3) := by decide +kernel
theorem d_W_law_165 : decode code 165 = .ok (.iload 5, 2) := by decide +kernel
theorem d_W_law_167 : decode code 167 = .ok (.if_icmp .eq 5, 3) := by decide +kernel
theorem d_W_law_170 : decode code 170 = .ok (.iconst 0, 1) := by decide +kernel
theorem d_W_law_171 : decode code 171 = .ok (.ireturn, 1) := by decide +kernel
theorem d_W_law_172 : decode code 172 = .ok (.iload 5, 2) := by decide +kernel
theorem d_W_law_174 : decode code 174 = .ok (.ifCond .ne 15, 3) := by decide +kernel
theorem d_W_law_177 : decode code 177 = .ok (.aload_n 3, 1) := by decide +kernel
theorem d_W_law_178 : decode code 178 = .ok (.iconst 0, 1) := by decide +kernel
theorem d_W_law_179 : decode code 179 = .ok (.laload, 1) := by decide +kernel
theorem d_W_law_180 : decode code 180 = .ok (.iload 6, 2) := by decide +kernel
theorem d_W_law_182 : decode code 182 = .ok (.i2l, 1) := by decide +kernel
theorem d_W_law_183 : decode code 183 = .ok (.lcmp, 1) := by decide +kernel
theorem d_W_law_184 : decode code 184 = .ok (.ifCond .eq 5, 3) := by decide +kernel
theorem d_W_law_187 : decode code 187 = .ok (.iconst 0, 1) := by decide +kernel
theorem d_W_law_188 : decode code 188 = .ok (.ireturn, 1) := by decide +kernel
theorem d_W_law_189 : decode code 189 = .ok (.goto 1014, 3) := by decide +kernel
theorem d_W_law_192 : decode code 192 = .ok (.aload_n 1, 1) := by decide +kernel
theorem d_W_law_193 : decode code 193 = .ok (.aload_n 0, 1) := by decide +kernel
theorem d_W_law_194 : decode code 194 = .ok (.iload 4, 2) := by decide +kernel
theorem d_W_law_196 : decode code 196 = .ok (.iconst 1, 1) := by decide +kernel
theorem d_W_law_197 : decode code 197 = .ok (.iadd, 1) := by decide +kernel
theorem d_W_law_198 : decode code 198 = .ok (.iaload, 1) := by decide +kernel
theorem d_W_law_199 : decode code 199 = .ok (.aload_n 0, 1) := by decide +kernel
theorem d_W_law_200 : decode code 200 = .ok (.iload 4, 2) := by decide +kernel
theorem d_W_law_202 : decode code 202 = .ok (.iconst 2, 1) := by decide +kernel
theorem d_W_law_203 : decode code 203 = .ok (.iadd, 1) := by decide +kernel
theorem d_W_law_204 : decode code 204 = .ok (.iaload, 1) := by decide +kernel
theorem d_W_law_205 : decode code 205 = .ok (.aload_n 0, 1) := by decide +kernel
theorem d_W_law_206 : decode code 206 = .ok (.iload 4, 2) := by decide +kernel
theorem d_W_law_208 : decode code 208 = .ok (.iconst 3, 1) := by decide +kernel
theorem d_W_law_209 : decode code 209 = .ok (.iadd, 1) := by decide +kernel
theorem d_W_law_210 : decode code 210 = .ok (.iaload, 1) := by decide +kernel
theorem d_W_law_211 : decode code 211 = .ok (.invokestatic 87, 3) := by decide +kernel
theorem d_W_law_214 : decode code 214 = .ok (.istore 5, 2) := by decide +kernel
theorem d_W_law_216 : decode code 216 = .ok (.aload_n 2, 1) := by decide +kernel
theorem d_W_law_217 : decode code 217 = .ok (.aload_n 0, 1) := by decide +kernel
theorem d_W_law_218 : decode code 218 = .ok (.iload 4, 2) := by decide +kernel
theorem d_W_law_220 : decode code 220 = .ok (.iconst 1, 1) := by decide +kernel
theorem d_W_law_221 : decode code 221 = .ok (.iadd, 1) := by decide +kernel
theorem d_W_law_222 : decode code 222 = .ok (.iaload, 1) := by decide +kernel
theorem d_W_law_223 : decode code 223 = .ok (.aload_n 0, 1) := by decide +kernel
theorem d_W_law_224 : decode code 224 = .ok (.iload 4, 2) := by decide +kernel
theorem d_W_law_226 : decode code 226 = .ok (.iconst 2, 1) := by decide +kernel
theorem d_W_law_227 : decode code 227 = .ok (.iadd, 1) := by decide +kernel
theorem d_W_law_228 : decode code 228 = .ok (.iaload, 1) := by decide +kernel
theorem d_W_law_229 : decode code 229 = .ok (.aload_n 0, 1) := by decide +kernel
theorem d_W_law_230 : decode code 230 = .ok (.iload 4, 2) := by decide +kernel
theorem d_W_law_232 : decode code 232 = .ok (.iconst 3, 1) := by decide +kernel
theorem d_W_law_233 : decode code 233 = .ok (.iadd, 1) := by decide +kernel
theorem d_W_law_234 : decode code 234 = .ok (.iaload, 1) := by decide +kernel
theorem d_W_law_235 : decode code 235 = .ok (.invokevirtual 90, 3) := by decide +kernel
theorem d_W_law_238 : decode code 238 = .ok (.aload_n 2, 1) := by decide +kernel
theorem d_W_law_239 : decode code 239 = .ok (.invokevirtual 83, 3) := by decide +kernel
theorem d_W_law_242 : decode code 242 = .ok (.iload 5, 2) := by decide +kernel
theorem d_W_law_244 : decode code 244 = .ok (.if_icmp .eq 5, 3) := by decide +kernel
theorem d_W_law_247 : decode code 247 = .ok (.iconst 0, 1) := by decide +kernel
theorem d_W_law_248 : decode code 248 = .ok (.ireturn, 1) := by decide +kernel
theorem d_W_law_249 : decode code 249 = .ok (.goto 954, 3) := by decide +kernel
theorem d_W_law_252 : decode code 252 = .ok (.aload_n 1, 1) := by decide +kernel
theorem d_W_law_253 : decode code 253 = .ok (.aload_n 0, 1) := by decide +kernel
theorem d_W_law_254 : decode code 254 = .ok (.iload 4, 2) := by decide +kernel
theorem d_W_law_256 : decode code 256 = .ok (.iconst 1, 1) := by decide +kernel
theorem d_W_law_257 : decode code 257 = .ok (.iadd, 1) := by decide +kernel
theorem d_W_law_258 : decode code 258 = .ok (.iaload, 1) := by decide +kernel
theorem d_W_law_259 : decode code 259 = .ok (.aload_n 0, 1) := by decide +kernel
theorem d_W_law_260 : decode code 260 = .ok (.iload 4, 2) := by decide +kernel
theorem d_W_law_262 : decode code 262 = .ok (.iconst 2, 1) := by decide +kernel
theorem d_W_law_263 : decode code 263 = .ok (.iadd, 1) := by decide +kernel
theorem d_W_law_264 : decode code 264 = .ok (.iaload, 1) := by decide +kernel
theorem d_W_law_265 : decode code 265 = .ok (.invokestatic 91, 3) := by decide +kernel
theorem d_W_law_268 : decode code 268 = .ok (.istore 5, 2) := by decide +kernel
theorem d_W_law_270 : decode code 270 = .ok (.aload_n 2, 1) := by decide +kernel
theorem d_W_law_271 : decode code 271 = .ok (.aload_n 0, 1) := by decide +kernel
theorem d_W_law_272 : decode code 272 = .ok (.iload 4, 2) := by decide +kernel
theorem d_W_law_274 : decode code 274 = .ok (.iconst 1, 1) := by decide +kernel
theorem d_W_law_275 : decode code 275 = .ok (.iadd, 1) := by decide +kernel
theorem d_W_law_276 : decode code 276 = .ok (.iaload, 1) := by decide +kernel
theorem d_W_law_277 : decode code 277 = .ok (.aload_n 0, 1) := by decide +kernel
theorem d_W_law_278 : decode code 278 = .ok (.iload 4, 2) := by decide +kernel
theorem d_W_law_280 : decode code 280 = .ok (.iconst 2, 1) := by decide +kernel
theorem d_W_law_281 : decode code 281 = .ok (.iadd, 1) := by decide +kernel
theorem d_W_law_282 : decode code 282 = .ok (.iaload, 1) := by decide +kernel
theorem d_W_law_283 : decode code 283 = .ok (.invokevirtual 94, 3) := by decide +kernel
theorem d_W_law_286 : decode code 286 = .ok (.aload_n 2, 1) := by decide +kernel
theorem d_W_law_287 : decode code 287 = .ok (.invokevirtual 83, 3) := by decide +kernel
theorem d_W_law_290 : decode code 290 = .ok (.iload 5, 2) := by decide +kernel
theorem d_W_law_292 : decode code 292 = .ok (.if_icmp .eq 5, 3) := by decide +kernel
theorem d_W_law_295 : decode code 295 = .ok (.iconst 0, 1) := by decide +kernel
theorem d_W_law_296 : decode code 296 = .ok (.ireturn, 1) := by decide +kernel
theorem d_W_law_297 : decode code 297 = .ok (.goto 906, 3) := by decide +kernel
theorem d_W_law_300 : decode code 300 = .ok (.aload_n 1, 1) := by decide +kernel
theorem d_W_law_301 : decode code 301 = .ok (.aload_n 0, 1) := by decide +kernel
theorem d_W_law_302 : decode code 302 = .ok (.iload 4, 2) := by decide +kernel
theorem d_W_law_304 : decode code 304 = .ok (.iconst 1, 1) := by decide +kernel
theorem d_W_law_305 : decode code 305 = .ok (.iadd, 1) := by decide +kernel
theorem d_W_law_306 : decode code 306 = .ok (.iaload, 1) := by decide +kernel
theorem d_W_law_307 : decode code 307 = .ok (.aload_n 3, 1) := by decide +kernel
theorem d_W_law_308 : decode code 308 = .ok (.invokestatic 95, 3) := by decide +kernel
theorem d_W_law_311 : decode code 311 = .ok (.istore 5, 2) := by decide +kernel
theorem d_W_law_313 : decode code 313 = .ok (.aload_n 2, 1) := by decide +kernel
theorem d_W_law_314 : decode code 314 = .ok (.aload_n 0, 1) := by decide +kernel
theorem d_W_law_315 : decode code 315 = .ok (.iload 4, 2) := by decide +kernel
theorem d_W_law_317 : decode code 317 = .ok (.iconst 1, 1) := by decide +kernel
theorem d_W_law_318 : decode code 318 = .ok (.iadd, 1) := by decide +kernel
theorem d_W_law_319 : decode code 319 = .ok (.iaload, 1) := by decide +kernel
theorem d_W_law_320 : decode code 320 = .ok (.invokevirtual 98, 3) := by decide +kernel
theorem d_W_law_323 : decode code 323 = .ok (.istore 6, 2) := by decide +kernel
theorem d_W_law_325 : decode code 325 = .ok (.aload_n 2, 1) := by decide +kernel
theorem d_W_law_326 : decode code 326 = .ok (.invokevirtual 83, 3) := by decide +kernel
theorem d_W_law_329 : decode code 329 = .ok (.iload 5, 2) := by decide +kernel
theorem d_W_law_331 : decode code 331 = .ok (.if_icmp .eq 5, 3) := by decide +kernel
theorem d_W_law_334 : decode code 334 = .ok (.iconst 0, 1) := by decide +kernel
theorem d_W_law_335 : decode code 335 = .ok (.ireturn, 1) := by decide +kernel
theorem d_W_law_336 : decode code 336 = .ok (.iload 5, 2) := by decide +kernel
theorem d_W_law_338 : decode code 338 = .ok (.ifCond .ne 22, 3) := by decide +kernel
theorem d_W_law_341 : decode code 341 = .ok (.aload_n 3, 1) := by decide +kernel
theorem d_W_law_342 : decode code 342 = .ok (.iconst 0, 1) := by decide +kernel
theorem d_W_law_343 : decode code 343 = .ok (.laload, 1) := by decide +kernel
theorem d_W_law_344 : decode code 344 = .ok (.iload 6, 2) := by decide +kernel
theorem d_W_law_346 : decode code 346 = .ok (.ifCond .eq 7, 3) := by decide +kernel
theorem d_W_law_349 : decode code 349 = .ok (.lconst 1, 1) := by decide +kernel
theorem d_W_law_350 : decode code 350 = .ok (.goto 4, 3) := by decide +kernel
theorem d_W_law_353 : decode code 353 = .ok (.lconst 0, 1) := by decide +kernel
theorem d_W_law_354 : decode code 354 = .ok (.lcmp, 1) := by decide +kernel
theorem d_W_law_355 : decode code 355 = .ok (.ifCond .eq 5, 3) := by decide +kernel
theorem d_W_law_358 : decode code 358 = .ok (.iconst 0, 1) := by decide +kernel
theorem d_W_law_359 : decode code 359 = .ok (.ireturn, 1) := by decide +kernel
theorem d_W_law_360 : decode code 360 = .ok (.goto 843, 3) := by decide +kernel
theorem d_W_law_363 : decode code 363 = .ok (.aload_n 1, 1) := by decide +kernel
theorem d_W_law_364 : decode code 364 = .ok (.aload_n 0, 1) := by decide +kernel
theorem d_W_law_365 : decode code 365 = .ok (.iload 4, 2) := by decide +kernel
theorem d_W_law_367 : decode code 367 = .ok (.iconst 1, 1) := by decide +kernel
theorem d_W_law_368 : decode code 368 = .ok (.iadd, 1) := by decide +kernel
theorem d_W_law_369 : decode code 369 = .ok (.iaload, 1) := by decide +kernel
theorem d_W_law_370 : decode code 370 = .ok (.aload_n 3, 1) := by decide +kernel
theorem d_W_law_371 : decode code 371 = .ok (.invokestatic 99, 3) := by decide +kernel
theorem d_W_law_374 : decode code 374 = .ok (.istore 5, 2) := by decide +kernel
theorem d_W_law_376 : decode code 376 = .ok (.aload_n 2, 1) := by decide +kernel
theorem d_W_law_377 : decode code 377 = .ok (.aload_n 0, 1) := by decide +kernel
theorem d_W_law_378 : decode code 378 = .ok (.iload 4, 2) := by decide +kernel
theorem d_W_law_380 : decode code 380 = .ok (.iconst 1, 1) := by decide +kernel
theorem d_W_law_381 : decode code 381 = .ok (.iadd, 1) := by decide +kernel
theorem d_W_law_382 : decode code 382 = .ok (.iaload, 1) := by decide +kernel
theorem d_W_law_383 : decode code 383 = .ok (.invokevirtual 101, 3) := by decide +kernel
theorem d_W_law_386 : decode code 386 = .ok (.istore 6, 2) := by decide +kernel
theorem d_W_law_388 : decode code 388 = .ok (.aload_n 2, 1) := by decide +kernel
theorem d_W_law_389 : decode code 389 = .ok (.invokevirtual 83, 3) := by decide +kernel
theorem d_W_law_392 : decode code 392 = .ok (.iload 5, 2) := by decide +kernel
theorem d_W_law_394 : decode code 394 = .ok (.if_icmp .eq 5, 3) := by decide +kernel
theorem d_W_law_397 : decode code 397 = .ok (.iconst 0, 1) := by decide +kernel
theorem d_W_law_398 : decode code 398 = .ok (.ireturn, 1) := by decide +kernel
theorem d_W_law_399 : decode code 399 = .ok (.iload 5, 2) := by decide +kernel
theorem d_W_law_401 : decode code 401 = .ok (.ifCond .ne 15, 3) := by decide +kernel
theorem d_W_law_404 : decode code 404 = .ok (.aload_n 3, 1) := by decide +kernel
theorem d_W_law_405 : decode code 405 = .ok (.iconst 0, 1) := by decide +kernel
theorem d_W_law_406 : decode code 406 = .ok (.laload, 1) := by decide +kernel
theorem d_W_law_407 : decode code 407 = .ok (.iload 6, 2) := by decide +kernel
theorem d_W_law_409 : decode code 409 = .ok (.i2l, 1) := by decide +kernel
theorem d_W_law_410 : decode code 410 = .ok (.lcmp, 1) := by decide +kernel
theorem d_W_law_411 : decode code 411 = .ok (.ifCond .eq 5, 3) := by decide +kernel
theorem d_W_law_414 : decode code 414 = .ok (.iconst 0, 1) := by decide +kernel
theorem d_W_law_415 : decode code 415 = .ok (.ireturn, 1) := by decide +kernel
theorem d_W_law_416 : decode code 416 = .ok (.goto 787, 3) := by decide +kernel
theorem d_W_law_419 : decode code 419 = .ok (.aload_n 1, 1) := by decide +kernel
theorem d_W_law_420 : decode code 420 = .ok (.aload_n 0, 1) := by decide +kernel
theorem d_W_law_421 : decode code 421 = .ok (.iload 4, 2) := by decide +kernel
theorem d_W_law_423 : decode code 423 = .ok (.iconst 1, 1) := by decide +kernel
theorem d_W_law_424 : decode code 424 = .ok (.iadd, 1) := by decide +kernel
theorem d_W_law_425 : decode code 425 = .ok (.iaload, 1) := by decide +kernel
theorem d_W_law_426 : decode code 426 = .ok (.aload_n 0, 1) := by decide +kernel
theorem d_W_law_427 : decode code 427 = .ok (.iload 4, 2) := by decide +kernel
theorem d_W_law_429 : decode code 429 = .ok (.iconst 2, 1) := by decide +kernel
theorem d_W_law_430 : decode code 430 = .ok (.iadd, 1) := by decide +kernel
theorem d_W_law_431 : decode code 431 = .ok (.iaload, 1) := by decide +kernel
theorem d_W_law_432 : decode code 432 = .ok (.invokestatic 102, 3) := by decide +kernel
theorem d_W_law_435 : decode code 435 = .ok (.istore 5, 2) := by decide +kernel
theorem d_W_law_437 : decode code 437 = .ok (.aload_n 2, 1) := by decide +kernel
theorem d_W_law_438 : decode code 438 = .ok (.aload_n 0, 1) := by decide +kernel
theorem d_W_law_439 : decode code 439 = .ok (.iload 4, 2) := by decide +kernel
theorem d_W_law_441 : decode code 441 = .ok (.iconst 1, 1) := by decide +kernel
theorem d_W_law_442 : decode code 442 = .ok (.iadd, 1) := by decide +kernel
theorem d_W_law_443 : decode code 443 = .ok (.iaload, 1) := by decide +kernel
theorem d_W_law_444 : decode code 444 = .ok (.aload_n 0, 1) := by decide +kernel
theorem d_W_law_445 : decode code 445 = .ok (.iload 4, 2) := by decide +kernel
theorem d_W_law_447 : decode code 447 = .ok (.iconst 2, 1) := by decide +kernel
theorem d_W_law_448 : decode code 448 = .ok (.iadd, 1) := by decide +kernel
theorem d_W_law_449 : decode code 449 = .ok (.iaload, 1) := by decide +kernel
theorem d_W_law_450 : decode code 450 = .ok (.invokevirtual 104, 3) := by decide +kernel
theorem d_W_law_453 : decode code 453 = .ok (.aload_n 2, 1) := by decide +kernel
theorem d_W_law_454 : decode code 454 = .ok (.invokevirtual 83, 3) := by decide +kernel
theorem d_W_law_457 : decode code 457 = .ok (.iload 5, 2) := by decide +kernel
theorem d_W_law_459 : decode code 459 = .ok (.if_icmp .eq 5, 3) := by decide +kernel
theorem d_W_law_462 : decode code 462 = .ok (.iconst 0, 1) := by decide +kernel
theorem d_W_law_463 : decode code 463 = .ok (.ireturn, 1) := by decide +kernel
theorem d_W_law_464 : decode code 464 = .ok (.goto 739, 3) := by decide +kernel
theorem d_W_law_467 : decode code 467 = .ok (.aload_n 1, 1) := by decide +kernel
theorem d_W_law_468 : decode code 468 = .ok (.aload_n 0, 1) := by decide +kernel
theorem d_W_law_469 : decode code 469 = .ok (.iload 4, 2) := by decide +kernel
theorem d_W_law_471 : decode code 471 = .ok (.iconst 1, 1) := by decide +kernel
theorem d_W_law_472 : decode code 472 = .ok (.iadd, 1) := by decide +kernel
theorem d_W_law_473 : decode code 473 = .ok (.iaload, 1) := by decide +kernel
theorem d_W_law_474 : decode code 474 = .ok (.aload_n 0, 1) := by decide +kernel
theorem d_W_law_475 : decode code 475 = .ok (.iload 4, 2) := by decide +kernel
theorem d_W_law_477 : decode code 477 = .ok (.iconst 2, 1) := by decide +kernel
theorem d_W_law_478 : decode code 478 = .ok (.iadd, 1) := by decide +kernel
theorem d_W_law_479 : decode code 479 = .ok (.iaload, 1) := by decide +kernel
theorem d_W_law_480 : decode code 480 = .ok (.aload_n 0, 1) := by decide +kernel
theorem d_W_law_481 : decode code 481 = .ok (.iload 4, 2) := by decide +kernel
theorem d_W_law_483 : decode code 483 = .ok (.iconst 3, 1) := by decide +kernel
theorem d_W_law_484 : decode code 484 = .ok (.iadd, 1) := by decide +kernel
theorem d_W_law_485 : decode code 485 = .ok (.iaload, 1) := by decide +kernel
theorem d_W_law_486 : decode code 486 = .ok (.ifCond .eq 7, 3) := by decide +kernel
theorem d_W_law_489 : decode code 489 = .ok (.iconst 1, 1) := by decide +kernel
theorem d_W_law_490 : decode code 490 = .ok (.goto 4, 3) := by decide +kernel
theorem d_W_law_493 : decode code 493 = .ok (.iconst 0, 1) := by decide +kernel
theorem d_W_law_494 : decode code 494 = .ok (.aload_n 3, 1) := by decide +kernel
theorem d_W_law_495 : decode code 495 = .ok (.invokestatic 105, 3) := by decide +kernel
theorem d_W_law_498 : decode code 498 = .ok (.istore 5, 2) := by decide +kernel
theorem d_W_law_500 : decode code 500 = .ok (.aload_n 2, 1) := by decide +kernel
theorem d_W_law_501 : decode code 501 = .ok (.aload_n 0, 1) := by decide +kernel
theorem d_W_law_502 : decode code 502 = .ok (.iload 4, 2) := by decide +kernel
theorem d_W_law_504 : decode code 504 = .ok (.iconst 1, 1) := by decide +kernel
theorem d_W_law_505 : decode code 505 = .ok (.iadd, 1) := by decide +kernel
theorem d_W_law_506 : decode code 506 = .ok (.iaload, 1) := by decide +kernel
theorem d_W_law_507 : decode code 507 = .ok (.aload_n 0, 1) := by decide +kernel
theorem d_W_law_508 : decode code 508 = .ok (.iload 4, 2) := by decide +kernel
theorem d_W_law_510 : decode code 510 = .ok (.iconst 2, 1) := by decide +kernel
theorem d_W_law_511 : decode code 511 = .ok (.iadd, 1) := by decide +kernel
theorem d_W_law_512 : decode code 512 = .ok (.iaload, 1) := by decide +kernel
theorem d_W_law_513 : decode code 513 = .ok (.aload_n 0, 1) := by decide +kernel
theorem d_W_law_514 : decode code 514 = .ok (.iload 4, 2) := by decide +kernel
theorem d_W_law_516 : decode code 516 = .ok (.iconst 3, 1) := by decide +kernel
theorem d_W_law_517 : decode code 517 = .ok (.iadd, 1) := by decide +kernel
theorem d_W_law_518 : decode code 518 = .ok (.iaload, 1) := by decide +kernel
theorem d_W_law_519 : decode code 519 = .ok (.ifCond .eq 7, 3) := by decide +kernel
theorem d_W_law_522 : decode code 522 = .ok (.iconst 1, 1) := by decide +kernel
theorem d_W_law_523 : decode code 523 = .ok (.goto 4, 3) := by decide +kernel
theorem d_W_law_526 : decode code 526 = .ok (.iconst 0, 1) := by decide +kernel
theorem d_W_law_527 : decode code 527 = .ok (.invokevirtual 108, 3) := by decide +kernel
theorem d_W_law_530 : decode code 530 = .ok (.istore 6, 2) := by decide +kernel
theorem d_W_law_532 : decode code 532 = .ok (.aload_n 2, 1) := by decide +kernel
theorem d_W_law_533 : decode code 533 = .ok (.invokevirtual 83, 3) := by decide +kernel
theorem d_W_law_536 : decode code 536 = .ok (.iload 5, 2) := by decide +kernel
theorem d_W_law_538 : decode code 538 = .ok (.if_icmp .eq 5, 3) := by decide +kernel
theorem d_W_law_541 : decode code 541 = .ok (.iconst 0, 1) := by decide +kernel
theorem d_W_law_542 : decode code 542 = .ok (.ireturn, 1) := by decide +kernel
theorem d_W_law_543 : decode code 543 = .ok (.iload 5, 2) := by decide +kernel
theorem d_W_law_545 : decode code 545 = .ok (.ifCond .ne 22, 3) := by decide +kernel
theorem d_W_law_548 : decode code 548 = .ok (.aload_n 3, 1) := by decide +kernel
theorem d_W_law_549 : decode code 549 = .ok (.iconst 0, 1) := by decide +kernel
theorem d_W_law_550 : decode code 550 = .ok (.laload, 1) := by decide +kernel
theorem d_W_law_551 : decode code 551 = .ok (.iload 6, 2) := by decide +kernel
theorem d_W_law_553 : decode code 553 = .ok (.ifCond .eq 7, 3) := by decide +kernel
theorem d_W_law_556 : decode code 556 = .ok (.lconst 1, 1) := by decide +kernel
theorem d_W_law_557 : decode code 557 = .ok (.goto 4, 3) := by decide +kernel
theorem d_W_law_560 : decode code 560 = .ok (.lconst 0, 1) := by decide +kernel
theorem d_W_law_561 : decode code 561 = .ok (.lcmp, 1) := by decide +kernel
theorem d_W_law_562 : decode code 562 = .ok (.ifCond .eq 5, 3) := by decide +kernel
theorem d_W_law_565 : decode code 565 = .ok (.iconst 0, 1) := by decide +kernel
theorem d_W_law_566 : decode code 566 = .ok (.ireturn, 1) := by decide +kernel
theorem d_W_law_567 : decode code 567 = .ok (.goto 636, 3) := by decide +kernel
theorem d_W_law_570 : decode code 570 = .ok (.aload_n 1, 1) := by decide +kernel
theorem d_W_law_571 : decode code 571 = .ok (.aload_n 0, 1) := by decide +kernel
theorem d_W_law_572 : decode code 572 = .ok (.iload 4, 2) := by decide +kernel
theorem d_W_law_574 : decode code 574 = .ok (.iconst 1, 1) := by decide +kernel
theorem d_W_law_575 : decode code 575 = .ok (.iadd, 1) := by decide +kernel
theorem d_W_law_576 : decode code 576 = .ok (.iaload, 1) := by decide +kernel
theorem d_W_law_577 : decode code 577 = .ok (.aload_n 0, 1) := by decide +kernel
theorem d_W_law_578 : decode code 578 = .ok (.iload 4, 2) := by decide +kernel
theorem d_W_law_580 : decode code 580 = .ok (.iconst 2, 1) := by decide +kernel
theorem d_W_law_581 : decode code 581 = .ok (.iadd, 1) := by decide +kernel
theorem d_W_law_582 : decode code 582 = .ok (.iaload, 1) := by decide +kernel
theorem d_W_law_583 : decode code 583 = .ok (.aload_n 0, 1) := by decide +kernel
theorem d_W_law_584 : decode code 584 = .ok (.iload 4, 2) := by decide +kernel
theorem d_W_law_586 : decode code 586 = .ok (.iconst 3, 1) := by decide +kernel
theorem d_W_law_587 : decode code 587 = .ok (.iadd, 1) := by decide +kernel
theorem d_W_law_588 : decode code 588 = .ok (.iaload, 1) := by decide +kernel
theorem d_W_law_589 : decode code 589 = .ok (.aload_n 3, 1) := by decide +kernel
theorem d_W_law_590 : decode code 590 = .ok (.invokestatic 109, 3) := by decide +kernel
theorem d_W_law_593 : decode code 593 = .ok (.istore 5, 2) := by decide +kernel
theorem d_W_law_595 : decode code 595 = .ok (.aload_n 2, 1) := by decide +kernel
theorem d_W_law_596 : decode code 596 = .ok (.aload_n 0, 1) := by decide +kernel
theorem d_W_law_597 : decode code 597 = .ok (.iload 4, 2) := by decide +kernel
theorem d_W_law_599 : decode code 599 = .ok (.iconst 1, 1) := by decide +kernel
theorem d_W_law_600 : decode code 600 = .ok (.iadd, 1) := by decide +kernel
theorem d_W_law_601 : decode code 601 = .ok (.iaload, 1) := by decide +kernel
theorem d_W_law_602 : decode code 602 = .ok (.aload_n 0, 1) := by decide +kernel
theorem d_W_law_603 : decode code 603 = .ok (.iload 4, 2) := by decide +kernel
theorem d_W_law_605 : decode code 605 = .ok (.iconst 2, 1) := by decide +kernel
theorem d_W_law_606 : decode code 606 = .ok (.iadd, 1) := by decide +kernel
theorem d_W_law_607 : decode code 607 = .ok (.iaload, 1) := by decide +kernel
theorem d_W_law_608 : decode code 608 = .ok (.aload_n 0, 1) := by decide +kernel
theorem d_W_law_609 : decode code 609 = .ok (.iload 4, 2) := by decide +kernel
theorem d_W_law_611 : decode code 611 = .ok (.iconst 3, 1) := by decide +kernel
theorem d_W_law_612 : decode code 612 = .ok (.iadd, 1) := by decide +kernel
theorem d_W_law_613 : decode code 613 = .ok (.iaload, 1) := by decide +kernel
theorem d_W_law_614 : decode code 614 = .ok (.invokevirtual 112, 3) := by decide +kernel
theorem d_W_law_617 : decode code 617 = .ok (.istore 6, 2) := by decide +kernel
theorem d_W_law_619 : decode code 619 = .ok (.aload_n 2, 1) := by decide +kernel
theorem d_W_law_620 : decode code 620 = .ok (.invokevirtual 83, 3) := by decide +kernel
theorem d_W_law_623 : decode code 623 = .ok (.iload 5, 2) := by decide +kernel
theorem d_W_law_625 : decode code 625 = .ok (.if_icmp .eq 5, 3) := by decide +kernel
theorem d_W_law_628 : decode code 628 = .ok (.iconst 0, 1) := by decide +kernel
theorem d_W_law_629 : decode code 629 = .ok (.ireturn, 1) := by decide +kernel
theorem d_W_law_630 : decode code 630 = .ok (.iload 5, 2) := by decide +kernel
theorem d_W_law_632 : decode code 632 = .ok (.ifCond .ne 15, 3) := by decide +kernel
theorem d_W_law_635 : decode code 635 = .ok (.aload_n 3, 1) := by decide +kernel
theorem d_W_law_636 : decode code 636 = .ok (.iconst 0, 1) := by decide +kernel
theorem d_W_law_637 : decode code 637 = .ok (.laload, 1) := by decide +kernel
theorem d_W_law_638 : decode code 638 = .ok (.iload 6, 2) := by decide +kernel
theorem d_W_law_640 : decode code 640 = .ok (.i2l, 1) := by decide +kernel
theorem d_W_law_641 : decode code 641 = .ok (.lcmp, 1) := by decide +kernel
theorem d_W_law_642 : decode code 642 = .ok (.ifCond .eq 5, 3) := by decide +kernel
theorem d_W_law_645 : decode code 645 = .ok (.iconst 0, 1) := by decide +kernel
theorem d_W_law_646 : decode code 646 = .ok (.ireturn, 1) := by decide +kernel
theorem d_W_law_647 : decode code 647 = .ok (.goto 556, 3) := by decide +kernel
theorem d_W_law_650 : decode code 650 = .ok (.aload_n 1, 1) := by decide +kernel
theorem d_W_law_651 : decode code 651 = .ok (.aload_n 0, 1) := by decide +kernel
theorem d_W_law_652 : decode code 652 = .ok (.iload 4, 2) := by decide +kernel
theorem d_W_law_654 : decode code 654 = .ok (.iconst 1, 1) := by decide +kernel
theorem d_W_law_655 : decode code 655 = .ok (.iadd, 1) := by decide +kernel
theorem d_W_law_656 : decode code 656 = .ok (.iaload, 1) := by decide +kernel
theorem d_W_law_657 : decode code 657 = .ok (.aload_n 0, 1) := by decide +kernel
theorem d_W_law_658 : decode code 658 = .ok (.iload 4, 2) := by decide +kernel
theorem d_W_law_660 : decode code 660 = .ok (.iconst 2, 1) := by decide +kernel
theorem d_W_law_661 : decode code 661 = .ok (.iadd, 1) := by decide +kernel
theorem d_W_law_662 : decode code 662 = .ok (.iaload, 1) := by decide +kernel
theorem d_W_law_663 : decode code 663 = .ok (.invokestatic 113, 3) := by decide +kernel
theorem d_W_law_666 : decode code 666 = .ok (.istore 5, 2) := by decide +kernel
theorem d_W_law_668 : decode code 668 = .ok (.aload_n 2, 1) := by decide +kernel
theorem d_W_law_669 : decode code 669 = .ok (.aload_n 0, 1) := by decide +kernel
theorem d_W_law_670 : decode code 670 = .ok (.iload 4, 2) := by decide +kernel
theorem d_W_law_672 : decode code 672 = .ok (.iconst 1, 1) := by decide +kernel
theorem d_W_law_673 : decode code 673 = .ok (.iadd, 1) := by decide +kernel
theorem d_W_law_674 : decode code 674 = .ok (.iaload, 1) := by decide +kernel
theorem d_W_law_675 : decode code 675 = .ok (.aload_n 0, 1) := by decide +kernel
theorem d_W_law_676 : decode code 676 = .ok (.iload 4, 2) := by decide +kernel
theorem d_W_law_678 : decode code 678 = .ok (.iconst 2, 1) := by decide +kernel
theorem d_W_law_679 : decode code 679 = .ok (.iadd, 1) := by decide +kernel
theorem d_W_law_680 : decode code 680 = .ok (.iaload, 1) := by decide +kernel
theorem d_W_law_681 : decode code 681 = .ok (.invokevirtual 115, 3) := by decide +kernel
theorem d_W_law_684 : decode code 684 = .ok (.aload_n 2, 1) := by decide +kernel
theorem d_W_law_685 : decode code 685 = .ok (.invokevirtual 83, 3) := by decide +kernel
theorem d_W_law_688 : decode code 688 = .ok (.iload 5, 2) := by decide +kernel
theorem d_W_law_690 : decode code 690 = .ok (.if_icmp .eq 5, 3) := by decide +kernel
theorem d_W_law_693 : decode code 693 = .ok (.iconst 0, 1) := by decide +kernel
theorem d_W_law_694 : decode code 694 = .ok (.ireturn, 1) := by decide +kernel
theorem d_W_law_695 : decode code 695 = .ok (.goto 508, 3) := by decide +kernel
theorem d_W_law_698 : decode code 698 = .ok (.aload_n 1, 1) := by decide +kernel
theorem d_W_law_699 : decode code 699 = .ok (.aload_n 0, 1) := by decide +kernel
theorem d_W_law_700 : decode code 700 = .ok (.iload 4, 2) := by decide +kernel
theorem d_W_law_702 : decode code 702 = .ok (.iconst 1, 1) := by decide +kernel
theorem d_W_law_703 : decode code 703 = .ok (.iadd, 1) := by decide +kernel
theorem d_W_law_704 : decode code 704 = .ok (.iaload, 1) := by decide +kernel
theorem d_W_law_705 : decode code 705 = .ok (.aload_n 3, 1) := by decide +kernel
theorem d_W_law_706 : decode code 706 = .ok (.invokestatic 116, 3) := by decide +kernel
theorem d_W_law_709 : decode code 709 = .ok (.istore 5, 2) := by decide +kernel
theorem d_W_law_711 : decode code 711 = .ok (.aload_n 2, 1) := by decide +kernel
theorem d_W_law_712 : decode code 712 = .ok (.aload_n 0, 1) := by decide +kernel
theorem d_W_law_713 : decode code 713 = .ok (.iload 4, 2) := by decide +kernel
theorem d_W_law_715 : decode code 715 = .ok (.iconst 1, 1) := by decide +kernel
theorem d_W_law_716 : decode code 716 = .ok (.iadd, 1) := by decide +kernel
theorem d_W_law_717 : decode code 717 = .ok (.iaload, 1) := by decide +kernel
theorem d_W_law_718 : decode code 718 = .ok (.invokevirtual 118, 3) := by decide +kernel
theorem d_W_law_721 : decode code 721 = .ok (.istore 6, 2) := by decide +kernel
theorem d_W_law_723 : decode code 723 = .ok (.aload_n 2, 1) := by decide +kernel
theorem d_W_law_724 : decode code 724 = .ok (.invokevirtual 83, 3) := by decide +kernel
theorem d_W_law_727 : decode code 727 = .ok (.iload 5, 2) := by decide +kernel
theorem d_W_law_729 : decode code 729 = .ok (.if_icmp .eq 5, 3) := by decide +kernel
theorem d_W_law_732 : decode code 732 = .ok (.iconst 0, 1) := by decide +kernel
theorem d_W_law_733 : decode code 733 = .ok (.ireturn, 1) := by decide +kernel
theorem d_W_law_734 : decode code 734 = .ok (.iload 5, 2) := by decide +kernel
theorem d_W_law_736 : decode code 736 = .ok (.ifCond .ne 15, 3) := by decide +kernel
theorem d_W_law_739 : decode code 739 = .ok (.aload_n 3, 1) := by decide +kernel
theorem d_W_law_740 : decode code 740 = .ok (.iconst 0, 1) := by decide +kernel
theorem d_W_law_741 : decode code 741 = .ok (.laload, 1) := by decide +kernel
theorem d_W_law_742 : decode code 742 = .ok (.iload 6, 2) := by decide +kernel
theorem d_W_law_744 : decode code 744 = .ok (.i2l, 1) := by decide +kernel
theorem d_W_law_745 : decode code 745 = .ok (.lcmp, 1) := by decide +kernel
theorem d_W_law_746 : decode code 746 = .ok (.ifCond .eq 5, 3) := by decide +kernel
theorem d_W_law_749 : decode code 749 = .ok (.iconst 0, 1) := by decide +kernel
theorem d_W_law_750 : decode code 750 = .ok (.ireturn, 1) := by decide +kernel
theorem d_W_law_751 : decode code 751 = .ok (.goto 452, 3) := by decide +kernel
theorem d_W_law_754 : decode code 754 = .ok (.aload_n 1, 1) := by decide +kernel
theorem d_W_law_755 : decode code 755 = .ok (.aload_n 0, 1) := by decide +kernel
theorem d_W_law_756 : decode code 756 = .ok (.iload 4, 2) := by decide +kernel
theorem d_W_law_758 : decode code 758 = .ok (.iconst 1, 1) := by decide +kernel
theorem d_W_law_759 : decode code 759 = .ok (.iadd, 1) := by decide +kernel
theorem d_W_law_760 : decode code 760 = .ok (.iaload, 1) := by decide +kernel
theorem d_W_law_761 : decode code 761 = .ok (.aload_n 0, 1) := by decide +kernel
theorem d_W_law_762 : decode code 762 = .ok (.iload 4, 2) := by decide +kernel
theorem d_W_law_764 : decode code 764 = .ok (.iconst 2, 1) := by decide +kernel
theorem d_W_law_765 : decode code 765 = .ok (.iadd, 1) := by decide +kernel
theorem d_W_law_766 : decode code 766 = .ok (.iaload, 1) := by decide +kernel
theorem d_W_law_767 : decode code 767 = .ok (.aload_n 3, 1) := by decide +kernel
theorem d_W_law_768 : decode code 768 = .ok (.invokestatic 119, 3) := by decide +kernel
theorem d_W_law_771 : decode code 771 = .ok (.istore 5, 2) := by decide +kernel
theorem d_W_law_773 : decode code 773 = .ok (.aload_n 2, 1) := by decide +kernel
theorem d_W_law_774 : decode code 774 = .ok (.aload_n 0, 1) := by decide +kernel
theorem d_W_law_775 : decode code 775 = .ok (.iload 4, 2) := by decide +kernel
theorem d_W_law_777 : decode code 777 = .ok (.iconst 1, 1) := by decide +kernel
theorem d_W_law_778 : decode code 778 = .ok (.iadd, 1) := by decide +kernel
theorem d_W_law_779 : decode code 779 = .ok (.iaload, 1) := by decide +kernel
theorem d_W_law_780 : decode code 780 = .ok (.aload_n 0, 1) := by decide +kernel
theorem d_W_law_781 : decode code 781 = .ok (.iload 4, 2) := by decide +kernel
theorem d_W_law_783 : decode code 783 = .ok (.iconst 2, 1) := by decide +kernel
theorem d_W_law_784 : decode code 784 = .ok (.iadd, 1) := by decide +kernel
theorem d_W_law_785 : decode code 785 = .ok (.iaload, 1) := by decide +kernel
theorem d_W_law_786 : decode code 786 = .ok (.invokevirtual 121, 3) := by decide +kernel
theorem d_W_law_789 : decode code 789 = .ok (.istore 6, 2) := by decide +kernel
theorem d_W_law_791 : decode code 791 = .ok (.aload_n 2, 1) := by decide +kernel
theorem d_W_law_792 : decode code 792 = .ok (.invokevirtual 83, 3) := by decide +kernel
theorem d_W_law_795 : decode code 795 = .ok (.iload 5, 2) := by decide +kernel
theorem d_W_law_797 : decode code 797 = .ok (.if_icmp .eq 5, 3) := by decide +kernel
theorem d_W_law_800 : decode code 800 = .ok (.iconst 0, 1) := by decide +kernel
theorem d_W_law_801 : decode code 801 = .ok (.ireturn, 1) := by decide +kernel
theorem d_W_law_802 : decode code 802 = .ok (.iload 5, 2) := by decide +kernel
theorem d_W_law_804 : decode code 804 = .ok (.ifCond .ne 15, 3) := by decide +kernel
theorem d_W_law_807 : decode code 807 = .ok (.aload_n 3, 1) := by decide +kernel
theorem d_W_law_808 : decode code 808 = .ok (.iconst 0, 1) := by decide +kernel
theorem d_W_law_809 : decode code 809 = .ok (.laload, 1) := by decide +kernel
theorem d_W_law_810 : decode code 810 = .ok (.iload 6, 2) := by decide +kernel
theorem d_W_law_812 : decode code 812 = .ok (.i2l, 1) := by decide +kernel
theorem d_W_law_813 : decode code 813 = .ok (.lcmp, 1) := by decide +kernel
theorem d_W_law_814 : decode code 814 = .ok (.ifCond .eq 5, 3) := by decide +kernel
theorem d_W_law_817 : decode code 817 = .ok (.iconst 0, 1) := by decide +kernel
theorem d_W_law_818 : decode code 818 = .ok (.ireturn, 1) := by decide +kernel
theorem d_W_law_819 : decode code 819 = .ok (.goto 384, 3) := by decide +kernel
theorem d_W_law_822 : decode code 822 = .ok (.aload_n 1, 1) := by decide +kernel
theorem d_W_law_823 : decode code 823 = .ok (.aload_n 0, 1) := by decide +kernel
theorem d_W_law_824 : decode code 824 = .ok (.iload 4, 2) := by decide +kernel
theorem d_W_law_826 : decode code 826 = .ok (.iconst 1, 1) := by decide +kernel
theorem d_W_law_827 : decode code 827 = .ok (.iadd, 1) := by decide +kernel
theorem d_W_law_828 : decode code 828 = .ok (.iaload, 1) := by decide +kernel
theorem d_W_law_829 : decode code 829 = .ok (.aload_n 0, 1) := by decide +kernel
theorem d_W_law_830 : decode code 830 = .ok (.iload 4, 2) := by decide +kernel
theorem d_W_law_832 : decode code 832 = .ok (.iconst 2, 1) := by decide +kernel
theorem d_W_law_833 : decode code 833 = .ok (.iadd, 1) := by decide +kernel
theorem d_W_law_834 : decode code 834 = .ok (.iaload, 1) := by decide +kernel
theorem d_W_law_835 : decode code 835 = .ok (.aload_n 3, 1) := by decide +kernel
theorem d_W_law_836 : decode code 836 = .ok (.invokestatic 122, 3) := by decide +kernel
theorem d_W_law_839 : decode code 839 = .ok (.istore 5, 2) := by decide +kernel
theorem d_W_law_841 : decode code 841 = .ok (.aload_n 2, 1) := by decide +kernel
theorem d_W_law_842 : decode code 842 = .ok (.aload_n 0, 1) := by decide +kernel
theorem d_W_law_843 : decode code 843 = .ok (.iload 4, 2) := by decide +kernel
theorem d_W_law_845 : decode code 845 = .ok (.iconst 1, 1) := by decide +kernel
theorem d_W_law_846 : decode code 846 = .ok (.iadd, 1) := by decide +kernel
theorem d_W_law_847 : decode code 847 = .ok (.iaload, 1) := by decide +kernel
theorem d_W_law_848 : decode code 848 = .ok (.aload_n 0, 1) := by decide +kernel
theorem d_W_law_849 : decode code 849 = .ok (.iload 4, 2) := by decide +kernel
theorem d_W_law_851 : decode code 851 = .ok (.iconst 2, 1) := by decide +kernel
theorem d_W_law_852 : decode code 852 = .ok (.iadd, 1) := by decide +kernel
theorem d_W_law_853 : decode code 853 = .ok (.iaload, 1) := by decide +kernel
theorem d_W_law_854 : decode code 854 = .ok (.invokevirtual 124, 3) := by decide +kernel
theorem d_W_law_857 : decode code 857 = .ok (.lstore 6, 2) := by decide +kernel
theorem d_W_law_859 : decode code 859 = .ok (.aload_n 2, 1) := by decide +kernel
theorem d_W_law_860 : decode code 860 = .ok (.invokevirtual 83, 3) := by decide +kernel
theorem d_W_law_863 : decode code 863 = .ok (.iload 5, 2) := by decide +kernel
theorem d_W_law_865 : decode code 865 = .ok (.if_icmp .eq 5, 3) := by decide +kernel
theorem d_W_law_868 : decode code 868 = .ok (.iconst 0, 1) := by decide +kernel
theorem d_W_law_869 : decode code 869 = .ok (.ireturn, 1) := by decide +kernel
theorem d_W_law_870 : decode code 870 = .ok (.iload 5, 2) := by decide +kernel
theorem d_W_law_872 : decode code 872 = .ok (.ifCond .ne 14, 3) := by decide +kernel
theorem d_W_law_875 : decode code 875 = .ok (.aload_n 3, 1) := by decide +kernel
theorem d_W_law_876 : decode code 876 = .ok (.iconst 0, 1) := by decide +kernel
theorem d_W_law_877 : decode code 877 = .ok (.laload, 1) := by decide +kernel
theorem d_W_law_878 : decode code 878 = .ok (.lload 6, 2) := by decide +kernel
theorem d_W_law_880 : decode code 880 = .ok (.lcmp, 1) := by decide +kernel
theorem d_W_law_881 : decode code 881 = .ok (.ifCond .eq 5, 3) := by decide +kernel
theorem d_W_law_884 : decode code 884 = .ok (.iconst 0, 1) := by decide +kernel
theorem d_W_law_885 : decode code 885 = .ok (.ireturn, 1) := by decide +kernel
theorem d_W_law_886 : decode code 886 = .ok (.goto 317, 3) := by decide +kernel
theorem d_W_law_889 : decode code 889 = .ok (.aload_n 1, 1) := by decide +kernel
theorem d_W_law_890 : decode code 890 = .ok (.aload_n 0, 1) := by decide +kernel
theorem d_W_law_891 : decode code 891 = .ok (.iload 4, 2) := by decide +kernel
theorem d_W_law_893 : decode code 893 = .ok (.iconst 1, 1) := by decide +kernel
theorem d_W_law_894 : decode code 894 = .ok (.iadd, 1) := by decide +kernel
theorem d_W_law_895 : decode code 895 = .ok (.iaload, 1) := by decide +kernel
theorem d_W_law_896 : decode code 896 = .ok (.aload_n 3, 1) := by decide +kernel
theorem d_W_law_897 : decode code 897 = .ok (.invokestatic 125, 3) := by decide +kernel
theorem d_W_law_900 : decode code 900 = .ok (.istore 5, 2) := by decide +kernel
theorem d_W_law_902 : decode code 902 = .ok (.aload_n 2, 1) := by decide +kernel
theorem d_W_law_903 : decode code 903 = .ok (.aload_n 0, 1) := by decide +kernel
theorem d_W_law_904 : decode code 904 = .ok (.iload 4, 2) := by decide +kernel
theorem d_W_law_906 : decode code 906 = .ok (.iconst 1, 1) := by decide +kernel
theorem d_W_law_907 : decode code 907 = .ok (.iadd, 1) := by decide +kernel
theorem d_W_law_908 : decode code 908 = .ok (.iaload, 1) := by decide +kernel
theorem d_W_law_909 : decode code 909 = .ok (.invokevirtual 127, 3) := by decide +kernel
theorem d_W_law_912 : decode code 912 = .ok (.istore 6, 2) := by decide +kernel
theorem d_W_law_914 : decode code 914 = .ok (.aload_n 2, 1) := by decide +kernel
theorem d_W_law_915 : decode code 915 = .ok (.invokevirtual 83, 3) := by decide +kernel
theorem d_W_law_918 : decode code 918 = .ok (.iload 5, 2) := by decide +kernel
theorem d_W_law_920 : decode code 920 = .ok (.if_icmp .eq 5, 3) := by decide +kernel
theorem d_W_law_923 : decode code 923 = .ok (.iconst 0, 1) := by decide +kernel
theorem d_W_law_924 : decode code 924 = .ok (.ireturn, 1) := by decide +kernel
theorem d_W_law_925 : decode code 925 = .ok (.iload 5, 2) := by decide +kernel
theorem d_W_law_927 : decode code 927 = .ok (.ifCond .ne 15, 3) := by decide +kernel
theorem d_W_law_930 : decode code 930 = .ok (.aload_n 3, 1) := by decide +kernel
theorem d_W_law_931 : decode code 931 = .ok (.iconst 0, 1) := by decide +kernel
theorem d_W_law_932 : decode code 932 = .ok (.laload, 1) := by decide +kernel
theorem d_W_law_933 : decode code 933 = .ok (.iload 6, 2) := by decide +kernel
theorem d_W_law_935 : decode code 935 = .ok (.i2l, 1) := by decide +kernel
theorem d_W_law_936 : decode code 936 = .ok (.lcmp, 1) := by decide +kernel
theorem d_W_law_937 : decode code 937 = .ok (.ifCond .eq 5, 3) := by decide +kernel
theorem d_W_law_940 : decode code 940 = .ok (.iconst 0, 1) := by decide +kernel
theorem d_W_law_941 : decode code 941 = .ok (.ireturn, 1) := by decide +kernel
theorem d_W_law_942 : decode code 942 = .ok (.goto 261, 3) := by decide +kernel
theorem d_W_law_945 : decode code 945 = .ok (.aload_n 1, 1) := by decide +kernel
theorem d_W_law_946 : decode code 946 = .ok (.aload_n 0, 1) := by decide +kernel
theorem d_W_law_947 : decode code 947 = .ok (.iload 4, 2) := by decide +kernel
theorem d_W_law_949 : decode code 949 = .ok (.iconst 1, 1) := by decide +kernel
theorem d_W_law_950 : decode code 950 = .ok (.iadd, 1) := by decide +kernel
theorem d_W_law_951 : decode code 951 = .ok (.iaload, 1) := by decide +kernel
theorem d_W_law_952 : decode code 952 = .ok (.aload_n 0, 1) := by decide +kernel
theorem d_W_law_953 : decode code 953 = .ok (.iload 4, 2) := by decide +kernel
theorem d_W_law_955 : decode code 955 = .ok (.iconst 2, 1) := by decide +kernel
theorem d_W_law_956 : decode code 956 = .ok (.iadd, 1) := by decide +kernel
theorem d_W_law_957 : decode code 957 = .ok (.iaload, 1) := by decide +kernel
theorem d_W_law_958 : decode code 958 = .ok (.aload_n 3, 1) := by decide +kernel
theorem d_W_law_959 : decode code 959 = .ok (.invokestatic 128, 3) := by decide +kernel
theorem d_W_law_962 : decode code 962 = .ok (.istore 5, 2) := by decide +kernel
theorem d_W_law_964 : decode code 964 = .ok (.aload_n 2, 1) := by decide +kernel
theorem d_W_law_965 : decode code 965 = .ok (.aload_n 0, 1) := by decide +kernel
theorem d_W_law_966 : decode code 966 = .ok (.iload 4, 2) := by decide +kernel
theorem d_W_law_968 : decode code 968 = .ok (.iconst 1, 1) := by decide +kernel
theorem d_W_law_969 : decode code 969 = .ok (.iadd, 1) := by decide +kernel
theorem d_W_law_970 : decode code 970 = .ok (.iaload, 1) := by decide +kernel
theorem d_W_law_971 : decode code 971 = .ok (.aload_n 0, 1) := by decide +kernel
theorem d_W_law_972 : decode code 972 = .ok (.iload 4, 2) := by decide +kernel
theorem d_W_law_974 : decode code 974 = .ok (.iconst 2, 1) := by decide +kernel
theorem d_W_law_975 : decode code 975 = .ok (.iadd, 1) := by decide +kernel
theorem d_W_law_976 : decode code 976 = .ok (.iaload, 1) := by decide +kernel
theorem d_W_law_977 : decode code 977 = .ok (.invokevirtual 130, 3) := by decide +kernel
theorem d_W_law_980 : decode code 980 = .ok (.istore 6, 2) := by decide +kernel
theorem d_W_law_982 : decode code 982 = .ok (.aload_n 2, 1) := by decide +kernel
theorem d_W_law_983 : decode code 983 = .ok (.invokevirtual 83, 3) := by decide +kernel
theorem d_W_law_986 : decode code 986 = .ok (.iload 5, 2) := by decide +kernel
theorem d_W_law_988 : decode code 988 = .ok (.if_icmp .eq 5, 3) := by decide +kernel
theorem d_W_law_991 : decode code 991 = .ok (.iconst 0, 1) := by decide +kernel
theorem d_W_law_992 : decode code 992 = .ok (.ireturn, 1) := by decide +kernel
theorem d_W_law_993 : decode code 993 = .ok (.iload 5, 2) := by decide +kernel
theorem d_W_law_995 : decode code 995 = .ok (.ifCond .ne 15, 3) := by decide +kernel
theorem d_W_law_998 : decode code 998 = .ok (.aload_n 3, 1) := by decide +kernel
theorem d_W_law_999 : decode code 999 = .ok (.iconst 0, 1) := by decide +kernel
theorem d_W_law_1000 : decode code 1000 = .ok (.laload, 1) := by decide +kernel
theorem d_W_law_1001 : decode code 1001 = .ok (.iload 6, 2) := by decide +kernel
theorem d_W_law_1003 : decode code 1003 = .ok (.i2l, 1) := by decide +kernel
theorem d_W_law_1004 : decode code 1004 = .ok (.lcmp, 1) := by decide +kernel
theorem d_W_law_1005 : decode code 1005 = .ok (.ifCond .eq 5, 3) := by decide +kernel
theorem d_W_law_1008 : decode code 1008 = .ok (.iconst 0, 1) := by decide +kernel
theorem d_W_law_1009 : decode code 1009 = .ok (.ireturn, 1) := by decide +kernel
theorem d_W_law_1010 : decode code 1010 = .ok (.goto 193, 3) := by decide +kernel
theorem d_W_law_1013 : decode code 1013 = .ok (.aload_n 1, 1) := by decide +kernel
theorem d_W_law_1014 : decode code 1014 = .ok (.invokevirtual 131, 3) := by decide +kernel
theorem d_W_law_1017 : decode code 1017 = .ok (.aload_n 2, 1) := by decide +kernel
theorem d_W_law_1018 : decode code 1018 = .ok (.invokevirtual 134, 3) := by decide +kernel
theorem d_W_law_1021 : decode code 1021 = .ok (.if_icmp .eq 182, 3) := by decide +kernel
theorem d_W_law_1024 : decode code 1024 = .ok (.iconst 0, 1) := by decide +kernel
theorem d_W_law_1025 : decode code 1025 = .ok (.ireturn, 1) := by decide +kernel
theorem d_W_law_1026 : decode code 1026 = .ok (.aload_n 1, 1) := by decide +kernel
theorem d_W_law_1027 : decode code 1027 = .ok (.aload_n 0, 1) := by decide +kernel
theorem d_W_law_1028 : decode code 1028 = .ok (.iload 4, 2) := by decide +kernel
theorem d_W_law_1030 : decode code 1030 = .ok (.iconst 1, 1) := by decide +kernel
theorem d_W_law_1031 : decode code 1031 = .ok (.iadd, 1) := by decide +kernel
theorem d_W_law_1032 : decode code 1032 = .ok (.iaload, 1) := by decide +kernel
theorem d_W_law_1033 : decode code 1033 = .ok (.aload_n 0, 1) := by decide +kernel
theorem d_W_law_1034 : decode code 1034 = .ok (.iload 4, 2) := by decide +kernel
theorem d_W_law_1036 : decode code 1036 = .ok (.iconst 2, 1) := by decide +kernel
theorem d_W_law_1037 : decode code 1037 = .ok (.iadd, 1) := by decide +kernel
theorem d_W_law_1038 : decode code 1038 = .ok (.iaload, 1) := by decide +kernel
theorem d_W_law_1039 : decode code 1039 = .ok (.aload_n 3, 1) := by decide +kernel
theorem d_W_law_1040 : decode code 1040 = .ok (.invokestatic 135, 3) := by decide +kernel
theorem d_W_law_1043 : decode code 1043 = .ok (.istore 5, 2) := by decide +kernel
theorem d_W_law_1045 : decode code 1045 = .ok (.aload_n 2, 1) := by decide +kernel
theorem d_W_law_1046 : decode code 1046 = .ok (.aload_n 0, 1) := by decide +kernel
theorem d_W_law_1047 : decode code 1047 = .ok (.iload 4, 2) := by decide +kernel
theorem d_W_law_1049 : decode code 1049 = .ok (.iconst 1, 1) := by decide +kernel
theorem d_W_law_1050 : decode code 1050 = .ok (.iadd, 1) := by decide +kernel
theorem d_W_law_1051 : decode code 1051 = .ok (.iaload, 1) := by decide +kernel
theorem d_W_law_1052 : decode code 1052 = .ok (.aload_n 0, 1) := by decide +kernel
theorem d_W_law_1053 : decode code 1053 = .ok (.iload 4, 2) := by decide +kernel
theorem d_W_law_1055 : decode code 1055 = .ok (.iconst 2, 1) := by decide +kernel
theorem d_W_law_1056 : decode code 1056 = .ok (.iadd, 1) := by decide +kernel
theorem d_W_law_1057 : decode code 1057 = .ok (.iaload, 1) := by decide +kernel
theorem d_W_law_1058 : decode code 1058 = .ok (.invokevirtual 137, 3) := by decide +kernel
theorem d_W_law_1061 : decode code 1061 = .ok (.lstore 6, 2) := by decide +kernel
theorem d_W_law_1063 : decode code 1063 = .ok (.aload_n 2, 1) := by decide +kernel
theorem d_W_law_1064 : decode code 1064 = .ok (.invokevirtual 83, 3) := by decide +kernel
theorem d_W_law_1067 : decode code 1067 = .ok (.iload 5, 2) := by decide +kernel
theorem d_W_law_1069 : decode code 1069 = .ok (.if_icmp .eq 5, 3) := by decide +kernel
theorem d_W_law_1072 : decode code 1072 = .ok (.iconst 0, 1) := by decide +kernel
theorem d_W_law_1073 : decode code 1073 = .ok (.ireturn, 1) := by decide +kernel
theorem d_W_law_1074 : decode code 1074 = .ok (.iload 5, 2) := by decide +kernel
theorem d_W_law_1076 : decode code 1076 = .ok (.ifCond .ne 14, 3) := by decide +kernel
theorem d_W_law_1079 : decode code 1079 = .ok (.aload_n 3, 1) := by decide +kernel
theorem d_W_law_1080 : decode code 1080 = .ok (.iconst 0, 1) := by decide +kernel
theorem d_W_law_1081 : decode code 1081 = .ok (.laload, 1) := by decide +kernel
theorem d_W_law_1082 : decode code 1082 = .ok (.lload 6, 2) := by decide +kernel
theorem d_W_law_1084 : decode code 1084 = .ok (.lcmp, 1) := by decide +kernel
theorem d_W_law_1085 : decode code 1085 = .ok (.ifCond .eq 5, 3) := by decide +kernel
theorem d_W_law_1088 : decode code 1088 = .ok (.iconst 0, 1) := by decide +kernel
theorem d_W_law_1089 : decode code 1089 = .ok (.ireturn, 1) := by decide +kernel
theorem d_W_law_1090 : decode code 1090 = .ok (.goto 113, 3) := by decide +kernel
theorem d_W_law_1093 : decode code 1093 = .ok (.aload_n 1, 1) := by decide +kernel
theorem d_W_law_1094 : decode code 1094 = .ok (.aload_n 0, 1) := by decide +kernel
theorem d_W_law_1095 : decode code 1095 = .ok (.iload 4, 2) := by decide +kernel
theorem d_W_law_1097 : decode code 1097 = .ok (.iconst 1, 1) := by decide +kernel
theorem d_W_law_1098 : decode code 1098 = .ok (.iadd, 1) := by decide +kernel
theorem d_W_law_1099 : decode code 1099 = .ok (.iaload, 1) := by decide +kernel
theorem d_W_law_1100 : decode code 1100 = .ok (.aload_n 3, 1) := by decide +kernel
theorem d_W_law_1101 : decode code 1101 = .ok (.invokestatic 138, 3) := by decide +kernel
theorem d_W_law_1104 : decode code 1104 = .ok (.istore 5, 2) := by decide +kernel
theorem d_W_law_1106 : decode code 1106 = .ok (.aload_n 2, 1) := by decide +kernel
theorem d_W_law_1107 : decode code 1107 = .ok (.aload_n 0, 1) := by decide +kernel
theorem d_W_law_1108 : decode code 1108 = .ok (.iload 4, 2) := by decide +kernel
theorem d_W_law_1110 : decode code 1110 = .ok (.iconst 1, 1) := by decide +kernel
theorem d_W_law_1111 : decode code 1111 = .ok (.iadd, 1) := by decide +kernel
theorem d_W_law_1112 : decode code 1112 = .ok (.iaload, 1) := by decide +kernel
theorem d_W_law_1113 : decode code 1113 = .ok (.invokevirtual 140, 3) := by decide +kernel
theorem d_W_law_1116 : decode code 1116 = .ok (.lstore 6, 2) := by decide +kernel
theorem d_W_law_1118 : decode code 1118 = .ok (.aload_n 2, 1) := by decide +kernel
theorem d_W_law_1119 : decode code 1119 = .ok (.invokevirtual 83, 3) := by decide +kernel
theorem d_W_law_1122 : decode code 1122 = .ok (.iload 5, 2) := by decide +kernel
theorem d_W_law_1124 : decode code 1124 = .ok (.if_icmp .eq 5, 3) := by decide +kernel
theorem d_W_law_1127 : decode code 1127 = .ok (.iconst 0, 1) := by decide +kernel
theorem d_W_law_1128 : decode code 1128 = .ok (.ireturn, 1) := by decide +kernel
theorem d_W_law_1129 : decode code 1129 = .ok (.iload 5, 2) := by decide +kernel
theorem d_W_law_1131 : decode code 1131 = .ok (.ifCond .ne 14, 3) := by decide +kernel
theorem d_W_law_1134 : decode code 1134 = .ok (.aload_n 3, 1) := by decide +kernel
theorem d_W_law_1135 : decode code 1135 = .ok (.iconst 0, 1) := by decide +kernel
theorem d_W_law_1136 : decode code 1136 = .ok (.laload, 1) := by decide +kernel
theorem d_W_law_1137 : decode code 1137 = .ok (.lload 6, 2) := by decide +kernel
theorem d_W_law_1139 : decode code 1139 = .ok (.lcmp, 1) := by decide +kernel
theorem d_W_law_1140 : decode code 1140 = .ok (.ifCond .eq 5, 3) := by decide +kernel
theorem d_W_law_1143 : decode code 1143 = .ok (.iconst 0, 1) := by decide +kernel
theorem d_W_law_1144 : decode code 1144 = .ok (.ireturn, 1) := by decide +kernel
theorem d_W_law_1145 : decode code 1145 = .ok (.goto 58, 3) := by decide +kernel
theorem d_W_law_1148 : decode code 1148 = .ok (.aload_n 1, 1) := by decide +kernel
theorem d_W_law_1149 : decode code 1149 = .ok (.aload_n 0, 1) := by decide +kernel
theorem d_W_law_1150 : decode code 1150 = .ok (.iload 4, 2) := by decide +kernel
theorem d_W_law_1152 : decode code 1152 = .ok (.iconst 1, 1) := by decide +kernel
theorem d_W_law_1153 : decode code 1153 = .ok (.iadd, 1) := by decide +kernel
theorem d_W_law_1154 : decode code 1154 = .ok (.iaload, 1) := by decide +kernel
theorem d_W_law_1155 : decode code 1155 = .ok (.aload_n 3, 1) := by decide +kernel
theorem d_W_law_1156 : decode code 1156 = .ok (.invokestatic 141, 3) := by decide +kernel
theorem d_W_law_1159 : decode code 1159 = .ok (.istore 5, 2) := by decide +kernel
theorem d_W_law_1161 : decode code 1161 = .ok (.aload_n 2, 1) := by decide +kernel
theorem d_W_law_1162 : decode code 1162 = .ok (.aload_n 0, 1) := by decide +kernel
theorem d_W_law_1163 : decode code 1163 = .ok (.iload 4, 2) := by decide +kernel
theorem d_W_law_1165 : decode code 1165 = .ok (.iconst 1, 1) := by decide +kernel
theorem d_W_law_1166 : decode code 1166 = .ok (.iadd, 1) := by decide +kernel
theorem d_W_law_1167 : decode code 1167 = .ok (.iaload, 1) := by decide +kernel
theorem d_W_law_1168 : decode code 1168 = .ok (.invokevirtual 143, 3) := by decide +kernel
theorem d_W_law_1171 : decode code 1171 = .ok (.lstore 6, 2) := by decide +kernel
theorem d_W_law_1173 : decode code 1173 = .ok (.aload_n 2, 1) := by decide +kernel
theorem d_W_law_1174 : decode code 1174 = .ok (.invokevirtual 83, 3) := by decide +kernel
theorem d_W_law_1177 : decode code 1177 = .ok (.iload 5, 2) := by decide +kernel
theorem d_W_law_1179 : decode code 1179 = .ok (.if_icmp .eq 5, 3) := by decide +kernel
theorem d_W_law_1182 : decode code 1182 = .ok (.iconst 0, 1) := by decide +kernel
theorem d_W_law_1183 : decode code 1183 = .ok (.ireturn, 1) := by decide +kernel
theorem d_W_law_1184 : decode code 1184 = .ok (.iload 5, 2) := by decide +kernel
theorem d_W_law_1186 : decode code 1186 = .ok (.ifCond .ne 14, 3) := by decide +kernel
theorem d_W_law_1189 : decode code 1189 = .ok (.aload_n 3, 1) := by decide +kernel
theorem d_W_law_1190 : decode code 1190 = .ok (.iconst 0, 1) := by decide +kernel
theorem d_W_law_1191 : decode code 1191 = .ok (.laload, 1) := by decide +kernel
theorem d_W_law_1192 : decode code 1192 = .ok (.lload 6, 2) := by decide +kernel
theorem d_W_law_1194 : decode code 1194 = .ok (.lcmp, 1) := by decide +kernel
theorem d_W_law_1195 : decode code 1195 = .ok (.ifCond .eq 5, 3) := by decide +kernel
theorem d_W_law_1198 : decode code 1198 = .ok (.iconst 0, 1) := by decide +kernel
theorem d_W_law_1199 : decode code 1199 = .ok (.ireturn, 1) := by decide +kernel
theorem d_W_law_1200 : decode code 1200 = .ok (.goto 3, 3) := by decide +kernel
theorem d_W_law_1203 : decode code 1203 = .ok (.iinc 4 4, 3) := by decide +kernel
theorem d_W_law_1206 : decode code 1206 = .ok (.goto (-1183), 3) := by decide +kernel
theorem d_W_law_1209 : decode code 1209 = .ok (.iconst 1, 1) := by decide +kernel
theorem d_W_law_1210 : decode code 1210 = .ok (.ireturn, 1) := by decide +kernel
end
section
/-! Where things lie: place by place in the order in which they are made. Written by wip/whole/tools/layout.py -/
def qKl : List Nat := [0, 0, 1, 1, 1, 1, 1, 4, 1, 1, 1, 1, 1, 1, 1, 1, 1, 1, 1, 1, 1, 1, 1, 1, 1, 1, 1, 1, 1, 0, 2, 1, 2, 2, 0, 3, 3, 3, 0, 2, 3, 0, 5, 3, 3, 3, 3, 3, 3, 3, 3, 3, 3, 3, 3, 3, 3, 3, 3, 3, 3, 3, 3, 3, 3, 2, 3, 0, 1, 1, 1, 1, 1, 1, 2, 2, 1, 2, 3, 3, 2, 3, 3, 3, 3]
def qLl : List Nat := [4, 8, 20, 20, 20, 20, 20, 20, 20, 20, 20, 20, 20, 20, 20, 20, 20, 20, 20, 20, 20, 20, 20, 20, 20, 20, 20, 20, 20, 8, 20, 20, 80, 20, 7, 20, 20, 20, 6, 20, 20, 8, 20, 21, 21, 21, 21, 21, 21, 21, 21, 21, 21, 21, 21, 21, 21, 21, 21, 21, 21, 21, 21, 20, 21, 20, 20, 23, 20, 20, 20, 20, 20, 400, 400, 20, 20, 80, 80, 20, 20, 420, 20, 21, 1]
def qCl : List Nat := [0, 1, 0, 0, 0, 0, 0, 8, 0, 0, 0, 0, 0, 0, 0, 0, 0, 0, 0, 0, 0, 0, 0, 0, 0, 0, 0, 0, 0, 2, 0, 0, 0, 0, 3, 0, 0, 0, 4, 0, 0, 5, 43, 0, 0, 0, 0, 0, 0, 0, 0, 0, 0, 0, 0, 0, 0, 0, 0, 0, 0, 0, 0, 0, 0, 0, 0, 6, 0, 0, 0, 0, 0, 0, 0, 0, 0, 0, 0, 0, 0, 0, 0, 0, 0]
def qK (p : Nat) : Nat := qKl.getD p 9
def qL (p : Nat) : Nat := qLl.getD p 0
def qC (p : Nat) : Nat := qCl.getD p 0
def qF (p k : Nat) : Nat := match p with
  | 0 => ([3, 31, 36, 43] : List Nat).getD k 0
  | 1 => ([0, 4, 5, 6, 7, 8, 9, 30] : List Nat).getD k 0
  | 29 => ([3, 0, 0, 0, 32, 33, 34, 35] : List Nat).getD k 0
  | 34 => ([3, 31, 40, 37, 1, 38, 39] : List Nat).getD k 0
  | 38 => ([3, 31, 41, 0, 1, 42] : List Nat).getD k 0
  | 41 => ([3, 31, 36, 44, 65, 66, 67, 68] : List Nat).getD k 0
  | 67 => ([0, 0, 70, 71, 72, 73, 74, 75, 76, 0, 77, 78, 79, 80, 81, 1, 1, 0, 0, 82, 83, 84, 85] : List Nat).getD k 0
  | _ => 0
theorem qLl_lt : ∀ x ∈ qLl, x < 2 ^ 31 := by decide
theorem qL_lt (q : Nat) : qL q < 2 ^ 31 := by
  unfold qL
  rw [List.getD_eq_getElem?_getD]
  cases h : qLl[q]? with
  | none => simp
  | some x => exact qLl_lt x (List.mem_of_getElem? h)
def qStr : List (String × Nat × String) := [("SuccessionClerk", 173, "a parent is NONE or a person with a lesser number"), ("SuccessionClerk", 175, "the parents are the same"), ("SuccessionClerk", 53, "there are 20 persons already"), ("SuccessionClerk", 169, "there is no such person"), ("SuccessionClerk", 75, "nobody marries itself"), ("SuccessionClerk", 82, "one of them died or has a living spouse"), ("SuccessionClerk", 90, "a day is 0 to 999"), ("SuccessionClerk", 92, "it died already"), ("SuccessionClerk", 108, "gifts that count come from a parent"), ("SuccessionClerk", 111, "a gift is 1 to 1000000 cents"), ("SuccessionClerk", 117, "all gifts would be above 1000000 cents"), ("SuccessionClerk", 119, "an estate is 0 to 1000000 cents"), ("SuccessionClerk", 171, "it did not die")]
def qNest : List (String × Nat × MethodName × String) := [("SuccessionClerk", 11, ⟨"SuccessionClerk$Family", "<init>", "()V"⟩, "SuccessionClerk")]
theorem qK_gi : ∀ c, c < 20 → qK (8 + c) = 1 := by decide
theorem qL_gi : ∀ c, c < 20 → qL (8 + c) = 20 := by decide
theorem qK_pm : ∀ c, c < 20 → qK (43 + c) = 3 := by decide
theorem qL_pm : ∀ c, c < 20 → qL (43 + c) = 21 := by decide
end
section
/-! Methods that return or throw (launches without stack traces): contracts, and their calls. The way of a call follows the library's Back.of_free, with one outcome more. -/
/-- what a method leaves behind it: the tables warmer, L written, at most so much new -/
def qFr (st t : State) (L : List Loc) (mc ms : Nat) : Prop := st.WarmedH t.vm ∧ st.sameButNew ({ t with vm := st.vm } : State) L mc ms
/-- a contract's end, whatever the outcome is -/
def qOut (Q : State → Outcome → State → Prop) (mc ms : Nat) (free : Addr → Prop) : Array Value → State → Outcome → State → Prop := fun _ st o t =>
  ((∃ v, o = .returned v) ∨ ∃ x, o = .threw x) ∧ Q st o t ∧ ∃ L, qFr st t L mc ms ∧ ∀ q ∈ L, free q.base
/-- a body's end -/
def qMQ (below : List Frame) (Q : State → Outcome → State → Prop) (s : State) (mc ms : Nat) (free : Addr → Prop) : State → Prop := fun t =>
  ∃ o, t.status = .running ∧ Ended t below o ∧ qOut Q mc ms free #[] s o t
section Qx
variable {l : Launch} {R : Room} {p : Program} {e : Env} {below : List Frame} {s : State} {sargs : Array Value} {m : MethodId} {meth : Method} {c : Code} {U : State} {locs : List Loc} {cells slots : Nat}
theorem qenter {y : MethodName} {ws : List Cond} {rm : Room} {Pc : Array Value → State → Prop} {Q : State → Outcome → State → Prop} {mc ms len maxL : Nat} {free : Addr → Prop} {a : Array Value} {g : JFrame} {ig : Instr} {mk : MethodId}
    (hM : MetFree l y (headSpec ws rm) Pc (fun _ _ _ _ _ => True) (qOut Q mc ms free)) (X : Stand p l e R s m sargs below meth c U locs cells slots) (hg : g.method = m) (hsize : g.locals.size = c.maxLocals) (hdg : decode c.code g.pc = .ok (ig, len)) (hW8 : 2 * g.monitorRoom + (g.stack.map fun v => v.category).sum ≤ 8)
    (hframes : rm.frames + 1 ≤ R.frames) (hlocals : 8 + (maxL + 11) + rm.locals ≤ R.locals) (hcells : cells + rm.cells ≤ R.cells) (hslots : slots + rm.slots ≤ R.slots) (hn : U.methodNamed? y = some mk) (hws : ∀ w ∈ ws, w.before a U = true)
    (hcode : ∃ (methY : Method) (cY : Code), U.vm.method? mk = some methY ∧ methY.code = some cY ∧ cY.maxLocals = maxL) (hinit : (Cond.initialized y.cls).before a U = true) (hPc : Pc a (U.calling g mk a)) :
    ∃ (s₂ U' : State) (L : List Loc), U'.heap = s₂.heap ∧ U'.vm = s₂.vm ∧ Stand p l e R s m sargs below meth c U' (locs ++ L) (cells + mc) (slots + ms) ∧ (∀ q ∈ L, free q.base) ∧
      ((∃ v, Q (U.calling g mk a) (.returned v) s₂ ∧ Steps p.tables e below (doInvoke e (U.setTop g) [] mk a).1 (U'.setTop { g with pc := g.pc + len, stack := v.toList ++ g.stack })) ∨
       (∃ x, Q (U.calling g mk a) (.threw x) s₂ ∧ Steps p.tables e below (doInvoke e (U.setTop g) [] mk a).1 ((U'.setTop g).pushFrame (.throwing x)))) := by
  obtain ⟨methY, cY, hmY, hcY, hlY⟩ := hcode
  obtain ⟨kY, hkY, -⟩ := className_of_methodNamed hn
  have hinitY : kY.init = .initialized := Cond.initialized_spec (findClass_of_methodNamed hn) hkY hinit
  have h : At U g.method c below := by rw [hg]; exact X.here
  have hpre : (headSpec ws rm).pre.before a U = true := atoms_intro hws
  have hroom := X.room_calling (g := g) (args' := a) (R' := (headSpec ws rm).room) hsize hmY hcY hframes (by rw [hlY]; show _ + _ + rm.locals ≤ _; omega) hcells hslots
  have happ : (headSpec ws rm).appliesLoose y e.platform (U.calling g mk a) = true := Spec.appliesLoose_calling (g := g) h hdg hn hkY hinitY hroom hpre
  obtain ⟨mid, hmid⟩ := h.above
  have hfr : (U.setTop g).frames = (.java g :: mid) ++ below := by rw [State.frames_setTop' g h.top, hmid]; rfl
  obtain ⟨o, s₂, hsteps, -, hend, ho, hq, L, ⟨hW₂, hsm⟩, hL⟩ := Steps.callFree hM p X.admits X.cas X.clock (acts := []) hfr happ hPc trivial
  rw [State.frames_setTop' g h.top] at hend
  have hW' : U.WarmedH s₂.vm := hW₂
  obtain ⟨e2, q2, q3, q4, q5, q6⟩ := id hsm
  have e3 : s₂ = ({ (U.calling g mk a).setFrames s₂.frames with heap := s₂.heap, slotsUsed := s₂.slotsUsed } : State).setVm s₂.vm := by
    have h0 : s₂ = ({ s₂ with vm := (U.calling g mk a).vm } : State).setVm s₂.vm := rfl
    exact h0.trans (congrArg (fun z : State => z.setVm s₂.vm) e2)
  obtain ⟨g₀, hg0⟩ := Option.isSome_iff_exists.mp h.top
  obtain ⟨r, hr⟩ := State.topJava?_eq_some.mp hg0
  obtain ⟨U', hU'⟩ : ∃ z : State, z = ({ U with heap := s₂.heap, slotsUsed := s₂.slotsUsed } : State).setVm s₂.vm := ⟨_, rfl⟩
  have hr' : U'.frames = .java g₀ :: r := by rw [hU']; exact hr
  have hsame : U.sameButNew ({ U with heap := s₂.heap, slotsUsed := s₂.slotsUsed } : State) L mc ms := by
    refine ⟨?_, q2, q3, q4, q5, q6⟩
    obtain ⟨t, ht, -⟩ := State.frames_cons hr
    show ({ U with heap := s₂.heap, slotsUsed := s₂.slotsUsed } : State) = { U.setFrames U.frames with heap := s₂.heap, slotsUsed := s₂.slotsUsed }
    rw [State.setFrames_self ht]
  have X' : Stand p l e R s m sargs below meth c U' (locs ++ L) (cells + mc) (slots + ms) := by
    subst hg
    rw [hU']
    exact ⟨X.admits, X.cas, X.clock, X.frames, X.room, X.hears, X.method, X.code, (X.here.setHeapUsed s₂.heap s₂.slotsUsed).setVm hW'.alike, X.tail, State.WarmedH.trans X.warmed hW', X.limits, X.bytes, X.same.trans (hsame.setVm s.vm)⟩
  refine ⟨s₂, U', L, by rw [hU']; rfl, by rw [hU']; rfl, X', hL, ?_⟩
  rcases ho with ⟨v, rfl⟩ | ⟨x, rfl⟩
  · refine Or.inl ⟨v, hq, ?_⟩
    obtain ⟨c₂, i₂, len₂, hc₂, hd₂, hf₂⟩ := hend
    have hcc : c₂ = c := by
      have h1 : s₂.code? g.method = U.code? g.method := by rw [State.code?_eq, State.code?_eq, hW'.alike.method?]
      exact Option.some.inj (hc₂.symm.trans (h1.trans h.code))
    rw [hcc, hdg] at hd₂
    cases hd₂
    have hs₂ : s₂ = U'.setTop { g with pc := g.pc + len, stack := v.toList ++ g.stack } := by
      refine e3.trans ?_
      rw [hf₂, State.calling_eq h.top, State.setFrames_setFrames, State.setTop_of_frames _ hr', hr, hU']
      rfl
    rw [← hs₂]
    exact hsteps
  · refine Or.inr ⟨x, hq, ?_⟩
    have hf₂ : s₂.frames = .throwing x :: .java g :: U.frames.tail := hend
    have hs₂ : s₂ = (U'.setTop g).pushFrame (.throwing x) := by
      refine e3.trans ?_
      rw [hf₂, State.calling_eq h.top, State.setFrames_setFrames, State.pushFrame, State.frames_setTop _ hr', State.setTop_of_frames _ hr', State.setFrames_setFrames, hr, hU']
      rfl
    rw [← hs₂]
    exact hsteps
/-- a body's walk gives its contract -/
theorem qmet {y : MethodName} {ws ws' : List Cond} {rm : Room} {Pc : Array Value → State → Prop} {Q : State → Outcome → State → Prop} {mc ms : Nat} {free : Addr → Prop} {cc : ByteArray} {maxL : Nat} {ret : Option FieldType} (hy : plainName y.cls = true) (hw : ws = Cond.code y cc maxL ret :: ws')
    (body : ∀ p e s m args below meth c s₁, BodyLoose p l y (headSpec ws rm) cc maxL ret e s m args below meth c s₁ → c.maxLocals = maxL → c.exceptionTable.toList = [] → Pc args s → W p l e rm s m args below meth c s.heap [] 0 0 (qMQ below Q s mc ms free) (entryFrame m args maxL)) :
    MetFree l y (headSpec ws rm) Pc (fun _ _ _ _ _ => True) (qOut Q mc ms free) := by
  refine MetFree.of_bodyS (code := cc) (maxLocals := maxL) (ret := ret) hy ?_ ?_
  · intro args s m h hn
    obtain ⟨meth, c, h1, h2, h3, h4, h5, h6, -, -⟩ := Cond.code_spec hn (atoms_spec (ws := ws) h _ (by rw [hw]; exact List.mem_cons_self))
    exact ⟨meth, c, h1, h2, h3, h4, h5, h6⟩
  · intro p e s m args below meth c s₁ B hml hP _
    have X := Stand.of_body B
    have ht : c.exceptionTable.toList = [] := by
      obtain ⟨m9, c9, h1, h2, -, -, -, -, h7, -⟩ := Cond.code_spec B.named (atoms_spec (ws := ws) B.pre _ (by rw [hw]; exact List.mem_cons_self))
      cases Option.some.inj (h1.symm.trans B.method)
      cases Option.some.inj (h2.symm.trans X.code)
      rw [Array.isEmpty_iff.mp h7]
    obtain ⟨t, a1, o, b1, b2, b3⟩ := body p e s m args below meth c s₁ B hml ht hP s₁ (by rw [B.state]; rfl) X
    exact ⟨t, o, a1, b1, b2, b3⟩
/-- a plain end is an end here -/
theorem qret {args : Array Value} {H : Heap} {g : JFrame} {Qc : Array Value → State → Outcome → State → Prop} {Q : State → Outcome → State → Prop} {mc ms : Nat} {free : Addr → Prop} (hQ : ∀ o t, Qc args s o t → Q s o t) (k : W p l e R s m args below meth c H locs cells slots (MQ below Qc args s mc ms free) g) : W p l e R s m args below meth c H locs cells slots (qMQ below Q s mc ms free) g := by
  intro T hT X
  obtain ⟨t, a1, o, b1, b2, b3, L, hF, hL⟩ := k T hT X
  exact ⟨t, a1, o, b1, b2, Or.inl hF.1, hQ o t b3, L, hF.2, hL⟩
/-- an exception over this frame that no row of the table covers goes to the caller -/
theorem qthrough {args : Array Value} {ls : Array Slot} {pc : Nat} {rest : List Value} {Q : State → Outcome → State → Prop} {mc ms : Nat} {free : Addr → Prop} {x : Addr} (X : Stand p l e R s m args below meth c U locs cells slots) (hout : ∀ y ∈ c.exceptionTable.toList, covers y pc = false) (hlocks : meth.locks = false) (hq : ∀ t : State, t.heap = U.heap → s.vm.Alike t.vm → Q s (.threw x) t) (hf : ∀ z ∈ locs, free z.base) (hc : cells ≤ mc) (hs : slots ≤ ms) :
    ∃ t, Steps p.tables e below ((U.setTop (F0 m pc ls rest)).pushFrame (.throwing x)) t ∧ qMQ below Q s mc ms free t := by
  obtain ⟨st1, hrun, hend, hW, hsm⟩ := X.leaveThrown x (g := F0 m pc ls rest) rfl rfl rfl hout hlocks
  exact ⟨_, st1, .threw x, hrun, hend, Or.inr ⟨x, rfl⟩, hq _ rfl hW.alike, locs, ⟨hW, hsm.mono hc hs⟩, hf⟩
end Qx
end
section
/-! The state of the world: ints (booleans too) and longs, by place and index. Place q lies at the address b + q. -/
abbrev Sg : Type := (Nat → Nat → Int32) × (Nat → Nat → Int64)
def sI (g : Sg) (p : Nat) (f : Nat → Int32) : Sg := (fun q => if q = p then f else g.1 q, g.2)
def sJ (g : Sg) (p : Nat) (f : Nat → Int64) : Sg := (g.1, fun q => if q = p then f else g.2 q)
theorem sI_s (g : Sg) (p : Nat) (f : Nat → Int32) : (sI g p f).1 p = f := if_pos rfl
theorem sI_n {g : Sg} {p q : Nat} {f : Nat → Int32} (h : q ≠ p) : (sI g p f).1 q = g.1 q := if_neg h
theorem sI_2 (g : Sg) (p : Nat) (f : Nat → Int32) : (sI g p f).2 = g.2 := rfl
theorem sJ_1 (g : Sg) (p : Nat) (f : Nat → Int64) : (sJ g p f).1 = g.1 := rfl
theorem sJ_s (g : Sg) (p : Nat) (f : Nat → Int64) : (sJ g p f).2 p = f := if_pos rfl
theorem sJ_n {g : Sg} {p q : Nat} {f : Nat → Int64} (h : q ≠ p) : (sJ g p f).2 q = g.2 q := if_neg h
def qV (b : Nat) (K : Nat → Nat → Bool) (g : Sg) (p k : Nat) : Value := match qF p k with
  | 0 => .int (g.1 p k)
  | 1 => .long (g.2 p k)
  | n + 2 => if K p k = true then .ref (b + n) else .null
def qQ (b p : Nat) : Nat → Option Nat := fun i => if i < qL p then some (b + qC p + i) else none
def qE (b : Nat) (id : Nat → ClassId) (K : Nat → Nat → Bool) (g : Sg) (p : Nat) : va_E := match qK p with
  | 0 => .inr (qC p, (List.range (qL p)).map (qV b K g p))
  | 1 => .inl (id 0, qL p, .inl (g.1 p))
  | 2 => .inl (id 1, qL p, .inl (g.1 p))
  | 3 => .inl (id 2, qL p, .inr (.inl (g.2 p)))
  | 4 => .inl (id 3, qL p, .inr (.inr (.inr (.inr (qQ b p)))))
  | _ => .inl (id 4, qL p, .inr (.inr (.inr (.inr (qQ b p)))))
section Qa
variable {b : Nat} {id : Nat → ClassId} {K K' : Nat → Nat → Bool} {g g' : Sg} {p q N : Nat}
theorem qE_0 (h : qK p = 0) : qE b id K g p = .inr (qC p, (List.range (qL p)).map (qV b K g p)) := by simp only [qE, h]
theorem qE_1 (h : qK p = 1) : qE b id K g p = .inl (id 0, qL p, .inl (g.1 p)) := by simp only [qE, h]
theorem qE_2 (h : qK p = 2) : qE b id K g p = .inl (id 1, qL p, .inl (g.1 p)) := by simp only [qE, h]
theorem qE_3 (h : qK p = 3) : qE b id K g p = .inl (id 2, qL p, .inr (.inl (g.2 p))) := by simp only [qE, h]
theorem qE_4 (h : qK p = 4) : qE b id K g p = .inl (id 3, qL p, .inr (.inr (.inr (.inr (qQ b p))))) := by simp only [qE, h]
theorem qE_5 (h : qK p = 5) : qE b id K g p = .inl (id 4, qL p, .inr (.inr (.inr (.inr (qQ b p))))) := by simp only [qE, h]
theorem qV_congr (h1 : g'.1 p = g.1 p) (h2 : g'.2 p = g.2 p) (h3 : K' p = K p) : qV b K' g' p = qV b K g p := by
  funext k
  simp only [qV, h1, h2, h3]
theorem qE_congr (h1 : g'.1 p = g.1 p) (h2 : g'.2 p = g.2 p) (h3 : K' p = K p) : qE b id K' g' p = qE b id K g p := by
  simp only [qE, h1, h2, qV_congr h1 h2 h3]
def qW (b : Nat) (id : Nat → ClassId) (N : Nat) (K : Nat → Nat → Bool) (g : Sg) : va_W := (List.range N).map (fun p => (b + p, qE b id K g p))
theorem qW_len : (qW b id N K g).length = N := by simp [qW]
theorem qW_get (h : p < N) : (qW b id N K g)[p]? = some (b + p, qE b id K g p) := by
  unfold qW
  rw [List.getElem?_map, List.getElem?_range h]
  rfl
theorem qW_of {k : Nat} {x : Nat × va_E} (h : (qW b id N K g)[k]? = some x) : k < N ∧ x = (b + k, qE b id K g k) := by
  have hl : k < N := by
    have := (List.getElem?_eq_some_iff.mp h).1
    rw [qW_len] at this
    exact this
  rw [qW_get hl] at h
  exact ⟨hl, (Option.some.inj h).symm⟩
theorem qW_D : va_D (fun q => b ≤ q) (qW b id N K g) := by
  refine ⟨fun i j x y hi hj hxy => ?_, fun k x hk => ?_⟩
  · obtain ⟨-, rfl⟩ := qW_of hi
    obtain ⟨-, rfl⟩ := qW_of hj
    dsimp only at hxy
    omega
  · obtain ⟨-, rfl⟩ := qW_of hk
    exact Nat.le_add_right _ _
theorem qW_set (hp : p < N) {e : va_E} (he : qE b id K' g' p = e) (ho : ∀ q, q ≠ p → qE b id K' g' q = qE b id K g q) : (qW b id N K g).set p (b + p, e) = qW b id N K' g' := by
  apply List.ext_getElem?
  intro k
  by_cases hk : k < N
  · by_cases hkp : k = p
    · subst hkp
      rw [List.getElem?_set_self (by rw [qW_len]; exact hk), qW_get hk, he]
    · rw [List.getElem?_set_ne (Ne.symm hkp), qW_get hk, qW_get hk, ho k hkp]
  · rw [List.getElem?_eq_none (by rw [List.length_set, qW_len]; omega), List.getElem?_eq_none (by rw [qW_len]; omega)]
theorem qE_sI (h : q ≠ p) {f : Nat → Int32} : qE b id K (sI g p f) q = qE b id K g q := qE_congr (sI_n h) rfl rfl
theorem qE_sJ (h : q ≠ p) {f : Nat → Int64} : qE b id K (sJ g p f) q = qE b id K g q := qE_congr rfl (sJ_n h) rfl
theorem qW_s1 (hp : p < N) (hk : qK p = 1) {f : Nat → Int32} : (qW b id N K g).set p (b + p, .inl (id 0, qL p, .inl f)) = qW b id N K (sI g p f) :=
  qW_set hp (by rw [qE_1 hk, sI_s]) (fun q h => qE_sI h)
theorem qW_s2 (hp : p < N) (hk : qK p = 2) {f : Nat → Int32} : (qW b id N K g).set p (b + p, .inl (id 1, qL p, .inl f)) = qW b id N K (sI g p f) :=
  qW_set hp (by rw [qE_2 hk, sI_s]) (fun q h => qE_sI h)
theorem qW_s3 (hp : p < N) (hk : qK p = 3) {f : Nat → Int64} : (qW b id N K g).set p (b + p, .inl (id 2, qL p, .inr (.inl f))) = qW b id N K (sJ g p f) :=
  qW_set hp (by rw [qE_3 hk, sJ_s]) (fun q h => qE_sJ h)
end Qa
/-- the array classes that the worlds name -/
def tyQ (id : Nat → ClassId) : List (ClassId × FieldType) := [(id 0, .int), (id 1, .boolean), (id 2, .long), (id 3, .array .int), (id 4, .array .long)]
/-- what is known beside the tables: strings, statics of Throwable, links to nest mates -/
def qX (b : Nat) (U : State) (H : Heap) : Prop :=
  (∀ x ∈ qStr, ∃ sa : Nat, vk_R x.1 x.2.1 x.2.2 sa U) ∧ va_Zq Bundle.tN "UNASSIGNED_STACK" Bundle.steD (fun q => b ≤ q) U H ∧ va_Zq Bundle.tN "SUPPRESSED_SENTINEL" Bundle.listD (fun q => b ≤ q) U H ∧ ∀ x ∈ qNest, va_Nw (.methodLinkNest x.1 x.2.1 x.2.2.1 x.2.2.2) U
theorem qX.go {b : Nat} {s U : State} {H H1 : Heap} {locs : List Loc} (h : qX b s H) (hS : va_S (fun q => b ≤ q) H H1 locs) (hW : s.WarmedH U.vm) : qX b U H1 := by
  obtain ⟨h1, h2, h3, h4⟩ := h
  refine ⟨fun x hx => ?_, va_Zq.moved hW.alike (h2.kept hS.2.1), va_Zq.moved hW.alike (h3.kept hS.2.1), fun x hx => va_Nw.warmM hW (h4 x hx)⟩
  obtain ⟨sa, hsa⟩ := h1 x hx
  exact ⟨sa, vk_R.warm hW hsa⟩
/-- a word of TT at any warmer state -/
theorem tU {w : Cond} {args a' : Array Value} {s U : State} (hts : ∀ w ∈ TT, w.before args s = true) (hW : s.WarmedH U.vm) (h : w ∈ TT) : w.before a' U = true := word_at hW (good_of_word (List.mem_filter.mp h).2) (hts w h)
/-- a method: its name, its code, its locals, its room, what it returns, its table -/
abbrev Mt : Type := MethodName × ByteArray × Nat × Room × Option FieldType × Option (List (Nat × Nat × Nat × Nat))
abbrev mM (M : Mt) : MethodName := M.1
abbrev mO (M : Mt) : String := M.1.cls
abbrev mC (M : Mt) : ByteArray := M.2.1
abbrev mN (M : Mt) : Nat := M.2.2.1
abbrev mR (M : Mt) : Room := M.2.2.2.1
abbrev mY (M : Mt) : Option FieldType := M.2.2.2.2.1
abbrev mH (M : Mt) : Option (List (Nat × Nat × Nat × Nat)) := M.2.2.2.2.2
def mW (M : Mt) : Cond := match mH M with
  | none => .code (mM M) (mC M) (mN M) (mY M)
  | some hh => .codeWith (mM M) (mC M) (mN M) (mY M) hh
def mX (M : Mt) : List ExceptionTableEntry := match mH M with
  | none => []
  | some hh => tableOf hh
def qPW (b : Nat) (id : Nat → ClassId) (D : va_G) (z : Bool) (N : Nat) (K : Nat → Nat → Bool) (g : Sg) (U : State) : Prop :=
  va_P D vwCl (qW b id N K g) U.heap ∧ va_K D vwCl (tyQ id) U ∧ qX b U U.heap ∧ (z = true → U.heap.size = b + N)
def qQx (b : Nat) (id : Nat → ClassId) (D : va_G) (z : Bool) (NE : Nat) (KE : Nat → Nat → Bool) (post : Option Value → Sg → Prop) (NX : Nat) (KX : Nat → Nat → Bool) (px : String → Sg → Prop) : State → Outcome → State → Prop := fun st o t =>
  va_F (fun q => b ≤ q) st t ∧ ((∃ (v : Option Value) (g : Sg), o = .returned v ∧ post v g ∧ va_P D vwCl (qW b id NE KE g) t.heap ∧ (z = true → t.heap.size = b + NE)) ∨
    ∃ (x : Addr) (E : String) (cell : Cell) (g : Sg), o = .threw x ∧ px E g ∧ va_P D vwCl (qW b id NX KX g) t.heap ∧ t.heap[x]? = some cell ∧ cell.vm = .none ∧ st.vm.findClass E = some cell.cls)
/-- a contract: from the world g, with the arguments av, the method returns with post, or throws with px -/
def qCT (l : Launch) (b : Nat) (id : Nat → ClassId) (D : va_G) (M : Mt) (z : Bool) (av : List Value) (N : Nat) (K : Nat → Nat → Bool) (g : Sg) (NE : Nat) (KE : Nat → Nat → Bool) (post : Option Value → Sg → Prop) (px : String → Sg → Prop) : Prop :=
  MetFree l (mM M) (headSpec (mW M :: TT) (mR M)) (va_Pc av (qPW b id D z N K g)) (fun _ _ _ _ _ => True) (qOut (qQx b id D z NE KE post N K px) (mR M).cells (mR M).slots (fun q => b ≤ q))
/-- what a method's body knows all along -/
def Cq (b : Nat) (id : Nat → ClassId) (D : va_G) (M : Mt) (p : Program) (s : State) (m : MethodId) (args : Array Value) (meth : Method) (c : Code) : Prop :=
  p.tables.exec = Jvm.exec ∧ c.code = mC M ∧ c.maxLocals = mN M ∧ s.vm.findClass (mO M) = some m.cls ∧ (∀ w ∈ TT, w.before args s = true) ∧ meth.locks = false ∧ meth.sig.returnType = mY M ∧ meth.name = (mM M).name ∧ c.exceptionTable.toList = mX M ∧ va_K D vwCl (tyQ id) s ∧ qX b s s.heap
/-- the machine stands at pc with these locals, this stack, the world g: it comes to an end with post or px -/
def Vq (l : Launch) (b : Nat) (id : Nat → ClassId) (D : va_G) (M : Mt) (z : Bool) (NE : Nat) (KE : Nat → Nat → Bool) (post : Option Value → Sg → Prop) (NX : Nat) (KX : Nat → Nat → Bool) (px : String → Sg → Prop) (N : Nat) (K : Nat → Nat → Bool) (ce sl pc : Nat) (lv : List (Nat × Value)) (st : List Value) (g : Sg) : Prop :=
  ∀ (p : Program) (e : Env) (s : State) (m : MethodId) (args : Array Value) (below : List Frame) (meth : Method) (c : Code), Cq b id D M p s m args meth c → ∀ (H : Heap) (locs : List Loc) (ls : Array Slot), va_P D vwCl (qW b id N K g) H → va_S (fun q => b ≤ q) s.heap H locs → lv_has ls (mN M) lv → (z = true → H.size = b + N) →
    W p l e (mR M) s m args below meth c H locs ce sl (qMQ below (qQx b id D z NE KE post NX KX px) s (mR M).cells (mR M).slots (fun q => b ≤ q)) (F0 m pc ls st)
theorem lk_at {ls : Array Slot} {nL : Nat} {v : Value} {i : Nat} : ∀ {lv : List (Nat × Value)}, lv_has ls nL lv → lv.lookup i = some v → ls[i]? = some (.val v)
  | [], _, h => by simp at h
  | (j, w) :: lv, hl, h => by
    by_cases e : i = j
    · subst e
      simp [List.lookup] at h
      subst h
      exact hl.2.2 (i, w) List.mem_cons_self
    · have h2 : lv.lookup i = some v := by
        have hb : (i == j) = false := by simp [e]
        simp only [List.lookup, hb] at h
        exact h
      exact lk_at (lv := lv) ⟨hl.1, hl.2.1, fun x hx => hl.2.2 x (List.mem_cons_of_mem _ hx)⟩ h2
/-- the locals behind a store of one word, of two -/
def s1L (i : Nat) (v : Value) (lv : List (Nat × Value)) : List (Nat × Value) := (i, v) :: lv.filter (fun q => !(q.1 == i) && !(q.1 + 1 == i && q.2.category == 2))
def s2L (i : Nat) (v : Value) (lv : List (Nat × Value)) : List (Nat × Value) := (i, v) :: lv.filter (fun q => !(q.1 == i) && (!(q.1 == i + 1) && !(q.1 + 1 == i && q.2.category == 2)))
section Vb
variable {l : Launch} {b : Nat} {id : Nat → ClassId} {D : va_G} {M : Mt} {z : Bool} {NE : Nat} {KE : Nat → Nat → Bool} {post : Option Value → Sg → Prop} {NX : Nat} {KX : Nat → Nat → Bool} {px : String → Sg → Prop} {N : Nat} {K : Nat → Nat → Bool} {ce sl pc : Nat} {lv : List (Nat × Value)} {st : List Value} {g : Sg}
theorem vq_iconst {n : Int} {v : Int32} (hd : decode (mC M) pc = .ok (.iconst n, 1)) (hv : Int32.ofInt n = v) (kk : Vq l b id D M z NE KE post NX KX px N K ce sl (pc + 1) lv (.int v :: st) g) : Vq l b id D M z NE KE post NX KX px N K ce sl pc lv st g :=
  fun p e s m args below meth c X H locs ls hP hS hl hz => lv_iconst X.1 X.2.1 hd hv (kk p e s m args below meth c X H locs ls hP hS hl hz)
theorem vq_bipush {n : Int} {v : Int32} (hd : decode (mC M) pc = .ok (.bipush n, 2)) (hv : (Int8.ofInt n).toInt32 = v) (kk : Vq l b id D M z NE KE post NX KX px N K ce sl (pc + 2) lv (.int v :: st) g) : Vq l b id D M z NE KE post NX KX px N K ce sl pc lv st g :=
  fun p e s m args below meth c X H locs ls hP hS hl hz => lv_bipush X.1 X.2.1 hd hv (kk p e s m args below meth c X H locs ls hP hS hl hz)
theorem vq_sipush {n : Int} {v : Int32} (hd : decode (mC M) pc = .ok (.sipush n, 3)) (hv : (Int16.ofInt n).toInt32 = v) (kk : Vq l b id D M z NE KE post NX KX px N K ce sl (pc + 3) lv (.int v :: st) g) : Vq l b id D M z NE KE post NX KX px N K ce sl pc lv st g :=
  fun p e s m args below meth c X H locs ls hP hS hl hz => lv_sipush X.1 X.2.1 hd hv (kk p e s m args below meth c X H locs ls hP hS hl hz)
theorem vq_lconst {n : Fin 2} {v : Int64} (hd : decode (mC M) pc = .ok (.lconst n, 1)) (hv : Int64.ofNat (n : Nat) = v) (kk : Vq l b id D M z NE KE post NX KX px N K ce sl (pc + 1) lv (.long v :: st) g) : Vq l b id D M z NE KE post NX KX px N K ce sl pc lv st g :=
  fun p e s m args below meth c X H locs ls hP hS hl hz => lv_lconst X.1 X.2.1 hd hv (kk p e s m args below meth c X H locs ls hP hS hl hz)
theorem vq_ldc {index : Nat} {v : Int32} (hd : decode (mC M) pc = .ok (.ldc index, 2)) (hv : Cond.constant (mO M) index v ∈ TT) (kk : Vq l b id D M z NE KE post NX KX px N K ce sl (pc + 2) lv (.int v :: st) g) : Vq l b id D M z NE KE post NX KX px N K ce sl pc lv st g :=
  fun p e s m args below meth c X H locs ls hP hS hl hz => lv_ldc X.1 X.2.1 X.2.2.2.1 (X.2.2.2.2.1 _ hv) hd (kk p e s m args below meth c X H locs ls hP hS hl hz)
theorem vq_ldc2 {index : Nat} {v : Int64} (hd : decode (mC M) pc = .ok (.ldc2_w index, 3)) (hv : Cond.constantLong (mO M) index v ∈ TT) (kk : Vq l b id D M z NE KE post NX KX px N K ce sl (pc + 3) lv (.long v :: st) g) : Vq l b id D M z NE KE post NX KX px N K ce sl pc lv st g :=
  fun p e s m args below meth c X H locs ls hP hS hl hz => lv_ldc2 X.1 X.2.1 X.2.2.2.1 (X.2.2.2.2.1 _ hv) hd (kk p e s m args below meth c X H locs ls hP hS hl hz)
theorem vq_iload_n {k : Fin 4} {x : Int32} (hd : decode (mC M) pc = .ok (.iload_n k, 1)) (h : lv.lookup (k : Nat) = some (.int x)) (kk : Vq l b id D M z NE KE post NX KX px N K ce sl (pc + 1) lv (.int x :: st) g) : Vq l b id D M z NE KE post NX KX px N K ce sl pc lv st g :=
  fun p e s m args below meth c X H locs ls hP hS hl hz => lv_iload_n X.1 X.2.1 hd rfl (lk_at hl h) (kk p e s m args below meth c X H locs ls hP hS hl hz)
theorem vq_iload {i : Nat} {x : Int32} (hd : decode (mC M) pc = .ok (.iload i, 2)) (h : lv.lookup i = some (.int x)) (kk : Vq l b id D M z NE KE post NX KX px N K ce sl (pc + 2) lv (.int x :: st) g) : Vq l b id D M z NE KE post NX KX px N K ce sl pc lv st g :=
  fun p e s m args below meth c X H locs ls hP hS hl hz => lv_iload X.1 X.2.1 hd (lk_at hl h) (kk p e s m args below meth c X H locs ls hP hS hl hz)
theorem vq_istore_n {k : Fin 4} {x : Int32} {lv' : List (Nat × Value)} (hd : decode (mC M) pc = .ok (.istore_n k, 1)) (hn : (k : Nat) < mN M) (h : s1L (k : Nat) (.int x) lv = lv') (kk : Vq l b id D M z NE KE post NX KX px N K ce sl (pc + 1) lv' st g) : Vq l b id D M z NE KE post NX KX px N K ce sl pc lv (.int x :: st) g :=
  fun p e s m args below meth c X H locs ls hP hS hl hz => lv_istore_n X.1 X.2.1 hd rfl hl hn h (fun ls' hl' => kk p e s m args below meth c X H locs ls' hP hS hl' hz)
theorem vq_istore {i : Nat} {x : Int32} {lv' : List (Nat × Value)} (hd : decode (mC M) pc = .ok (.istore i, 2)) (hn : i < mN M) (h : s1L i (.int x) lv = lv') (kk : Vq l b id D M z NE KE post NX KX px N K ce sl (pc + 2) lv' st g) : Vq l b id D M z NE KE post NX KX px N K ce sl pc lv (.int x :: st) g :=
  fun p e s m args below meth c X H locs ls hP hS hl hz => lv_istore X.1 X.2.1 hd hl hn h (fun ls' hl' => kk p e s m args below meth c X H locs ls' hP hS hl' hz)
theorem vq_lload_n {k : Fin 4} {x : Int64} (hd : decode (mC M) pc = .ok (.lload_n k, 1)) (h : lv.lookup (k : Nat) = some (.long x)) (kk : Vq l b id D M z NE KE post NX KX px N K ce sl (pc + 1) lv (.long x :: st) g) : Vq l b id D M z NE KE post NX KX px N K ce sl pc lv st g :=
  fun p e s m args below meth c X H locs ls hP hS hl hz => lv_lload_n X.1 X.2.1 hd rfl (lk_at hl h) (kk p e s m args below meth c X H locs ls hP hS hl hz)
theorem vq_lload {i : Nat} {x : Int64} (hd : decode (mC M) pc = .ok (.lload i, 2)) (h : lv.lookup i = some (.long x)) (kk : Vq l b id D M z NE KE post NX KX px N K ce sl (pc + 2) lv (.long x :: st) g) : Vq l b id D M z NE KE post NX KX px N K ce sl pc lv st g :=
  fun p e s m args below meth c X H locs ls hP hS hl hz => lv_lload X.1 X.2.1 hd (lk_at hl h) (kk p e s m args below meth c X H locs ls hP hS hl hz)
theorem vq_lstore_n {k : Fin 4} {x : Int64} {lv' : List (Nat × Value)} (hd : decode (mC M) pc = .ok (.lstore_n k, 1)) (hn : (k : Nat) + 1 < mN M) (h : s2L (k : Nat) (.long x) lv = lv') (kk : Vq l b id D M z NE KE post NX KX px N K ce sl (pc + 1) lv' st g) : Vq l b id D M z NE KE post NX KX px N K ce sl pc lv (.long x :: st) g :=
  fun p e s m args below meth c X H locs ls hP hS hl hz => lv_lstore_n X.1 X.2.1 hd rfl hl hn h (fun ls' hl' => kk p e s m args below meth c X H locs ls' hP hS hl' hz)
theorem vq_lstore {i : Nat} {x : Int64} {lv' : List (Nat × Value)} (hd : decode (mC M) pc = .ok (.lstore i, 2)) (hn : i + 1 < mN M) (h : s2L i (.long x) lv = lv') (kk : Vq l b id D M z NE KE post NX KX px N K ce sl (pc + 2) lv' st g) : Vq l b id D M z NE KE post NX KX px N K ce sl pc lv (.long x :: st) g :=
  fun p e s m args below meth c X H locs ls hP hS hl hz => lv_lstore X.1 X.2.1 hd hl hn h (fun ls' hl' => kk p e s m args below meth c X H locs ls' hP hS hl' hz)
theorem vq_aload_n {k : Fin 4} {x : Nat} (hd : decode (mC M) pc = .ok (.aload_n k, 1)) (h : lv.lookup (k : Nat) = some (.ref x)) (kk : Vq l b id D M z NE KE post NX KX px N K ce sl (pc + 1) lv (.ref x :: st) g) : Vq l b id D M z NE KE post NX KX px N K ce sl pc lv st g :=
  fun p e s m args below meth c X H locs ls hP hS hl hz => lv_aload_n X.1 X.2.1 hd rfl (lk_at hl h) (kk p e s m args below meth c X H locs ls hP hS hl hz)
theorem vq_aload {i : Nat} {x : Nat} (hd : decode (mC M) pc = .ok (.aload i, 2)) (h : lv.lookup i = some (.ref x)) (kk : Vq l b id D M z NE KE post NX KX px N K ce sl (pc + 2) lv (.ref x :: st) g) : Vq l b id D M z NE KE post NX KX px N K ce sl pc lv st g :=
  fun p e s m args below meth c X H locs ls hP hS hl hz => lv_aload X.1 X.2.1 hd (lk_at hl h) (kk p e s m args below meth c X H locs ls hP hS hl hz)
theorem vq_astore_n {k : Fin 4} {x : Nat} {lv' : List (Nat × Value)} (hd : decode (mC M) pc = .ok (.astore_n k, 1)) (hn : (k : Nat) < mN M) (h : s1L (k : Nat) (.ref x) lv = lv') (kk : Vq l b id D M z NE KE post NX KX px N K ce sl (pc + 1) lv' st g) : Vq l b id D M z NE KE post NX KX px N K ce sl pc lv (.ref x :: st) g :=
  fun p e s m args below meth c X H locs ls hP hS hl hz => lv_astore_n X.1 X.2.1 hd rfl hl hn h (fun ls' hl' => kk p e s m args below meth c X H locs ls' hP hS hl' hz)
theorem vq_astore {i : Nat} {x : Nat} {lv' : List (Nat × Value)} (hd : decode (mC M) pc = .ok (.astore i, 2)) (hn : i < mN M) (h : s1L i (.ref x) lv = lv') (kk : Vq l b id D M z NE KE post NX KX px N K ce sl (pc + 2) lv' st g) : Vq l b id D M z NE KE post NX KX px N K ce sl pc lv (.ref x :: st) g :=
  fun p e s m args below meth c X H locs ls hP hS hl hz => lv_astore X.1 X.2.1 hd hl hn h (fun ls' hl' => kk p e s m args below meth c X H locs ls' hP hS hl' hz)
theorem vq_iinc {i k : Nat} {n : Int} {x v : Int32} {lv' : List (Nat × Value)} (hd : decode (mC M) pc = .ok (.iinc i n, 3)) (hk : lv[k]? = some (i, .int x)) (hv : x + Int32.ofInt n = v) (hn : i < mN M) (h : s1L i (.int v) lv = lv') (kk : Vq l b id D M z NE KE post NX KX px N K ce sl (pc + 3) lv' st g) : Vq l b id D M z NE KE post NX KX px N K ce sl pc lv st g :=
  fun p e s m args below meth c X H locs ls hP hS hl hz => lv_iinc X.1 X.2.1 hd hl hk hv hn h (fun ls' hl' => kk p e s m args below meth c X H locs ls' hP hS hl' hz)
theorem vq_iadd {x y : Int32} (hd : decode (mC M) pc = .ok (.iadd, 1)) (kk : Vq l b id D M z NE KE post NX KX px N K ce sl (pc + 1) lv (.int (x + y) :: st) g) : Vq l b id D M z NE KE post NX KX px N K ce sl pc lv (.int y :: .int x :: st) g :=
  fun p e s m args below meth c X H locs ls hP hS hl hz => lv_iadd X.1 X.2.1 hd (kk p e s m args below meth c X H locs ls hP hS hl hz)
theorem vq_isub {x y : Int32} (hd : decode (mC M) pc = .ok (.isub, 1)) (kk : Vq l b id D M z NE KE post NX KX px N K ce sl (pc + 1) lv (.int (x - y) :: st) g) : Vq l b id D M z NE KE post NX KX px N K ce sl pc lv (.int y :: .int x :: st) g :=
  fun p e s m args below meth c X H locs ls hP hS hl hz => lv_isub X.1 X.2.1 hd (kk p e s m args below meth c X H locs ls hP hS hl hz)
theorem vq_imul {x y : Int32} (hd : decode (mC M) pc = .ok (.imul, 1)) (kk : Vq l b id D M z NE KE post NX KX px N K ce sl (pc + 1) lv (.int (x * y) :: st) g) : Vq l b id D M z NE KE post NX KX px N K ce sl pc lv (.int y :: .int x :: st) g :=
  fun p e s m args below meth c X H locs ls hP hS hl hz => lv_imul X.1 X.2.1 hd (kk p e s m args below meth c X H locs ls hP hS hl hz)
theorem vq_iand {x y : Int32} (hd : decode (mC M) pc = .ok (.iand, 1)) (kk : Vq l b id D M z NE KE post NX KX px N K ce sl (pc + 1) lv (.int (x &&& y) :: st) g) : Vq l b id D M z NE KE post NX KX px N K ce sl pc lv (.int y :: .int x :: st) g :=
  fun p e s m args below meth c X H locs ls hP hS hl hz => lv_iand X.1 X.2.1 hd (kk p e s m args below meth c X H locs ls hP hS hl hz)
theorem vq_ior {x y : Int32} (hd : decode (mC M) pc = .ok (.ior, 1)) (kk : Vq l b id D M z NE KE post NX KX px N K ce sl (pc + 1) lv (.int (x ||| y) :: st) g) : Vq l b id D M z NE KE post NX KX px N K ce sl pc lv (.int y :: .int x :: st) g :=
  fun p e s m args below meth c X H locs ls hP hS hl hz => lv_ior X.1 X.2.1 hd (kk p e s m args below meth c X H locs ls hP hS hl hz)
theorem vq_ixor {x y : Int32} (hd : decode (mC M) pc = .ok (.ixor, 1)) (kk : Vq l b id D M z NE KE post NX KX px N K ce sl (pc + 1) lv (.int (x ^^^ y) :: st) g) : Vq l b id D M z NE KE post NX KX px N K ce sl pc lv (.int y :: .int x :: st) g :=
  fun p e s m args below meth c X H locs ls hP hS hl hz => lv_ixor X.1 X.2.1 hd (kk p e s m args below meth c X H locs ls hP hS hl hz)
theorem vq_ladd {x y : Int64} (hd : decode (mC M) pc = .ok (.ladd, 1)) (kk : Vq l b id D M z NE KE post NX KX px N K ce sl (pc + 1) lv (.long (x + y) :: st) g) : Vq l b id D M z NE KE post NX KX px N K ce sl pc lv (.long y :: .long x :: st) g :=
  fun p e s m args below meth c X H locs ls hP hS hl hz => lv_ladd X.1 X.2.1 hd (kk p e s m args below meth c X H locs ls hP hS hl hz)
theorem vq_lsub {x y : Int64} (hd : decode (mC M) pc = .ok (.lsub, 1)) (kk : Vq l b id D M z NE KE post NX KX px N K ce sl (pc + 1) lv (.long (x - y) :: st) g) : Vq l b id D M z NE KE post NX KX px N K ce sl pc lv (.long y :: .long x :: st) g :=
  fun p e s m args below meth c X H locs ls hP hS hl hz => lv_lsub X.1 X.2.1 hd (kk p e s m args below meth c X H locs ls hP hS hl hz)
theorem vq_lmul {x y : Int64} (hd : decode (mC M) pc = .ok (.lmul, 1)) (kk : Vq l b id D M z NE KE post NX KX px N K ce sl (pc + 1) lv (.long (x * y) :: st) g) : Vq l b id D M z NE KE post NX KX px N K ce sl pc lv (.long y :: .long x :: st) g :=
  fun p e s m args below meth c X H locs ls hP hS hl hz => lv_lmul X.1 X.2.1 hd (kk p e s m args below meth c X H locs ls hP hS hl hz)
theorem vq_lor {x y : Int64} (hd : decode (mC M) pc = .ok (.lor, 1)) (kk : Vq l b id D M z NE KE post NX KX px N K ce sl (pc + 1) lv (.long (x ||| y) :: st) g) : Vq l b id D M z NE KE post NX KX px N K ce sl pc lv (.long y :: .long x :: st) g :=
  fun p e s m args below meth c X H locs ls hP hS hl hz => lv_lor X.1 X.2.1 hd (kk p e s m args below meth c X H locs ls hP hS hl hz)
theorem vq_land {x y : Int64} (hd : decode (mC M) pc = .ok (.land, 1)) (kk : Vq l b id D M z NE KE post NX KX px N K ce sl (pc + 1) lv (.long (x &&& y) :: st) g) : Vq l b id D M z NE KE post NX KX px N K ce sl pc lv (.long y :: .long x :: st) g :=
  fun p e s m args below meth c X H locs ls hP hS hl hz => lv_land X.1 X.2.1 hd (kk p e s m args below meth c X H locs ls hP hS hl hz)
theorem vq_ldiv {x y : Int64} (hd : decode (mC M) pc = .ok (.ldiv, 1)) (hne : ¬ y = 0) (kk : Vq l b id D M z NE KE post NX KX px N K ce sl (pc + 1) lv (.long (x / y) :: st) g) : Vq l b id D M z NE KE post NX KX px N K ce sl pc lv (.long y :: .long x :: st) g :=
  fun p e s m args below meth c X H locs ls hP hS hl hz => lv_ldiv X.1 X.2.1 hd hne (kk p e s m args below meth c X H locs ls hP hS hl hz)
theorem vq_lrem {x y : Int64} (hd : decode (mC M) pc = .ok (.lrem, 1)) (hne : ¬ y = 0) (kk : Vq l b id D M z NE KE post NX KX px N K ce sl (pc + 1) lv (.long (x - x / y * y) :: st) g) : Vq l b id D M z NE KE post NX KX px N K ce sl pc lv (.long y :: .long x :: st) g :=
  fun p e s m args below meth c X H locs ls hP hS hl hz => lv_lrem X.1 X.2.1 hd hne (kk p e s m args below meth c X H locs ls hP hS hl hz)
theorem vq_ishl {x y : Int32} (hd : decode (mC M) pc = .ok (.ishl, 1)) (kk : Vq l b id D M z NE KE post NX KX px N K ce sl (pc + 1) lv (.int (x <<< (y &&& 31)) :: st) g) : Vq l b id D M z NE KE post NX KX px N K ce sl pc lv (.int y :: .int x :: st) g :=
  fun p e s m args below meth c X H locs ls hP hS hl hz => lv_ishl X.1 X.2.1 hd (kk p e s m args below meth c X H locs ls hP hS hl hz)
theorem vq_lshl {x v : Int64} {y : Int32} (hd : decode (mC M) pc = .ok (.lshl, 1)) (hv : x <<< (y.toInt64 &&& 63) = v) (kk : Vq l b id D M z NE KE post NX KX px N K ce sl (pc + 1) lv (.long v :: st) g) : Vq l b id D M z NE KE post NX KX px N K ce sl pc lv (.int y :: .long x :: st) g :=
  fun p e s m args below meth c X H locs ls hP hS hl hz => lv_lshl X.1 X.2.1 hd hv (kk p e s m args below meth c X H locs ls hP hS hl hz)
theorem vq_i2l {x : Int32} {v : Int64} (hd : decode (mC M) pc = .ok (.i2l, 1)) (hv : x.toInt64 = v) (kk : Vq l b id D M z NE KE post NX KX px N K ce sl (pc + 1) lv (.long v :: st) g) : Vq l b id D M z NE KE post NX KX px N K ce sl pc lv (.int x :: st) g :=
  fun p e s m args below meth c X H locs ls hP hS hl hz => lv_i2l X.1 X.2.1 hd hv (kk p e s m args below meth c X H locs ls hP hS hl hz)
theorem vq_l2i {x : Int64} {v : Int32} (hd : decode (mC M) pc = .ok (.l2i, 1)) (hv : x.toInt32 = v) (kk : Vq l b id D M z NE KE post NX KX px N K ce sl (pc + 1) lv (.int v :: st) g) : Vq l b id D M z NE KE post NX KX px N K ce sl pc lv (.long x :: st) g :=
  fun p e s m args below meth c X H locs ls hP hS hl hz => lv_l2i X.1 X.2.1 hd hv (kk p e s m args below meth c X H locs ls hP hS hl hz)
theorem vq_lcmp {x y : Int64} (hd : decode (mC M) pc = .ok (.lcmp, 1)) (kk : Vq l b id D M z NE KE post NX KX px N K ce sl (pc + 1) lv (.int (lg_cmp x y) :: st) g) : Vq l b id D M z NE KE post NX KX px N K ce sl pc lv (.long y :: .long x :: st) g :=
  fun p e s m args below meth c X H locs ls hP hS hl hz => W.lcmp X.1 X.2.1 hd (kk p e s m args below meth c X H locs ls hP hS hl hz)
theorem vq_dup {va : Value} (hd : decode (mC M) pc = .ok (.dup, 1)) (hva : va.category = 1) (kk : Vq l b id D M z NE KE post NX KX px N K ce sl (pc + 1) lv (va :: va :: st) g) : Vq l b id D M z NE KE post NX KX px N K ce sl pc lv (va :: st) g :=
  fun p e s m args below meth c X H locs ls hP hS hl hz => lv_dup X.1 X.2.1 hd hva (kk p e s m args below meth c X H locs ls hP hS hl hz)
theorem vq_pop {va : Value} (hd : decode (mC M) pc = .ok (.pop, 1)) (hva : va.category = 1) (kk : Vq l b id D M z NE KE post NX KX px N K ce sl (pc + 1) lv st g) : Vq l b id D M z NE KE post NX KX px N K ce sl pc lv (va :: st) g :=
  fun p e s m args below meth c X H locs ls hP hS hl hz => lv_pop X.1 X.2.1 hd hva (kk p e s m args below meth c X H locs ls hP hS hl hz)
theorem vq_dup_x1 {va vb : Value} (hd : decode (mC M) pc = .ok (.dup_x1, 1)) (hva : va.category = 1) (hvb : vb.category = 1) (kk : Vq l b id D M z NE KE post NX KX px N K ce sl (pc + 1) lv (va :: vb :: va :: st) g) : Vq l b id D M z NE KE post NX KX px N K ce sl pc lv (va :: vb :: st) g :=
  fun p e s m args below meth c X H locs ls hP hS hl hz => lv_dup_x1 X.1 X.2.1 hd hva hvb (kk p e s m args below meth c X H locs ls hP hS hl hz)
theorem vq_dup_x2 {va vb vd : Value} (hd : decode (mC M) pc = .ok (.dup_x2, 1)) (hva : va.category = 1) (hvb : vb.category = 1) (hvd : vd.category = 1) (kk : Vq l b id D M z NE KE post NX KX px N K ce sl (pc + 1) lv (va :: vb :: vd :: va :: st) g) : Vq l b id D M z NE KE post NX KX px N K ce sl pc lv (va :: vb :: vd :: st) g :=
  fun p e s m args below meth c X H locs ls hP hS hl hz => lv_dup_x2 X.1 X.2.1 hd hva hvb hvd (kk p e s m args below meth c X H locs ls hP hS hl hz)
theorem vq_dup2_11 {va vb : Value} (hd : decode (mC M) pc = .ok (.dup2, 1)) (hva : va.category = 1) (hvb : vb.category = 1) (kk : Vq l b id D M z NE KE post NX KX px N K ce sl (pc + 1) lv (va :: vb :: va :: vb :: st) g) : Vq l b id D M z NE KE post NX KX px N K ce sl pc lv (va :: vb :: st) g :=
  fun p e s m args below meth c X H locs ls hP hS hl hz => lv_dup2_11 X.1 X.2.1 hd hva hvb (kk p e s m args below meth c X H locs ls hP hS hl hz)
theorem vq_dup2_2 {va : Value} (hd : decode (mC M) pc = .ok (.dup2, 1)) (hva : va.category = 2) (kk : Vq l b id D M z NE KE post NX KX px N K ce sl (pc + 1) lv (va :: va :: st) g) : Vq l b id D M z NE KE post NX KX px N K ce sl pc lv (va :: st) g :=
  fun p e s m args below meth c X H locs ls hP hS hl hz => lv_dup2_2 X.1 X.2.1 hd hva (kk p e s m args below meth c X H locs ls hP hS hl hz)
theorem vq_dup2_x1_2 {va vb : Value} (hd : decode (mC M) pc = .ok (.dup2_x1, 1)) (hva : va.category = 2) (hvb : vb.category = 1) (kk : Vq l b id D M z NE KE post NX KX px N K ce sl (pc + 1) lv (va :: vb :: va :: st) g) : Vq l b id D M z NE KE post NX KX px N K ce sl pc lv (va :: vb :: st) g :=
  fun p e s m args below meth c X H locs ls hP hS hl hz => lv_dup2_x1_2 X.1 X.2.1 hd hva hvb (kk p e s m args below meth c X H locs ls hP hS hl hz)
theorem vq_dup2_x2_2 {va vb vd : Value} (hd : decode (mC M) pc = .ok (.dup2_x2, 1)) (hva : va.category = 2) (hvb : vb.category = 1) (hvd : vd.category = 1) (kk : Vq l b id D M z NE KE post NX KX px N K ce sl (pc + 1) lv (va :: vb :: vd :: va :: st) g) : Vq l b id D M z NE KE post NX KX px N K ce sl pc lv (va :: vb :: vd :: st) g :=
  fun p e s m args below meth c X H locs ls hP hS hl hz => lv_dup2_x2_2 X.1 X.2.1 hd hva hvb hvd (kk p e s m args below meth c X H locs ls hP hS hl hz)
theorem vq_if_eq {x : Int32} {off : Int} {tgt : Nat} (hd : decode (mC M) pc = .ok (.ifCond .eq off, 3)) (ht : (pc : Int) + off = (tgt : Int)) (kt : x = 0 → Vq l b id D M z NE KE post NX KX px N K ce sl tgt lv st g) (kf : ¬ x = 0 → Vq l b id D M z NE KE post NX KX px N K ce sl (pc + 3) lv st g) : Vq l b id D M z NE KE post NX KX px N K ce sl pc lv (.int x :: st) g :=
  fun p e s m args below meth c X H locs ls hP hS hl hz => lv_if_eq X.1 X.2.1 hd ht (fun h => kt h p e s m args below meth c X H locs ls hP hS hl hz) (fun h => kf h p e s m args below meth c X H locs ls hP hS hl hz)
theorem vq_icmp_eq {x y : Int32} {off : Int} {tgt : Nat} (hd : decode (mC M) pc = .ok (.if_icmp .eq off, 3)) (ht : (pc : Int) + off = (tgt : Int)) (kt : x = y → Vq l b id D M z NE KE post NX KX px N K ce sl tgt lv st g) (kf : ¬ x = y → Vq l b id D M z NE KE post NX KX px N K ce sl (pc + 3) lv st g) : Vq l b id D M z NE KE post NX KX px N K ce sl pc lv (.int y :: .int x :: st) g :=
  fun p e s m args below meth c X H locs ls hP hS hl hz => lv_icmp_eq X.1 X.2.1 hd ht (fun h => kt h p e s m args below meth c X H locs ls hP hS hl hz) (fun h => kf h p e s m args below meth c X H locs ls hP hS hl hz)
theorem vq_if_ne {x : Int32} {off : Int} {tgt : Nat} (hd : decode (mC M) pc = .ok (.ifCond .ne off, 3)) (ht : (pc : Int) + off = (tgt : Int)) (kt : ¬ x = 0 → Vq l b id D M z NE KE post NX KX px N K ce sl tgt lv st g) (kf : x = 0 → Vq l b id D M z NE KE post NX KX px N K ce sl (pc + 3) lv st g) : Vq l b id D M z NE KE post NX KX px N K ce sl pc lv (.int x :: st) g :=
  fun p e s m args below meth c X H locs ls hP hS hl hz => lv_if_ne X.1 X.2.1 hd ht (fun h => kt h p e s m args below meth c X H locs ls hP hS hl hz) (fun h => kf h p e s m args below meth c X H locs ls hP hS hl hz)
theorem vq_icmp_ne {x y : Int32} {off : Int} {tgt : Nat} (hd : decode (mC M) pc = .ok (.if_icmp .ne off, 3)) (ht : (pc : Int) + off = (tgt : Int)) (kt : ¬ x = y → Vq l b id D M z NE KE post NX KX px N K ce sl tgt lv st g) (kf : x = y → Vq l b id D M z NE KE post NX KX px N K ce sl (pc + 3) lv st g) : Vq l b id D M z NE KE post NX KX px N K ce sl pc lv (.int y :: .int x :: st) g :=
  fun p e s m args below meth c X H locs ls hP hS hl hz => lv_icmp_ne X.1 X.2.1 hd ht (fun h => kt h p e s m args below meth c X H locs ls hP hS hl hz) (fun h => kf h p e s m args below meth c X H locs ls hP hS hl hz)
theorem vq_if_lt {x : Int32} {off : Int} {tgt : Nat} (hd : decode (mC M) pc = .ok (.ifCond .lt off, 3)) (ht : (pc : Int) + off = (tgt : Int)) (kt : x < 0 → Vq l b id D M z NE KE post NX KX px N K ce sl tgt lv st g) (kf : ¬ x < 0 → Vq l b id D M z NE KE post NX KX px N K ce sl (pc + 3) lv st g) : Vq l b id D M z NE KE post NX KX px N K ce sl pc lv (.int x :: st) g :=
  fun p e s m args below meth c X H locs ls hP hS hl hz => lv_if_lt X.1 X.2.1 hd ht (fun h => kt h p e s m args below meth c X H locs ls hP hS hl hz) (fun h => kf h p e s m args below meth c X H locs ls hP hS hl hz)
theorem vq_icmp_lt {x y : Int32} {off : Int} {tgt : Nat} (hd : decode (mC M) pc = .ok (.if_icmp .lt off, 3)) (ht : (pc : Int) + off = (tgt : Int)) (kt : x < y → Vq l b id D M z NE KE post NX KX px N K ce sl tgt lv st g) (kf : ¬ x < y → Vq l b id D M z NE KE post NX KX px N K ce sl (pc + 3) lv st g) : Vq l b id D M z NE KE post NX KX px N K ce sl pc lv (.int y :: .int x :: st) g :=
  fun p e s m args below meth c X H locs ls hP hS hl hz => lv_icmp_lt X.1 X.2.1 hd ht (fun h => kt h p e s m args below meth c X H locs ls hP hS hl hz) (fun h => kf h p e s m args below meth c X H locs ls hP hS hl hz)
theorem vq_if_ge {x : Int32} {off : Int} {tgt : Nat} (hd : decode (mC M) pc = .ok (.ifCond .ge off, 3)) (ht : (pc : Int) + off = (tgt : Int)) (kt : 0 ≤ x → Vq l b id D M z NE KE post NX KX px N K ce sl tgt lv st g) (kf : ¬ 0 ≤ x → Vq l b id D M z NE KE post NX KX px N K ce sl (pc + 3) lv st g) : Vq l b id D M z NE KE post NX KX px N K ce sl pc lv (.int x :: st) g :=
  fun p e s m args below meth c X H locs ls hP hS hl hz => lv_if_ge X.1 X.2.1 hd ht (fun h => kt h p e s m args below meth c X H locs ls hP hS hl hz) (fun h => kf h p e s m args below meth c X H locs ls hP hS hl hz)
theorem vq_icmp_ge {x y : Int32} {off : Int} {tgt : Nat} (hd : decode (mC M) pc = .ok (.if_icmp .ge off, 3)) (ht : (pc : Int) + off = (tgt : Int)) (kt : y ≤ x → Vq l b id D M z NE KE post NX KX px N K ce sl tgt lv st g) (kf : ¬ y ≤ x → Vq l b id D M z NE KE post NX KX px N K ce sl (pc + 3) lv st g) : Vq l b id D M z NE KE post NX KX px N K ce sl pc lv (.int y :: .int x :: st) g :=
  fun p e s m args below meth c X H locs ls hP hS hl hz => lv_icmp_ge X.1 X.2.1 hd ht (fun h => kt h p e s m args below meth c X H locs ls hP hS hl hz) (fun h => kf h p e s m args below meth c X H locs ls hP hS hl hz)
theorem vq_if_gt {x : Int32} {off : Int} {tgt : Nat} (hd : decode (mC M) pc = .ok (.ifCond .gt off, 3)) (ht : (pc : Int) + off = (tgt : Int)) (kt : 0 < x → Vq l b id D M z NE KE post NX KX px N K ce sl tgt lv st g) (kf : ¬ 0 < x → Vq l b id D M z NE KE post NX KX px N K ce sl (pc + 3) lv st g) : Vq l b id D M z NE KE post NX KX px N K ce sl pc lv (.int x :: st) g :=
  fun p e s m args below meth c X H locs ls hP hS hl hz => lv_if_gt X.1 X.2.1 hd ht (fun h => kt h p e s m args below meth c X H locs ls hP hS hl hz) (fun h => kf h p e s m args below meth c X H locs ls hP hS hl hz)
theorem vq_icmp_gt {x y : Int32} {off : Int} {tgt : Nat} (hd : decode (mC M) pc = .ok (.if_icmp .gt off, 3)) (ht : (pc : Int) + off = (tgt : Int)) (kt : y < x → Vq l b id D M z NE KE post NX KX px N K ce sl tgt lv st g) (kf : ¬ y < x → Vq l b id D M z NE KE post NX KX px N K ce sl (pc + 3) lv st g) : Vq l b id D M z NE KE post NX KX px N K ce sl pc lv (.int y :: .int x :: st) g :=
  fun p e s m args below meth c X H locs ls hP hS hl hz => lv_icmp_gt X.1 X.2.1 hd ht (fun h => kt h p e s m args below meth c X H locs ls hP hS hl hz) (fun h => kf h p e s m args below meth c X H locs ls hP hS hl hz)
theorem vq_if_le {x : Int32} {off : Int} {tgt : Nat} (hd : decode (mC M) pc = .ok (.ifCond .le off, 3)) (ht : (pc : Int) + off = (tgt : Int)) (kt : x ≤ 0 → Vq l b id D M z NE KE post NX KX px N K ce sl tgt lv st g) (kf : ¬ x ≤ 0 → Vq l b id D M z NE KE post NX KX px N K ce sl (pc + 3) lv st g) : Vq l b id D M z NE KE post NX KX px N K ce sl pc lv (.int x :: st) g :=
  fun p e s m args below meth c X H locs ls hP hS hl hz => lv_if_le X.1 X.2.1 hd ht (fun h => kt h p e s m args below meth c X H locs ls hP hS hl hz) (fun h => kf h p e s m args below meth c X H locs ls hP hS hl hz)
theorem vq_icmp_le {x y : Int32} {off : Int} {tgt : Nat} (hd : decode (mC M) pc = .ok (.if_icmp .le off, 3)) (ht : (pc : Int) + off = (tgt : Int)) (kt : x ≤ y → Vq l b id D M z NE KE post NX KX px N K ce sl tgt lv st g) (kf : ¬ x ≤ y → Vq l b id D M z NE KE post NX KX px N K ce sl (pc + 3) lv st g) : Vq l b id D M z NE KE post NX KX px N K ce sl pc lv (.int y :: .int x :: st) g :=
  fun p e s m args below meth c X H locs ls hP hS hl hz => lv_icmp_le X.1 X.2.1 hd ht (fun h => kt h p e s m args below meth c X H locs ls hP hS hl hz) (fun h => kf h p e s m args below meth c X H locs ls hP hS hl hz)
theorem vq_goto {off : Int} {tgt : Nat} (hd : decode (mC M) pc = .ok (.goto off, 3)) (ht : (pc : Int) + off = (tgt : Int)) (kk : Vq l b id D M z NE KE post NX KX px N K ce sl tgt lv st g) : Vq l b id D M z NE KE post NX KX px N K ce sl pc lv st g :=
  fun p e s m args below meth c X H locs ls hP hS hl hz => lv_goto X.1 X.2.1 hd ht (kk p e s m args below meth c X H locs ls hP hS hl hz)
theorem vq_iald {q k : Nat} {i : Int32} (hd : decode (mC M) pc = .ok (.iaload, 1)) (hq : q < N) (hk : qK q = 1) (hi : i = nI k) (hlt : k < qL q) (kk : Vq l b id D M z NE KE post NX KX px N K ce sl (pc + 1) lv (.int (g.1 q k) :: st) g) : Vq l b id D M z NE KE post NX KX px N K ce sl pc lv (.int i :: .ref (b + q) :: st) g := by
  intro p e s m args below meth c X H locs ls hP hS hl hz
  subst hi
  have h31 := qL_lt q
  refine va_iald X.1 X.2.1 X.2.2.2.2.2.2.2.2.2.1 hP q 0 (by rw [qW_get hq, qE_1 hk]) rfl (vp_in_nI hlt h31) hd ?_
  rw [nI_clamp (Nat.lt_trans hlt h31)]
  exact (kk p e s m args below meth c X H locs ls hP hS hl hz)
theorem vq_zald {q k : Nat} {i : Int32} (hd : decode (mC M) pc = .ok (.baload, 1)) (hq : q < N) (hk : qK q = 2) (hi : i = nI k) (hlt : k < qL q) (kk : Vq l b id D M z NE KE post NX KX px N K ce sl (pc + 1) lv (.int (g.1 q k) :: st) g) : Vq l b id D M z NE KE post NX KX px N K ce sl pc lv (.int i :: .ref (b + q) :: st) g := by
  intro p e s m args below meth c X H locs ls hP hS hl hz
  subst hi
  have h31 := qL_lt q
  refine va_zald X.1 X.2.1 X.2.2.2.2.2.2.2.2.2.1 hP q 1 (by rw [qW_get hq, qE_2 hk]) rfl (vp_in_nI hlt h31) hd ?_
  rw [nI_clamp (Nat.lt_trans hlt h31)]
  exact (kk p e s m args below meth c X H locs ls hP hS hl hz)
theorem vq_lald {q k : Nat} {i : Int32} (hd : decode (mC M) pc = .ok (.laload, 1)) (hq : q < N) (hk : qK q = 3) (hi : i = nI k) (hlt : k < qL q) (kk : Vq l b id D M z NE KE post NX KX px N K ce sl (pc + 1) lv (.long (g.2 q k) :: st) g) : Vq l b id D M z NE KE post NX KX px N K ce sl pc lv (.int i :: .ref (b + q) :: st) g := by
  intro p e s m args below meth c X H locs ls hP hS hl hz
  subst hi
  have h31 := qL_lt q
  refine va_lald X.1 X.2.1 X.2.2.2.2.2.2.2.2.2.1 hP q 2 (by rw [qW_get hq, qE_3 hk]) rfl (vp_in_nI hlt h31) hd ?_
  rw [nI_clamp (Nat.lt_trans hlt h31)]
  exact (kk p e s m args below meth c X H locs ls hP hS hl hz)
theorem vq_iast {q k : Nat} {i : Int32} {x : Int32} (hd : decode (mC M) pc = .ok (.iastore, 1)) (hz0 : z = false) (hq : q < N) (hk : qK q = 1) (hi : i = nI k) (hlt : k < qL q) (kk : Vq l b id D M z NE KE post NX KX px N K ce sl (pc + 1) lv st (sI g q (upd (g.1 q) k x))) : Vq l b id D M z NE KE post NX KX px N K ce sl pc lv (.int x :: .int i :: .ref (b + q) :: st) g := by
  intro p e s m args below meth c X H locs ls hP hS hl hz
  subst hi
  have h31 := qL_lt q
  refine va_iast X.1 X.2.1 X.2.2.2.2.2.2.2.2.2.1 hP qW_D hS q 0 (by rw [qW_get hq, qE_1 hk]) rfl (vp_in_nI hlt h31) hd (fun H1 locs1 hP1 hD1 hS1 => ?_)
  rw [nI_clamp (Nat.lt_trans hlt h31), qW_s1 hq hk] at hP1
  exact kk p e s m args below meth c X H1 locs1 ls hP1 hS1 hl (fun h => by rw [hz0] at h; cases h)
theorem vq_last {q k : Nat} {i : Int32} {x : Int64} (hd : decode (mC M) pc = .ok (.lastore, 1)) (hz0 : z = false) (hq : q < N) (hk : qK q = 3) (hi : i = nI k) (hlt : k < qL q) (kk : Vq l b id D M z NE KE post NX KX px N K ce sl (pc + 1) lv st (sJ g q (vp_updL (g.2 q) k x))) : Vq l b id D M z NE KE post NX KX px N K ce sl pc lv (.long x :: .int i :: .ref (b + q) :: st) g := by
  intro p e s m args below meth c X H locs ls hP hS hl hz
  subst hi
  have h31 := qL_lt q
  refine va_last X.1 X.2.1 X.2.2.2.2.2.2.2.2.2.1 hP qW_D hS q 2 (by rw [qW_get hq, qE_3 hk]) rfl (vp_in_nI hlt h31) hd (fun H1 locs1 hP1 hD1 hS1 => ?_)
  rw [nI_clamp (Nat.lt_trans hlt h31), qW_s3 hq hk] at hP1
  exact kk p e s m args below meth c X H1 locs1 ls hP1 hS1 hl (fun h => by rw [hz0] at h; cases h)
theorem vq_zast {q k : Nat} {i x : Int32} (hd : decode (mC M) pc = .ok (.bastore, 1)) (hz0 : z = false) (hq : q < N) (hk : qK q = 2) (hi : i = nI k) (hlt : k < qL q) (hx : x = 0 ∨ x = 1) (kk : Vq l b id D M z NE KE post NX KX px N K ce sl (pc + 1) lv st (sI g q (upd (g.1 q) k x))) : Vq l b id D M z NE KE post NX KX px N K ce sl pc lv (.int x :: .int i :: .ref (b + q) :: st) g := by
  intro p e s m args below meth c X H locs ls hP hS hl hz
  subst hi
  have h31 := qL_lt q
  refine va_zast X.1 X.2.1 X.2.2.2.2.2.2.2.2.2.1 hP qW_D hS q 1 (by rw [qW_get hq, qE_2 hk]) rfl (vp_in_nI hlt h31) hd (fun H1 locs1 hP1 hD1 hS1 => ?_)
  have hn : vp_nar .boolean x = x := by rcases hx with rfl | rfl <;> decide
  rw [nI_clamp (Nat.lt_trans hlt h31), hn, qW_s2 hq hk] at hP1
  exact kk p e s m args below meth c X H1 locs1 ls hP1 hS1 hl (fun h => by rw [hz0] at h; cases h)
theorem vq_alen {q : Nat} (hd : decode (mC M) pc = .ok (.arraylength, 1)) (hq : q < N) (hk : qK q = 1 ∨ qK q = 2 ∨ qK q = 3) (kk : Vq l b id D M z NE KE post NX KX px N K ce sl (pc + 1) lv (.int (nI (qL q)) :: st) g) : Vq l b id D M z NE KE post NX KX px N K ce sl pc lv (.ref (b + q) :: st) g := by
  intro p e s m args below meth c X H locs ls hP hS hl hz
  rcases hk with hk | hk | hk
  · exact va_alen X.1 X.2.1 X.2.2.2.2.2.2.2.2.2.1 hP q 0 (x := (qL q, .inl (g.1 q))) (by rw [qW_get hq, qE_1 hk]) rfl rfl hd (kk p e s m args below meth c X H locs ls hP hS hl hz)
  · exact va_alen X.1 X.2.1 X.2.2.2.2.2.2.2.2.2.1 hP q 1 (x := (qL q, .inl (g.1 q))) (by rw [qW_get hq, qE_2 hk]) rfl rfl hd (kk p e s m args below meth c X H locs ls hP hS hl hz)
  · exact va_alen X.1 X.2.1 X.2.2.2.2.2.2.2.2.2.1 hP q 2 (x := (qL q, .inr (.inl (g.2 q)))) (by rw [qW_get hq, qE_3 hk]) rfl rfl hd (kk p e s m args below meth c X H locs ls hP hS hl hz)
theorem vq_aald4 {q k : Nat} {i : Int32} (hd : decode (mC M) pc = .ok (.aaload, 1)) (hq : q < N) (hk : qK q = 4) (hi : i = nI k) (hlt : k < qL q) (kk : Vq l b id D M z NE KE post NX KX px N K ce sl (pc + 1) lv (.ref (b + (qC q + k)) :: st) g) : Vq l b id D M z NE KE post NX KX px N K ce sl pc lv (.int i :: .ref (b + q) :: st) g := by
  intro p e s m args below meth c X H locs ls hP hS hl hz
  subst hi
  have h31 := qL_lt q
  have ha := hP q _ (qW_get hq)
  rw [qE_4 hk] at ha
  have hc : (nI k).toNatClampNeg = k := nI_clamp (Nat.lt_trans hlt h31)
  have hv : va_rf (qQ b q k) = .ref (b + (qC q + k)) := by
    unfold qQ
    rw [if_pos hlt, Nat.add_assoc]
    rfl
  refine W.aald (v := .ref (b + (qC q + k))) (ty := .array .int) X.1 X.2.1 ha ((X.2.2.2.2.2.2.2.2.2.1.2 3 _ rfl).1 (qL q) (fun j => va_rf (qQ b q j))) rfl (fun h => by cases h) (by show ¬ (nI k < 0 ∨ (arrV _ _ _).slots.size ≤ _); rw [arrV_size]; exact vp_in_nI hlt h31) (by show (arrV _ _ _).slots[_]? = _; rw [hc, arrV_read _ _ hlt, hv]) rfl rfl hd (kk p e s m args below meth c X H locs ls hP hS hl hz)
theorem vq_aald5 {q k : Nat} {i : Int32} (hd : decode (mC M) pc = .ok (.aaload, 1)) (hq : q < N) (hk : qK q = 5) (hi : i = nI k) (hlt : k < qL q) (kk : Vq l b id D M z NE KE post NX KX px N K ce sl (pc + 1) lv (.ref (b + (qC q + k)) :: st) g) : Vq l b id D M z NE KE post NX KX px N K ce sl pc lv (.int i :: .ref (b + q) :: st) g := by
  intro p e s m args below meth c X H locs ls hP hS hl hz
  subst hi
  have h31 := qL_lt q
  have ha := hP q _ (qW_get hq)
  rw [qE_5 hk] at ha
  have hc : (nI k).toNatClampNeg = k := nI_clamp (Nat.lt_trans hlt h31)
  have hv : va_rf (qQ b q k) = .ref (b + (qC q + k)) := by
    unfold qQ
    rw [if_pos hlt, Nat.add_assoc]
    rfl
  refine W.aald (v := .ref (b + (qC q + k))) (ty := .array .long) X.1 X.2.1 ha ((X.2.2.2.2.2.2.2.2.2.1.2 4 _ rfl).1 (qL q) (fun j => va_rf (qQ b q j))) rfl (fun h => by cases h) (by show ¬ (nI k < 0 ∨ (arrV _ _ _).slots.size ≤ _); rw [arrV_size]; exact vp_in_nI hlt h31) (by show (arrV _ _ _).slots[_]? = _; rw [hc, arrV_read _ _ hlt, hv]) rfl rfl hd (kk p e s m args below meth c X H locs ls hP hS hl hz)
theorem vq_getI {q k index : Nat} {C : String} {T : u_T} (hd : decode (mC M) pc = .ok (.getfield index, 3)) (hc : vwCl[qC q]? = some (C, T, qL q)) (hin : ∀ w ∈ u_ws C T (qL q), w ∈ TT) (hlink : Cond.fieldLink (mO M) index (T k).1 (T k).2.1 (T k).2.2.1 ∈ TT) (hq : q < N) (h0 : qK q = 0) (hk : k < qL q) (hf : qF q k = 0) (kk : Vq l b id D M z NE KE post NX KX px N K ce sl (pc + 3) lv ((.int (g.1 q k)) :: st) g) : Vq l b id D M z NE KE post NX KX px N K ce sl pc lv (.ref (b + q) :: st) g := by
  intro p e s m args below meth c X H locs ls hP hS hl hz
  refine va_get X.1 X.2.1 X.2.2.2.2.1 hin X.2.2.2.1 X.2.2.2.2.2.2.2.2.2.1 hP q (by rw [qW_get hq, qE_0 h0]) hc k hk (X.2.2.2.2.1 _ hlink) (fun x h => h) (v := (.int (g.1 q k))) ?_ hd (kk p e s m args below meth c X H locs ls hP hS hl hz)
  rw [List.getElem?_map, List.getElem?_range hk]
  show some (qV b K g q k) = _
  rw [show qV b K g q k = (.int (g.1 q k)) from by simp only [qV, hf]]
theorem vq_getJ {q k index : Nat} {C : String} {T : u_T} (hd : decode (mC M) pc = .ok (.getfield index, 3)) (hc : vwCl[qC q]? = some (C, T, qL q)) (hin : ∀ w ∈ u_ws C T (qL q), w ∈ TT) (hlink : Cond.fieldLink (mO M) index (T k).1 (T k).2.1 (T k).2.2.1 ∈ TT) (hq : q < N) (h0 : qK q = 0) (hk : k < qL q) (hf : qF q k = 1) (kk : Vq l b id D M z NE KE post NX KX px N K ce sl (pc + 3) lv ((.long (g.2 q k)) :: st) g) : Vq l b id D M z NE KE post NX KX px N K ce sl pc lv (.ref (b + q) :: st) g := by
  intro p e s m args below meth c X H locs ls hP hS hl hz
  refine va_get X.1 X.2.1 X.2.2.2.2.1 hin X.2.2.2.1 X.2.2.2.2.2.2.2.2.2.1 hP q (by rw [qW_get hq, qE_0 h0]) hc k hk (X.2.2.2.2.1 _ hlink) (fun x h => h) (v := (.long (g.2 q k))) ?_ hd (kk p e s m args below meth c X H locs ls hP hS hl hz)
  rw [List.getElem?_map, List.getElem?_range hk]
  show some (qV b K g q k) = _
  rw [show qV b K g q k = (.long (g.2 q k)) from by simp only [qV, hf]]
theorem vq_getR {q k index : Nat} {C : String} {T : u_T} (hd : decode (mC M) pc = .ok (.getfield index, 3)) (hc : vwCl[qC q]? = some (C, T, qL q)) (hin : ∀ w ∈ u_ws C T (qL q), w ∈ TT) (hlink : Cond.fieldLink (mO M) index (T k).1 (T k).2.1 (T k).2.2.1 ∈ TT) (hq : q < N) (h0 : qK q = 0) (hk : k < qL q) {t : Nat} (hf : qF q k = t + 2) (hK : K q k = true) (kk : Vq l b id D M z NE KE post NX KX px N K ce sl (pc + 3) lv ((.ref (b + t)) :: st) g) : Vq l b id D M z NE KE post NX KX px N K ce sl pc lv (.ref (b + q) :: st) g := by
  intro p e s m args below meth c X H locs ls hP hS hl hz
  refine va_get X.1 X.2.1 X.2.2.2.2.1 hin X.2.2.2.1 X.2.2.2.2.2.2.2.2.2.1 hP q (by rw [qW_get hq, qE_0 h0]) hc k hk (X.2.2.2.2.1 _ hlink) (fun x h => h) (v := (.ref (b + t))) ?_ hd (kk p e s m args below meth c X H locs ls hP hS hl hz)
  rw [List.getElem?_map, List.getElem?_range hk]
  show some (qV b K g q k) = _
  rw [show qV b K g q k = (.ref (b + t)) from by simp only [qV, hf, hK, if_true]]
theorem vq_int {x y : Int32} (h : x = y) (kk : Vq l b id D M z NE KE post NX KX px N K ce sl pc lv (.int y :: st) g) : Vq l b id D M z NE KE post NX KX px N K ce sl pc lv (.int x :: st) g := by
  rw [h]; exact kk
theorem vq_long {x y : Int64} (h : x = y) (kk : Vq l b id D M z NE KE post NX KX px N K ce sl pc lv (.long y :: st) g) : Vq l b id D M z NE KE post NX KX px N K ce sl pc lv (.long x :: st) g := by
  rw [h]; exact kk
theorem vq_g {g' : Sg} (h : g = g') (kk : Vq l b id D M z NE KE post NX KX px N K ce sl pc lv st g') : Vq l b id D M z NE KE post NX KX px N K ce sl pc lv st g := by
  rw [h]; exact kk
/-- fewer locals are named -/
theorem vq_lv {lv' : List (Nat × Value)} (h : ∀ q ∈ lv', q ∈ lv) (kk : Vq l b id D M z NE KE post NX KX px N K ce sl pc lv' st g) : Vq l b id D M z NE KE post NX KX px N K ce sl pc lv st g :=
  fun p e s m args below meth c X H locs ls hP hS hl hz => kk p e s m args below meth c X H locs ls hP hS ⟨hl.1, hl.2.1, fun q hq => hl.2.2 q (h q hq)⟩ hz
theorem vq_widen {ce' sl' : Nat} (h1 : ce ≤ ce') (h2 : sl ≤ sl') (kk : Vq l b id D M z NE KE post NX KX px N K ce' sl' pc lv st g) : Vq l b id D M z NE KE post NX KX px N K ce sl pc lv st g :=
  fun p e s m args below meth c X H locs ls hP hS hl hz => W.widen h1 h2 (kk p e s m args below meth c X H locs ls hP hS hl hz)
theorem qrange_set {f f' : Nat → Value} {n k : Nat} {v : Value} (hk : k < n) (hv : f' k = v) (ho : ∀ j, j ≠ k → f' j = f j) : ((List.range n).map f).set k v = (List.range n).map f' := by
  apply List.ext_getElem?
  intro j
  by_cases hj : j < n
  · by_cases hjk : j = k
    · subst hjk
      rw [List.getElem?_set_self (by simpa using hj), List.getElem?_map, List.getElem?_range hj]
      simp [hv]
    · rw [List.getElem?_set_ne (Ne.symm hjk), List.getElem?_map, List.getElem?_map, List.getElem?_range hj]
      simp [ho j hjk]
  · rw [List.getElem?_eq_none (by simp; omega), List.getElem?_eq_none (by simp; omega)]
theorem vq_put {q k index : Nat} {C : String} {T : u_T} {v : Value} {K' : Nat → Nat → Bool} {g' : Sg} {ty : FieldType} (ty0 : Nat → FieldType) (hd : decode (mC M) pc = .ok (.putfield index, 3)) (hc : vwCl[qC q]? = some (C, T, qL q)) (hin : ∀ w ∈ u_ws C T (qL q), w ∈ TT) (hlink : Cond.fieldLink (mO M) index (T k).1 (T k).2.1 (T k).2.2.1 ∈ TT) (hty : ∀ k, k < qL q → parseFieldDescriptor (T k).2.2.1 = some (ty0 k)) (hnm : ∀ a, a < qL q → ∀ b, b < qL q → a ≠ b → (T a).2.1 ≠ (T b).2.1) (hq : q < N) (h0 : qK q = 0) (hk : k < qL q)
    (hfin : (T k).2.2.2 = false ∨ ((T k).2.2.2 = true ∧ (mM M).name = "<init>" ∧ (T k).1 = mO M)) (hty1 : parseFieldDescriptor (T k).2.2.1 = some ty) (hn : narrow ty v = v) (hfit : fits ty v = true) (hv : qV b K' g' q k = v) (ho : ∀ j, j ≠ k → qV b K' g' q j = qV b K g q j) (hr : ∀ p, p ≠ q → qE b id K' g' p = qE b id K g p)
    (kk : Vq l b id D M z NE KE post NX KX px N K' ce sl (pc + 3) lv st g') : Vq l b id D M z NE KE post NX KX px N K ce sl pc lv (v :: .ref (b + q) :: st) g := by
  intro p e s m args below meth c X H locs ls hP hS0 hl hz
  have hts := X.2.2.2.2.1
  have hK := X.2.2.2.2.2.2.2.2.2.1
  have hown := X.2.2.2.1
  have he : (qW b id N K g)[q]? = some (b + q, .inr (qC q, (List.range (qL q)).map (qV b K g q))) := by rw [qW_get hq, qE_0 h0]
  have hap := va_apart (own := mO M) hts hin ty0 hty hnm hK hc
  obtain ⟨r, h1, cell, q1, q2, q3, q4⟩ := hP q _ he
  have hr1 : r = (C, T, qL q) := Option.some.inj (h1.symm.trans hc)
  subst hr1
  obtain ⟨hS, hfc, kC, hkC, hkind⟩ := hK.1 (qC q) _ hc
  obtain ⟨cf, kf, fi, f, hi, hsl⟩ := hS k hk
  have hlay := hts _ (hin _ (u_in_lay hk))
  unfold u_lay at hlay
  have hst := (u_facts hfc hkC (u_lays hts hin hk) hi).1
  have hset : (qW b id N K g).set q (b + q, .inr (qC q, ((List.range (qL q)).map (qV b K g q)).set k v)) = qW b id N K' g' :=
    qW_set hq (by rw [qE_0 h0, qrange_set hk hv ho]) hr
  have hlen : k < ((List.range (qL q)).map (qV b K g q)).length := by simpa using hk
  rcases hfin with hfin | ⟨hfin, hini, hdecl⟩
  · rw [if_neg (by rw [hfin]; decide)] at hlay
    have h6 := u_store hfc hkC hkind hlay hi hty1 hn hfit
    refine W.putK X.1 X.2.1 (f := f) ⟨hown, hts _ hlink, ⟨_, _, _, hi⟩, hst⟩ (by rw [q2]; exact h6) q1 q3 (by rw [hsl]; exact k2_hasslot (q4 k hk)) rfl rfl hd fun H' e1 e2 e3 => ?_
    rw [hsl] at e1 ⊢
    have hP' := hP.set (e := .inr (qC q, ((List.range (qL q)).map (qV b K g q)).set k v)) (H1 := H') qW_D he ⟨_, hc, t_OB.to (V := updV (vp_V ((List.range (qL q)).map (qV b K g q))) k v) ⟨_, e1, q2, q3, t_set q4 hap hk v⟩ (fun j _ => vp_updV_set hlen v j)⟩ e3
    rw [hset] at hP'
    exact kk p e s m args below meth c X H' _ ls hP' (hS0.put e2 e3 (Nat.le_add_right b q)) hl (fun h => by rw [e2]; exact hz h)
  · rw [if_pos hfin] at hlay
    have hcf : m.cls = cf := by
      obtain ⟨_, _, c', _, _, _, -, -, hf', -, -, -, hown2, -⟩ := Cond.laysFinal_spec hlay
      have e1 : c' = cf := by have := hi.symm.trans hf'; simp at this; exact this.1.symm
      rw [hdecl] at hown2
      rw [← e1]; exact Option.some.inj (hown.symm.trans hown2)
    have h6 := u_fits hfc hkC hkind (Or.inr hlay) hi hty1 hn hfit
    refine W.putFinK X.1 X.2.1 hown (hts _ hlink) hi hst hcf (X.2.2.2.2.2.2.2.1.trans hini) (by rw [q2]; exact h6) q1 q3 (by rw [hsl]; exact k2_hasslot (q4 k hk)) rfl rfl hd fun H' e1 e2 e3 => ?_
    rw [hsl] at e1 ⊢
    have hP' := hP.set (e := .inr (qC q, ((List.range (qL q)).map (qV b K g q)).set k v)) (H1 := H') qW_D he ⟨_, hc, t_OB.to (V := updV (vp_V ((List.range (qL q)).map (qV b K g q))) k v) ⟨_, e1, q2, q3, t_set q4 hap hk v⟩ (fun j _ => vp_updV_set hlen v j)⟩ e3
    rw [hset] at hP'
    exact kk p e s m args below meth c X H' _ ls hP' (hS0.put e2 e3 (Nat.le_add_right b q)) hl (fun h => by rw [e2]; exact hz h)
theorem qV_sI {q k j : Nat} {x : Int32} (h : j ≠ k) : qV b K (sI g q (upd (g.1 q) k x)) q j = qV b K g q j := by
  simp only [qV, sI_s, sI_2, upd, if_neg h]
theorem qV_sJ {q k j : Nat} {x : Int64} (h : j ≠ k) : qV b K (sJ g q (vp_updL (g.2 q) k x)) q j = qV b K g q j := by
  simp only [qV, sJ_s, sJ_1, vp_updL, if_neg h]
def kS (K : Nat → Nat → Bool) (q k : Nat) : Nat → Nat → Bool := fun p j => if p = q ∧ j = k then true else K p j
theorem vq_putI {q k index : Nat} {C : String} {T : u_T} {x : Int32} {ty : FieldType} (ty0 : Nat → FieldType) (hd : decode (mC M) pc = .ok (.putfield index, 3)) (hc : vwCl[qC q]? = some (C, T, qL q)) (hin : ∀ w ∈ u_ws C T (qL q), w ∈ TT) (hlink : Cond.fieldLink (mO M) index (T k).1 (T k).2.1 (T k).2.2.1 ∈ TT) (hty : ∀ k, k < qL q → parseFieldDescriptor (T k).2.2.1 = some (ty0 k)) (hnm : ∀ a, a < qL q → ∀ b, b < qL q → a ≠ b → (T a).2.1 ≠ (T b).2.1) (hq : q < N) (h0 : qK q = 0) (hk : k < qL q)
    (hfin : (T k).2.2.2 = false) (hty1 : parseFieldDescriptor (T k).2.2.1 = some ty) (hf : qF q k = 0) (hn : narrow ty (.int x) = .int x) (hfit : fits ty (.int x) = true)
    (kk : Vq l b id D M z NE KE post NX KX px N K ce sl (pc + 3) lv st (sI g q (upd (g.1 q) k x))) : Vq l b id D M z NE KE post NX KX px N K ce sl pc lv (.int x :: .ref (b + q) :: st) g :=
  vq_put ty0 hd hc hin hlink hty hnm hq h0 hk (Or.inl hfin) hty1 hn hfit (by simp only [qV, hf, sI_s, upd, if_true]) (fun j hj => qV_sI hj) (fun p hp => qE_sI hp) kk
theorem vq_putJ {q k index : Nat} {C : String} {T : u_T} {x : Int64} (ty0 : Nat → FieldType) (hd : decode (mC M) pc = .ok (.putfield index, 3)) (hc : vwCl[qC q]? = some (C, T, qL q)) (hin : ∀ w ∈ u_ws C T (qL q), w ∈ TT) (hlink : Cond.fieldLink (mO M) index (T k).1 (T k).2.1 (T k).2.2.1 ∈ TT) (hty : ∀ k, k < qL q → parseFieldDescriptor (T k).2.2.1 = some (ty0 k)) (hnm : ∀ a, a < qL q → ∀ b, b < qL q → a ≠ b → (T a).2.1 ≠ (T b).2.1) (hq : q < N) (h0 : qK q = 0) (hk : k < qL q)
    (hfin : (T k).2.2.2 = false) (hty1 : parseFieldDescriptor (T k).2.2.1 = some .long) (hf : qF q k = 1)
    (kk : Vq l b id D M z NE KE post NX KX px N K ce sl (pc + 3) lv st (sJ g q (vp_updL (g.2 q) k x))) : Vq l b id D M z NE KE post NX KX px N K ce sl pc lv (.long x :: .ref (b + q) :: st) g :=
  vq_put ty0 hd hc hin hlink hty hnm hq h0 hk (Or.inl hfin) hty1 rfl rfl (by simp only [qV, hf, sJ_s, vp_updL, if_true]) (fun j hj => qV_sJ hj) (fun p hp => qE_sJ hp) kk
theorem vq_putR {q k index t : Nat} {C : String} {T : u_T} {ty : FieldType} (ty0 : Nat → FieldType) (hd : decode (mC M) pc = .ok (.putfield index, 3)) (hc : vwCl[qC q]? = some (C, T, qL q)) (hin : ∀ w ∈ u_ws C T (qL q), w ∈ TT) (hlink : Cond.fieldLink (mO M) index (T k).1 (T k).2.1 (T k).2.2.1 ∈ TT) (hty : ∀ k, k < qL q → parseFieldDescriptor (T k).2.2.1 = some (ty0 k)) (hnm : ∀ a, a < qL q → ∀ b, b < qL q → a ≠ b → (T a).2.1 ≠ (T b).2.1) (hq : q < N) (h0 : qK q = 0) (hk : k < qL q)
    (hfin : (T k).2.2.2 = true) (hini : (mM M).name = "<init>") (hdecl : (T k).1 = mO M) (hty1 : parseFieldDescriptor (T k).2.2.1 = some ty) (hf : qF q k = t + 2) (hn : narrow ty (.ref (b + t)) = .ref (b + t)) (hfit : fits ty (.ref (b + t)) = true)
    (kk : Vq l b id D M z NE KE post NX KX px N (kS K q k) ce sl (pc + 3) lv st g) : Vq l b id D M z NE KE post NX KX px N K ce sl pc lv (.ref (b + t) :: .ref (b + q) :: st) g :=
  vq_put (K' := kS K q k) (g' := g) ty0 hd hc hin hlink hty hnm hq h0 hk (Or.inr ⟨hfin, hini, hdecl⟩) hty1 hn hfit (by simp [qV, hf, kS]) (fun j hj => by simp only [qV, kS]; simp [hj]) (fun p hp => qE_congr rfl rfl (by funext j; simp [kS, hp])) kk
/-- returns -/
theorem qend {v : Option Value} {s t : State} {H : Heap} {locs : List Loc} (hP : va_P D vwCl (qW b id N K g) H) (hS : va_S (fun q => b ≤ q) s.heap H locs) (hz : z = true → H.size = b + N) (hp : post v g) (ht : t.heap = H) : qQx b id D z N K post NX KX px s (.returned v) t :=
  ⟨hS.F ht, Or.inl ⟨v, g, rfl, hp, by rw [ht]; exact hP, fun h => by rw [ht]; exact hz h⟩⟩
theorem vq_iret {v : Int32} (hd : decode (mC M) pc = .ok (.ireturn, 1)) (hr : mY M = some .int) (hce : ce ≤ (mR M).cells) (hsl : sl ≤ (mR M).slots) (hN : N = NE) (hK : K = KE) (hp : post (some (.int v)) g) : Vq l b id D M z NE KE post NX KX px N K ce sl pc lv [.int v] g := by
  intro p e s m args below meth c X H locs ls hP hS hl hz
  subst hN; subst hK
  exact qret (Qc := fun _ st o t => qQx b id D z N K post NX KX px st o t) (fun o t h => h) (W.widen hce hsl (W.iret X.1 X.2.1 (X.2.2.2.2.2.2.1.trans hr) (fun t ht hW => qend hP hS hz hp ht) hS.2.2 hd X.2.2.2.2.2.1))
theorem vq_zret {v : Int32} (hd : decode (mC M) pc = .ok (.ireturn, 1)) (hr : mY M = some .boolean) (hx : v = 0 ∨ v = 1) (hce : ce ≤ (mR M).cells) (hsl : sl ≤ (mR M).slots) (hN : N = NE) (hK : K = KE) (hp : post (some (.int v)) g) : Vq l b id D M z NE KE post NX KX px N K ce sl pc lv [.int v] g := by
  intro p e s m args below meth c X H locs ls hP hS hl hz
  subst hN; subst hK
  exact qret (Qc := fun _ st o t => qQx b id D z N K post NX KX px st o t) (fun o t h => h) (W.widen hce hsl (W.zret X.1 X.2.1 (X.2.2.2.2.2.2.1.trans hr) (by rcases hx with rfl | rfl <;> rfl) (fun t ht hW => qend hP hS hz hp ht) hS.2.2 hd X.2.2.2.2.2.1))
theorem vq_lret {v : Int64} (hd : decode (mC M) pc = .ok (.lreturn, 1)) (hr : mY M = some .long) (hce : ce ≤ (mR M).cells) (hsl : sl ≤ (mR M).slots) (hN : N = NE) (hK : K = KE) (hp : post (some (.long v)) g) : Vq l b id D M z NE KE post NX KX px N K ce sl pc lv [.long v] g := by
  intro p e s m args below meth c X H locs ls hP hS hl hz
  subst hN; subst hK
  exact qret (Qc := fun _ st o t => qQx b id D z N K post NX KX px st o t) (fun o t h => h) (W.widen hce hsl (W.lret X.1 X.2.1 (X.2.2.2.2.2.2.1.trans hr) (fun t ht hW => qend hP hS hz hp ht) hS.2.2 hd X.2.2.2.2.2.1))
theorem vq_vret (hd : decode (mC M) pc = .ok (.return_, 1)) (hr : mY M = none) (hce : ce ≤ (mR M).cells) (hsl : sl ≤ (mR M).slots) (hN : N = NE) (hK : K = KE) (hp : post none g) : Vq l b id D M z NE KE post NX KX px N K ce sl pc lv [] g := by
  intro p e s m args below meth c X H locs ls hP hS hl hz
  subst hN; subst hK
  exact qret (Qc := fun _ st o t => qQx b id D z N K post NX KX px st o t) (fun o t h => h) (W.widen hce hsl (W.vret X.1 X.2.1 (X.2.2.2.2.2.2.1.trans hr) (fun t ht hW => qend hP hS hz hp ht) hS.2.2 hd X.2.2.2.2.2.1))
/-- from a body to its contract -/
theorem qCT_of {av : List Value} (hh : mH M = none) (hy : plainName (mO M) = true) (hlen : (lg_sl av).length ≤ mN M)
    (k : Vq l b id D M z NE KE post N K px N K 0 0 0 (lv_args 0 av) [] g) : qCT l b id D M z av N K g NE KE post px := by
  have hw : mW M = Cond.code (mM M) (mC M) (mN M) (mY M) := by simp only [mW, hh]
  have hx : mX M = [] := by simp only [mX, hh]
  unfold qCT
  rw [hw]
  refine qmet (cc := mC M) (maxL := mN M) (ret := mY M) hy rfl ?_
  intro p e s m args below meth c s₁ B hml ht hv
  obtain ⟨rfl, hP, hK, hX, hz⟩ := hv
  rw [lg_entry_eq]
  have hts := atoms_spec (ws := Cond.code (mM M) (mC M) (mN M) (mY M) :: TT) B.pre
  exact k p e s m _ below meth c ⟨B.exec, B.bytes, hml, findClass_of_methodNamed B.named, fun w h => hts w (List.mem_cons_of_mem _ h), B.notSynchronized, B.returns, (name_of_methodNamed B.named B.method).1, ht.trans hx.symm, hK, hX⟩ s.heap [] _ hP va_S.rf (lv_entry av (n := mN M) hlen) hz
theorem qpre {p : Program} {s : State} {m : MethodId} {args : Array Value} {meth : Method} {c : Code} {H : Heap} {locs : List Loc} (X : Cq b id D M p s m args meth c) (hP : va_P D vwCl (qW b id N K g) H) (hS : va_S (fun q => b ≤ q) s.heap H locs) (hz : z = true → H.size = b + N) {av : List Value} {U : State} (hU : U.heap = H) (hW : s.WarmedH U.vm) (gf : JFrame) (mk : MethodId) : va_Pc av (qPW b id D z N K g) av.toArray (U.calling gf mk av.toArray) := by
  refine ⟨rfl, ?_, va_K.moved (U := U.calling gf mk av.toArray) hW.alike X.2.2.2.2.2.2.2.2.2.1, ?_, ?_⟩
  · show va_P D vwCl (qW b id N K g) U.heap
    rw [hU]; exact hP
  · show qX b (U.calling gf mk av.toArray) U.heap
    rw [hU]
    exact qX.go (U := U.calling gf mk av.toArray) X.2.2.2.2.2.2.2.2.2.2 hS hW
  · intro h
    show U.heap.size = b + N
    rw [hU]; exact hz h
/-- the callee has been entered at U: both outcomes, and the way on -/
theorem qcall {M' : Mt} {av rest : List Value} {NE' : Nat} {KE' : Nat → Nat → Bool} {post' : Option Value → Sg → Prop} {px' : String → Sg → Prop} {p : Program} {e : Env} {s : State} {m : MethodId} {args : Array Value} {below : List Frame} {meth : Method} {c : Code} {H : Heap} {locs : List Loc} {ls : Array Slot} {U : State} {mk : MethodId} {ig : Instr} {Q : State → Prop}
    (X : Cq b id D M p s m args meth c) (hP : va_P D vwCl (qW b id N K g) H) (hS : va_S (fun q => b ≤ q) s.heap H locs) (hl : lv_has ls (mN M) lv) (hz : z = true → H.size = b + N)
    (XU : Stand p l e (mR M) s m args below meth c U locs ce sl) (hU : U.heap = H) (hM : qCT l b id D M' z av N K g NE' KE' post' px') (hhM : mH M' = none) (hcd : mW M' ∈ TT) (hini : Cond.initialized (mO M') ∈ TT) (hR : (mR M').frames + 1 ≤ (mR M).frames ∧ 8 + (mN M' + 11) + (mR M').locals ≤ (mR M).locals) (hf : ce + (mR M').cells ≤ (mR M).cells ∧ sl + (mR M').slots ≤ (mR M).slots)
    (hrest : (rest.map fun v => v.category).sum ≤ 8) (hn : U.methodNamed? (mM M') = some mk) (hd : decode (mC M) pc = .ok (ig, 3))
    (kx : ∀ (T' : State) (x : Addr) (E : String) (cx : Cell) (g' : Sg) (locs1 : List Loc), Stand p l e (mR M) s m args below meth c T' locs1 (ce + (mR M').cells) (sl + (mR M').slots) → px' E g' → va_P D vwCl (qW b id N K g') T'.heap → va_S (fun q => b ≤ q) s.heap T'.heap locs1 → T'.heap[x]? = some cx → cx.vm = .none → s.vm.findClass E = some cx.cls → ∃ t, Steps p.tables e below ((T'.setTop (F0 m pc ls rest)).pushFrame (.throwing x)) t ∧ Q t)
    (kk : ∀ (v : Option Value) (g' : Sg) (T' : State) (locs1 : List Loc), Stand p l e (mR M) s m args below meth c T' locs1 (ce + (mR M').cells) (sl + (mR M').slots) → post' v g' → va_P D vwCl (qW b id NE' KE' g') T'.heap → va_S (fun q => b ≤ q) s.heap T'.heap locs1 → (z = true → T'.heap.size = b + NE') → ∃ t, Steps p.tables e below (T'.setTop (F0 m (pc + 3) ls (v.toList ++ rest))) t ∧ Q t) :
    ∃ t, Steps p.tables e below (doInvoke e (U.setTop (F0 m pc ls rest)) [] mk av.toArray).1 t ∧ Q t := by
  have hwd : ∀ {w : Cond} (a' : Array Value), w ∈ TT → w.before a' U = true := fun a' h => tU X.2.2.2.2.1 XU.warmed h
  have hcode : (Cond.code (mM M') (mC M') (mN M') (mY M')).before av.toArray U = true := by
    have h := hwd av.toArray hcd
    simp only [mW, hhM] at h
    exact h
  obtain ⟨methY, cY, h1, h2, -, h4, -, -, -, -⟩ := Cond.code_spec hn hcode
  have hF : ∀ {st t T' : State} {L : List Loc}, st.heap = H → T'.heap = t.heap → va_F (fun q => b ≤ q) st t → (∀ q ∈ L, b ≤ q.base) → va_S (fun q => b ≤ q) s.heap T'.heap (locs ++ L) := by
    intro st t T' L e0 e1 hF hL
    obtain ⟨f1, f2⟩ := hF
    rw [e0] at f1 f2
    rw [e1]
    refine ⟨Nat.le_trans hS.1 f1, fun q h1 h2 => (f2 q (Nat.lt_of_lt_of_le h1 hS.1) h2).trans (hS.2.1 q h1 h2), fun q hq => ?_⟩
    rcases List.mem_append.mp hq with h | h
    · exact hS.2.2 q h
    · exact hL q h
  obtain ⟨s₂, U', L, e1, e2, X', hL, hout⟩ := qenter (a := av.toArray) (g := F0 m pc ls rest) (mk := mk) (maxL := mN M') hM XU rfl (hl.1.trans X.2.2.1.symm) (by rw [X.2.1]; exact hd) (lv_room hrest) hR.1 hR.2 hf.1 hf.2 hn
    (fun w hw => by
      rcases List.mem_cons.mp hw with rfl | hw
      · exact hwd _ hcd
      · exact hwd _ hw) ⟨methY, cY, h1, h2, h4⟩ (hwd _ hini) (qpre X hP hS hz hU XU.warmed _ _)
  rcases hout with ⟨v, ⟨hfr, hq⟩, hst⟩ | ⟨x, ⟨hfr, hq⟩, hst⟩
  · rcases hq with ⟨v', g', hv, hp, hP', hz'⟩ | ⟨_, _, _, _, h, _⟩
    · cases hv
      obtain ⟨t, a1, b1⟩ := kk v g' U' (locs ++ L) X' hp (by rw [e1]; exact hP') (hF (st := U.calling (F0 m pc ls rest) mk av.toArray) hU e1 hfr hL) (fun h => by rw [e1]; exact hz' h)
      exact ⟨t, hst.trans a1, b1⟩
    · cases h
  · rcases hq with ⟨_, _, h, _⟩ | ⟨x', E, cx, g', hx, hp, hP', hc1, hc2, hc3⟩
    · cases h
    · cases hx
      have hc4 : s.vm.findClass E = some cx.cls := by
        have h9 : U.vm.findClass E = some cx.cls := hc3
        rw [XU.warmed.alike.findClass] at h9
        exact h9
      obtain ⟨t, a1, b1⟩ := kx U' x E cx g' (locs ++ L) X' hp (by rw [e1]; exact hP') (hF (st := U.calling (F0 m pc ls rest) mk av.toArray) hU e1 hfr hL) (by rw [e1]; exact hc1) hc2 hc4
      exact ⟨t, hst.trans a1, b1⟩
/-- what is thrown goes on to the caller -/
theorem qpass {rest : List Value} {p : Program} {e : Env} {s : State} {m : MethodId} {args : Array Value} {below : List Frame} {meth : Method} {c : Code} {ls : Array Slot} (X : Cq b id D M p s m args meth c) (hx0 : mH M = none) (hce : ce ≤ (mR M).cells) (hsl : sl ≤ (mR M).slots)
    {T' : State} {x : Addr} {E : String} {cx : Cell} {g' : Sg} {locs1 : List Loc} (XT : Stand p l e (mR M) s m args below meth c T' locs1 ce sl) (hp : px E g') (hP : va_P D vwCl (qW b id NX KX g') T'.heap) (hS : va_S (fun q => b ≤ q) s.heap T'.heap locs1) (h1 : T'.heap[x]? = some cx) (h2 : cx.vm = .none) (h3 : s.vm.findClass E = some cx.cls) :
    ∃ t, Steps p.tables e below ((T'.setTop (F0 m pc ls rest)).pushFrame (.throwing x)) t ∧ qMQ below (qQx b id D z NE KE post NX KX px) s (mR M).cells (mR M).slots (fun q => b ≤ q) t := by
  have hm : mX M = [] := by simp only [mX, hx0]
  exact qthrough XT (by rw [X.2.2.2.2.2.2.2.2.1, hm]; intro y hy; cases hy) X.2.2.2.2.2.1 (fun t ht _ => ⟨hS.F ht, Or.inr ⟨x, E, cx, g', rfl, hp, by rw [ht]; exact hP, by rw [ht]; exact h1, h2, h3⟩⟩) hS.2.2 hce hsl
/-- a call by the receiver; what it throws goes on to the caller -/
theorem vq_callV {M' : Mt} {q index n nf : Nat} {C : String} {T : u_T} (As rest : List Value) {st0 : List Value} {NE' : Nat} {KE' : Nat → Nat → Bool} {post' : Option Value → Sg → Prop} {px' : String → Sg → Prop} (hd : decode (mC M) pc = .ok (.invokevirtual index, 3))
    (hM : qCT l b id D M' z (.ref (b + q) :: As) N K g NE' KE' post' px') (hlk : Cond.methodLink (mO M) index (mM M') ∈ TT) (hinst : Cond.instanceMethod (mM M') ∈ TT) (hsel : Cond.selects C (mM M') (mM M') ∈ TT) (hcd : mW M' ∈ TT) (hini : Cond.initialized (mO M') ∈ TT) (hhM : mH M' = none)
    (hdd : (mO M') ≠ "java/lang/invoke/MethodHandle" ∧ (mO M') ≠ "java/lang/invoke/VarHandle" ∧ (parseMethodDescriptor (mM M').desc).map (fun d => d.parameters.length) = some n) (hR : (mR M').frames + 1 ≤ (mR M).frames ∧ 8 + (mN M' + 11) + (mR M').locals ≤ (mR M).locals)
    (hq : q < N) (h0 : qK q = 0) (hc : vwCl[qC q]? = some (C, T, nf)) (hn : As.length = n) (hst : st0 = As.reverse ++ .ref (b + q) :: rest) (hrest : (rest.map fun v => v.category).sum ≤ 8) (hx0 : mH M = none) (hNX : N = NX) (hKX : K = KX) (hf : ce + (mR M').cells ≤ (mR M).cells ∧ sl + (mR M').slots ≤ (mR M).slots)
    (kx : ∀ E g', px' E g' → px E g') (kk : ∀ v g', post' v g' → Vq l b id D M z NE KE post NX KX px NE' KE' (ce + (mR M').cells) (sl + (mR M').slots) (pc + 3) lv (v.toList ++ rest) g') : Vq l b id D M z NE KE post NX KX px N K ce sl pc lv st0 g := by
  intro p e s m args below meth c X H locs ls hP hS hl hz
  subst hst
  subst hNX; subst hKX
  intro T0 hT XS
  have hts := X.2.2.2.2.1
  obtain ⟨mk, methM, hnamed, hmethM, hstM, habM⟩ := Cond.instanceMethod_spec (hts _ hinst)
  have hcode : (Cond.code (mM M') (mC M') (mN M') (mY M')).before args s = true := by
    have h := hts _ hcd
    simp only [mW, hhM] at h
    exact h
  obtain ⟨methM', cM, hmethM', -, -, -, -, -, -, hsigM⟩ := Cond.code_spec hnamed hcode
  cases hmethM.symm.trans hmethM'
  obtain ⟨c2, r2, m2, q1, q2, q3, q4, kP, hkP, hkPi⟩ := Cond.selects_spec (hts _ hsel)
  obtain ⟨cellB, hcB, hoB, hclB⟩ := va_recv X.2.2.2.2.2.2.2.2.2.1 hP hc (show (qW b id N K g)[q]? = some (b + q, .inr (qC q, (List.range (qL q)).map (qV b K g q))) by rw [qW_get hq, qE_0 h0])
  cases hclB.symm.trans q1
  have hy : (mM M').cls ≠ "java/lang/invoke/MethodHandle" ∧ (mM M').cls ≠ "java/lang/invoke/VarHandle" := ⟨hdd.1, hdd.2.1⟩
  cases (State.methodFound?_of_named hnamed hy).symm.trans q2
  cases hnamed.symm.trans q3
  have hselP : selectMethod e.platform s.vm cellB.cls mk = .method mk := by rw [Launch.admits_selectMethod XS.admits]; exact q4
  have hlen : As.length = methM.sig.parameters.length := by
    have h2 := hdd.2.2
    rw [hsigM] at h2
    rw [hn]
    exact (Option.some.inj h2).symm
  obtain ⟨vm₁, X₁, hstep₁⟩ := XS.invokevirtual X.1 X.2.2.2.1 (hts _ hlk) hnamed hmethM hstM hkP hkPi hy (a := b + q) (cell := cellB) (by rw [hT]; exact hcB)
    (fun z h => by rw [h] at hoB; cases hoB) hselP hmethM habM hkP hkPi (g := F0 m pc ls (As.reverse ++ .ref (b + q) :: rest)) rfl (argsL := As) (rest := rest) hlen rfl (by rw [X.2.1]; exact hd)
  obtain ⟨t, a1, b1⟩ := qcall (av := .ref (b + q) :: As) (rest := rest) X hP hS hl hz X₁ hT hM hhM hcd hini hR hf hrest (X₁.named hnamed) hd
    (fun T' x E cx g' locs1 XT hp hP1 hS1 h1 h2 h3 => qpass X hx0 hf.1 hf.2 XT (kx E g' hp) hP1 hS1 h1 h2 h3)
    (fun v g' T' locs1 XT hp hP1 hS1 hz1 => kk v g' hp p e s m args below meth c X T'.heap locs1 ls hP1 hS1 hl hz1 T' rfl XT)
  exact ⟨t, hstep₁ t (fun acts => by rw [doInvoke_state]; exact a1), b1⟩
/-- a static call -/
theorem vq_callS {M' : Mt} {index n : Nat} (As rest : List Value) {st0 : List Value} {NE' : Nat} {KE' : Nat → Nat → Bool} {post' : Option Value → Sg → Prop} {px' : String → Sg → Prop} (hd : decode (mC M) pc = .ok (.invokestatic index, 3))
    (hM : qCT l b id D M' z As N K g NE' KE' post' px') (hlk : Cond.methodLink (mO M) index (mM M') ∈ TT) (hsta : Cond.static (mM M') ∈ TT) (hcd : mW M' ∈ TT) (hini : Cond.initialized (mO M') ∈ TT) (hhM : mH M' = none)
    (hdd : (mO M') ≠ "java/lang/invoke/MethodHandle" ∧ (mO M') ≠ "java/lang/invoke/VarHandle" ∧ (parseMethodDescriptor (mM M').desc).map (fun d => d.parameters.length) = some n) (hR : (mR M').frames + 1 ≤ (mR M).frames ∧ 8 + (mN M' + 11) + (mR M').locals ≤ (mR M).locals)
    (hn : As.length = n) (hst : st0 = As.reverse ++ rest) (hrest : (rest.map fun v => v.category).sum ≤ 8) (hx0 : mH M = none) (hNX : N = NX) (hKX : K = KX) (hf : ce + (mR M').cells ≤ (mR M).cells ∧ sl + (mR M').slots ≤ (mR M).slots)
    (kx : ∀ E g', px' E g' → px E g') (kk : ∀ v g', post' v g' → Vq l b id D M z NE KE post NX KX px NE' KE' (ce + (mR M').cells) (sl + (mR M').slots) (pc + 3) lv (v.toList ++ rest) g') : Vq l b id D M z NE KE post NX KX px N K ce sl pc lv st0 g := by
  intro p e s m args below meth c X H locs ls hP hS hl hz
  subst hst
  subst hNX; subst hKX
  intro T0 hT XS
  have hts := X.2.2.2.2.1
  have hcode : (Cond.code (mM M') (mC M') (mN M') (mY M')).before args s = true := by
    have h := hts _ hcd
    simp only [mW, hhM] at h
    exact h
  obtain ⟨mk, hnamed⟩ := Cond.code_named hcode
  obtain ⟨methM, cM, hmethM, -, -, -, -, -, -, hsigM⟩ := Cond.code_spec hnamed hcode
  have hstatic : methM.isStatic = true := Cond.static_spec hnamed hmethM (hts _ hsta)
  obtain ⟨kP, hkP, -⟩ := className_of_methodNamed hnamed
  have hinitP : kP.init = .initialized := Cond.initialized_spec (findClass_of_methodNamed hnamed) hkP (hts _ hini)
  have hy : (mM M').cls ≠ "java/lang/invoke/MethodHandle" ∧ (mM M').cls ≠ "java/lang/invoke/VarHandle" := ⟨hdd.1, hdd.2.1⟩
  have hlen : As.length = methM.sig.parameters.length := by
    have h2 := hdd.2.2
    rw [hsigM] at h2
    rw [hn]
    exact (Option.some.inj h2).symm
  obtain ⟨vm₁, X₁, hstep₁⟩ := XS.invokestatic X.1 X.2.2.2.1 (hts _ hlk) hnamed hmethM hstatic hkP hinitP hy (g := F0 m pc ls (As.reverse ++ rest)) rfl (argsL := As) (rest := rest) hlen rfl (by rw [X.2.1]; exact hd)
  obtain ⟨t, a1, b1⟩ := qcall (av := As) (rest := rest) X hP hS hl hz X₁ hT hM hhM hcd hini hR hf hrest (X₁.named hnamed) hd
    (fun T' x E cx g' locs1 XT hp hP1 hS1 h1 h2 h3 => qpass X hx0 hf.1 hf.2 XT (kx E g' hp) hP1 hS1 h1 h2 h3)
    (fun v g' T' locs1 XT hp hP1 hS1 hz1 => kk v g' hp p e s m args below meth c X T'.heap locs1 ls hP1 hS1 hl hz1 T' rfl XT)
  exact ⟨t, hstep₁ t (fun acts => by rw [doInvoke_state]; exact a1), b1⟩
end Vb
end
section
/-! The family as numbers, and what is computed from it: no machine here -/
abbrev Fam : Type := Nat × (Nat → Option Nat) × (Nat → Option Nat) × (Nat → Option Nat) × (Nat → Option Nat) × (Nat → Nat) × (Nat → Nat → Nat) × (Nat → Nat → Bool)
def zn (F : Fam) : Nat := F.1
def za (F : Fam) : Nat → Option Nat := F.2.1
def zb (F : Fam) : Nat → Option Nat := F.2.2.1
def zs (F : Fam) : Nat → Option Nat := F.2.2.2.1
def zd (F : Fam) : Nat → Option Nat := F.2.2.2.2.1
def zo (F : Fam) : Nat → Nat := F.2.2.2.2.2.1
def zg (F : Fam) : Nat → Nat → Nat := F.2.2.2.2.2.2.1
def zx (F : Fam) : Nat → Nat → Bool := F.2.2.2.2.2.2.2
/-- what holds of every family that was entered -/
def zW (F : Fam) : Prop := zn F ≤ 20 ∧ (∀ p j, p < zn F → za F p = some j → j < p) ∧ (∀ p j, p < zn F → zb F p = some j → j < p) ∧ (∀ p j, p < zn F → za F p = some j → zb F p ≠ some j) ∧ (∀ p j, p < zn F → zs F p = some j → j < zn F) ∧ (∀ p t, p < zn F → zd F p = some t → t ≤ 999) ∧ (∀ p, zo F p ≤ 1000000) ∧ (∀ c p, zg F c p ≤ 1000000)
def zch (F : Fam) (c p : Nat) : Bool := (za F c == some p) || (zb F c == some p)
def zlt (F : Fam) (e p : Nat) : Bool := match zd F p with
  | none => true
  | some t => match zd F e with
    | none => true
    | some u => decide (u < t)
def zl (F : Fam) (e p : Nat) : Bool := !(p == e) && !(zx F p e) && zlt F e p
/-- sums -/
def zsum (f : Nat → Nat) : Nat → Nat
  | 0 => 0
  | k + 1 => zsum f k + f k
theorem zsum_congr {f g : Nat → Nat} : ∀ {n : Nat}, (∀ c, c < n → f c = g c) → zsum f n = zsum g n
  | 0, _ => rfl
  | n + 1, h => by
    show zsum f n + f n = zsum g n + g n
    rw [zsum_congr (n := n) (fun c hc => h c (Nat.lt_succ_of_lt hc)), h n (Nat.lt_succ_self n)]
theorem zsum_add (f g : Nat → Nat) : ∀ n : Nat, zsum (fun c => f c + g c) n = zsum f n + zsum g n
  | 0 => rfl
  | n + 1 => by
    show zsum (fun c => f c + g c) n + (f n + g n) = (zsum f n + f n) + (zsum g n + g n)
    rw [zsum_add f g n]; omega
theorem zsum_zero : ∀ n : Nat, zsum (fun _ => 0) n = 0
  | 0 => rfl
  | n + 1 => by
    show zsum (fun _ => 0) n + 0 = 0
    rw [zsum_zero n]
theorem zsum_mul (a : Nat) (f : Nat → Nat) : ∀ n : Nat, zsum (fun c => a * f c) n = a * zsum f n
  | 0 => rfl
  | n + 1 => by
    show zsum (fun c => a * f c) n + a * f n = a * (zsum f n + f n)
    rw [zsum_mul a f n, Nat.mul_add]
theorem zsum_le {f g : Nat → Nat} : ∀ {n : Nat}, (∀ c, c < n → f c ≤ g c) → zsum f n ≤ zsum g n
  | 0, _ => Nat.le_refl _
  | n + 1, h => Nat.add_le_add (zsum_le (n := n) (fun c hc => h c (Nat.lt_succ_of_lt hc))) (h n (Nat.lt_succ_self n))
theorem zsum_one {f : Nat → Nat} : ∀ {n k : Nat}, k < n → f k ≤ zsum f n
  | 0, k, h => absurd h (Nat.not_lt_zero k)
  | n + 1, k, h => by
    show f k ≤ zsum f n + f n
    by_cases e : k = n
    · subst e; omega
    · have := zsum_one (f := f) (n := n) (k := k) (by omega)
      omega
/-- all but one are nothing -/
theorem zsum_pt (j x : Nat) : ∀ n : Nat, zsum (fun c => if c = j then x else 0) n = if j < n then x else 0
  | 0 => by simp [zsum]
  | n + 1 => by
    show zsum (fun c => if c = j then x else 0) n + (if n = j then x else 0) = _
    rw [zsum_pt j x n]
    by_cases h : j < n
    · have h1 : ¬ n = j := by omega
      have h2 : j < n + 1 := by omega
      simp [h, h1, h2]
    · by_cases h1 : n = j
      · have h2 : j < n + 1 := by omega
        simp [h, h1, h2]
      · have h2 : ¬ j < n + 1 := by omega
        simp [h, h1, h2]
/-- who has heirs in his stem, with fuel -/
def zx0 (F : Fam) (e : Nat) : Nat → Nat → Bool
  | 0, _ => false
  | k + 1, p => zl F e p || decide (0 < zsum (fun c => if (decide (p < c) && zch F c p && zx0 F e k c) = true then 1 else 0) (zn F))
def zX (F : Fam) (e p : Nat) : Bool := zx0 F e (zn F) p
/-- c is a child of p that has heirs -/
def zk (F : Fam) (e p c : Nat) : Bool := decide (p < c) && zch F c p && zX F e c
def zB (F : Fam) (e p : Nat) : Nat := zsum (fun c => if zk F e p c = true then 1 else 0) (zn F)
theorem zx0_stable (F : Fam) (e : Nat) : ∀ k p : Nat, p < zn F → zn F ≤ p + k → zx0 F e (k + 1) p = zx0 F e k p
  | 0, p, h, h2 => by omega
  | k + 1, p, h, h2 => by
    show (zl F e p || decide (0 < zsum (fun c => if (decide (p < c) && zch F c p && zx0 F e (k + 1) c) = true then 1 else 0) (zn F))) = (zl F e p || decide (0 < zsum (fun c => if (decide (p < c) && zch F c p && zx0 F e k c) = true then 1 else 0) (zn F)))
    rw [zsum_congr (n := zn F) (g := fun c => if (decide (p < c) && zch F c p && zx0 F e k c) = true then 1 else 0)]
    intro c hc
    by_cases hpc : p < c
    · rw [zx0_stable F e k c hc (by omega)]
    · simp [hpc]
theorem zX_eq (F : Fam) (e : Nat) {p : Nat} (h : p < zn F) : zX F e p = (zl F e p || decide (0 < zB F e p)) := by
  unfold zX zB zk zX
  obtain ⟨k, hk⟩ : ∃ k, zn F = k + 1 := ⟨zn F - 1, by omega⟩
  rw [hk]
  show (zl F e p || decide (0 < zsum (fun c => if (decide (p < c) && zch F c p && zx0 F e k c) = true then 1 else 0) (zn F))) = _
  rw [hk]
  rw [zsum_congr (n := k + 1) (g := fun c => if (decide (p < c) && zch F c p && zx0 F e (k + 1) c) = true then 1 else 0)]
  intro c hc
  by_cases hpc : p < c
  · rw [zx0_stable F e k c (by omega) (by omega)]
  · simp [hpc]
def zoB (x : Option Nat) (f : Nat → Bool) : Bool := match x with
  | some j => f j
  | none => false
/-- who has heirs in his line of a height -/
def zY (F : Fam) (e : Nat) : Nat → Nat → Bool
  | 0, p => zX F e p
  | h + 1, p => zoB (za F p) (zY F e h) || zoB (zb F p) (zY F e h)
def zw (F : Fam) (e : Nat) : Option Nat := match zs F e with
  | some j => if zl F e j = true then some j else none
  | none => none
def zt (F : Fam) (e : Nat) : Nat :=
  if zY F e 0 e = true then 0 else if zY F e 1 e = true then 1 else if zY F e 2 e = true then 2
  else if (zw F e).isNone = true then (if zY F e 3 e = true then 3 else 5) else 4
def zq (F : Fam) (e : Nat) : Nat := if (zw F e).isNone = true then 0 else if zt F e = 0 then 1 else if zt F e ≤ 3 then 2 else 4
/-- products -/
def zpd (f : Nat → Nat) : Nat → Nat
  | 0 => 1
  | k + 1 => zpd f k * f k
def zfa (F : Fam) (e p : Nat) : Nat := if (!zl F e p && decide (0 < zB F e p)) = true then zB F e p else 1
def zpr (F : Fam) (e : Nat) : Nat := zpd (zfa F e) (zn F)
/-- what comes down the stems: when the first k persons have handed on what they had -/
def ztb (F : Fam) (e : Nat) (P : Nat → Nat) : Nat → Nat → Nat
  | 0, c => P c
  | k + 1, c => ztb F e P k c + (if (!zl F e k && decide (c < zn F) && zk F e k c) = true then ztb F e P k k / zB F e k else 0)
/-- what one takes -/
def zta (F : Fam) (e : Nat) (P T : Nat → Nat) (p : Nat) : Nat := T p + (if zl F e p = true then ztb F e P p p else 0)
/-- what comes up from the persons of one height to those of the height h -/
def zc1 (F : Fam) (e h : Nat) (v : Nat → Nat) (p j : Nat) : Nat :=
  (if za F p = some j ∧ zY F e h j = true then (if zoB (zb F p) (zY F e h) = true then v p / 2 else v p) else 0) +
  (if zb F p = some j ∧ zY F e h j = true then (if zoB (za F p) (zY F e h) = true then v p / 2 else v p) else 0)
def zcl (F : Fam) (e h : Nat) (v : Nat → Nat) (j : Nat) : Nat := zsum (fun p => zc1 F e h v p j) (zn F)
def zup (F : Fam) (e : Nat) : Nat → (Nat → Nat) → (Nat → Nat)
  | 0, v => v
  | h + 1, v => zup F e h (zcl F e h v)
/-- the division by shares of an amount a: in parts of 32 times the product -/
def zP0 (F : Fam) (e a : Nat) : Nat → Nat := if zt F e ≤ 3 then zup F e (zt F e) (fun p => if p = e then a * (8 * zpr F e) * (4 - zq F e) else 0) else fun _ => 0
def zT0 (F : Fam) (e a : Nat) (p : Nat) : Nat := if zw F e = some p then a * (8 * zpr F e) * zq F e else 0
def zsh (F : Fam) (e a : Nat) (p : Nat) : Nat := zta F e (zP0 F e a) (zT0 F e a) p
theorem ztb_still (F : Fam) (e : Nat) (P : Nat → Nat) (c : Nat) : ∀ d : Nat, ztb F e P (c + d) c = ztb F e P c c
  | 0 => rfl
  | d + 1 => by
    show ztb F e P (c + d) c + _ = _
    rw [ztb_still F e P c d]
    have h : zk F e (c + d) c = false := by
      unfold zk
      have : ¬ c + d < c := by omega
      simp [this]
    simp [h]
/-- a sum from a place on -/
def zsf (f : Nat → Nat) (k n : Nat) : Nat := zsum (fun c => if k ≤ c then f c else 0) n
theorem zsf_0 (f : Nat → Nat) (n : Nat) : zsf f 0 n = zsum f n := zsum_congr (fun c _ => by simp)
theorem zsf_cut (f : Nat → Nat) {k : Nat} : ∀ {n : Nat}, k < n → zsf f k n = f k + zsf f (k + 1) n
  | 0, h => absurd h (Nat.not_lt_zero k)
  | n + 1, h => by
    show zsum (fun c => if k ≤ c then f c else 0) n + (if k ≤ n then f n else 0) = f k + (zsum (fun c => if k + 1 ≤ c then f c else 0) n + (if k + 1 ≤ n then f n else 0))
    by_cases e : k = n
    · subst e
      have h1 : zsum (fun c => if k ≤ c then f c else 0) k = 0 := by
        rw [zsum_congr (g := fun _ => 0) (fun c hc => by simp; omega), zsum_zero]
      have h2 : zsum (fun c => if k + 1 ≤ c then f c else 0) k = 0 := by
        rw [zsum_congr (g := fun _ => 0) (fun c hc => by simp; omega), zsum_zero]
      rw [h1, h2]
      have h3 : ¬ k + 1 ≤ k := by omega
      simp only [Nat.le_refl, if_true, h3, if_false]
      omega
    · have h1 := zsf_cut f (k := k) (n := n) (by omega)
      unfold zsf at h1
      rw [h1]
      have h2 : k ≤ n := by omega
      have h3 : k + 1 ≤ n := by omega
      simp [h2, h3]
      omega
theorem zsf_end (f : Nat → Nat) (n : Nat) : zsf f n n = 0 := by
  unfold zsf
  rw [zsum_congr (g := fun _ => 0) (fun c hc => by simp; omega), zsum_zero]
end
section
/-! What comes down the stems: nothing is lost, all divisions are exact, and it goes with the amount -/
section Fl
variable {F : Fam} {e : Nat} {P : Nat → Nat}
theorem zsum_swap (f : Nat → Nat → Nat) (m : Nat) : ∀ n : Nat, zsum (fun p => zsum (fun c => f p c) m) n = zsum (fun c => zsum (fun p => f p c) n) m
  | 0 => by
    show 0 = zsum (fun c => 0) m
    rw [zsum_zero]
  | n + 1 => by
    show zsum (fun p => zsum (fun c => f p c) m) n + zsum (fun c => f n c) m = zsum (fun c => zsum (fun p => f p c) n + f n c) m
    rw [zsum_swap f m n, ← zsum_add]
theorem zk_lt {k c : Nat} (h : zk F e k c = true) : k < c := by
  unfold zk at h
  simp only [Bool.and_eq_true, decide_eq_true_eq] at h
  exact h.1.1
theorem zk_X {k c : Nat} (h : zk F e k c = true) : zX F e c = true := by
  unfold zk at h
  simp only [Bool.and_eq_true, decide_eq_true_eq] at h
  exact h.2
/-- who has a child with heirs has a count -/
theorem zB_pos {k c : Nat} (hc : c < zn F) (h : zk F e k c = true) : 0 < zB F e k := by
  have h1 := zsum_one (f := fun c => if zk F e k c = true then 1 else 0) hc
  unfold zB
  simp only [h, if_true] at h1
  omega
/-- what k hands on, all in all -/
theorem zhand (x k : Nat) : zsum (fun c => if (!zl F e k && decide (c < zn F) && zk F e k c) = true then x else 0) (zn F) = if zl F e k = true then 0 else zB F e k * x := by
  by_cases hl : zl F e k = true
  · rw [if_pos hl, zsum_congr (g := fun _ => 0) (fun c hc => by simp [hl]), zsum_zero]
  · rw [if_neg hl]
    have hl2 : zl F e k = false := by simpa using hl
    unfold zB
    rw [Nat.mul_comm, ← zsum_mul]
    refine zsum_congr (fun c hc => ?_)
    by_cases hk : zk F e k c = true
    · simp [hl2, hc, hk]
    · simp [hk]
theorem zsf_congr {f g : Nat → Nat} {k n : Nat} (h : ∀ c, k ≤ c → c < n → f c = g c) : zsf f k n = zsf g k n := by
  unfold zsf
  refine zsum_congr (fun c hc => ?_)
  by_cases hk : k ≤ c
  · simp [hk, h c hk hc]
  · simp [hk]
theorem zsf_add (f g : Nat → Nat) (k n : Nat) : zsf (fun c => f c + g c) k n = zsf f k n + zsf g k n := by
  unfold zsf
  rw [← zsum_add]
  refine zsum_congr (fun c hc => ?_)
  by_cases hk : k ≤ c
  · simp [hk]
  · simp [hk]
theorem zsf_all {f : Nat → Nat} {k n : Nat} (h : ∀ c, c < n → c < k → f c = 0) : zsf f k n = zsum f n := by
  unfold zsf
  refine zsum_congr (fun c hc => ?_)
  by_cases hk : k ≤ c
  · simp [hk]
  · simp [hk, h c hc (by omega)]
/-- all that is there when the first k have handed on -/
def zM (F : Fam) (e : Nat) (P : Nat → Nat) (k : Nat) : Nat := zsf (ztb F e P k) k (zn F) + zsum (fun p => if zl F e p = true then ztb F e P p p else 0) k
theorem zM_step {k : Nat} (hk : k < zn F) : zM F e P (k + 1) = zsf (ztb F e P k) (k + 1) (zn F) + (if zl F e k = true then ztb F e P k k else zB F e k * (ztb F e P k k / zB F e k)) + zsum (fun p => if zl F e p = true then ztb F e P p p else 0) k := by
  unfold zM
  have h1 : zsf (ztb F e P (k + 1)) (k + 1) (zn F) = zsf (ztb F e P k) (k + 1) (zn F) + zsum (fun c => if (!zl F e k && decide (c < zn F) && zk F e k c) = true then ztb F e P k k / zB F e k else 0) (zn F) := by
    rw [← zsf_all (k := k + 1) (f := fun c => if (!zl F e k && decide (c < zn F) && zk F e k c) = true then ztb F e P k k / zB F e k else 0), ← zsf_add]
    · rfl
    · intro c hc hck
      have : zk F e k c = false := by
        unfold zk
        have : ¬ k < c := by omega
        simp [this]
      simp [this]
  rw [h1, zhand]
  show _ + (zsum (fun p => if zl F e p = true then ztb F e P p p else 0) k + (if zl F e k = true then ztb F e P k k else 0)) = _
  by_cases hl : zl F e k = true
  · simp only [hl, if_true]; omega
  · simp only [hl]; simp
theorem zM_cut {k : Nat} (hk : k < zn F) : zM F e P k = zsf (ztb F e P k) (k + 1) (zn F) + ztb F e P k k + zsum (fun p => if zl F e p = true then ztb F e P p p else 0) k := by
  unfold zM
  rw [zsf_cut _ hk]
  omega
theorem zM_le {k : Nat} (hk : k < zn F) : zM F e P (k + 1) ≤ zM F e P k := by
  rw [zM_step hk, zM_cut hk]
  have h1 : zB F e k * (ztb F e P k k / zB F e k) ≤ ztb F e P k k := Nat.mul_div_le _ _
  by_cases hl : zl F e k = true
  · simp only [hl, if_true]; omega
  · simp only [hl]; simp; omega
theorem zM_eq {k : Nat} (hk : k < zn F) (h : zl F e k = false → zB F e k ∣ ztb F e P k k) : zM F e P (k + 1) = zM F e P k := by
  rw [zM_step hk, zM_cut hk]
  by_cases hl : zl F e k = true
  · simp only [hl, if_true]
  · have hl2 : zl F e k = false := by simpa using hl
    rw [if_neg hl, Nat.mul_div_cancel' (h hl2)]
theorem zM_0 : zM F e P 0 = zsum P (zn F) := by
  unfold zM
  rw [zsf_0]
  rfl
theorem zM_mono : ∀ {k : Nat}, k ≤ zn F → zM F e P k ≤ zsum P (zn F)
  | 0, _ => by rw [zM_0]; exact Nat.le_refl _
  | k + 1, h => Nat.le_trans (zM_le (by omega)) (zM_mono (by omega))
/-- no part is above the whole -/
theorem ztb_le {k c : Nat} (hk : k ≤ c) (hc : c < zn F) : ztb F e P k c ≤ zsum P (zn F) := by
  have h1 := zM_mono (F := F) (e := e) (P := P) (k := k) (by omega)
  have h2 : ztb F e P k c ≤ zsf (ztb F e P k) k (zn F) := by
    have := zsum_one (f := fun c => if k ≤ c then ztb F e P k c else 0) hc
    simp only [hk, if_true] at this
    exact this
  unfold zM at h1
  omega
/-- the product from a place on -/
def zsp (f : Nat → Nat) : Nat → Nat → Nat
  | 0, _ => 1
  | m + 1, k => f k * zsp f m (k + 1)
theorem zpd_sp (f : Nat → Nat) : ∀ (m k : Nat), zpd f (k + m) = zpd f k * zsp f m k
  | 0, k => by simp [zsp]
  | m + 1, k => by
    have h := zpd_sp f m (k + 1)
    have e1 : k + (m + 1) = k + 1 + m := by omega
    rw [e1, h]
    show zpd f k * f k * zsp f m (k + 1) = zpd f k * (f k * zsp f m (k + 1))
    rw [Nat.mul_assoc]
theorem zsp_all (f : Nat → Nat) (n : Nat) : zsp f n 0 = zpd f n := by
  have := zpd_sp f n 0
  simp [zpd] at this
  exact this.symm
theorem zfa_pos (p : Nat) : 0 < zfa F e p := by
  unfold zfa
  by_cases h : (!zl F e p && decide (0 < zB F e p)) = true
  · rw [if_pos h]
    simp only [Bool.and_eq_true, decide_eq_true_eq] at h
    exact h.2
  · rw [if_neg h]; omega
theorem zsp_pos (m k : Nat) : 0 < zsp (zfa F e) m k := by
  induction m generalizing k with
  | zero => exact Nat.one_pos
  | succ m ih => exact Nat.mul_pos (zfa_pos k) (ih (k + 1))
theorem zpr_pos : 0 < zpr F e := by
  unfold zpr
  rw [← zsp_all]
  exact zsp_pos _ _
/-- parts lie where heirs are -/
def zSup (F : Fam) (e : Nat) (P : Nat → Nat) : Prop := ∀ c, c < zn F → zX F e c = false → P c = 0
theorem ztb_sup (hs : zSup F e P) : ∀ k : Nat, zSup F e (ztb F e P k)
  | 0 => hs
  | k + 1 => by
    intro c hc hx
    show ztb F e P k c + _ = 0
    rw [ztb_sup hs k c hc hx]
    have : zk F e k c = false := by
      unfold zk
      simp [hx]
    simp [this]
/-- every part is a multiple of the product from there on -/
theorem ztb_dvd (hd : ∀ c, c < zn F → zpr F e ∣ P c) : ∀ k m : Nat, k + m = zn F → ∀ c, k ≤ c → c < zn F → zsp (zfa F e) m k ∣ ztb F e P k c
  | 0, m, h, c, _, hc => by
    have e1 : m = zn F := by omega
    subst e1
    rw [zsp_all]
    exact hd c hc
  | k + 1, m, h, c, hk, hc => by
    have h1 := ztb_dvd hd k (m + 1) (by omega) c (by omega) hc
    have h2 := ztb_dvd hd k (m + 1) (by omega) k (Nat.le_refl k) (by omega)
    have e1 : zsp (zfa F e) (m + 1) k = zfa F e k * zsp (zfa F e) m (k + 1) := rfl
    rw [e1] at h1 h2
    refine Nat.dvd_add (Nat.dvd_trans (Nat.dvd_mul_left _ _) h1) ?_
    by_cases hcond : (!zl F e k && decide (c < zn F) && zk F e k c) = true
    · rw [if_pos hcond]
      simp only [Bool.and_eq_true, decide_eq_true_eq, Bool.not_eq_true'] at hcond
      have hB := zB_pos hc hcond.2
      have hf : zfa F e k = zB F e k := by
        unfold zfa
        rw [if_pos (by simp [hcond.1.1, hB])]
      rw [hf] at h2
      obtain ⟨t, ht⟩ := h2
      rw [ht, Nat.mul_assoc, Nat.mul_div_cancel_left _ hB]
      exact Nat.dvd_mul_right _ _
    · rw [if_neg hcond]
      exact Nat.dvd_zero _
theorem ztb_B (hd : ∀ c, c < zn F → zpr F e ∣ P c) (hs : zSup F e P) {k : Nat} (hk : k < zn F) (hl : zl F e k = false) : zB F e k ∣ ztb F e P k k := by
  by_cases hB : 0 < zB F e k
  · have h := ztb_dvd hd k (zn F - k) (by omega) k (Nat.le_refl k) hk
    obtain ⟨m, hm⟩ : ∃ m, zn F - k = m + 1 := ⟨zn F - k - 1, by omega⟩
    rw [hm] at h
    have hf : zfa F e k = zB F e k := by
      unfold zfa
      rw [if_pos (by simp [hl, hB])]
    have e1 : zsp (zfa F e) (m + 1) k = zB F e k * zsp (zfa F e) m (k + 1) := by
      show zfa F e k * _ = _
      rw [hf]
    rw [e1] at h
    exact Nat.dvd_trans (Nat.dvd_mul_right _ _) h
  · have hx : zX F e k = false := by
      rw [zX_eq F e hk, hl]
      simp; omega
    rw [ztb_sup hs k k hk hx]
    exact Nat.dvd_zero _
/-- nothing is lost -/
theorem zM_all (hd : ∀ c, c < zn F → zpr F e ∣ P c) (hs : zSup F e P) : ∀ {k : Nat}, k ≤ zn F → zM F e P k = zsum P (zn F)
  | 0, _ => zM_0
  | k + 1, h => (zM_eq (by omega) (fun hl => ztb_B hd hs (by omega) hl)).trans (zM_all hd hs (by omega))
theorem zta_sum (hd : ∀ c, c < zn F → zpr F e ∣ P c) (hs : zSup F e P) (T : Nat → Nat) : zsum (zta F e P T) (zn F) = zsum T (zn F) + zsum P (zn F) := by
  have h := zM_all hd hs (Nat.le_refl (zn F))
  unfold zM at h
  rw [zsf_end, Nat.zero_add] at h
  rw [← h, ← zsum_add]
  rfl
/-- it goes with the amount -/
theorem ztb_lin (a : Nat) (hd : ∀ c, c < zn F → zpr F e ∣ P c) (hs : zSup F e P) : ∀ k : Nat, k ≤ zn F → ∀ c, ztb F e (fun c => a * P c) k c = a * ztb F e P k c
  | 0, _, c => rfl
  | k + 1, hk, c => by
    show ztb F e (fun c => a * P c) k c + _ = a * (ztb F e P k c + _)
    rw [ztb_lin a hd hs k (by omega) c, ztb_lin a hd hs k (by omega) k, Nat.mul_add]
    by_cases hcond : (!zl F e k && decide (c < zn F) && zk F e k c) = true
    · rw [if_pos hcond, if_pos hcond]
      simp only [Bool.and_eq_true, decide_eq_true_eq, Bool.not_eq_true'] at hcond
      rw [Nat.mul_div_assoc a (ztb_B hd hs (by omega) hcond.1.1)]
    · rw [if_neg hcond, if_neg hcond, Nat.mul_zero]
end Fl
end
section
/-! What goes up to the ancestors: nothing is lost, the halves are exact -/
section Cm
variable {F : Fam} {e : Nat}
theorem zpar {p j : Nat} (hW : zW F) (hp : p < zn F) (h : za F p = some j ∨ zb F p = some j) : j < p := by
  rcases h with h | h
  · exact hW.2.1 p j hp h
  · exact hW.2.2.1 p j hp h
/-- one parent's part, over all -/
theorem zpt (o : Option Nat) (Y : Nat → Bool) (x n : Nat) (hj : ∀ j, o = some j → j < n) : zsum (fun j => if o = some j ∧ Y j = true then x else 0) n = if zoB o Y = true then x else 0 := by
  cases o with
  | none =>
    rw [zsum_congr (g := fun _ => 0) (fun c _ => by simp), zsum_zero]
    simp [zoB]
  | some i =>
    have hi := hj i rfl
    by_cases hy : Y i = true
    · have h1 : ∀ j, (if (some i = some j ∧ Y j = true) then x else 0) = if j = i then x else 0 := by
        intro j
        by_cases hji : j = i
        · subst hji; simp [hy]
        · simp [hji, Ne.symm hji]
      rw [zsum_congr (g := fun j => if j = i then x else 0) (fun c _ => h1 c), zsum_pt]
      simp [hi, zoB, hy]
    · rw [zsum_congr (g := fun _ => 0) (fun j _ => by
        by_cases hji : i = j
        · subst hji; simp [hy]
        · simp [hji]), zsum_zero]
      simp [zoB, hy]
theorem zc1_sum (hW : zW F) {h p : Nat} (hp : p < zn F) (v : Nat → Nat) (h2 : 2 ∣ v p) (hY : v p ≠ 0 → zY F e (h + 1) p = true) : zsum (fun j => zc1 F e h v p j) (zn F) = v p := by
  unfold zc1
  rw [zsum_add, zpt (za F p) (zY F e h) _ (zn F) (fun j hj => Nat.lt_trans (zpar hW hp (Or.inl hj)) hp), zpt (zb F p) (zY F e h) _ (zn F) (fun j hj => Nat.lt_trans (zpar hW hp (Or.inr hj)) hp)]
  by_cases h0 : v p = 0
  · simp [h0]
  · have hy := hY h0
    have hy2 : (zoB (za F p) (zY F e h) || zoB (zb F p) (zY F e h)) = true := hy
    obtain ⟨t, ht⟩ := h2
    by_cases ha : zoB (za F p) (zY F e h) = true
    · by_cases hb : zoB (zb F p) (zY F e h) = true
      · simp only [ha, hb, if_true]; omega
      · simp only [ha, hb, if_true]; simp
    · have hb : zoB (zb F p) (zY F e h) = true := by
        cases h1 : zoB (za F p) (zY F e h) with
        | true => exact absurd h1 ha
        | false => rw [h1] at hy2; simpa using hy2
      simp only [ha, hb, if_true]; simp
theorem zcl_sum (hW : zW F) {h : Nat} (v : Nat → Nat) (h2 : ∀ p, p < zn F → 2 ∣ v p) (hY : ∀ p, p < zn F → v p ≠ 0 → zY F e (h + 1) p = true) : zsum (zcl F e h v) (zn F) = zsum v (zn F) := by
  show zsum (fun j => zsum (fun p => zc1 F e h v p j) (zn F)) (zn F) = _
  rw [zsum_swap]
  exact zsum_congr (fun p hp => zc1_sum hW hp v (h2 p hp) (hY p hp))
theorem zcl_sup {h : Nat} (v : Nat → Nat) {j : Nat} (hj : zcl F e h v j ≠ 0) : zY F e h j = true := by
  cases hy : zY F e h j with
  | true => rfl
  | false =>
    exfalso
    apply hj
    unfold zcl
    rw [zsum_congr (g := fun _ => 0) (fun p _ => by simp [zc1, hy]), zsum_zero]
theorem zsum_dvd {m : Nat} {f : Nat → Nat} : ∀ {n : Nat}, (∀ c, c < n → m ∣ f c) → m ∣ zsum f n
  | 0, _ => Nat.dvd_zero _
  | n + 1, h => Nat.dvd_add (zsum_dvd (n := n) (fun c hc => h c (Nat.lt_succ_of_lt hc))) (h n (Nat.lt_succ_self n))
theorem zhalf_dvd {m x : Nat} (h : 2 * m ∣ x) : m ∣ x / 2 ∧ m ∣ x := by
  obtain ⟨t, ht⟩ := h
  refine ⟨⟨t, ?_⟩, ⟨2 * t, ?_⟩⟩
  · rw [ht, Nat.mul_assoc, Nat.mul_div_cancel_left _ (by omega)]
  · rw [ht, Nat.mul_comm 2 m, Nat.mul_assoc]
theorem zcl_dvd {h m : Nat} {v : Nat → Nat} (hd : ∀ p, p < zn F → 2 * m ∣ v p) (j : Nat) : m ∣ zcl F e h v j := by
  refine zsum_dvd (fun p hp => ?_)
  obtain ⟨h1, h2⟩ := zhalf_dvd (hd p hp)
  have key : ∀ (c d : Prop) [Decidable c] [Decidable d], m ∣ (if c then (if d then v p / 2 else v p) else 0) := by
    intro c d _ _
    by_cases hc : c
    · by_cases hd : d
      · simp [hc, hd]; exact h1
      · simp [hc, hd]; exact h2
    · simp [hc]
  exact Nat.dvd_add (key _ _) (key _ _)
theorem zcl_lin (a : Nat) {h : Nat} {v : Nat → Nat} (h2 : ∀ p, p < zn F → 2 ∣ v p) (j : Nat) : zcl F e h (fun p => a * v p) j = a * zcl F e h v j := by
  unfold zcl
  rw [← zsum_mul]
  refine zsum_congr (fun p hp => ?_)
  unfold zc1
  have e2 : a * v p / 2 = a * (v p / 2) := Nat.mul_div_assoc a (h2 p hp)
  have key : ∀ (c d : Prop) [Decidable c] [Decidable d], (if c then (if d then a * v p / 2 else a * v p) else 0) = a * (if c then (if d then v p / 2 else v p) else 0) := by
    intro c d _ _
    by_cases hc : c
    · by_cases hd : d
      · simp [hc, hd, e2]
      · simp [hc, hd]
    · simp [hc]
  rw [Nat.mul_add, ← key, ← key]
theorem zcl_congr {h : Nat} {v w : Nat → Nat} (hv : ∀ p, p < zn F → v p = w p) : zcl F e h v = zcl F e h w := by
  funext j
  exact zsum_congr (fun p hp => by simp only [zc1, hv p hp])
theorem zup_congr : ∀ {h : Nat} {v w : Nat → Nat}, (∀ p, p < zn F → v p = w p) → ∀ p, p < zn F → zup F e h v p = zup F e h w p
  | 0, v, w, hv, p, hp => hv p hp
  | h + 1, v, w, hv, p, hp => by
    show zup F e h (zcl F e h v) p = zup F e h (zcl F e h w) p
    rw [zcl_congr hv]
/-- up all heights -/
theorem zup_facts (hW : zW F) (m : Nat) : ∀ (h : Nat) (v : Nat → Nat), (∀ p, p < zn F → 2 ^ h * m ∣ v p) → (∀ p, p < zn F → v p ≠ 0 → zY F e h p = true) →
    zsum (zup F e h v) (zn F) = zsum v (zn F) ∧ (∀ p, p < zn F → m ∣ zup F e h v p) ∧ (∀ p, p < zn F → zup F e h v p ≠ 0 → zY F e 0 p = true) ∧ ∀ a p, p < zn F → zup F e h (fun p => a * v p) p = a * zup F e h v p
  | 0, v, hd, hY => by
    refine ⟨rfl, fun p hp => ?_, hY, fun a p hp => rfl⟩
    have := hd p hp
    simp at this
    exact this
  | h + 1, v, hd, hY => by
    have hd2 : ∀ p, p < zn F → 2 * (2 ^ h * m) ∣ v p := by
      intro p hp
      have := hd p hp
      rw [Nat.pow_succ, Nat.mul_comm (2 ^ h) 2, Nat.mul_assoc] at this
      exact this
    have h2 : ∀ p, p < zn F → 2 ∣ v p := fun p hp => Nat.dvd_trans (Nat.dvd_mul_right 2 _) (hd2 p hp)
    obtain ⟨i1, i2, i3, i4⟩ := zup_facts hW m h (zcl F e h v) (fun j _ => zcl_dvd hd2 j) (fun j _ hj => zcl_sup v hj)
    refine ⟨i1.trans (zcl_sum hW v h2 hY), i2, i3, fun a p hp => ?_⟩
    show zup F e h (zcl F e h (fun p => a * v p)) p = a * zup F e h (zcl F e h v) p
    rw [← i4 a p hp, zup_congr (fun j _ => zcl_lin a h2 j) p hp]
/-- the taker's line has heirs -/
theorem zt_Y (h : zt F e ≤ 3) : zY F e (zt F e) e = true := by
  unfold zt at h ⊢
  by_cases h0 : zY F e 0 e = true
  · simp only [h0, if_true]
  · by_cases h1 : zY F e 1 e = true
    · simp only [h0, h1, if_true]; simpa using h1
    · by_cases h2 : zY F e 2 e = true
      · simp only [h0, h1, h2, if_true]; simpa using h2
      · by_cases hw : (zw F e).isNone = true
        · by_cases h3 : zY F e 3 e = true
          · simp only [h0, h1, h2, h3, hw, if_true]; simpa using h3
          · simp [h0, h1, h2, h3, hw] at h
        · simp [h0, h1, h2, hw] at h
theorem zq_le : zq F e ≤ 4 := by
  unfold zq
  split
  · omega
  · split
    · omega
    · split <;> omega
/-- where the parts by shares begin -/
theorem zP0_facts (hW : zW F) (he : e < zn F) (a : Nat) : (∀ p, p < zn F → zpr F e ∣ zP0 F e 1 p) ∧ zSup F e (zP0 F e 1) ∧ (∀ p, p < zn F → zP0 F e a p = a * zP0 F e 1 p) ∧ (zt F e ≤ 3 → zsum (zP0 F e 1) (zn F) = 8 * zpr F e * (4 - zq F e)) := by
  unfold zP0
  by_cases ht : zt F e ≤ 3
  · simp only [ht, if_true]
    have hp2 : ∃ r, 8 = 2 ^ zt F e * r := by
      have : zt F e = 0 ∨ zt F e = 1 ∨ zt F e = 2 ∨ zt F e = 3 := by omega
      rcases this with h | h | h | h <;> rw [h]
      · exact ⟨8, rfl⟩
      · exact ⟨4, rfl⟩
      · exact ⟨2, rfl⟩
      · exact ⟨1, rfl⟩
    obtain ⟨r, hr⟩ := hp2
    obtain ⟨v, hv⟩ : ∃ v : Nat → Nat, v = fun p => if p = e then 1 * (8 * zpr F e) * (4 - zq F e) else 0 := ⟨_, rfl⟩
    obtain ⟨i1, i2, i3, i4⟩ := zup_facts (F := F) (e := e) hW (zpr F e) (zt F e) v (fun p hp => by
      rw [hv]
      by_cases hpe : p = e
      · simp only [hpe, if_true]
        refine ⟨r * (4 - zq F e), ?_⟩
        rw [hr, Nat.one_mul, Nat.mul_assoc (2 ^ zt F e) r, Nat.mul_comm r (zpr F e), ← Nat.mul_assoc, Nat.mul_assoc]
      · simp [hpe]) (fun p hp h0 => by
      rw [hv] at h0
      by_cases hpe : p = e
      · rw [hpe]; exact zt_Y ht
      · simp [hpe] at h0)
    rw [← hv]
    refine ⟨i2, fun c hc hx => ?_, fun p hp => ?_, fun _ => ?_⟩
    · cases hz : zup F e (zt F e) v c with
      | zero => rfl
      | succ k =>
        have := i3 c hc (by omega)
        rw [show zY F e 0 c = zX F e c from rfl, hx] at this
        cases this
    · rw [← i4 a p hp]
      refine zup_congr (fun c _ => ?_) p hp
      rw [hv]
      by_cases hce : c = e
      · simp only [hce, if_true, Nat.one_mul]
        rw [Nat.mul_assoc a]
      · simp [hce]
    · rw [i1, hv, zsum_pt]
      simp [he]
  · simp only [ht, if_false]
    refine ⟨fun _ _ => Nat.dvd_zero _, fun _ _ _ => rfl, fun _ _ => by simp, fun h => absurd h (by simpa using ht)⟩
/-- shares go with the amount -/
theorem ztb_congr {P R : Nat → Nat} (h : ∀ c, c < zn F → P c = R c) : ∀ k : Nat, k ≤ zn F → ∀ c, c < zn F → ztb F e P k c = ztb F e R k c
  | 0, _, c, hc => h c hc
  | k + 1, hk, c, hc => by
    show ztb F e P k c + _ = ztb F e R k c + _
    rw [ztb_congr h k (by omega) c hc, ztb_congr h k (by omega) k (by omega)]
theorem zsh_lin (hW : zW F) (he : e < zn F) (a : Nat) {p : Nat} (hp : p < zn F) : zsh F e a p = a * zsh F e 1 p := by
  obtain ⟨h1, h2, h3, -⟩ := zP0_facts hW he a
  unfold zsh zta
  rw [ztb_congr h3 p (by omega) p hp, ztb_lin a h1 h2 p (by omega) p, Nat.mul_add]
  have e1 : zT0 F e a p = a * zT0 F e 1 p := by
    unfold zT0
    by_cases hw : zw F e = some p
    · simp only [hw, if_true, Nat.one_mul]
      rw [Nat.mul_assoc a]
    · simp [hw]
  rw [e1]
  by_cases hl : zl F e p = true
  · simp [hl]
  · simp [hl]
theorem zw_lt (hW : zW F) (he : e < zn F) {p : Nat} (h : zw F e = some p) : p < zn F ∧ zl F e p = true := by
  unfold zw at h
  cases hs : zs F e with
  | none => rw [hs] at h; simp at h
  | some j =>
    rw [hs] at h
    by_cases hl : zl F e j = true
    · simp [hl] at h
      subst h
      exact ⟨hW.2.2.2.2.1 e j he hs, hl⟩
    · simp [hl] at h
theorem zT0_sum (hW : zW F) (he : e < zn F) : zsum (zT0 F e 1) (zn F) = 8 * zpr F e * zq F e := by
  unfold zT0
  cases hw : zw F e with
  | none =>
    rw [zsum_congr (g := fun _ => 0) (fun c _ => by simp), zsum_zero]
    simp [zq, hw]
  | some j =>
    have hj := (zw_lt hW he hw).1
    rw [zsum_congr (g := fun c => if c = j then 1 * (8 * zpr F e) * zq F e else 0) (fun c _ => by
      by_cases hc : c = j
      · simp [hc]
      · simp [hc, Ne.symm hc]), zsum_pt]
    simp [hj]
/-- all shares together are the whole -/
theorem zsh_sum (hW : zW F) (he : e < zn F) (ht : zt F e ≤ 4) : zsum (zsh F e 1) (zn F) = 32 * zpr F e := by
  obtain ⟨h1, h2, -, h4⟩ := zP0_facts hW he 1
  show zsum (zta F e (zP0 F e 1) (zT0 F e 1)) (zn F) = _
  rw [zta_sum h1 h2, zT0_sum hW he]
  have hq := zq_le (F := F) (e := e)
  by_cases h3 : zt F e ≤ 3
  · rw [h4 h3, ← Nat.mul_add, show zq F e + (4 - zq F e) = 4 by omega]; omega
  · have h5 : zt F e = 4 := by omega
    have hP : zsum (zP0 F e 1) (zn F) = 0 := by
      unfold zP0
      rw [if_neg h3, zsum_zero]
    have hw : (zw F e).isNone = false := by
      unfold zt at h5
      cases hw : (zw F e).isNone with
      | false => rfl
      | true =>
        rw [hw] at h5
        split at h5
        · omega
        · split at h5
          · omega
          · split at h5
            · omega
            · simp only [if_true] at h5
              split at h5 <;> omega
    have hq4 : zq F e = 4 := by
      unfold zq
      simp [hw, h5]
    rw [hP, hq4]; omega
end Cm
end
section
/-! The product of the branches is small: 20 persons have at most 40 parents known -/
section Bd
variable {F : Fam} {e : Nat}
theorem zcube : ∀ n : Nat, n < 21 → n ^ 3 ≤ 3 ^ n := by decide
theorem zB_le (p : Nat) : zB F e p ≤ zn F := by
  unfold zB
  have h : zsum (fun c => if zk F e p c = true then 1 else 0) (zn F) ≤ zsum (fun _ => 1) (zn F) := zsum_le (fun c _ => by split <;> omega)
  have h1 : ∀ n : Nat, zsum (fun _ => 1) n = n := by
    intro n
    induction n with
    | zero => rfl
    | succ n ih =>
      show zsum (fun _ => 1) n + 1 = n + 1
      rw [ih]
  rw [h1] at h
  exact h
theorem zone (o : Option Nat) (n : Nat) : zsum (fun p => if o = some p then 1 else 0) n ≤ 1 := by
  cases o with
  | none =>
    rw [zsum_congr (g := fun _ => 0) (fun c _ => by simp), zsum_zero]; omega
  | some i =>
    rw [zsum_congr (g := fun p => if p = i then 1 else 0) (fun c _ => by
      by_cases h : c = i
      · simp [h]
      · simp [h, Ne.symm h]), zsum_pt]
    split <;> omega
theorem zB_sum : zsum (zB F e) (zn F) ≤ 2 * zn F := by
  show zsum (fun p => zsum (fun c => if zk F e p c = true then 1 else 0) (zn F)) (zn F) ≤ _
  rw [zsum_swap]
  have h : ∀ c, zsum (fun p => if zk F e p c = true then 1 else 0) (zn F) ≤ 2 := by
    intro c
    have h1 : zsum (fun p => if zk F e p c = true then 1 else 0) (zn F) ≤ zsum (fun p => (if za F c = some p then 1 else 0) + (if zb F c = some p then 1 else 0)) (zn F) := by
      refine zsum_le (fun p _ => ?_)
      by_cases hk : zk F e p c = true
      · rw [if_pos hk]
        unfold zk zch at hk
        simp only [Bool.and_eq_true, Bool.or_eq_true, beq_iff_eq, decide_eq_true_eq] at hk
        rcases hk.1.2 with h | h
        · simp [h]
        · simp [h]
      · rw [if_neg hk]; omega
    rw [zsum_add] at h1
    have h2 := zone (za F c) (zn F)
    have h3 := zone (zb F c) (zn F)
    omega
  have h4 : zsum (fun c => zsum (fun p => if zk F e p c = true then 1 else 0) (zn F)) (zn F) ≤ zsum (fun _ => 2 * 1) (zn F) := zsum_le (fun c _ => h c)
  rw [zsum_mul] at h4
  have h5 : ∀ n : Nat, zsum (fun _ => 1) n = n := by
    intro n
    induction n with
    | zero => rfl
    | succ n ih =>
      show zsum (fun _ => 1) n + 1 = n + 1
      rw [ih]
  rw [h5] at h4
  exact h4
theorem zpd_cube {f h : Nat → Nat} : ∀ {n : Nat}, (∀ c, c < n → f c ^ 3 ≤ 3 ^ h c) → zpd f n ^ 3 ≤ 3 ^ zsum h n
  | 0, _ => by simp [zpd, zsum]
  | n + 1, hc => by
    show (zpd f n * f n) ^ 3 ≤ 3 ^ (zsum h n + h n)
    rw [Nat.mul_pow, Nat.pow_add]
    exact Nat.mul_le_mul (zpd_cube (fun c hc2 => hc c (Nat.lt_succ_of_lt hc2))) (hc n (Nat.lt_succ_self n))
theorem zpr_lt (hn : zn F ≤ 20) : zpr F e < 2300000 := by
  have h1 : zpr F e ^ 3 ≤ 3 ^ zsum (zB F e) (zn F) := by
    refine zpd_cube (fun c _ => ?_)
    unfold zfa
    split
    · exact zcube _ (Nat.lt_of_le_of_lt (zB_le c) (by omega))
    · simp; exact Nat.one_le_pow _ _ (by omega)
  have h2 : zsum (zB F e) (zn F) ≤ 40 := Nat.le_trans zB_sum (by omega)
  have h3 : zpr F e ^ 3 ≤ 3 ^ 40 := Nat.le_trans h1 (Nat.pow_le_pow_right (by omega) h2)
  apply Nat.lt_of_not_le
  intro h
  have h4 : 2300000 ^ 3 ≤ zpr F e ^ 3 := Nat.pow_le_pow_left h 3
  have h5 : (2300000 ^ 3 : Nat) ≤ 3 ^ 40 := Nat.le_trans h4 h3
  exact absurd h5 (by decide)
end Bd
end
section
/-! Stems: who is reached, and that what comes down is above nothing just there -/
section St
variable {F : Fam} {e : Nat}
def zrc (F : Fam) (e top : Nat) : Nat → Nat → Bool
  | 0, _ => false
  | k + 1, p => (p == top) || zoB (za F p) (fun j => zrc F e top k j && !zl F e j) || zoB (zb F p) (fun j => zrc F e top k j && !zl F e j)
def zR (F : Fam) (e top p : Nat) : Bool := zrc F e top (p + 1) p
theorem zoB_congr {o : Option Nat} {f g : Nat → Bool} (h : ∀ j, o = some j → f j = g j) : zoB o f = zoB o g := by
  cases o with
  | none => rfl
  | some j => exact h j rfl
theorem zoB_some {o : Option Nat} {f : Nat → Bool} (h : zoB o f = true) : ∃ j, o = some j ∧ f j = true := by
  cases o with
  | none => cases h
  | some j => exact ⟨j, rfl, h⟩
theorem zoB_of {o : Option Nat} {f : Nat → Bool} {j : Nat} (h : o = some j) (hf : f j = true) : zoB o f = true := by
  rw [h]; exact hf
theorem zrc_stable (hW : zW F) (top : Nat) : ∀ (k p : Nat), p < zn F → p < k → zrc F e top (k + 1) p = zrc F e top k p
  | 0, p, _, h => absurd h (Nat.not_lt_zero p)
  | k + 1, p, hp, h => by
    show ((p == top) || zoB (za F p) (fun j => zrc F e top (k + 1) j && !zl F e j) || zoB (zb F p) (fun j => zrc F e top (k + 1) j && !zl F e j)) = ((p == top) || zoB (za F p) (fun j => zrc F e top k j && !zl F e j) || zoB (zb F p) (fun j => zrc F e top k j && !zl F e j))
    rw [zoB_congr (o := za F p) (g := fun j => zrc F e top k j && !zl F e j) (fun j hj => by
      have := zpar hW hp (Or.inl hj)
      rw [zrc_stable hW top k j (by omega) (by omega)]), zoB_congr (o := zb F p) (g := fun j => zrc F e top k j && !zl F e j) (fun j hj => by
      have := zpar hW hp (Or.inr hj)
      rw [zrc_stable hW top k j (by omega) (by omega)])]
theorem zrc_R (hW : zW F) (top : Nat) {p : Nat} (hp : p < zn F) : ∀ d : Nat, zrc F e top (p + 1 + d) p = zR F e top p
  | 0 => rfl
  | d + 1 => by
    show zrc F e top (p + 1 + d + 1) p = _
    rw [zrc_stable hW top (p + 1 + d) p hp (by omega)]
    exact zrc_R hW top hp d
theorem zR_eq (hW : zW F) (top : Nat) {p : Nat} (hp : p < zn F) : zR F e top p = ((p == top) || zoB (za F p) (fun j => zR F e top j && !zl F e j) || zoB (zb F p) (fun j => zR F e top j && !zl F e j)) := by
  show ((p == top) || zoB (za F p) (fun j => zrc F e top p j && !zl F e j) || zoB (zb F p) (fun j => zrc F e top p j && !zl F e j)) = _
  rw [zoB_congr (o := za F p) (g := fun j => zR F e top j && !zl F e j) (fun j hj => by
    have hj2 := zpar hW hp (Or.inl hj)
    have := zrc_R (e := e) hW top (p := j) (by omega) (p - (j + 1))
    rw [show j + 1 + (p - (j + 1)) = p by omega] at this
    rw [this]), zoB_congr (o := zb F p) (g := fun j => zR F e top j && !zl F e j) (fun j hj => by
    have hj2 := zpar hW hp (Or.inr hj)
    have := zrc_R (e := e) hW top (p := j) (by omega) (p - (j + 1))
    rw [show j + 1 + (p - (j + 1)) = p by omega] at this
    rw [this])]
/-- reached: it is the top, or a child of one that is reached and gone -/
theorem zR_cases (hW : zW F) {top p : Nat} (hp : p < zn F) (h : zR F e top p = true) : p = top ∨ ∃ j, j < p ∧ zch F p j = true ∧ zR F e top j = true ∧ zl F e j = false := by
  rw [zR_eq hW top hp] at h
  simp only [Bool.or_eq_true, beq_iff_eq] at h
  rcases h with (h | h) | h
  · exact Or.inl h
  · obtain ⟨j, h1, h2⟩ := zoB_some h
    simp only [Bool.and_eq_true, Bool.not_eq_true'] at h2
    exact Or.inr ⟨j, zpar hW hp (Or.inl h1), by unfold zch; simp [h1], h2.1, h2.2⟩
  · obtain ⟨j, h1, h2⟩ := zoB_some h
    simp only [Bool.and_eq_true, Bool.not_eq_true'] at h2
    exact Or.inr ⟨j, zpar hW hp (Or.inr h1), by unfold zch; simp [h1], h2.1, h2.2⟩
theorem zR_step (hW : zW F) {top p j : Nat} (hp : p < zn F) (hc : zch F p j = true) (hr : zR F e top j = true) (hl : zl F e j = false) : zR F e top p = true := by
  rw [zR_eq hW top hp]
  unfold zch at hc
  simp only [Bool.or_eq_true, beq_iff_eq] at hc ⊢
  rcases hc with hc | hc
  · exact Or.inl (Or.inr (zoB_of hc (by simp [hr, hl])))
  · exact Or.inr (zoB_of hc (by simp [hr, hl]))
theorem zR_top (hW : zW F) {top : Nat} (hp : top < zn F) : zR F e top top = true := by
  rw [zR_eq hW top hp]; simp
/-- heirs below make heirs above -/
theorem zR_X (hW : zW F) (top : Nat) : ∀ (n p : Nat), p < n → p < zn F → zR F e top p = true → zX F e p = true → zX F e top = true
  | 0, p, h, _, _, _ => absurd h (Nat.not_lt_zero p)
  | n + 1, p, h, hp, hr, hx => by
    rcases zR_cases hW hp hr with rfl | ⟨j, h1, h2, h3, h4⟩
    · exact hx
    · have hk : zk F e j p = true := by unfold zk; simp [h1, h2, hx]
      have hB := zB_pos hp hk
      have hxj : zX F e j = true := by rw [zX_eq F e (by omega)]; simp [hB]
      exact zR_X hW top n j (by omega) (by omega) h3 hxj
/-- who is reached by a child's way lies behind the top -/
theorem zR_le (hW : zW F) (top : Nat) : ∀ (n p : Nat), p < n → p < zn F → zR F e top p = true → top ≤ p
  | 0, p, h, _, _ => absurd h (Nat.not_lt_zero p)
  | n + 1, p, h, hp, hr => by
    rcases zR_cases hW hp hr with rfl | ⟨j, h1, h2, h3, h4⟩
    · exact Nat.le_refl _
    · exact Nat.le_trans (zR_le hW top n j (by omega) (by omega) h3) (by omega)
theorem ztb_grow (P : Nat → Nat) (k c : Nat) : ∀ d : Nat, ztb F e P k c ≤ ztb F e P (k + d) c
  | 0 => Nat.le_refl _
  | d + 1 => Nat.le_trans (ztb_grow P k c d) (Nat.le_add_right _ _)
theorem zsp_cut (m k : Nat) : ∀ d : Nat, d ≤ m → zsp (zfa F e) (m - d) (k + d) ≤ zsp (zfa F e) m k
  | 0, _ => Nat.le_refl _
  | d + 1, h => by
    refine Nat.le_trans ?_ (zsp_cut m k d (by omega))
    obtain ⟨r, hr⟩ : ∃ r, m - d = r + 1 := ⟨m - d - 1, by omega⟩
    rw [hr, show m - (d + 1) = r by omega, ← Nat.add_assoc]
    show zsp (zfa F e) r (k + d + 1) ≤ zfa F e (k + d) * zsp (zfa F e) r (k + d + 1)
    exact Nat.le_mul_of_pos_left _ (zfa_pos _)
def zPt (F : Fam) (e top : Nat) : Nat → Nat := fun c => if c = top then zpr F e else 0
theorem zst_low (hW : zW F) (top : Nat) : ∀ (n c : Nat), c < n → c < zn F → zR F e top c = true → zX F e c = true → zsp (zfa F e) (zn F - c) c ≤ ztb F e (zPt F e top) c c
  | 0, c, h, _, _, _ => absurd h (Nat.not_lt_zero c)
  | n + 1, c, h, hc, hr, hx => by
    rcases zR_cases hW hc hr with rfl | ⟨j, h1, h2, h3, h4⟩
    · refine Nat.le_trans ?_ (by have := ztb_grow (F := F) (e := e) (zPt F e c) 0 c c; rw [Nat.zero_add] at this; exact this)
      show _ ≤ zPt F e c c
      unfold zPt
      rw [if_pos rfl]
      unfold zpr
      rw [show zn F = c + (zn F - c) by omega, zpd_sp, show c + (zn F - c) - c = zn F - c by omega]
      refine Nat.le_mul_of_pos_left _ ?_
      have : ∀ k, 0 < zpd (zfa F e) k := by
        intro k
        induction k with
        | zero => exact Nat.one_pos
        | succ k ih => exact Nat.mul_pos ih (zfa_pos k)
      exact this c
    · have hk : zk F e j c = true := by unfold zk; simp [h1, h2, hx]
      have hB := zB_pos hc hk
      have hxj : zX F e j = true := by rw [zX_eq F e (by omega)]; simp [hB]
      have ih := zst_low hW top n j (by omega) (by omega) h3 hxj
      have hf : zfa F e j = zB F e j := by
        unfold zfa
        rw [if_pos (by simp [h4, hB])]
      obtain ⟨m, hm⟩ : ∃ m, zn F - j = m + 1 := ⟨zn F - j - 1, by omega⟩
      rw [hm] at ih
      have e1 : zsp (zfa F e) (m + 1) j = zB F e j * zsp (zfa F e) m (j + 1) := by
        show zfa F e j * _ = _
        rw [hf]
      rw [e1] at ih
      have h5 : zsp (zfa F e) m (j + 1) ≤ ztb F e (zPt F e top) j j / zB F e j := by
        rw [Nat.le_div_iff_mul_le hB, Nat.mul_comm]
        exact ih
      have h6 : ztb F e (zPt F e top) j j / zB F e j ≤ ztb F e (zPt F e top) (j + 1) c := by
        show _ ≤ ztb F e (zPt F e top) j c + (if (!zl F e j && decide (c < zn F) && zk F e j c) = true then ztb F e (zPt F e top) j j / zB F e j else 0)
        rw [if_pos (by simp [h4, hc, hk])]
        exact Nat.le_add_left _ _
      have h7 := ztb_grow (F := F) (e := e) (zPt F e top) (j + 1) c (c - (j + 1))
      rw [show j + 1 + (c - (j + 1)) = c by omega] at h7
      have h8 := zsp_cut (F := F) (e := e) m (j + 1) (c - (j + 1)) (by omega)
      rw [show j + 1 + (c - (j + 1)) = c by omega, show m - (c - (j + 1)) = zn F - c by omega] at h8
      omega
theorem zst_up (hW : zW F) (top : Nat) : ∀ (k c : Nat), c < zn F → k ≤ zn F → ztb F e (zPt F e top) k c ≠ 0 → zR F e top c = true
  | 0, c, hc, _, h => by
    have h1 : zPt F e top c ≠ 0 := h
    unfold zPt at h1
    by_cases hct : c = top
    · subst hct; exact zR_top hW hc
    · simp [hct] at h1
  | k + 1, c, hc, hk, h => by
    by_cases h1 : ztb F e (zPt F e top) k c = 0
    · have h2 : (if (!zl F e k && decide (c < zn F) && zk F e k c) = true then ztb F e (zPt F e top) k k / zB F e k else 0) ≠ 0 := by
        intro h3
        apply h
        show ztb F e (zPt F e top) k c + _ = 0
        rw [h1, h3]
      by_cases hcond : (!zl F e k && decide (c < zn F) && zk F e k c) = true
      · rw [if_pos hcond] at h2
        simp only [Bool.and_eq_true, decide_eq_true_eq, Bool.not_eq_true'] at hcond
        have h3 : ztb F e (zPt F e top) k k ≠ 0 := by
          intro h4
          rw [h4, Nat.zero_div] at h2
          exact h2 rfl
        have h4 := zst_up hW top k k (by omega) (by omega) h3
        have h5 : zch F c k = true := by
          have := hcond.2
          unfold zk at this
          simp only [Bool.and_eq_true, decide_eq_true_eq] at this
          exact this.1.2
        exact zR_step hW hc h5 h4 hcond.1.1
      · rw [if_neg hcond] at h2
        exact absurd rfl h2
    · exact zst_up hW top k c hc (by omega) h1
/-- of one who is left: something comes down to him just where he is reached -/
theorem zst_iff (hW : zW F) {top c : Nat} (hc : c < zn F) (hl : zl F e c = true) : 0 < ztb F e (zPt F e top) c c ↔ zR F e top c = true := by
  constructor
  · intro h
    exact zst_up hW top c c hc (by omega) (by omega)
  · intro h
    have hx : zX F e c = true := by rw [zX_eq F e hc]; simp [hl]
    exact Nat.lt_of_lt_of_le (zsp_pos _ _) (zst_low hW top (c + 1) c (by omega) hc h hx)
/-- ancestors at a height -/
def zan (F : Fam) : Nat → Nat → Nat → Bool
  | 0, who, top => who == top
  | h + 1, who, top => zoB (za F who) (fun j => zan F h j top) || zoB (zb F who) (fun j => zan F h j top)
theorem zan_Y {top : Nat} (hx : zX F e top = true) : ∀ (h who : Nat), zan F h who top = true → zY F e h who = true
  | 0, who, h => by
    have h1 : who = top := by simpa [zan] using h
    rw [h1]; exact hx
  | h + 1, who, ha => by
    have ha2 : (zoB (za F who) (fun j => zan F h j top) || zoB (zb F who) (fun j => zan F h j top)) = true := ha
    show (zoB (za F who) (zY F e h) || zoB (zb F who) (zY F e h)) = true
    simp only [Bool.or_eq_true] at ha2 ⊢
    rcases ha2 with h1 | h1
    · obtain ⟨j, h2, h3⟩ := zoB_some h1
      exact Or.inl (zoB_of h2 (zan_Y hx h j h3))
    · obtain ⟨j, h2, h3⟩ := zoB_some h1
      exact Or.inr (zoB_of h2 (zan_Y hx h j h3))
theorem zcl_ge {h p j x : Nat} {v : Nat → Nat} (hp : p < zn F) (hj : za F p = some j ∨ zb F p = some j) (hy : zY F e h j = true) (hv : 2 * x ≤ v p) : x ≤ zcl F e h v j := by
  have h1 := zsum_one (f := fun p => zc1 F e h v p j) hp
  refine Nat.le_trans ?_ h1
  show x ≤ zc1 F e h v p j
  have h2 : x ≤ v p / 2 := by omega
  have h3 : x ≤ v p := by omega
  have key : ∀ (d : Prop) [Decidable d], x ≤ (if d then v p / 2 else v p) := by
    intro d _
    by_cases hd : d
    · rw [if_pos hd]; exact h2
    · rw [if_neg hd]; exact h3
  unfold zc1
  rcases hj with hj | hj
  · rw [if_pos ⟨hj, hy⟩]
    exact Nat.le_trans (key _) (Nat.le_add_right _ _)
  · rw [if_pos (show zb F p = some j ∧ zY F e h j = true from ⟨hj, hy⟩)]
    exact Nat.le_trans (key _) (Nat.le_add_left _ _)
theorem zup_ge (hW : zW F) {top : Nat} (hx : zX F e top = true) : ∀ (h p : Nat) (v : Nat → Nat), p < zn F → 2 ^ h ≤ v p → zan F h p top = true → 1 ≤ zup F e h v top
  | 0, p, v, hp, hv, ha => by
    have h1 : p = top := by simpa [zan] using ha
    subst h1
    simpa [zup] using hv
  | h + 1, p, v, hp, hv, ha => by
    have ha2 : (zoB (za F p) (fun j => zan F h j top) || zoB (zb F p) (fun j => zan F h j top)) = true := ha
    have hv2 : 2 * 2 ^ h ≤ v p := by rw [Nat.pow_succ] at hv; omega
    simp only [Bool.or_eq_true] at ha2
    rcases ha2 with h1 | h1
    · obtain ⟨j, h2, h3⟩ := zoB_some h1
      exact zup_ge hW hx h j (zcl F e h v) (Nat.lt_trans (zpar hW hp (Or.inl h2)) hp) (zcl_ge hp (Or.inl h2) (zan_Y hx h j h3) hv2) h3
    · obtain ⟨j, h2, h3⟩ := zoB_some h1
      exact zup_ge hW hx h j (zcl F e h v) (Nat.lt_trans (zpar hW hp (Or.inr h2)) hp) (zcl_ge hp (Or.inr h2) (zan_Y hx h j h3) hv2) h3
theorem zsum_ne {f : Nat → Nat} : ∀ {n : Nat}, zsum f n ≠ 0 → ∃ p, p < n ∧ f p ≠ 0
  | 0, h => absurd rfl h
  | n + 1, h => by
    by_cases h1 : f n = 0
    · have h2 : zsum f n ≠ 0 := by
        intro h3
        apply h
        show zsum f n + f n = 0
        rw [h3, h1]
      obtain ⟨p, h3, h4⟩ := zsum_ne h2
      exact ⟨p, by omega, h4⟩
    · exact ⟨n, by omega, h1⟩
theorem zcl_ne {h j : Nat} {v : Nat → Nat} (hc : zcl F e h v j ≠ 0) : ∃ p, p < zn F ∧ v p ≠ 0 ∧ (za F p = some j ∨ zb F p = some j) := by
  obtain ⟨p, hp, h1⟩ := zsum_ne hc
  have hc1 : zc1 F e h v p j ≠ 0 := h1
  refine ⟨p, hp, ?_, ?_⟩
  · intro hv
    apply hc1
    unfold zc1
    simp [hv]
  · by_cases ha : za F p = some j
    · exact Or.inl ha
    · by_cases hb : zb F p = some j
      · exact Or.inr hb
      · exfalso
        apply hc1
        unfold zc1
        simp [ha, hb]
theorem zup_ne {top : Nat} : ∀ (h : Nat) (v : Nat → Nat), top < zn F → zup F e h v top ≠ 0 → ∃ p, p < zn F ∧ v p ≠ 0 ∧ zan F h p top = true
  | 0, v, ht, hu => ⟨top, ht, hu, by simp [zan]⟩
  | h + 1, v, ht, hu => by
    obtain ⟨j, hj, h1, h2⟩ := zup_ne h (zcl F e h v) ht hu
    obtain ⟨p, hp, h3, h4⟩ := zcl_ne h1
    refine ⟨p, hp, h3, ?_⟩
    show (zoB (za F p) (fun j => zan F h j top) || zoB (zb F p) (fun j => zan F h j top)) = true
    simp only [Bool.or_eq_true]
    rcases h4 with h4 | h4
    · exact Or.inl (zoB_of h4 h2)
    · exact Or.inr (zoB_of h4 h2)
end St
end
section
/-! More rows of the judgement -/
/-- the locals in another order, or fewer, by their places -/
theorem vq_pk {l : Launch} {b : Nat} {id : Nat → ClassId} {D : va_G} {M : Mt} {z : Bool} {NE : Nat} {KE : Nat → Nat → Bool} {post : Option Value → Sg → Prop} {NX : Nat} {KX : Nat → Nat → Bool} {px : String → Sg → Prop} {N : Nat} {K : Nat → Nat → Bool} {ce sl pc : Nat} {lv lv' : List (Nat × Value)} {st : List Value} {g : Sg} (ks : List Nat) (h : lv_pick lv ks = lv') (kk : Vq l b id D M z NE KE post NX KX px N K ce sl pc lv' st g) : Vq l b id D M z NE KE post NX KX px N K ce sl pc lv st g :=
  fun p e s m args below meth c X H locs ls hP hS hl hz => kk p e s m args below meth c X H locs ls hP hS (lv_sub hl ks h) hz
end
section
/-! System.arraycopy of longs, whole from the beginning -/
theorem vq_copy {l : Launch} {b : Nat} {id : Nat → ClassId} {D : va_G} {M : Mt} {z : Bool} {NE : Nat} {KE : Nat → Nat → Bool} {post : Option Value → Sg → Prop} {NX : Nat} {KX : Nat → Nat → Bool} {px : String → Sg → Prop} {N : Nat} {K : Nat → Nat → Bool} {ce sl pc : Nat} {lv : List (Nat × Value)} {st : List Value} {g : Sg} {q0 q1 index : Nat} (n : Nat)
    (hd : decode (mC M) pc = .ok (.invokestatic index, 3)) (hlk : Cond.methodLink (mO M) index arraycopyName ∈ TT) (hnat : Cond.native arraycopyName ∈ TT) (hst : Cond.static arraycopyName ∈ TT) (hini : Cond.initialized "java/lang/System" ∈ TT) (hz0 : z = false) (h0 : q0 < N) (h1 : q1 < N) (k0 : qK q0 = 3) (k1 : qK q1 = 3) (hn0 : n ≤ qL q0) (hn1 : n ≤ qL q1) (hfr : 1 ≤ (mR M).frames) (hlo : (st.map fun v => v.category).sum + (nativeFrameWords "java/lang/System" "arraycopy" 5 + 11) ≤ (mR M).locals)
    (kk : Vq l b id D M z NE KE post NX KX px N K ce sl (pc + 3) lv st (sJ g q1 (va_cpy (g.2 q0) (g.2 q1) 0 0 n))) : Vq l b id D M z NE KE post NX KX px N K ce sl pc lv (.int (nI n) :: .int 0 :: .ref (b + q1) :: .int 0 :: .ref (b + q0) :: st) g := by
  intro p e s m args below meth c X H locs ls hP hS hl hz
  have hts := X.2.2.2.2.1
  have hn31 : n < 2 ^ 31 := Nat.lt_of_le_of_lt hn0 (qL_lt q0)
  have e0 : (0 : Int32).toNatClampNeg = 0 := by decide
  have en : (nI n).toNatClampNeg = n := nI_clamp hn31
  refine va_copyl X.1 X.2.1 (X.2.2.1.trans hl.1.symm) X.2.2.2.1 (hts _ hlk) (hts _ hnat) (hts _ hst) (hts _ hini) X.2.2.2.2.2.2.2.2.2.1 hP qW_D hS q0 q1 2 2 (ty := .long) (by rw [qW_get h0, qE_3 k0]) (by rw [qW_get h1, qE_3 k1]) rfl rfl rfl (by decide) (by decide) (nI_pos hn31) (by rw [e0, en]; omega) (by rw [e0, en]; omega) (fun i _ => rfl) hfr hlo hd (fun H1 locs1 hP1 hD1 hS1 => ?_)
  rw [e0, en, qW_s3 h1 k1] at hP1
  exact kk p e s m args below meth c X H1 locs1 ls hP1 hS1 hl (fun h => by rw [hz0] at h; cases h)
end
section
/-! What the class holds of a family, and the methods of SuccessionClerk$Family. Laid by wip/whole/specs/p20.py -/
def kT : Nat → Nat → Bool := fun _ _ => true
def eO : Option Nat → Int32
  | none => -1
  | some k => nI k
def bI : Bool → Int32
  | true => 1
  | false => 0
theorem bI_01 (x : Bool) : bI x = 0 ∨ bI x = 1 := by cases x <;> simp [bI]
theorem bI_0 {x : Bool} : bI x = 0 ↔ x = false := by cases x <;> simp [bI]
theorem bI_n0 {x : Bool} : ¬ bI x = 0 ↔ x = true := by cases x <;> simp [bI]
theorem r0 {x : Bool} (h : x = false) : some (Value.int 0) = some (Value.int (bI x)) := by rw [h]; rfl
theorem r1 {x : Bool} (h : x = true) : some (Value.int 1) = some (Value.int (bI x)) := by rw [h]; rfl
theorem nI_ne_m1 {k : Nat} (h : k < 2 ^ 31) : ¬ nI k = -1 := by
  intro e
  have h1 := nI_toInt h
  rw [e] at h1
  have h2 : (-1 : Int32).toInt = -1 := by decide
  omega
theorem eO_m1 {o : Option Nat} (h : ∀ k, o = some k → k < 2 ^ 31) : eO o = -1 ↔ o = none := by
  cases o with
  | none => simp [eO]
  | some k => simp [eO, nI_ne_m1 (h k rfl)]
/-- the bit of a person -/
def bt1 (x : Int32) (w : Nat) : Bool := !(decide (x &&& ((1 : Int32) <<< (nI w &&& 31)) = 0))
/-- the class holds the family F -/
def Hc (g : Sg) (F : Fam) : Prop := g.1 1 0 = nI (zn F) ∧ (∀ p, p < zn F → g.1 2 p = eO (za F p)) ∧ (∀ p, p < zn F → g.1 3 p = eO (zb F p)) ∧ (∀ p, p < zn F → g.1 4 p = eO (zs F p)) ∧ (∀ p, p < zn F → g.1 5 p = eO (zd F p)) ∧ (∀ p, p < 20 → g.1 6 p = nI (zo F p)) ∧ (∀ c p, c < 20 → p < 20 → g.1 (8 + c) p = nI (zg F c p)) ∧ (∀ w f, w < 20 → f < 20 → bt1 (g.1 28 f) w = zx F w f)
theorem Hc.congr {g g' : Sg} {F : Fam} (h : Hc g F) (hq : ∀ q, 1 ≤ q → q ≤ 28 → g'.1 q = g.1 q) : Hc g' F := by
  obtain ⟨h1, h2, h3, h4, h5, h6, h7, h8⟩ := h
  refine ⟨by rw [hq 1 (by omega) (by omega)]; exact h1, fun p hp => by rw [hq 2 (by omega) (by omega)]; exact h2 p hp, fun p hp => by rw [hq 3 (by omega) (by omega)]; exact h3 p hp, fun p hp => by rw [hq 4 (by omega) (by omega)]; exact h4 p hp, fun p hp => by rw [hq 5 (by omega) (by omega)]; exact h5 p hp, fun p hp => by rw [hq 6 (by omega) (by omega)]; exact h6 p hp, fun c p hc hp => by rw [hq (8 + c) (by omega) (by omega)]; exact h7 c p hc hp, fun w f hw hf => by rw [hq 28 (by omega) (by omega)]; exact h8 w f hw hf⟩
theorem zd_lt {F : Fam} (hW : zW F) {p : Nat} (hp : p < zn F) : ∀ k, zd F p = some k → k < 2 ^ 31 := fun k h => Nat.lt_of_le_of_lt (hW.2.2.2.2.2.1 p k hp h) (by decide)
theorem zs_lt {F : Fam} (hW : zW F) {p : Nat} (hp : p < zn F) : ∀ k, zs F p = some k → k < 2 ^ 31 := fun k h => Nat.lt_trans (hW.2.2.2.2.1 p k hp h) (Nat.lt_of_le_of_lt hW.1 (by decide))
theorem za_lt {F : Fam} (hW : zW F) {p : Nat} (hp : p < zn F) : ∀ k, za F p = some k → k < 2 ^ 31 := fun k h => Nat.lt_trans (hW.2.1 p k hp h) (Nat.lt_trans hp (Nat.lt_of_le_of_lt hW.1 (by decide)))
theorem zb_lt {F : Fam} (hW : zW F) {p : Nat} (hp : p < zn F) : ∀ k, zb F p = some k → k < 2 ^ 31 := fun k h => Nat.lt_trans (hW.2.2.1 p k hp h) (Nat.lt_trans hp (Nat.lt_of_le_of_lt hW.1 (by decide)))
theorem eO_nI {o : Option Nat} {p : Nat} (h : ∀ k, o = some k → k < 2 ^ 31) (hp : p < 2 ^ 31) : eO o = nI p ↔ o = some p := by
  cases o with
  | none =>
    simp only [eO]
    constructor
    · intro e; exact absurd e.symm (nI_ne_m1 hp)
    · intro e; cases e
  | some k =>
    simp only [eO]
    rw [nI_eq (h k rfl) hp]
    constructor
    · intro e; rw [e]
    · intro e; exact Option.some.inj e
def m_F_died : Mt := (y_F_died, c_F_died, 2, { frames := 8, cells := 0, slots := 0, locals := 130 }, (some .boolean), none)
def m_F_isChild : Mt := (y_F_isChild, c_F_isChild, 3, { frames := 8, cells := 0, slots := 0, locals := 130 }, (some .boolean), none)
def m_F_isExcluded : Mt := (y_F_isExcluded, c_F_isExcluded, 3, { frames := 8, cells := 0, slots := 0, locals := 130 }, (some .boolean), none)
def m_F_isLeft : Mt := (y_F_isLeft, c_F_isLeft, 3, { frames := 9, cells := 0, slots := 0, locals := 175 }, (some .boolean), none)
def m_F_isFree : Mt := (y_F_isFree, c_F_isFree, 2, { frames := 9, cells := 0, slots := 0, locals := 175 }, (some .boolean), none)
set_option maxRecDepth 100000 in
set_option maxHeartbeats 4000000 in
theorem ct_F_died (l : Launch) (b : Nat) (id : Nat → ClassId) (D : va_G) {g : Sg} {F : Fam} (hW : zW F) (hc : Hc g F) {k : Nat} (hk : k < zn F) : qCT l b id D m_F_died false [.ref (b + 1), .int (nI k)] 85 kT g 85 kT (fun v g' => v = some (.int (bI (zd F k).isSome)) ∧ g' = g) (fun _ _ => False) := by
  have hn := hW.1
  have hd5 := hc.2.2.2.2.1 k hk
  refine qCT_of rfl (by decide) (Nat.le_of_ble_eq_true rfl) ?_
  show Vq l b id D m_F_died false 85 kT _ 85 kT _ 85 kT 0 0 0 [(0, .ref (b + 1)), (1, .int (nI k))] [] g
  refine vq_aload_n d_F_died_0 rfl ?_
  refine vq_getR (k := 4) (C := R_F) (T := T_F) d_F_died_1 rfl in_F w_48 (by decide) rfl (by decide) rfl rfl ?_
  refine vq_iload_n d_F_died_4 rfl ?_
  refine vq_iald d_F_died_5 (by decide) rfl rfl (show _ < 20 by omega) ?_
  refine vq_iconst (v := -1) d_F_died_6 (by decide) ?_
  refine vq_icmp_eq (tgt := 14) d_F_died_7 (by decide) (fun h7 => ?_) (fun h7 => ?_)
  · rw [hd5] at h7
    refine vq_iconst (v := 0) d_F_died_14 (by decide) ?_
    refine vq_zret d_F_died_15 rfl (by first | exact Or.inl rfl | exact Or.inr rfl | assumption) (by decide) (by decide) rfl rfl ?_
    first
      | exact ⟨by rw [show (zd F k).isSome = false by rw [(eO_m1 (zd_lt hW hk)).mp h7]; rfl]; rfl, rfl⟩
      | exact ⟨by rw [show (zd F k).isSome = true by cases hz : zd F k with | none => exact absurd (by rw [hz]; rfl) h7 | some x => rfl]; rfl, rfl⟩
  · rw [hd5] at h7
    refine vq_iconst (v := 1) d_F_died_10 (by decide) ?_
    refine vq_goto (tgt := 15) d_F_died_11 (by decide) ?_
    refine vq_zret d_F_died_15 rfl (by first | exact Or.inl rfl | exact Or.inr rfl | assumption) (by decide) (by decide) rfl rfl ?_
    first
      | exact ⟨by rw [show (zd F k).isSome = false by rw [(eO_m1 (zd_lt hW hk)).mp h7]; rfl]; rfl, rfl⟩
      | exact ⟨by rw [show (zd F k).isSome = true by cases hz : zd F k with | none => exact absurd (by rw [hz]; rfl) h7 | some x => rfl]; rfl, rfl⟩
set_option maxRecDepth 100000 in
set_option maxHeartbeats 4000000 in
theorem ct_F_isChild (l : Launch) (b : Nat) (id : Nat → ClassId) (D : va_G) {g : Sg} {F : Fam} (hW : zW F) (hc : Hc g F) {k p : Nat} (hk : k < zn F) (hp : p < zn F) : qCT l b id D m_F_isChild false [.ref (b + 1), .int (nI k), .int (nI p)] 85 kT g 85 kT (fun v g' => v = some (.int (bI (zch F k p))) ∧ g' = g) (fun _ _ => False) := by
  have hn := hW.1
  have ha := hc.2.1 k hk
  have hb := hc.2.2.1 k hk
  have hp31 : p < 2 ^ 31 := by omega
  refine qCT_of rfl (by decide) (Nat.le_of_ble_eq_true rfl) ?_
  show Vq l b id D m_F_isChild false 85 kT _ 85 kT _ 85 kT 0 0 0 [(0, .ref (b + 1)), (1, .int (nI k)), (2, .int (nI p))] [] g
  refine vq_aload_n d_F_isChild_0 rfl ?_
  refine vq_getR (k := 1) (C := R_F) (T := T_F) d_F_isChild_1 rfl in_F w_37 (by decide) rfl (by decide) rfl rfl ?_
  refine vq_iload_n d_F_isChild_4 rfl ?_
  refine vq_iald d_F_isChild_5 (by decide) rfl rfl (show _ < 20 by omega) ?_
  refine vq_iload_n d_F_isChild_6 rfl ?_
  refine vq_icmp_eq (tgt := 20) d_F_isChild_7 (by decide) (fun h7 => ?_) (fun h7 => ?_)
  · rw [ha, eO_nI (za_lt hW hk) hp31] at h7
    refine vq_iconst (v := 1) d_F_isChild_20 (by decide) ?_
    refine vq_goto (tgt := 25) d_F_isChild_21 (by decide) ?_
    refine vq_zret d_F_isChild_25 rfl (by first | exact Or.inl rfl | exact Or.inr rfl | assumption) (by decide) (by decide) rfl rfl ?_
    first | refine ⟨r0 ?_, rfl⟩ | refine ⟨r1 ?_, rfl⟩
    first | (simp [zch, h7]; done) | (simp [zch, h7, h17]; done)
  · rw [ha, eO_nI (za_lt hW hk) hp31] at h7
    refine vq_aload_n d_F_isChild_10 rfl ?_
    refine vq_getR (k := 2) (C := R_F) (T := T_F) d_F_isChild_11 rfl in_F w_41 (by decide) rfl (by decide) rfl rfl ?_
    refine vq_iload_n d_F_isChild_14 rfl ?_
    refine vq_iald d_F_isChild_15 (by decide) rfl rfl (show _ < 20 by omega) ?_
    refine vq_iload_n d_F_isChild_16 rfl ?_
    refine vq_icmp_ne (tgt := 24) d_F_isChild_17 (by decide) (fun h17 => ?_) (fun h17 => ?_)
    · rw [hb, eO_nI (zb_lt hW hk) hp31] at h17
      refine vq_iconst (v := 0) d_F_isChild_24 (by decide) ?_
      refine vq_zret d_F_isChild_25 rfl (by first | exact Or.inl rfl | exact Or.inr rfl | assumption) (by decide) (by decide) rfl rfl ?_
      first | refine ⟨r0 ?_, rfl⟩ | refine ⟨r1 ?_, rfl⟩
      first | (simp [zch, h7]; done) | (simp [zch, h7, h17]; done)
    · rw [hb, eO_nI (zb_lt hW hk) hp31] at h17
      refine vq_iconst (v := 1) d_F_isChild_20 (by decide) ?_
      refine vq_goto (tgt := 25) d_F_isChild_21 (by decide) ?_
      refine vq_zret d_F_isChild_25 rfl (by first | exact Or.inl rfl | exact Or.inr rfl | assumption) (by decide) (by decide) rfl rfl ?_
      first | refine ⟨r0 ?_, rfl⟩ | refine ⟨r1 ?_, rfl⟩
      first | (simp [zch, h7]; done) | (simp [zch, h7, h17]; done)
set_option maxRecDepth 100000 in
set_option maxHeartbeats 4000000 in
theorem ct_F_isExcluded (l : Launch) (b : Nat) (id : Nat → ClassId) (D : va_G) {g : Sg} {F : Fam} (hW : zW F) (hc : Hc g F) {w f : Nat} (hw : w < 20) (hf : f < 20) : qCT l b id D m_F_isExcluded false [.ref (b + 1), .int (nI w), .int (nI f)] 85 kT g 85 kT (fun v g' => v = some (.int (bI (zx F w f))) ∧ g' = g) (fun _ _ => False) := by
  have hx := hc.2.2.2.2.2.2.2 w f hw hf
  refine qCT_of rfl (by decide) (Nat.le_of_ble_eq_true rfl) ?_
  show Vq l b id D m_F_isExcluded false 85 kT _ 85 kT _ 85 kT 0 0 0 [(0, .ref (b + 1)), (1, .int (nI w)), (2, .int (nI f))] [] g
  refine vq_aload_n d_F_isExcluded_0 rfl ?_
  refine vq_getR (k := 7) (C := R_F) (T := T_F) d_F_isExcluded_1 rfl in_F w_57 (by decide) rfl (by decide) rfl rfl ?_
  refine vq_iload_n d_F_isExcluded_4 rfl ?_
  refine vq_iald d_F_isExcluded_5 (by decide) rfl rfl (show _ < 20 by omega) ?_
  refine vq_iconst (v := 1) d_F_isExcluded_6 (by decide) ?_
  refine vq_iload_n d_F_isExcluded_7 rfl ?_
  refine vq_ishl d_F_isExcluded_8 ?_
  refine vq_iand d_F_isExcluded_9 ?_
  refine vq_if_eq (tgt := 17) d_F_isExcluded_10 (by decide) (fun h10 => ?_) (fun h10 => ?_)
  · refine vq_iconst (v := 0) d_F_isExcluded_17 (by decide) ?_
    refine vq_zret d_F_isExcluded_18 rfl (by first | exact Or.inl rfl | exact Or.inr rfl | assumption) (by decide) (by decide) rfl rfl ?_
    exact ⟨by rw [← hx]; simp [bt1, h10, bI], rfl⟩
  · refine vq_iconst (v := 1) d_F_isExcluded_13 (by decide) ?_
    refine vq_goto (tgt := 18) d_F_isExcluded_14 (by decide) ?_
    refine vq_zret d_F_isExcluded_18 rfl (by first | exact Or.inl rfl | exact Or.inr rfl | assumption) (by decide) (by decide) rfl rfl ?_
    exact ⟨by rw [← hx]; simp [bt1, h10, bI], rfl⟩
set_option maxRecDepth 100000 in
set_option maxHeartbeats 4000000 in
theorem ct_F_isLeft (l : Launch) (b : Nat) (id : Nat → ClassId) (D : va_G) {g : Sg} {F : Fam} (hW : zW F) (hc : Hc g F) {w e u : Nat} (hk : w < zn F) (he : e < zn F) (hu : zd F e = some u) : qCT l b id D m_F_isLeft false [.ref (b + 1), .int (nI w), .int (nI e)] 85 kT g 85 kT (fun v g' => v = some (.int (bI (zl F e w))) ∧ g' = g) (fun _ _ => False) := by
  have hn := hW.1
  have hd5 := hc.2.2.2.2.1 w hk
  have hd6 := hc.2.2.2.2.1 e he
  have hu9 := hW.2.2.2.2.2.1 e u he hu
  refine qCT_of rfl (by decide) (Nat.le_of_ble_eq_true rfl) ?_
  show Vq l b id D m_F_isLeft false 85 kT _ 85 kT _ 85 kT 0 0 0 [(0, .ref (b + 1)), (1, .int (nI w)), (2, .int (nI e))] [] g
  refine vq_iload_n d_F_isLeft_0 rfl ?_
  refine vq_iload_n d_F_isLeft_1 rfl ?_
  refine vq_icmp_eq (tgt := 41) d_F_isLeft_2 (by decide) (fun h2 => ?_) (fun h2 => ?_)
  · rw [nI_eq (by omega) (by omega)] at h2
    refine vq_iconst (v := 0) d_F_isLeft_41 (by decide) ?_
    refine vq_zret d_F_isLeft_42 rfl (by first | exact Or.inl rfl | exact Or.inr rfl | assumption) (by decide) (by decide) rfl rfl ?_
    first | refine ⟨r0 ?_, rfl⟩ | refine ⟨r1 ?_, rfl⟩
    unfold zl zlt
    first | (simp [h2]; done) | (simp [h2, h11]; done) | (simp [h2, h11, ht]; done) | (simp [h2, h11, ht, hu]; omega) | (simp [h2, h11, ht, hu]; done)
  · rw [nI_eq (by omega) (by omega)] at h2
    refine vq_aload_n d_F_isLeft_5 rfl ?_
    refine vq_iload_n d_F_isLeft_6 rfl ?_
    refine vq_iload_n d_F_isLeft_7 rfl ?_
    refine vq_callV (n := 2) (C := R_F) (T := T_F) _ _ d_F_isLeft_8 (ct_F_isExcluded l b id D hW hc (w := w) (f := e) (by omega) (by omega)) w_265 w_266 w_267 w_268 w_2 rfl ⟨by decide, by decide, by decide +kernel⟩ ⟨by decide, by decide⟩ (by decide) rfl rfl rfl rfl (by decide) rfl rfl rfl ⟨by decide, by decide⟩ (fun _ _ h => h.elim) (fun v8 g8 h8 => ?_)
    rw [h8.1, h8.2]
    refine vq_if_ne (tgt := 41) d_F_isLeft_11 (by decide) (fun h11 => ?_) (fun h11 => ?_)
    · rw [bI_n0] at h11
      refine vq_iconst (v := 0) d_F_isLeft_41 (by decide) ?_
      refine vq_zret d_F_isLeft_42 rfl (by first | exact Or.inl rfl | exact Or.inr rfl | assumption) (by decide) (by decide) rfl rfl ?_
      first | refine ⟨r0 ?_, rfl⟩ | refine ⟨r1 ?_, rfl⟩
      unfold zl zlt
      first | (simp [h2]; done) | (simp [h2, h11]; done) | (simp [h2, h11, ht]; done) | (simp [h2, h11, ht, hu]; omega) | (simp [h2, h11, ht, hu]; done)
    · rw [bI_0] at h11
      refine vq_aload_n d_F_isLeft_14 rfl ?_
      refine vq_iload_n d_F_isLeft_15 rfl ?_
      refine vq_callV (n := 1) (C := R_F) (T := T_F) _ _ d_F_isLeft_16 (ct_F_died l b id D hW hc hk) w_269 w_243 w_244 w_245 w_2 rfl ⟨by decide, by decide, by decide +kernel⟩ ⟨by decide, by decide⟩ (by decide) rfl rfl rfl rfl (by decide) rfl rfl rfl ⟨by decide, by decide⟩ (fun _ _ h => h.elim) (fun v16 g16 h16 => ?_)
      rw [h16.1, h16.2]
      refine vq_if_eq (tgt := 37) d_F_isLeft_19 (by decide) (fun h19 => ?_) (fun h19 => ?_)
      · have ht : zd F w = none := by cases hz : zd F w with | none => rfl | some x => rw [hz] at h19; cases h19
        refine vq_iconst (v := 1) d_F_isLeft_37 (by decide) ?_
        refine vq_goto (tgt := 42) d_F_isLeft_38 (by decide) ?_
        refine vq_zret d_F_isLeft_42 rfl (by first | exact Or.inl rfl | exact Or.inr rfl | assumption) (by decide) (by decide) rfl rfl ?_
        first | refine ⟨r0 ?_, rfl⟩ | refine ⟨r1 ?_, rfl⟩
        unfold zl zlt
        first | (simp [h2]; done) | (simp [h2, h11]; done) | (simp [h2, h11, ht]; done) | (simp [h2, h11, ht, hu]; omega) | (simp [h2, h11, ht, hu]; done)
      · obtain ⟨t, ht⟩ := Option.isSome_iff_exists.mp (bI_n0.mp h19)
        have ht9 := hW.2.2.2.2.2.1 w t hk ht
        refine vq_aload_n d_F_isLeft_22 rfl ?_
        refine vq_getR (k := 4) (C := R_F) (T := T_F) d_F_isLeft_23 rfl in_F w_48 (by decide) rfl (by decide) rfl rfl ?_
        refine vq_iload_n d_F_isLeft_26 rfl ?_
        refine vq_iald d_F_isLeft_27 (by decide) rfl rfl (show _ < 20 by omega) ?_
        refine vq_aload_n d_F_isLeft_28 rfl ?_
        refine vq_getR (k := 4) (C := R_F) (T := T_F) d_F_isLeft_29 rfl in_F w_48 (by decide) rfl (by decide) rfl rfl ?_
        refine vq_iload_n d_F_isLeft_32 rfl ?_
        refine vq_iald d_F_isLeft_33 (by decide) rfl rfl (show _ < 20 by omega) ?_
        refine vq_icmp_le (tgt := 41) d_F_isLeft_34 (by decide) (fun h34 => ?_) (fun h34 => ?_)
        · rw [hd5, hd6, ht, hu, show eO (some t) = nI t from rfl, show eO (some u) = nI u from rfl, nI_leI (by omega) (by omega)] at h34
          refine vq_iconst (v := 0) d_F_isLeft_41 (by decide) ?_
          refine vq_zret d_F_isLeft_42 rfl (by first | exact Or.inl rfl | exact Or.inr rfl | assumption) (by decide) (by decide) rfl rfl ?_
          first | refine ⟨r0 ?_, rfl⟩ | refine ⟨r1 ?_, rfl⟩
          unfold zl zlt
          first | (simp [h2]; done) | (simp [h2, h11]; done) | (simp [h2, h11, ht]; done) | (simp [h2, h11, ht, hu]; omega) | (simp [h2, h11, ht, hu]; done)
        · rw [hd5, hd6, ht, hu, show eO (some t) = nI t from rfl, show eO (some u) = nI u from rfl, nI_leI (by omega) (by omega)] at h34
          refine vq_iconst (v := 1) d_F_isLeft_37 (by decide) ?_
          refine vq_goto (tgt := 42) d_F_isLeft_38 (by decide) ?_
          refine vq_zret d_F_isLeft_42 rfl (by first | exact Or.inl rfl | exact Or.inr rfl | assumption) (by decide) (by decide) rfl rfl ?_
          first | refine ⟨r0 ?_, rfl⟩ | refine ⟨r1 ?_, rfl⟩
          unfold zl zlt
          first | (simp [h2]; done) | (simp [h2, h11]; done) | (simp [h2, h11, ht]; done) | (simp [h2, h11, ht, hu]; omega) | (simp [h2, h11, ht, hu]; done)
def zfree (F : Fam) (k : Nat) : Bool := (zd F k).isNone && (match zs F k with | none => true | some j => (zd F j).isSome)
set_option maxRecDepth 100000 in
set_option maxHeartbeats 4000000 in
theorem ct_F_isFree (l : Launch) (b : Nat) (id : Nat → ClassId) (D : va_G) {g : Sg} {F : Fam} (hW : zW F) (hc : Hc g F) {k : Nat} (hk : k < zn F) : qCT l b id D m_F_isFree false [.ref (b + 1), .int (nI k)] 85 kT g 85 kT (fun v g' => v = some (.int (bI (zfree F k))) ∧ g' = g) (fun _ _ => False) := by
  have hn := hW.1
  have hs4 := hc.2.2.2.1 k hk
  refine qCT_of rfl (by decide) (Nat.le_of_ble_eq_true rfl) ?_
  show Vq l b id D m_F_isFree false 85 kT _ 85 kT _ 85 kT 0 0 0 [(0, .ref (b + 1)), (1, .int (nI k))] [] g
  refine vq_aload_n d_F_isFree_0 rfl ?_
  refine vq_iload_n d_F_isFree_1 rfl ?_
  refine vq_callV (n := 1) (C := R_F) (T := T_F) _ _ d_F_isFree_2 (ct_F_died l b id D hW hc hk) w_269 w_243 w_244 w_245 w_2 rfl ⟨by decide, by decide, by decide +kernel⟩ ⟨by decide, by decide⟩ (by decide) rfl rfl rfl rfl (by decide) rfl rfl rfl ⟨by decide, by decide⟩ (fun _ _ h => h.elim) (fun v2 g2 h2 => ?_)
  rw [h2.1, h2.2]
  refine vq_if_ne (tgt := 35) d_F_isFree_5 (by decide) (fun h5 => ?_) (fun h5 => ?_)
  · have hd : (zd F k).isSome = true := bI_n0.mp h5
    refine vq_iconst (v := 0) d_F_isFree_35 (by decide) ?_
    refine vq_zret d_F_isFree_36 rfl (by first | exact Or.inl rfl | exact Or.inr rfl | assumption) (by decide) (by decide) rfl rfl ?_
    first | refine ⟨r0 ?_, rfl⟩ | refine ⟨r1 ?_, rfl⟩
    unfold zfree
    first | (simp [← Option.not_isSome, hd]; done) | (simp [← Option.not_isSome, hd, h15]; done) | (simp [← Option.not_isSome, hd, hj, h28]; done)
  · have hd : (zd F k).isSome = false := bI_0.mp h5
    refine vq_aload_n d_F_isFree_8 rfl ?_
    refine vq_getR (k := 3) (C := R_F) (T := T_F) d_F_isFree_9 rfl in_F w_45 (by decide) rfl (by decide) rfl rfl ?_
    refine vq_iload_n d_F_isFree_12 rfl ?_
    refine vq_iald d_F_isFree_13 (by decide) rfl rfl (show _ < 20 by omega) ?_
    refine vq_iconst (v := -1) d_F_isFree_14 (by decide) ?_
    refine vq_icmp_eq (tgt := 31) d_F_isFree_15 (by decide) (fun h15 => ?_) (fun h15 => ?_)
    · rw [hs4, eO_m1 (zs_lt hW hk)] at h15
      refine vq_iconst (v := 1) d_F_isFree_31 (by decide) ?_
      refine vq_goto (tgt := 36) d_F_isFree_32 (by decide) ?_
      refine vq_zret d_F_isFree_36 rfl (by first | exact Or.inl rfl | exact Or.inr rfl | assumption) (by decide) (by decide) rfl rfl ?_
      first | refine ⟨r0 ?_, rfl⟩ | refine ⟨r1 ?_, rfl⟩
      unfold zfree
      first | (simp [← Option.not_isSome, hd]; done) | (simp [← Option.not_isSome, hd, h15]; done) | (simp [← Option.not_isSome, hd, hj, h28]; done)
    · rw [hs4, eO_m1 (zs_lt hW hk)] at h15
      obtain ⟨j, hj⟩ := Option.ne_none_iff_exists'.mp h15
      have hjn := hW.2.2.2.2.1 k j hk hj
      refine vq_aload_n d_F_isFree_18 rfl ?_
      refine vq_aload_n d_F_isFree_19 rfl ?_
      refine vq_getR (k := 3) (C := R_F) (T := T_F) d_F_isFree_20 rfl in_F w_45 (by decide) rfl (by decide) rfl rfl ?_
      refine vq_iload_n d_F_isFree_23 rfl ?_
      refine vq_iald d_F_isFree_24 (by decide) rfl rfl (show _ < 20 by omega) ?_
      rw [hs4, hj]
      refine vq_callV (n := 1) (C := R_F) (T := T_F) _ _ d_F_isFree_25 (ct_F_died l b id D hW hc hjn) w_269 w_243 w_244 w_245 w_2 rfl ⟨by decide, by decide, by decide +kernel⟩ ⟨by decide, by decide⟩ (by decide) rfl rfl rfl rfl (by decide) rfl rfl rfl ⟨by decide, by decide⟩ (fun _ _ h => h.elim) (fun v25 g25 h25 => ?_)
      rw [h25.1, h25.2]
      refine vq_if_eq (tgt := 35) d_F_isFree_28 (by decide) (fun h28 => ?_) (fun h28 => ?_)
      · rw [bI_0] at h28
        refine vq_iconst (v := 0) d_F_isFree_35 (by decide) ?_
        refine vq_zret d_F_isFree_36 rfl (by first | exact Or.inl rfl | exact Or.inr rfl | assumption) (by decide) (by decide) rfl rfl ?_
        first | refine ⟨r0 ?_, rfl⟩ | refine ⟨r1 ?_, rfl⟩
        unfold zfree
        first | (simp [← Option.not_isSome, hd]; done) | (simp [← Option.not_isSome, hd, h15]; done) | (simp [← Option.not_isSome, hd, hj, h28]; done)
      · rw [bI_n0] at h28
        refine vq_iconst (v := 1) d_F_isFree_31 (by decide) ?_
        refine vq_goto (tgt := 36) d_F_isFree_32 (by decide) ?_
        refine vq_zret d_F_isFree_36 rfl (by first | exact Or.inl rfl | exact Or.inr rfl | assumption) (by decide) (by decide) rfl rfl ?_
        first | refine ⟨r0 ?_, rfl⟩ | refine ⟨r1 ?_, rfl⟩
        unfold zfree
        first | (simp [← Option.not_isSome, hd]; done) | (simp [← Option.not_isSome, hd, h15]; done) | (simp [← Option.not_isSome, hd, hj, h28]; done)
end
section
/-! Arrays.fill; the survey of an estate. Laid by wip/whole/specs/p21.py -/
theorem sI_id (g : Sg) (p : Nat) : sI g p (g.1 p) = g := by
  obtain ⟨a, c⟩ := g
  unfold sI
  congr 1
  funext q
  by_cases h : q = p
  · subst h; simp
  · simp [h]
theorem sJ_id (g : Sg) (p : Nat) : sJ g p (g.2 p) = g := by
  obtain ⟨a, c⟩ := g
  unfold sJ
  congr 1
  funext q
  by_cases h : q = p
  · subst h; simp
  · simp [h]
theorem sI_sI (g : Sg) (p : Nat) (f f' : Nat → Int32) : sI (sI g p f) p f' = sI g p f' := by
  unfold sI
  congr 1
  funext q
  by_cases h : q = p <;> simp [h]
theorem sJ_sJ (g : Sg) (p : Nat) (f f' : Nat → Int64) : sJ (sJ g p f) p f' = sJ g p f' := by
  unfold sJ
  congr 1
  funext q
  by_cases h : q = p <;> simp [h]
theorem ip1 (k : Nat) : nI k + Int32.ofInt 1 = nI (k + 1) := nI_1 k
theorem im1 (x : Int32) : x + Int32.ofInt (-1) = x - 1 := by
  rw [show Int32.ofInt (-1) = -1 from rfl, Int32.sub_eq_add_neg]
theorem ix20 (h j : Nat) : nI h * 20 + nI j = nI (h * 20 + j) := by
  rw [show (20 : Int32) = nI 20 from rfl, pk_mul, nI_add]
def m_A_fillI : Mt := (y_A_fillI, c_A_fillI, 4, { frames := 8, cells := 0, slots := 0, locals := 130 }, none, none)
def m_A_fillJ : Mt := (y_A_fillJ, c_A_fillJ, 5, { frames := 8, cells := 0, slots := 0, locals := 130 }, none, none)
def m_V_hasHeirs : Mt := (y_V_hasHeirs, c_V_hasHeirs, 3, { frames := 8, cells := 0, slots := 0, locals := 130 }, (some .boolean), none)
def m_V_addBranch : Mt := (y_V_addBranch, c_V_addBranch, 2, { frames := 8, cells := 0, slots := 0, locals := 130 }, none, none)
def m_V_findStems : Mt := (y_V_findStems, c_V_findStems, 3, { frames := 10, cells := 0, slots := 0, locals := 220 }, none, none)
def m_V_spouseQuarters : Mt := (y_V_spouseQuarters, c_V_spouseQuarters, 1, { frames := 8, cells := 0, slots := 0, locals := 130 }, (some .int), none)
def m_V_findLines : Mt := (y_V_findLines, c_V_findLines, 3, { frames := 9, cells := 0, slots := 0, locals := 175 }, none, none)
def m_V_findTaker : Mt := (y_V_findTaker, c_V_findTaker, 3, { frames := 9, cells := 0, slots := 0, locals := 175 }, (some .int), none)
def m_V_look : Mt := (y_V_look, c_V_look, 3, { frames := 11, cells := 0, slots := 0, locals := 265 }, none, none)
set_option maxRecDepth 100000 in
set_option maxHeartbeats 4000000 in
theorem ct_A_fillI (l : Launch) (b : Nat) (id : Nat → ClassId) (D : va_G) {g : Sg} {q : Nat} (hq : q < 85) (hk : qK q = 1) (x : Int32) : qCT l b id D m_A_fillI false [.ref (b + q), .int x] 85 kT g 85 kT (fun v g' => v = none ∧ ∃ f : Nat → Int32, g' = sI g q f ∧ ∀ j, j < qL q → f j = x) (fun _ _ => False) := by
  refine qCT_of rfl (by decide) (Nat.le_of_ble_eq_true rfl) ?_
  show Vq l b id D m_A_fillI false 85 kT _ 85 kT _ 85 kT 0 0 0 [(0, .ref (b + q)), (1, .int x)] [] g
  have loop : ∀ (n9 : Nat) (i : Nat) (g1 : Sg), qL q - i = n9 → (i ≤ qL q ∧ ∃ f : Nat → Int32, g1 = sI g q f ∧ ∀ j, j < i → f j = x) → Vq l b id D m_A_fillI false 85 kT (fun v g' => v = none ∧ ∃ f : Nat → Int32, g' = sI g q f ∧ ∀ j, j < qL q → f j = x) 85 kT (fun _ _ => False) 85 kT 0 0 5 [(3, .int (nI (qL q))), (2, .int (nI i)), (0, .ref (b + q)), (1, .int x)] [] g1 := by
    intro n9
    induction n9 using Nat.strongRecOn with
    | ind n9 ih =>
    intro i g1 hm hI
    obtain ⟨hle, f, hf, hx⟩ := hI
    refine vq_iload_n d_A_fillI_5 rfl ?_
    refine vq_iload_n d_A_fillI_6 rfl ?_
    refine vq_icmp_ge (tgt := 20) d_A_fillI_7 (by decide) (fun h7 => ?_) (fun h7 => ?_)
    · have hi : qL q ≤ i := by rw [nI_leI (qL_lt q) (by have := qL_lt q; omega)] at h7; exact h7
      refine vq_vret d_A_fillI_20 rfl (by decide) (by decide) rfl rfl ?_
      exact ⟨rfl, f, hf, fun j hj => hx j (by omega)⟩
    · have hi : i < qL q := by rw [nI_leI (qL_lt q) (by have := qL_lt q; omega)] at h7; omega
      refine vq_aload_n d_A_fillI_10 rfl ?_
      refine vq_iload_n d_A_fillI_11 rfl ?_
      refine vq_iload_n d_A_fillI_12 rfl ?_
      refine vq_iast d_A_fillI_13 rfl hq hk rfl hi ?_
      refine vq_iinc (k := 1) (lv' := [(2, _), (3, _), (0, _), (1, _)]) d_A_fillI_14 rfl (ip1 i) (by decide) rfl ?_
      refine vq_goto (tgt := 5) d_A_fillI_17 (by decide) ?_
      refine vq_pk [1, 0, 2, 3] (lv' := [(3, _), (2, _), (0, _), (1, _)]) rfl ?_
      refine ih (qL q - (i + 1)) (by omega) (i + 1) _ rfl ⟨by omega, upd f i x, by rw [hf, sI_sI, sI_s], fun j hj => ?_⟩
      by_cases e : j = i
      · subst e; simp [upd]
      · simp only [upd, if_neg e]; exact hx j (by omega)
  refine vq_iconst (v := 0) d_A_fillI_0 (by decide) ?_
  refine vq_istore_n (lv' := [(2, _), (0, _), (1, _)]) d_A_fillI_1 (by decide) rfl ?_
  refine vq_aload_n d_A_fillI_2 rfl ?_
  refine vq_alen d_A_fillI_3 hq (Or.inl hk) ?_
  refine vq_istore_n (lv' := [(3, _), (2, _), (0, _), (1, _)]) d_A_fillI_4 (by decide) rfl ?_
  exact loop (qL q) 0 g rfl ⟨by omega, g.1 q, (sI_id g q).symm, fun j hj => absurd hj (Nat.not_lt_zero j)⟩
set_option maxRecDepth 100000 in
set_option maxHeartbeats 4000000 in
theorem ct_A_fillJ (l : Launch) (b : Nat) (id : Nat → ClassId) (D : va_G) {g : Sg} {q : Nat} (hq : q < 85) (hk : qK q = 3) (x : Int64) : qCT l b id D m_A_fillJ false [.ref (b + q), .long x] 85 kT g 85 kT (fun v g' => v = none ∧ ∃ f : Nat → Int64, g' = sJ g q f ∧ ∀ j, j < qL q → f j = x) (fun _ _ => False) := by
  refine qCT_of rfl (by decide) (Nat.le_of_ble_eq_true rfl) ?_
  show Vq l b id D m_A_fillJ false 85 kT _ 85 kT _ 85 kT 0 0 0 [(0, .ref (b + q)), (1, .long x)] [] g
  have loop : ∀ (n9 : Nat) (i : Nat) (g1 : Sg), qL q - i = n9 → (i ≤ qL q ∧ ∃ f : Nat → Int64, g1 = sJ g q f ∧ ∀ j, j < i → f j = x) → Vq l b id D m_A_fillJ false 85 kT (fun v g' => v = none ∧ ∃ f : Nat → Int64, g' = sJ g q f ∧ ∀ j, j < qL q → f j = x) 85 kT (fun _ _ => False) 85 kT 0 0 6 [(4, .int (nI (qL q))), (3, .int (nI i)), (0, .ref (b + q)), (1, .long x)] [] g1 := by
    intro n9
    induction n9 using Nat.strongRecOn with
    | ind n9 ih =>
    intro i g1 hm hI
    obtain ⟨hle, f, hf, hx⟩ := hI
    refine vq_iload_n d_A_fillJ_6 rfl ?_
    refine vq_iload d_A_fillJ_7 rfl ?_
    refine vq_icmp_ge (tgt := 22) d_A_fillJ_9 (by decide) (fun h9 => ?_) (fun h9 => ?_)
    · have hi : qL q ≤ i := by rw [nI_leI (qL_lt q) (by have := qL_lt q; omega)] at h9; exact h9
      refine vq_vret d_A_fillJ_22 rfl (by decide) (by decide) rfl rfl ?_
      exact ⟨rfl, f, hf, fun j hj => hx j (by omega)⟩
    · have hi : i < qL q := by rw [nI_leI (qL_lt q) (by have := qL_lt q; omega)] at h9; omega
      refine vq_aload_n d_A_fillJ_12 rfl ?_
      refine vq_iload_n d_A_fillJ_13 rfl ?_
      refine vq_lload_n d_A_fillJ_14 rfl ?_
      refine vq_last d_A_fillJ_15 rfl hq hk rfl hi ?_
      refine vq_iinc (k := 1) (lv' := [(3, _), (4, _), (0, _), (1, _)]) d_A_fillJ_16 rfl (ip1 i) (by decide) rfl ?_
      refine vq_goto (tgt := 6) d_A_fillJ_19 (by decide) ?_
      refine vq_pk [1, 0, 2, 3] (lv' := [(4, _), (3, _), (0, _), (1, _)]) rfl ?_
      refine ih (qL q - (i + 1)) (by omega) (i + 1) _ rfl ⟨by omega, vp_updL f i x, by rw [hf, sJ_sJ, sJ_s], fun j hj => ?_⟩
      by_cases e : j = i
      · subst e; simp [vp_updL]
      · simp only [vp_updL, if_neg e]; exact hx j (by omega)
  refine vq_iconst (v := 0) d_A_fillJ_0 (by decide) ?_
  refine vq_istore_n (lv' := [(3, _), (0, _), (1, _)]) d_A_fillJ_1 (by decide) rfl ?_
  refine vq_aload_n d_A_fillJ_2 rfl ?_
  refine vq_alen d_A_fillJ_3 hq (Or.inr (Or.inr hk)) ?_
  refine vq_istore (lv' := [(4, _), (3, _), (0, _), (1, _)]) d_A_fillJ_4 (by decide) rfl ?_
  exact loop (qL q) 0 g rfl ⟨by omega, g.2 q, (sJ_id g q).symm, fun j hj => absurd hj (Nat.not_lt_zero j)⟩
end
section
/-! SuccessionClerk$Survey: stems, lines, the taker. Laid by wip/whole/specs/p22.py -/
def ab (f : Nat → Int32) : Option Nat → Nat → Int32
  | none => f
  | some a => upd f a (f a + 1)
/-- so many children from i on have heirs -/
def zBf (F : Fam) (e i p : Nat) : Nat := zsum (fun c => if (decide (i ≤ c) && zk F e p c) = true then 1 else 0) (zn F)
theorem zBf_0 (F : Fam) (e p : Nat) : zBf F e 0 p = zB F e p := zsum_congr (fun c _ => by simp)
theorem zBf_n (F : Fam) (e p : Nat) : zBf F e (zn F) p = 0 := by
  unfold zBf
  rw [zsum_congr (g := fun _ => 0) (fun c hc => by have : ¬ zn F ≤ c := by omega
                                                   simp [this]), zsum_zero]
theorem zBf_own (F : Fam) (e : Nat) {i p : Nat} (h : i ≤ p + 1) : zBf F e i p = zB F e p := by
  refine zsum_congr (fun c _ => ?_)
  by_cases hk : zk F e p c = true
  · have := zk_lt hk
    have h2 : i ≤ c := by omega
    simp [hk, h2]
  · simp [hk]
theorem zBf_cut (F : Fam) (e p : Nat) {j : Nat} (hj : j < zn F) : zBf F e j p = zBf F e (j + 1) p + (if zk F e p j = true then 1 else 0) := by
  have h := zsf_cut (fun c => if zk F e p c = true then 1 else 0) hj
  have key : ∀ i, zBf F e i p = zsf (fun c => if zk F e p c = true then 1 else 0) i (zn F) := by
    intro i
    unfold zBf zsf
    refine zsum_congr (fun c _ => ?_)
    by_cases h1 : i ≤ c <;> by_cases h2 : zk F e p c = true <;> simp [h1, h2]
  rw [key, key, h, Nat.add_comm]
theorem ab_at {f : Nat → Int32} {o : Option Nat} {p : Nat} : ab f o p = f p + (if o = some p then 1 else 0) := by
  cases o with
  | none => simp [ab]
  | some a =>
    by_cases h : p = a
    · subst h; simp [ab, upd]
    · simp [ab, upd, h, Ne.symm h]
theorem nI_n0 {k : Nat} (h : k < 2 ^ 31) : nI k ≤ 0 ↔ k = 0 := by
  rw [show (0 : Int32) = nI 0 from rfl, nI_leI h (by decide)]; omega
set_option maxRecDepth 100000 in
set_option maxHeartbeats 4000000 in
theorem ct_V_hasHeirs (l : Launch) (b : Nat) (id : Nat → ClassId) (D : va_G) {g : Sg} {o : Option Nat} {h : Nat} {Y : Nat → Bool} (hh : h ≤ 3) (hL : ∀ j, o = some j → j < 20 ∧ g.1 32 (h * 20 + j) = bI (Y j)) : qCT l b id D m_V_hasHeirs false [.ref (b + 29), .int (eO o), .int (nI h)] 85 kT g 85 kT (fun v g' => v = some (.int (bI (zoB o Y))) ∧ g' = g) (fun _ _ => False) := by
  refine qCT_of rfl (by decide) (Nat.le_of_ble_eq_true rfl) ?_
  show Vq l b id D m_V_hasHeirs false 85 kT _ 85 kT _ 85 kT 0 0 0 [(0, .ref (b + 29)), (1, .int (eO o)), (2, .int (nI h))] [] g
  refine vq_iload_n d_V_hasHeirs_0 rfl ?_
  refine vq_iconst (v := -1) d_V_hasHeirs_1 (by decide) ?_
  refine vq_icmp_eq (tgt := 23) d_V_hasHeirs_2 (by decide) (fun h2 => ?_) (fun h2 => ?_)
  · have ho : o = none := (eO_m1 (fun j hj => Nat.lt_trans (hL j hj).1 (by decide))).mp h2
    refine vq_iconst (v := 0) d_V_hasHeirs_23 (by decide) ?_
    refine vq_zret d_V_hasHeirs_24 rfl (by first | exact Or.inl rfl | exact Or.inr rfl | assumption) (by decide) (by decide) rfl rfl ?_
    first | refine ⟨r0 ?_, rfl⟩ | refine ⟨r1 ?_, rfl⟩
    first | (rw [ho]; rfl) | exact h16
  · obtain ⟨j, rfl⟩ : ∃ j, o = some j := by cases o with | none => exact absurd rfl h2 | some j => exact ⟨j, rfl⟩
    obtain ⟨hj, hv⟩ := hL j rfl
    refine vq_aload_n d_V_hasHeirs_5 rfl ?_
    refine vq_getR (k := 6) (C := R_V) (T := T_V) d_V_hasHeirs_6 rfl in_V w_96 (by decide) rfl (by decide) rfl rfl ?_
    refine vq_iload_n d_V_hasHeirs_9 rfl ?_
    refine vq_bipush (v := 20) d_V_hasHeirs_10 (by decide) ?_
    refine vq_imul d_V_hasHeirs_12 ?_
    refine vq_iload_n d_V_hasHeirs_13 rfl ?_
    refine vq_iadd d_V_hasHeirs_14 ?_
    refine vq_zald d_V_hasHeirs_15 (by decide) rfl (ix20 h j) (show _ < 80 by omega) ?_
    refine vq_if_eq (tgt := 23) d_V_hasHeirs_16 (by decide) (fun h16 => ?_) (fun h16 => ?_)
    · rw [hv, bI_0] at h16
      refine vq_iconst (v := 0) d_V_hasHeirs_23 (by decide) ?_
      refine vq_zret d_V_hasHeirs_24 rfl (by first | exact Or.inl rfl | exact Or.inr rfl | assumption) (by decide) (by decide) rfl rfl ?_
      first | refine ⟨r0 ?_, rfl⟩ | refine ⟨r1 ?_, rfl⟩
      first | (rw [ho]; rfl) | exact h16
    · rw [hv, bI_n0] at h16
      refine vq_iconst (v := 1) d_V_hasHeirs_19 (by decide) ?_
      refine vq_goto (tgt := 24) d_V_hasHeirs_20 (by decide) ?_
      refine vq_zret d_V_hasHeirs_24 rfl (by first | exact Or.inl rfl | exact Or.inr rfl | assumption) (by decide) (by decide) rfl rfl ?_
      first | refine ⟨r0 ?_, rfl⟩ | refine ⟨r1 ?_, rfl⟩
      first | (rw [ho]; rfl) | exact h16
set_option maxRecDepth 100000 in
set_option maxHeartbeats 4000000 in
theorem ct_V_addBranch (l : Launch) (b : Nat) (id : Nat → ClassId) (D : va_G) {g : Sg} {o : Option Nat} (hL : ∀ j, o = some j → j < 20) : qCT l b id D m_V_addBranch false [.ref (b + 29), .int (eO o)] 85 kT g 85 kT (fun v g' => v = none ∧ g' = sI g 31 (ab (g.1 31) o)) (fun _ _ => False) := by
  refine qCT_of rfl (by decide) (Nat.le_of_ble_eq_true rfl) ?_
  show Vq l b id D m_V_addBranch false 85 kT _ 85 kT _ 85 kT 0 0 0 [(0, .ref (b + 29)), (1, .int (eO o))] [] g
  refine vq_iload_n d_V_addBranch_0 rfl ?_
  refine vq_iconst (v := -1) d_V_addBranch_1 (by decide) ?_
  refine vq_icmp_eq (tgt := 15) d_V_addBranch_2 (by decide) (fun h2 => ?_) (fun h2 => ?_)
  · have ho : o = none := (eO_m1 (fun j hj => Nat.lt_trans (hL j hj) (by decide))).mp h2
    refine vq_vret d_V_addBranch_15 rfl (by decide) (by decide) rfl rfl ?_
    first | (refine ⟨rfl, ?_⟩; rw [ho]; exact (sI_id g 31).symm) | exact ⟨rfl, rfl⟩
  · obtain ⟨j, rfl⟩ : ∃ j, o = some j := by cases o with | none => exact absurd rfl h2 | some j => exact ⟨j, rfl⟩
    have hj := hL j rfl
    refine vq_aload_n d_V_addBranch_5 rfl ?_
    refine vq_getR (k := 5) (C := R_V) (T := T_V) d_V_addBranch_6 rfl in_V w_94 (by decide) rfl (by decide) rfl rfl ?_
    refine vq_iload_n d_V_addBranch_9 rfl ?_
    refine vq_dup2_11 d_V_addBranch_10 rfl rfl ?_
    refine vq_iald d_V_addBranch_11 (by decide) rfl rfl (show _ < 20 by omega) ?_
    refine vq_iconst (v := 1) d_V_addBranch_12 (by decide) ?_
    refine vq_iadd d_V_addBranch_13 ?_
    refine vq_iast d_V_addBranch_14 rfl (by decide) rfl rfl (show _ < 20 by omega) ?_
    refine vq_vret d_V_addBranch_15 rfl (by decide) (by decide) rfl rfl ?_
    first | (refine ⟨rfl, ?_⟩; rw [ho]; exact (sI_id g 31).symm) | exact ⟨rfl, rfl⟩
def IStems (g : Sg) (F : Fam) (e i : Nat) (g1 : Sg) : Prop := i ≤ zn F ∧ g1.2 = g.2 ∧ (∀ q, q ≠ 30 → q ≠ 31 → q ≠ 32 → g1.1 q = g.1 q) ∧ (∀ p, i ≤ p → p < zn F → g1.1 30 p = bI (zl F e p)) ∧ (∀ p, p < zn F → g1.1 31 p = nI (zBf F e i p)) ∧ (∀ p, i ≤ p → p < zn F → g1.1 32 p = bI (zX F e p))
theorem stems_no {g g1 : Sg} {F : Fam} {e j : Nat} (h : IStems g F e (j + 1) g1) (hx : zX F e j = false) : IStems g F e j (sI (sI g1 30 (upd (g1.1 30) j (bI (zl F e j)))) 32 (upd (g1.1 32) j (bI (zX F e j)))) := by
  obtain ⟨h1, h2, h3, h4, h5, h6⟩ := h
  refine ⟨by omega, h2, fun q a c d => by simp [sI, a, d]; exact h3 q a c d, fun p hp hn => ?_, fun p hn => ?_, fun p hp hn => ?_⟩
  · by_cases ej : p = j
    · subst ej; simp [sI, upd]
    · simp [sI, upd, ej]; exact h4 p (by omega) hn
  · have hk : zk F e p j = false := by unfold zk; simp [hx]
    have := h5 p hn
    rw [zBf_cut F e p (by omega)]
    simp [sI, hk]; exact this
  · by_cases ej : p = j
    · subst ej; simp [sI, upd]
    · simp [sI, upd, ej]; exact h6 p (by omega) hn
theorem stems_yes {g g1 : Sg} {F : Fam} (hW : zW F) {e j : Nat} (h : IStems g F e (j + 1) g1) (hx : zX F e j = true) {g2 : Sg} (hg : g2 = sI (sI g1 30 (upd (g1.1 30) j (bI (zl F e j)))) 32 (upd (g1.1 32) j (bI (zX F e j)))) : IStems g F e j (sI g2 31 (ab (ab (g1.1 31) (za F j)) (zb F j))) := by
  obtain ⟨h1, h2, h3, h4, h5, h6⟩ := h
  subst hg
  refine ⟨by omega, h2, fun q a c d => by simp [sI, a, c, d]; exact h3 q a c d, fun p hp hn => ?_, fun p hn => ?_, fun p hp hn => ?_⟩
  · by_cases ej : p = j
    · subst ej; simp [sI, upd]
    · simp [sI, upd, ej]; exact h4 p (by omega) hn
  · have h5p := h5 p hn
    rw [zBf_cut F e p (by omega), sI_s, ab_at, ab_at, h5p]
    by_cases ha : za F j = some p
    · have hb : zb F j ≠ some p := hW.2.2.2.1 j p (by omega) ha
      have hpj := hW.2.1 j p (by omega) ha
      have hk : zk F e p j = true := by unfold zk zch; simp [hx, ha, hpj]
      rw [if_pos ha, if_neg hb, if_pos hk, Int32.add_zero]; exact nI_1 _
    · by_cases hb : zb F j = some p
      · have hpj := hW.2.2.1 j p (by omega) hb
        have hk : zk F e p j = true := by unfold zk zch; simp [hx, hb, hpj]
        rw [if_neg ha, if_pos hb, if_pos hk, Int32.add_zero]; exact nI_1 _
      · have hk : ¬ zk F e p j = true := by
          unfold zk zch; simp [ha, hb]
        rw [if_neg ha, if_neg hb, if_neg hk, Int32.add_zero, Int32.add_zero]; rfl
  · by_cases ej : p = j
    · subst ej; simp [sI, upd]
    · simp [sI, upd, ej]; exact h6 p (by omega) hn
set_option maxRecDepth 100000 in
set_option maxHeartbeats 4000000 in
theorem ct_V_findStems (l : Launch) (b : Nat) (id : Nat → ClassId) (D : va_G) {g : Sg} {F : Fam} (hW : zW F) (hc : Hc g F) {e u : Nat} (he : e < zn F) (hu : zd F e = some u) (hde : g.1 29 1 = nI e) : qCT l b id D m_V_findStems false [.ref (b + 29)] 85 kT g 85 kT (fun v g' => v = none ∧ g'.2 = g.2 ∧ (∀ q, q ≠ 30 → q ≠ 31 → q ≠ 32 → g'.1 q = g.1 q) ∧ (∀ p, p < zn F → g'.1 30 p = bI (zl F e p)) ∧ (∀ p, p < zn F → g'.1 31 p = nI (zB F e p)) ∧ (∀ p, p < zn F → g'.1 32 p = bI (zX F e p))) (fun _ _ => False) := by
  have hn := hW.1
  refine qCT_of rfl (by decide) (Nat.le_of_ble_eq_true rfl) ?_
  show Vq l b id D m_V_findStems false 85 kT _ 85 kT _ 85 kT 0 0 0 [(0, .ref (b + 29))] [] g
  have loop : ∀ (n9 : Nat) (i : Nat) (g1 : Sg), i = n9 → IStems g F e i g1 → Vq l b id D m_V_findStems false 85 kT (fun v g' => v = none ∧ g'.2 = g.2 ∧ (∀ q, q ≠ 30 → q ≠ 31 → q ≠ 32 → g'.1 q = g.1 q) ∧ (∀ p, p < zn F → g'.1 30 p = bI (zl F e p)) ∧ (∀ p, p < zn F → g'.1 31 p = nI (zB F e p)) ∧ (∀ p, p < zn F → g'.1 32 p = bI (zX F e p))) 85 kT (fun _ _ => False) 85 kT 0 0 18 [(1, .int (nI i - 1)), (0, .ref (b + 29))] [] g1 := by
    intro n9
    induction n9 using Nat.strongRecOn with
    | ind n9 ih =>
    intro i g1 hm hI
    have hI0 := hI
    obtain ⟨hle, hg2, hfr, hL0, hB, hX0⟩ := hI0
    refine vq_iload_n d_V_findStems_18 rfl ?_
    refine vq_if_lt (tgt := 107) d_V_findStems_19 (by decide) (fun h19 => ?_) (fun h19 => ?_)
    · have hi : i = 0 := by
        cases i with
        | zero => rfl
        | succ j => exact absurd h19 (by rw [nI_pred]; exact nI_pos (by omega))
      subst hi
      refine vq_vret d_V_findStems_107 rfl (by decide) (by decide) rfl rfl ?_
      obtain ⟨-, k2, k3, k4, k5, k6⟩ := hI
      exact ⟨rfl, k2, k3, fun p hp => k4 p (by omega) hp, fun p hp => by rw [← zBf_0]; exact k5 p hp, fun p hp => k6 p (by omega) hp⟩
    · obtain ⟨j, rfl⟩ : ∃ j, i = j + 1 := by
        cases i with
        | zero => exact absurd (by decide) h19
        | succ j => exact ⟨j, rfl⟩
      rw [nI_pred]
      have hj : j < zn F := by omega
      have hBj := hB j hj
      rw [zBf_own F e (Nat.le_refl (j + 1))] at hBj
      have hX := zX_eq F e hj
      have hb20 := zB_le (F := F) (e := e) j
      have hc1 : Hc g1 F := hc.congr (fun q a c => hfr q (by omega) (by omega) (by omega))
      have hde1 : g1.1 29 1 = nI e := by rw [hfr 29 (by decide) (by decide) (by decide)]; exact hde
      have hza := hc1.2.1 j hj
      have hzb := hc1.2.2.1 j hj
      have s101 : ∀ (x : Int32) (g2 : Sg), IStems g F e j g2 → Vq l b id D m_V_findStems false 85 kT (fun v g' => v = none ∧ g'.2 = g.2 ∧ (∀ q, q ≠ 30 → q ≠ 31 → q ≠ 32 → g'.1 q = g.1 q) ∧ (∀ p, p < zn F → g'.1 30 p = bI (zl F e p)) ∧ (∀ p, p < zn F → g'.1 31 p = nI (zB F e p)) ∧ (∀ p, p < zn F → g'.1 32 p = bI (zX F e p))) 85 kT (fun _ _ => False) 85 kT 0 0 101 [(2, .int x), (1, .int (nI j)), (0, .ref (b + 29))] [] g2 := by
        intro x g2 hI2
        refine vq_iinc (k := 1) (lv' := [(1, _), (2, _), (0, _)]) d_V_findStems_101 rfl (im1 (nI j)) (by decide) rfl ?_
        refine vq_goto (tgt := 18) d_V_findStems_104 (by decide) ?_
        refine vq_pk [0, 2] (lv' := [(1, _), (0, _)]) rfl ?_
        exact ih j (by omega) j _ rfl hI2
      have s63 : Vq l b id D m_V_findStems false 85 kT (fun v g' => v = none ∧ g'.2 = g.2 ∧ (∀ q, q ≠ 30 → q ≠ 31 → q ≠ 32 → g'.1 q = g.1 q) ∧ (∀ p, p < zn F → g'.1 30 p = bI (zl F e p)) ∧ (∀ p, p < zn F → g'.1 31 p = nI (zB F e p)) ∧ (∀ p, p < zn F → g'.1 32 p = bI (zX F e p))) 85 kT (fun _ _ => False) 85 kT 0 0 63 [(1, .int (nI j)), (0, .ref (b + 29))] [.int (bI (zX F e j))] (sI g1 30 (upd (g1.1 30) j (bI (zl F e j)))) := by
        refine vq_istore_n (lv' := [(2, _), (1, _), (0, _)]) d_V_findStems_63 (by decide) rfl ?_
        refine vq_aload_n d_V_findStems_64 rfl ?_
        refine vq_getR (k := 6) (C := R_V) (T := T_V) d_V_findStems_65 rfl in_V w_96 (by decide) rfl (by decide) rfl rfl ?_
        refine vq_iload_n d_V_findStems_68 rfl ?_
        refine vq_iload_n d_V_findStems_69 rfl ?_
        refine vq_zast d_V_findStems_70 rfl (by decide) rfl rfl (show _ < 80 by omega) (bI_01 _) ?_
        refine vq_iload_n d_V_findStems_71 rfl ?_
        refine vq_if_eq (tgt := 101) d_V_findStems_72 (by decide) (fun h72 => ?_) (fun h72 => ?_)
        · have hx := bI_0.mp h72
          exact s101 _ _ (stems_no hI hx)
        · have hx := bI_n0.mp h72
          refine vq_aload_n d_V_findStems_75 rfl ?_
          refine vq_aload_n d_V_findStems_76 rfl ?_
          refine vq_getR (k := 0) (C := R_V) (T := T_V) d_V_findStems_77 rfl in_V w_82 (by decide) rfl (by decide) rfl rfl ?_
          refine vq_getR (k := 1) (C := R_F) (T := T_F) d_V_findStems_80 rfl in_F w_39 (by decide) rfl (by decide) rfl rfl ?_
          refine vq_iload_n d_V_findStems_83 rfl ?_
          refine vq_iald d_V_findStems_84 (by decide) rfl rfl (show _ < 20 by omega) ?_
          refine vq_int (y := eO (za F j)) hza ?_
          refine vq_callV (n := 1) (C := R_V) (T := T_V) _ _ d_V_findStems_85 (ct_V_addBranch l b id D (o := za F j) (fun a ha => by have := hW.2.1 j a hj ha; omega)) w_270 w_272 sel_V_addBranch w_273 w_3 rfl ⟨by decide, by decide, by decide +kernel⟩ ⟨by decide, by decide⟩ (by decide) rfl rfl rfl rfl (Nat.le_of_ble_eq_true rfl) rfl rfl rfl ⟨by decide, by decide⟩ (fun _ _ h => h.elim) (fun v85 g85 h85 => ?_)
          rw [h85.1, h85.2]
          refine vq_aload_n d_V_findStems_88 rfl ?_
          refine vq_aload_n d_V_findStems_89 rfl ?_
          refine vq_getR (k := 0) (C := R_V) (T := T_V) d_V_findStems_90 rfl in_V w_82 (by decide) rfl (by decide) rfl rfl ?_
          refine vq_getR (k := 2) (C := R_F) (T := T_F) d_V_findStems_93 rfl in_F w_43 (by decide) rfl (by decide) rfl rfl ?_
          refine vq_iload_n d_V_findStems_96 rfl ?_
          refine vq_iald d_V_findStems_97 (by decide) rfl rfl (show _ < 20 by omega) ?_
          refine vq_int (y := eO (zb F j)) hzb ?_
          refine vq_callV (n := 1) (C := R_V) (T := T_V) _ _ d_V_findStems_98 (ct_V_addBranch l b id D (o := zb F j) (fun a ha => by have := hW.2.2.1 j a hj ha; omega)) w_270 w_272 sel_V_addBranch w_273 w_3 rfl ⟨by decide, by decide, by decide +kernel⟩ ⟨by decide, by decide⟩ (by decide) rfl rfl rfl rfl (Nat.le_of_ble_eq_true rfl) rfl rfl rfl ⟨by decide, by decide⟩ (fun _ _ h => h.elim) (fun v98 g98 h98 => ?_)
          rw [h98.1, h98.2]
          rw [sI_sI]
          exact s101 _ _ (stems_yes hW hI hx rfl)
      refine vq_aload_n d_V_findStems_22 rfl ?_
      refine vq_getR (k := 4) (C := R_V) (T := T_V) d_V_findStems_23 rfl in_V w_92 (by decide) rfl (by decide) rfl rfl ?_
      refine vq_iload_n d_V_findStems_26 rfl ?_
      refine vq_aload_n d_V_findStems_27 rfl ?_
      refine vq_getR (k := 0) (C := R_V) (T := T_V) d_V_findStems_28 rfl in_V w_82 (by decide) rfl (by decide) rfl rfl ?_
      refine vq_iload_n d_V_findStems_31 rfl ?_
      refine vq_aload_n d_V_findStems_32 rfl ?_
      refine vq_getI (k := 1) (C := R_V) (T := T_V) d_V_findStems_33 rfl in_V w_83 (by decide) rfl (by decide) rfl ?_
      refine vq_int (y := nI e) hde1 ?_
      refine vq_callV (n := 2) (C := R_F) (T := T_F) _ _ d_V_findStems_36 (ct_F_isLeft l b id D hW hc1 hj he hu) w_261 w_262 w_263 w_264 w_2 rfl ⟨by decide, by decide, by decide +kernel⟩ ⟨by decide, by decide⟩ (by decide) rfl rfl rfl rfl (Nat.le_of_ble_eq_true rfl) rfl rfl rfl ⟨by decide, by decide⟩ (fun _ _ h => h.elim) (fun v36 g36 h36 => ?_)
      rw [h36.1, h36.2]
      refine vq_zast d_V_findStems_39 rfl (by decide) rfl rfl (show _ < 20 by omega) (bI_01 _) ?_
      refine vq_aload_n d_V_findStems_40 rfl ?_
      refine vq_getR (k := 4) (C := R_V) (T := T_V) d_V_findStems_41 rfl in_V w_92 (by decide) rfl (by decide) rfl rfl ?_
      refine vq_iload_n d_V_findStems_44 rfl ?_
      refine vq_zald d_V_findStems_45 (by decide) rfl rfl (show _ < 20 by omega) ?_
      refine vq_int (show _ = bI (zl F e j) by simp [sI, upd]) ?_
      refine vq_if_ne (tgt := 58) d_V_findStems_46 (by decide) (fun h46 => ?_) (fun h46 => ?_)
      · have hx : zX F e j = true := by rw [hX, bI_n0.mp h46]; rfl
        refine vq_iconst (v := 1) d_V_findStems_58 (by decide) ?_
        refine vq_goto (tgt := 63) d_V_findStems_59 (by decide) ?_
        refine vq_int (show _ = bI (zX F e j) by rw [hx]; rfl) ?_
        exact s63
      · have hl0 := bI_0.mp h46
        refine vq_aload_n d_V_findStems_49 rfl ?_
        refine vq_getR (k := 5) (C := R_V) (T := T_V) d_V_findStems_50 rfl in_V w_94 (by decide) rfl (by decide) rfl rfl ?_
        refine vq_iload_n d_V_findStems_53 rfl ?_
        refine vq_iald d_V_findStems_54 (by decide) rfl rfl (show _ < 20 by omega) ?_
        refine vq_int (y := nI (zB F e j)) hBj ?_
        refine vq_if_le (tgt := 62) d_V_findStems_55 (by decide) (fun h55 => ?_) (fun h55 => ?_)
        · rw [nI_n0 (by omega)] at h55
          have hx : zX F e j = false := by rw [hX, hl0]; simp; omega
          refine vq_iconst (v := 0) d_V_findStems_62 (by decide) ?_
          refine vq_int (show _ = bI (zX F e j) by rw [hx]; rfl) ?_
          exact s63
        · rw [nI_n0 (by omega)] at h55
          have hx : zX F e j = true := by rw [hX, hl0]; simp; omega
          refine vq_iconst (v := 1) d_V_findStems_58 (by decide) ?_
          refine vq_goto (tgt := 63) d_V_findStems_59 (by decide) ?_
          refine vq_int (show _ = bI (zX F e j) by rw [hx]; rfl) ?_
          exact s63
  refine vq_aload_n d_V_findStems_0 rfl ?_
  refine vq_getR (k := 5) (C := R_V) (T := T_V) d_V_findStems_1 rfl in_V w_94 (by decide) rfl (by decide) rfl rfl ?_
  refine vq_iconst (v := 0) d_V_findStems_4 (by decide) ?_
  refine vq_callS (n := 2) _ _ d_V_findStems_5 (ct_A_fillI l b id D (q := 31) (by decide) rfl 0) w_258 w_259 w_260 w_13 rfl ⟨by decide, by decide, by decide +kernel⟩ ⟨by decide, by decide⟩ rfl rfl (Nat.le_of_ble_eq_true rfl) rfl rfl rfl ⟨by decide, by decide⟩ (fun _ _ h => h.elim) (fun v5 g5 h5 => ?_)
  obtain ⟨rfl, f, rfl, hf⟩ := h5
  refine vq_aload_n d_V_findStems_8 rfl ?_
  refine vq_getR (k := 0) (C := R_V) (T := T_V) d_V_findStems_9 rfl in_V w_82 (by decide) rfl (by decide) rfl rfl ?_
  refine vq_getI (k := 0) (C := R_F) (T := T_F) d_V_findStems_12 rfl in_F w_36 (by decide) rfl (by decide) rfl ?_
  refine vq_int (y := nI (zn F)) hc.1 ?_
  refine vq_iconst (v := 1) d_V_findStems_15 (by decide) ?_
  refine vq_isub d_V_findStems_16 ?_
  refine vq_istore_n (lv' := [(1, _), (0, _)]) d_V_findStems_17 (by decide) rfl ?_
  exact loop (zn F) (zn F) _ rfl ⟨Nat.le_refl _, rfl, fun q a c d => sI_n c, fun p h1 h2 => absurd h2 (by omega), fun p hp => by rw [sI_s, zBf_n]; exact hf p (show p < 20 by omega), fun p h1 h2 => absurd h2 (by omega)⟩
end
section
/-! SuccessionClerk$Survey: lines, the taker, look. Laid by wip/whole/specs/p23.py -/
/-- lines up to the height k whole, of the next one up to w -/
def ILn (g : Sg) (F : Fam) (e k w : Nat) (g1 : Sg) : Prop := w ≤ zn F ∧ g1.2 = g.2 ∧ (∀ q, q ≠ 32 → g1.1 q = g.1 q) ∧ (∀ h, h ≤ k → ∀ p, p < zn F → g1.1 32 (h * 20 + p) = bI (zY F e h p)) ∧ (∀ p, p < w → g1.1 32 ((k + 1) * 20 + p) = bI (zY F e (k + 1) p))
theorem lines_step {g g1 : Sg} {F : Fam} {e k w : Nat} (hn : zn F ≤ 20) (h : ILn g F e k w g1) (hw : w < zn F) {x : Int32} (hx : x = bI (zY F e (k + 1) w)) : ILn g F e k (w + 1) (sI g1 32 (upd (g1.1 32) ((k + 1) * 20 + w) x)) := by
  obtain ⟨h1, h2, h3, h4, h5⟩ := h
  refine ⟨by omega, h2, fun q hq => by simp [sI, hq]; exact h3 q hq, fun h hh p hp => ?_, fun p hp => ?_⟩
  · have : h * 20 + p ≠ (k + 1) * 20 + w := by omega
    rw [sI_s, upd, if_neg this]; exact h4 h hh p hp
  · by_cases ep : p = w
    · subst ep; rw [sI_s, upd, if_pos rfl]; exact hx
    · rw [sI_s, upd, if_neg (by omega)]; exact h5 p (by omega)
theorem zt_found {F : Fam} {e h : Nat} (hH : h ≤ if (zw F e).isNone = true then 3 else 2) (hb : ∀ j, j < h → zY F e j e = false) (hy : zY F e h e = true) : zt F e = h := by
  unfold zt
  have h4 : h = 0 ∨ h = 1 ∨ h = 2 ∨ h = 3 := by split at hH <;> omega
  rcases h4 with rfl | rfl | rfl | rfl
  · simp [hy]
  · simp [hb 0 (by omega), hy]
  · simp [hb 0 (by omega), hb 1 (by omega), hy]
  · have hw : (zw F e).isNone = true := by
      cases hz : (zw F e).isNone with
      | true => rfl
      | false => rw [hz] at hH; simp at hH
    simp only [hb 0 (by omega), hb 1 (by omega), hb 2 (by omega), hw, hy]; simp
theorem zt_none {F : Fam} {e : Nat} (hb : ∀ j, j ≤ (if (zw F e).isNone = true then 3 else 2) → zY F e j e = false) : zt F e = if (zw F e).isNone = true then 5 else 4 := by
  unfold zt
  cases hz : (zw F e).isNone with
  | true =>
    rw [hz] at hb
    simp only [if_true] at hb
    simp [hb 0 (by omega), hb 1 (by omega), hb 2 (by omega), hb 3 (by omega)]
  | false =>
    rw [hz] at hb
    simp at hb
    simp [hb 0 (by omega), hb 1 (by omega), hb 2 (by omega)]
/-- what a survey holds -/
def LK (g : Sg) (F : Fam) (e : Nat) : Prop := g.1 29 1 = nI e ∧ g.1 29 2 = eO (zw F e) ∧ g.1 29 3 = nI (zt F e) ∧ (∀ p, p < zn F → g.1 30 p = bI (zl F e p)) ∧ (∀ p, p < zn F → g.1 31 p = nI (zB F e p)) ∧ (∀ h, h ≤ 3 → ∀ p, p < zn F → g.1 32 (h * 20 + p) = bI (zY F e h p))
theorem LK.congr {g g' : Sg} {F : Fam} {e : Nat} (h : LK g F e) (hq : ∀ q, 29 ≤ q → q ≤ 32 → g'.1 q = g.1 q) : LK g' F e := by
  obtain ⟨h1, h2, h3, h4, h5, h6⟩ := h
  rw [← hq 29 (by omega) (by omega)] at h1 h2 h3
  exact ⟨h1, h2, h3, fun p hp => by rw [hq 30 (by omega) (by omega)]; exact h4 p hp, fun p hp => by rw [hq 31 (by omega) (by omega)]; exact h5 p hp, fun h hh p hp => by rw [hq 32 (by omega) (by omega)]; exact h6 h hh p hp⟩
theorem zt_le (F : Fam) (e : Nat) : zt F e ≤ 5 := by
  unfold zt
  split
  · omega
  · split
    · omega
    · split
      · omega
      · split
        · split <;> omega
        · omega
theorem zw_isNone {F : Fam} (hW : zW F) {e : Nat} (he : e < zn F) : ∀ k, zw F e = some k → k < 2 ^ 31 := fun k h => Nat.lt_trans (zw_lt hW he h).1 (Nat.lt_of_le_of_lt hW.1 (by decide))
set_option maxRecDepth 100000 in
set_option maxHeartbeats 4000000 in
theorem ct_V_findLines (l : Launch) (b : Nat) (id : Nat → ClassId) (D : va_G) {g : Sg} {F : Fam} (hW : zW F) (hc : Hc g F) {e : Nat} (h0 : ∀ p, p < zn F → g.1 32 p = bI (zX F e p)) : qCT l b id D m_V_findLines false [.ref (b + 29)] 85 kT g 85 kT (fun v g' => v = none ∧ g'.2 = g.2 ∧ (∀ q, q ≠ 32 → g'.1 q = g.1 q) ∧ (∀ h, h ≤ 3 → ∀ p, p < zn F → g'.1 32 (h * 20 + p) = bI (zY F e h p))) (fun _ _ => False) := by
  have hn := hW.1
  refine qCT_of rfl (by decide) (Nat.le_of_ble_eq_true rfl) ?_
  show Vq l b id D m_V_findLines false 85 kT _ 85 kT _ 85 kT 0 0 0 [(0, .ref (b + 29))] [] g
  have loop : ∀ (n9 : Nat) (k : Nat) (g1 : Sg), 3 - k = n9 → (k ≤ 3 ∧ g1.2 = g.2 ∧ (∀ q, q ≠ 32 → g1.1 q = g.1 q) ∧ (∀ h, h ≤ k → ∀ p, p < zn F → g1.1 32 (h * 20 + p) = bI (zY F e h p))) → Vq l b id D m_V_findLines false 85 kT (fun v g' => v = none ∧ g'.2 = g.2 ∧ (∀ q, q ≠ 32 → g'.1 q = g.1 q) ∧ (∀ h, h ≤ 3 → ∀ p, p < zn F → g'.1 32 (h * 20 + p) = bI (zY F e h p))) 85 kT (fun _ _ => False) 85 kT 0 0 2 [(1, .int (nI (k + 1))), (0, .ref (b + 29))] [] g1 := by
    intro n9
    induction n9 using Nat.strongRecOn with
    | ind n9 ih =>
    intro k g1 hm hI
    have hk9 := hI.1
    refine vq_iload_n d_V_findLines_2 rfl ?_
    refine vq_iconst (v := 3) d_V_findLines_3 (by decide) ?_
    refine vq_icmp_gt (tgt := 86) d_V_findLines_4 (by decide) (fun h4 => ?_) (fun h4 => ?_)
    · have hk3 : k = 3 := by
        have h4b := h4
        rw [show (3 : Int32) = nI 3 from rfl, nI_ltI (by decide) (by omega)] at h4b
        omega
      subst hk3
      refine vq_vret d_V_findLines_86 rfl (by decide) (by decide) rfl rfl ?_
      exact ⟨rfl, hI.2.1, hI.2.2.1, hI.2.2.2⟩
    · have hk3 : k < 3 := by
        have h4b := h4
        rw [show (3 : Int32) = nI 3 from rfl, nI_ltI (by decide) (by omega)] at h4b
        omega
      have inner : ∀ (n8 : Nat) (w : Nat) (g1 : Sg), zn F - w = n8 → ILn g F e k w g1 → Vq l b id D m_V_findLines false 85 kT (fun v g' => v = none ∧ g'.2 = g.2 ∧ (∀ q, q ≠ 32 → g'.1 q = g.1 q) ∧ (∀ h, h ≤ 3 → ∀ p, p < zn F → g'.1 32 (h * 20 + p) = bI (zY F e h p))) 85 kT (fun _ _ => False) 85 kT 0 0 9 [(2, .int (nI w)), (1, .int (nI (k + 1))), (0, .ref (b + 29))] [] g1 := by
        intro n8
        induction n8 using Nat.strongRecOn with
        | ind n8 ih8 =>
        intro w g1 hm8 hI8
        have hI0 := hI8
        obtain ⟨hle, hg2, hfr, hprev, hcur⟩ := hI0
        have hc1 : Hc g1 F := hc.congr (fun q a c => hfr q (by omega))
        refine vq_iload_n d_V_findLines_9 rfl ?_
        refine vq_aload_n d_V_findLines_10 rfl ?_
        refine vq_getR (k := 0) (C := R_V) (T := T_V) d_V_findLines_11 rfl in_V w_82 (by decide) rfl (by decide) rfl rfl ?_
        refine vq_getI (k := 0) (C := R_F) (T := T_F) d_V_findLines_14 rfl in_F w_36 (by decide) rfl (by decide) rfl ?_
        refine vq_int (y := nI (zn F)) hc1.1 ?_
        refine vq_icmp_ge (tgt := 80) d_V_findLines_17 (by decide) (fun h17 => ?_) (fun h17 => ?_)
        · have hw : w = zn F := by
            rw [nI_leI (by omega) (by omega)] at h17
            omega
          subst hw
          refine vq_iinc (k := 1) (lv' := [(1, _), (2, _), (0, _)]) d_V_findLines_80 rfl (ip1 (k + 1)) (by decide) rfl ?_
          refine vq_goto (tgt := 2) d_V_findLines_83 (by decide) ?_
          refine vq_pk [0, 2] (lv' := [(1, _), (0, _)]) rfl ?_
          exact ih (3 - (k + 1)) (by omega) (k + 1) _ rfl ⟨by omega, hg2, hfr, fun h hh p hp => by
            by_cases e1 : h = k + 1
            · subst e1; exact hcur p hp
            · exact hprev h (by omega) p hp⟩
        · have hw : w < zn F := by
            rw [nI_leI (by omega) (by omega)] at h17
            omega
          have hza := hc1.2.1 w hw
          have hzb := hc1.2.2.1 w hw
          have s74 : ∀ (g2 : Sg), ILn g F e k (w + 1) g2 → Vq l b id D m_V_findLines false 85 kT (fun v g' => v = none ∧ g'.2 = g.2 ∧ (∀ q, q ≠ 32 → g'.1 q = g.1 q) ∧ (∀ h, h ≤ 3 → ∀ p, p < zn F → g'.1 32 (h * 20 + p) = bI (zY F e h p))) 85 kT (fun _ _ => False) 85 kT 0 0 74 [(2, .int (nI w)), (1, .int (nI (k + 1))), (0, .ref (b + 29))] [] g2 := by
            intro g2 hI2
            refine vq_iinc (k := 0) (lv' := [(2, _), (1, _), (0, _)]) d_V_findLines_74 rfl (ip1 w) (by decide) rfl ?_
            refine vq_goto (tgt := 9) d_V_findLines_77 (by decide) ?_
            exact ih8 (zn F - (w + 1)) (by omega) (w + 1) _ rfl hI2
          refine vq_aload_n d_V_findLines_20 rfl ?_
          refine vq_getR (k := 6) (C := R_V) (T := T_V) d_V_findLines_21 rfl in_V w_96 (by decide) rfl (by decide) rfl rfl ?_
          refine vq_iload_n d_V_findLines_24 rfl ?_
          refine vq_bipush (v := 20) d_V_findLines_25 (by decide) ?_
          refine vq_imul d_V_findLines_27 ?_
          refine vq_iload_n d_V_findLines_28 rfl ?_
          refine vq_iadd d_V_findLines_29 ?_
          refine vq_aload_n d_V_findLines_30 rfl ?_
          refine vq_aload_n d_V_findLines_31 rfl ?_
          refine vq_getR (k := 0) (C := R_V) (T := T_V) d_V_findLines_32 rfl in_V w_82 (by decide) rfl (by decide) rfl rfl ?_
          refine vq_getR (k := 1) (C := R_F) (T := T_F) d_V_findLines_35 rfl in_F w_39 (by decide) rfl (by decide) rfl rfl ?_
          refine vq_iload_n d_V_findLines_38 rfl ?_
          refine vq_iald d_V_findLines_39 (by decide) rfl rfl (show _ < 20 by omega) ?_
          refine vq_int (y := eO (za F w)) hza ?_
          refine vq_iload_n d_V_findLines_40 rfl ?_
          refine vq_iconst (v := 1) d_V_findLines_41 (by decide) ?_
          refine vq_isub d_V_findLines_42 ?_
          rw [nI_pred]
          refine vq_callV (n := 2) (C := R_V) (T := T_V) _ _ d_V_findLines_43 (ct_V_hasHeirs l b id D (o := za F w) (h := k) (Y := zY F e k) (by omega) (fun j hj => ⟨by have := hW.2.1 w j hw hj; omega, hprev k (Nat.le_refl k) j (by have := hW.2.1 w j hw hj; omega)⟩)) w_278 w_279 w_280 w_281 w_3 rfl ⟨by decide, by decide, by decide +kernel⟩ ⟨by decide, by decide⟩ (by decide) rfl rfl rfl rfl (Nat.le_of_ble_eq_true rfl) rfl rfl rfl ⟨by decide, by decide⟩ (fun _ _ h => h.elim) (fun v43 g43 h43 => ?_)
          rw [h43.1, h43.2]
          refine vq_if_ne (tgt := 68) d_V_findLines_46 (by decide) (fun h46 => ?_) (fun h46 => ?_)
          · have hy : zY F e (k + 1) w = true := by show (zoB (za F w) (zY F e k) || zoB (zb F w) (zY F e k)) = true; rw [bI_n0.mp h46]; rfl
            refine vq_iconst (v := 1) d_V_findLines_68 (by decide) ?_
            refine vq_goto (tgt := 73) d_V_findLines_69 (by decide) ?_
            refine vq_zast d_V_findLines_73 rfl (by decide) rfl (ix20 (k + 1) w) (show _ < 80 by omega) (by first | exact Or.inl rfl | exact Or.inr rfl) ?_
            exact s74 _ (lines_step hn hI8 hw (by rw [hy]; rfl))
          · have hy0 := bI_0.mp h46
            refine vq_aload_n d_V_findLines_49 rfl ?_
            refine vq_aload_n d_V_findLines_50 rfl ?_
            refine vq_getR (k := 0) (C := R_V) (T := T_V) d_V_findLines_51 rfl in_V w_82 (by decide) rfl (by decide) rfl rfl ?_
            refine vq_getR (k := 2) (C := R_F) (T := T_F) d_V_findLines_54 rfl in_F w_43 (by decide) rfl (by decide) rfl rfl ?_
            refine vq_iload_n d_V_findLines_57 rfl ?_
            refine vq_iald d_V_findLines_58 (by decide) rfl rfl (show _ < 20 by omega) ?_
            refine vq_int (y := eO (zb F w)) hzb ?_
            refine vq_iload_n d_V_findLines_59 rfl ?_
            refine vq_iconst (v := 1) d_V_findLines_60 (by decide) ?_
            refine vq_isub d_V_findLines_61 ?_
            rw [nI_pred]
            refine vq_callV (n := 2) (C := R_V) (T := T_V) _ _ d_V_findLines_62 (ct_V_hasHeirs l b id D (o := zb F w) (h := k) (Y := zY F e k) (by omega) (fun j hj => ⟨by have := hW.2.2.1 w j hw hj; omega, hprev k (Nat.le_refl k) j (by have := hW.2.2.1 w j hw hj; omega)⟩)) w_278 w_279 w_280 w_281 w_3 rfl ⟨by decide, by decide, by decide +kernel⟩ ⟨by decide, by decide⟩ (by decide) rfl rfl rfl rfl (Nat.le_of_ble_eq_true rfl) rfl rfl rfl ⟨by decide, by decide⟩ (fun _ _ h => h.elim) (fun v62 g62 h62 => ?_)
            rw [h62.1, h62.2]
            refine vq_if_eq (tgt := 72) d_V_findLines_65 (by decide) (fun h65 => ?_) (fun h65 => ?_)
            · have hy : zY F e (k + 1) w = false := by show (zoB (za F w) (zY F e k) || zoB (zb F w) (zY F e k)) = false; rw [hy0, bI_0.mp h65]; rfl
              refine vq_iconst (v := 0) d_V_findLines_72 (by decide) ?_
              refine vq_zast d_V_findLines_73 rfl (by decide) rfl (ix20 (k + 1) w) (show _ < 80 by omega) (by first | exact Or.inl rfl | exact Or.inr rfl) ?_
              exact s74 _ (lines_step hn hI8 hw (by rw [hy]; rfl))
            · have hy : zY F e (k + 1) w = true := by show (zoB (za F w) (zY F e k) || zoB (zb F w) (zY F e k)) = true; rw [hy0, bI_n0.mp h65]; rfl
              refine vq_iconst (v := 1) d_V_findLines_68 (by decide) ?_
              refine vq_goto (tgt := 73) d_V_findLines_69 (by decide) ?_
              refine vq_zast d_V_findLines_73 rfl (by decide) rfl (ix20 (k + 1) w) (show _ < 80 by omega) (by first | exact Or.inl rfl | exact Or.inr rfl) ?_
              exact s74 _ (lines_step hn hI8 hw (by rw [hy]; rfl))
      refine vq_iconst (v := 0) d_V_findLines_7 (by decide) ?_
      refine vq_istore_n (lv' := [(2, _), (1, _), (0, _)]) d_V_findLines_8 (by decide) rfl ?_
      exact inner (zn F) 0 _ rfl ⟨by omega, hI.2.1, hI.2.2.1, hI.2.2.2, fun p hp => absurd hp (Nat.not_lt_zero p)⟩
  refine vq_iconst (v := 1) d_V_findLines_0 (by decide) ?_
  refine vq_istore_n (lv' := [(1, _), (0, _)]) d_V_findLines_1 (by decide) rfl ?_
  exact loop 3 0 _ rfl ⟨by omega, rfl, fun q hq => rfl, fun h hh p hp => by rw [show h = 0 by omega]; rw [Nat.zero_mul, Nat.zero_add]; exact h0 p hp⟩
set_option maxRecDepth 100000 in
set_option maxHeartbeats 4000000 in
theorem ct_V_findTaker (l : Launch) (b : Nat) (id : Nat → ClassId) (D : va_G) {g : Sg} {F : Fam} (hW : zW F) {e : Nat} (he : e < zn F) (hde : g.1 29 1 = nI e) (hwd : g.1 29 2 = eO (zw F e)) (hY : ∀ h, h ≤ 3 → ∀ p, p < zn F → g.1 32 (h * 20 + p) = bI (zY F e h p)) : qCT l b id D m_V_findTaker false [.ref (b + 29)] 85 kT g 85 kT (fun v g' => v = some (.int (nI (zt F e))) ∧ g' = g) (fun _ _ => False) := by
  have hn := hW.1
  refine qCT_of rfl (by decide) (Nat.le_of_ble_eq_true rfl) ?_
  show Vq l b id D m_V_findTaker false 85 kT _ 85 kT _ 85 kT 0 0 0 [(0, .ref (b + 29))] [] g
  have loop : ∀ (n9 : Nat) (h H : Nat), 4 - h = n9 → (H = (if (zw F e).isNone = true then 3 else 2) ∧ h ≤ H + 1 ∧ ∀ j, j < h → zY F e j e = false) → Vq l b id D m_V_findTaker false 85 kT (fun v g' => v = some (.int (nI (zt F e))) ∧ g' = g) 85 kT (fun _ _ => False) 85 kT 0 0 16 [(2, .int (nI h)), (1, .int (nI H)), (0, .ref (b + 29))] [] g := by
    intro n9
    induction n9 using Nat.strongRecOn with
    | ind n9 ih =>
    intro h H hm hI
    have hH3 : H ≤ 3 := by have := hI.1; split at this <;> omega
    have hhH := hI.2.1
    have hHe := hI.1
    refine vq_iload_n d_V_findTaker_16 rfl ?_
    refine vq_iload_n d_V_findTaker_17 rfl ?_
    refine vq_icmp_gt (tgt := 41) d_V_findTaker_18 (by decide) (fun h18 => ?_) (fun h18 => ?_)
    · have hh : h = H + 1 := by
        rw [nI_ltI (by omega) (by omega)] at h18
        omega
      refine vq_aload_n d_V_findTaker_41 rfl ?_
      refine vq_getI (k := 2) (C := R_V) (T := T_V) d_V_findTaker_42 rfl in_V w_86 (by decide) rfl (by decide) rfl ?_
      refine vq_int (y := eO (zw F e)) hwd ?_
      refine vq_iconst (v := -1) d_V_findTaker_45 (by decide) ?_
      refine vq_icmp_ne (tgt := 53) d_V_findTaker_46 (by decide) (fun h46 => ?_) (fun h46 => ?_)
      · rw [eO_m1 (zw_isNone hW he)] at h46
        refine vq_iconst (v := 4) d_V_findTaker_53 (by decide) ?_
        refine vq_iret d_V_findTaker_54 rfl (by decide) (by decide) rfl rfl ?_
        refine ⟨?_, rfl⟩
        rw [zt_none (fun j hj => hI.2.2 j (by omega))]
        cases hz : zw F e with
        | none => first | rfl | exact absurd hz h46
        | some x => first | rfl | (rw [hz] at h46; cases h46)
      · rw [eO_m1 (zw_isNone hW he)] at h46
        refine vq_iconst (v := 5) d_V_findTaker_49 (by decide) ?_
        refine vq_goto (tgt := 54) d_V_findTaker_50 (by decide) ?_
        refine vq_iret d_V_findTaker_54 rfl (by decide) (by decide) rfl rfl ?_
        refine ⟨?_, rfl⟩
        rw [zt_none (fun j hj => hI.2.2 j (by omega))]
        cases hz : zw F e with
        | none => first | rfl | exact absurd hz h46
        | some x => first | rfl | (rw [hz] at h46; cases h46)
    · have hh : h ≤ H := by
        rw [nI_ltI (by omega) (by omega)] at h18
        omega
      refine vq_aload_n d_V_findTaker_21 rfl ?_
      refine vq_aload_n d_V_findTaker_22 rfl ?_
      refine vq_getI (k := 1) (C := R_V) (T := T_V) d_V_findTaker_23 rfl in_V w_83 (by decide) rfl (by decide) rfl ?_
      refine vq_int (y := nI e) hde ?_
      refine vq_iload_n d_V_findTaker_26 rfl ?_
      refine vq_callV (n := 2) (C := R_V) (T := T_V) _ _ d_V_findTaker_27 (ct_V_hasHeirs l b id D (o := some e) (h := h) (Y := zY F e h) (by omega) (fun j hj => by cases hj; exact ⟨by omega, hY h (by omega) e he⟩)) w_278 w_279 w_280 w_281 w_3 rfl ⟨by decide, by decide, by decide +kernel⟩ ⟨by decide, by decide⟩ (by decide) rfl rfl rfl rfl (Nat.le_of_ble_eq_true rfl) rfl rfl rfl ⟨by decide, by decide⟩ (fun _ _ h => h.elim) (fun v27 g27 h27 => ?_)
      rw [h27.1, h27.2]
      refine vq_if_eq (tgt := 35) d_V_findTaker_30 (by decide) (fun h30 => ?_) (fun h30 => ?_)
      · have hy0 := bI_0.mp h30
        refine vq_iinc (k := 0) (lv' := [(2, _), (1, _), (0, _)]) d_V_findTaker_35 rfl (ip1 h) (by decide) rfl ?_
        refine vq_goto (tgt := 16) d_V_findTaker_38 (by decide) ?_
        exact ih (4 - (h + 1)) (by omega) (h + 1) H rfl ⟨hI.1, by omega, fun j hj => by
          by_cases e1 : j = h
          · subst e1; exact hy0
          · exact hI.2.2 j (by omega)⟩
      · have hy := bI_n0.mp h30
        refine vq_iload_n d_V_findTaker_33 rfl ?_
        refine vq_iret d_V_findTaker_34 rfl (by decide) (by decide) rfl rfl ?_
        exact ⟨by rw [zt_found (h := h) (by omega) hI.2.2 hy], rfl⟩
  refine vq_aload_n d_V_findTaker_0 rfl ?_
  refine vq_getI (k := 2) (C := R_V) (T := T_V) d_V_findTaker_1 rfl in_V w_86 (by decide) rfl (by decide) rfl ?_
  refine vq_int (y := eO (zw F e)) hwd ?_
  refine vq_iconst (v := -1) d_V_findTaker_4 (by decide) ?_
  refine vq_icmp_ne (tgt := 12) d_V_findTaker_5 (by decide) (fun h5 => ?_) (fun h5 => ?_)
  · rw [eO_m1 (zw_isNone hW he)] at h5
    have hH : (if (zw F e).isNone = true then 3 else 2) = 2 := if_neg (fun hz => h5 (Option.isNone_iff_eq_none.mp hz))
    refine vq_iconst (v := 2) d_V_findTaker_12 (by decide) ?_
    refine vq_istore_n (lv' := [(1, _), (0, _)]) d_V_findTaker_13 (by decide) rfl ?_
    refine vq_iconst (v := 0) d_V_findTaker_14 (by decide) ?_
    refine vq_istore_n (lv' := [(2, _), (1, _), (0, _)]) d_V_findTaker_15 (by decide) rfl ?_
    exact loop 4 0 _ rfl ⟨hH.symm, by omega, fun j hj => absurd hj (Nat.not_lt_zero j)⟩
  · have h5b : zw F e = none := by rw [eO_m1 (zw_isNone hW he)] at h5; exact h5
    have hH : (if (zw F e).isNone = true then 3 else 2) = 3 := by rw [h5b]; rfl
    refine vq_iconst (v := 3) d_V_findTaker_8 (by decide) ?_
    refine vq_goto (tgt := 13) d_V_findTaker_9 (by decide) ?_
    refine vq_istore_n (lv' := [(1, _), (0, _)]) d_V_findTaker_13 (by decide) rfl ?_
    refine vq_iconst (v := 0) d_V_findTaker_14 (by decide) ?_
    refine vq_istore_n (lv' := [(2, _), (1, _), (0, _)]) d_V_findTaker_15 (by decide) rfl ?_
    exact loop 4 0 _ rfl ⟨hH.symm, by omega, fun j hj => absurd hj (Nat.not_lt_zero j)⟩
set_option maxRecDepth 100000 in
set_option maxHeartbeats 4000000 in
theorem ct_V_spouseQuarters (l : Launch) (b : Nat) (id : Nat → ClassId) (D : va_G) {g : Sg} {F : Fam} (hW : zW F) {e : Nat} (he : e < zn F) (hk : LK g F e) : qCT l b id D m_V_spouseQuarters false [.ref (b + 29)] 85 kT g 85 kT (fun v g' => v = some (.int (nI (zq F e))) ∧ g' = g) (fun _ _ => False) := by
  have ht5 := zt_le F e
  refine qCT_of rfl (by decide) (Nat.le_of_ble_eq_true rfl) ?_
  show Vq l b id D m_V_spouseQuarters false 85 kT _ 85 kT _ 85 kT 0 0 0 [(0, .ref (b + 29))] [] g
  refine vq_aload_n d_V_spouseQuarters_0 rfl ?_
  refine vq_getI (k := 2) (C := R_V) (T := T_V) d_V_spouseQuarters_1 rfl in_V w_86 (by decide) rfl (by decide) rfl ?_
  refine vq_int (y := eO (zw F e)) hk.2.1 ?_
  refine vq_iconst (v := -1) d_V_spouseQuarters_4 (by decide) ?_
  refine vq_icmp_ne (tgt := 10) d_V_spouseQuarters_5 (by decide) (fun h5 => ?_) (fun h5 => ?_)
  · rw [eO_m1 (zw_isNone hW he)] at h5
    refine vq_aload_n d_V_spouseQuarters_10 rfl ?_
    refine vq_getI (k := 3) (C := R_V) (T := T_V) d_V_spouseQuarters_11 rfl in_V w_89 (by decide) rfl (by decide) rfl ?_
    refine vq_int (y := nI (zt F e)) hk.2.2.1 ?_
    refine vq_if_ne (tgt := 19) d_V_spouseQuarters_14 (by decide) (fun h14 => ?_) (fun h14 => ?_)
    · rw [show (0 : Int32) = nI 0 from rfl, nI_eq (by omega) (by decide)] at h14
      refine vq_aload_n d_V_spouseQuarters_19 rfl ?_
      refine vq_getI (k := 3) (C := R_V) (T := T_V) d_V_spouseQuarters_20 rfl in_V w_89 (by decide) rfl (by decide) rfl ?_
      refine vq_int (y := nI (zt F e)) hk.2.2.1 ?_
      refine vq_iconst (v := 3) d_V_spouseQuarters_23 (by decide) ?_
      refine vq_icmp_gt (tgt := 31) d_V_spouseQuarters_24 (by decide) (fun h24 => ?_) (fun h24 => ?_)
      · rw [show (3 : Int32) = nI 3 from rfl, nI_ltI (by decide) (by omega)] at h24
        refine vq_iconst (v := 4) d_V_spouseQuarters_31 (by decide) ?_
        refine vq_iret d_V_spouseQuarters_32 rfl (by decide) (by decide) rfl rfl ?_
        refine ⟨?_, rfl⟩
        unfold zq
        cases hz : zw F e with
        | none => first | rfl | exact absurd hz h5
        | some x => first | (rw [hz] at h5; cases h5; done) | (rw [show (some x).isNone = false from rfl]; simp only [h14]; rfl) | (rw [show (some x).isNone = false from rfl, if_neg (by decide), if_neg h14, if_pos (by omega)]; rfl) | (rw [show (some x).isNone = false from rfl, if_neg (by decide), if_neg h14, if_neg (by omega)]; rfl)
      · rw [show (3 : Int32) = nI 3 from rfl, nI_ltI (by decide) (by omega)] at h24
        refine vq_iconst (v := 2) d_V_spouseQuarters_27 (by decide) ?_
        refine vq_goto (tgt := 32) d_V_spouseQuarters_28 (by decide) ?_
        refine vq_iret d_V_spouseQuarters_32 rfl (by decide) (by decide) rfl rfl ?_
        refine ⟨?_, rfl⟩
        unfold zq
        cases hz : zw F e with
        | none => first | rfl | exact absurd hz h5
        | some x => first | (rw [hz] at h5; cases h5; done) | (rw [show (some x).isNone = false from rfl]; simp only [h14]; rfl) | (rw [show (some x).isNone = false from rfl, if_neg (by decide), if_neg h14, if_pos (by omega)]; rfl) | (rw [show (some x).isNone = false from rfl, if_neg (by decide), if_neg h14, if_neg (by omega)]; rfl)
    · rw [show (0 : Int32) = nI 0 from rfl, nI_eq (by omega) (by decide)] at h14
      refine vq_iconst (v := 1) d_V_spouseQuarters_17 (by decide) ?_
      refine vq_iret d_V_spouseQuarters_18 rfl (by decide) (by decide) rfl rfl ?_
      refine ⟨?_, rfl⟩
      unfold zq
      cases hz : zw F e with
      | none => first | rfl | exact absurd hz h5
      | some x => first | (rw [hz] at h5; cases h5; done) | (rw [show (some x).isNone = false from rfl]; simp only [h14]; rfl) | (rw [show (some x).isNone = false from rfl, if_neg (by decide), if_neg h14, if_pos (by omega)]; rfl) | (rw [show (some x).isNone = false from rfl, if_neg (by decide), if_neg h14, if_neg (by omega)]; rfl)
  · rw [eO_m1 (zw_isNone hW he)] at h5
    refine vq_iconst (v := 0) d_V_spouseQuarters_8 (by decide) ?_
    refine vq_iret d_V_spouseQuarters_9 rfl (by decide) (by decide) rfl rfl ?_
    refine ⟨?_, rfl⟩
    unfold zq
    cases hz : zw F e with
    | none => first | rfl | exact absurd hz h5
    | some x => first | (rw [hz] at h5; cases h5; done) | (rw [show (some x).isNone = false from rfl]; simp only [h14]; rfl) | (rw [show (some x).isNone = false from rfl, if_neg (by decide), if_neg h14, if_pos (by omega)]; rfl) | (rw [show (some x).isNone = false from rfl, if_neg (by decide), if_neg h14, if_neg (by omega)]; rfl)
set_option maxRecDepth 100000 in
set_option maxHeartbeats 4000000 in
theorem ct_V_look (l : Launch) (b : Nat) (id : Nat → ClassId) (D : va_G) {g : Sg} {F : Fam} (hW : zW F) (hc : Hc g F) {e u : Nat} (he : e < zn F) (hu : zd F e = some u) : qCT l b id D m_V_look false [.ref (b + 29), .int (nI e)] 85 kT g 85 kT (fun v g' => v = none ∧ g'.2 = g.2 ∧ (∀ q, q < 29 ∨ 32 < q → g'.1 q = g.1 q) ∧ (∀ k, k < 1 ∨ 3 < k → g'.1 29 k = g.1 29 k) ∧ LK g' F e) (fun _ _ => False) := by
  have hn := hW.1
  have hc1 : Hc (sI g 29 (upd (g.1 29) 1 (nI e))) F := hc.congr (fun q a c => sI_n (by omega))
  refine qCT_of rfl (by decide) (Nat.le_of_ble_eq_true rfl) ?_
  show Vq l b id D m_V_look false 85 kT _ 85 kT _ 85 kT 0 0 0 [(0, .ref (b + 29)), (1, .int (nI e))] [] g
  refine vq_aload_n d_V_look_0 rfl ?_
  refine vq_iload_n d_V_look_1 rfl ?_
  refine vq_putI (k := 1) (C := R_V) (T := T_V) (ty := .int) t_V d_V_look_2 rfl in_V w_83 ty_V nm_V (by decide) rfl (by decide) rfl (by decide +kernel) rfl rfl rfl ?_
  refine vq_aload_n d_V_look_5 rfl ?_
  refine vq_callV (n := 0) (C := R_V) (T := T_V) _ _ d_V_look_6 (ct_V_findStems l b id D hW hc1 he hu (show _ = nI e by simp [sI, upd])) w_254 w_256 sel_V_findStems w_257 w_3 rfl ⟨by decide, by decide, by decide +kernel⟩ ⟨by decide, by decide⟩ (by decide) rfl rfl rfl rfl (Nat.le_of_ble_eq_true rfl) rfl rfl rfl ⟨by decide, by decide⟩ (fun _ _ h => h.elim) (fun v6 g6 h6 => ?_)
  obtain ⟨rfl, s2, s3, s4, s5, s6⟩ := h6
  have hc2 : Hc g6 F := hc1.congr (fun q a c => s3 q (by omega) (by omega) (by omega))
  refine vq_aload_n d_V_look_9 rfl ?_
  refine vq_callV (n := 0) (C := R_V) (T := T_V) _ _ d_V_look_10 (ct_V_findLines l b id D hW hc2 s6) w_274 w_276 sel_V_findLines w_277 w_3 rfl ⟨by decide, by decide, by decide +kernel⟩ ⟨by decide, by decide⟩ (by decide) rfl rfl rfl rfl (Nat.le_of_ble_eq_true rfl) rfl rfl rfl ⟨by decide, by decide⟩ (fun _ _ h => h.elim) (fun v10 g10 h10 => ?_)
  obtain ⟨rfl, t2, t3, t4⟩ := h10
  have hc3 : Hc g10 F := hc2.congr (fun q a c => t3 q (by omega))
  have hL30 : ∀ p, p < zn F → g10.1 30 p = bI (zl F e p) := fun p hp => by rw [t3 30 (by decide)]; exact s4 p hp
  refine vq_aload_n d_V_look_13 rfl ?_
  refine vq_getR (k := 0) (C := R_V) (T := T_V) d_V_look_14 rfl in_V w_82 (by decide) rfl (by decide) rfl rfl ?_
  refine vq_getR (k := 3) (C := R_F) (T := T_F) d_V_look_17 rfl in_F w_46 (by decide) rfl (by decide) rfl rfl ?_
  refine vq_iload_n d_V_look_20 rfl ?_
  refine vq_iald d_V_look_21 (by decide) rfl rfl (show _ < 20 by omega) ?_
  have s43 : ∀ (x : Value), Vq l b id D m_V_look false 85 kT (fun v g' => v = none ∧ g'.2 = g.2 ∧ (∀ q, q < 29 ∨ 32 < q → g'.1 q = g.1 q) ∧ (∀ k, k < 1 ∨ 3 < k → g'.1 29 k = g.1 29 k) ∧ LK g' F e) 85 kT (fun _ _ => False) 85 kT 0 0 43 [(2, x), (0, .ref (b + 29)), (1, .int (nI e))] [.int (eO (zw F e)), .ref (b + 29)] g10 := by
    intro x
    refine vq_putI (k := 2) (C := R_V) (T := T_V) (ty := .int) t_V d_V_look_43 rfl in_V w_86 ty_V nm_V (by decide) rfl (by decide) rfl (by decide +kernel) rfl rfl rfl ?_
    refine vq_aload_n d_V_look_46 rfl ?_
    refine vq_aload_n d_V_look_47 rfl ?_
    refine vq_callV (n := 0) (C := R_V) (T := T_V) _ _ d_V_look_48 (ct_V_findTaker l b id D hW he (show _ = nI e by simp [sI, upd]; rw [t3 29 (by decide), s3 29 (by decide) (by decide) (by decide)]; simp [sI, upd]) (show _ = eO (zw F e) by simp [sI, upd]) (fun h hh p hp => by rw [sI_n (by decide)]; exact t4 h hh p hp)) w_282 w_284 sel_V_findTaker w_285 w_3 rfl ⟨by decide, by decide, by decide +kernel⟩ ⟨by decide, by decide⟩ (by decide) rfl rfl rfl rfl (Nat.le_of_ble_eq_true rfl) rfl rfl rfl ⟨by decide, by decide⟩ (fun _ _ h => h.elim) (fun v48 g48 h48 => ?_)
    rw [h48.1, h48.2]
    refine vq_putI (k := 3) (C := R_V) (T := T_V) (ty := .int) t_V d_V_look_51 rfl in_V w_89 ty_V nm_V (by decide) rfl (by decide) rfl (by decide +kernel) rfl rfl rfl ?_
    refine vq_vret d_V_look_54 rfl (by decide) (by decide) rfl rfl ?_
    refine ⟨rfl, ?_, fun q hq => ?_, fun k hk => ?_, ?_, ?_, ?_, fun p hp => ?_, fun p hp => ?_, fun h hh p hp => ?_⟩
    · exact t2.trans s2
    · rw [sI_n (by omega), sI_n (by omega), t3 q (by omega), s3 q (by omega) (by omega) (by omega), sI_n (by omega)]
    · simp only [sI, upd, if_true]
      rw [if_neg (by omega), if_neg (by omega), t3 29 (by decide), s3 29 (by decide) (by decide) (by decide)]
      simp only [sI, upd, if_true]
      rw [if_neg (by omega)]
    · simp [sI, upd]; rw [t3 29 (by decide), s3 29 (by decide) (by decide) (by decide)]; simp [sI, upd]
    · simp [sI, upd]
    · simp [sI, upd]
    · rw [sI_n (by decide), sI_n (by decide)]; exact hL30 p hp
    · rw [sI_n (by decide), sI_n (by decide), t3 31 (by decide)]; exact s5 p hp
    · rw [sI_n (by decide), sI_n (by decide)]; exact t4 h hh p hp
  refine vq_int (y := eO (zs F e)) (hc3.2.2.2.1 e he) ?_
  refine vq_istore_n (lv' := [(2, _), (0, _), (1, _)]) d_V_look_22 (by decide) rfl ?_
  refine vq_aload_n d_V_look_23 rfl ?_
  refine vq_iload_n d_V_look_24 rfl ?_
  refine vq_iconst (v := -1) d_V_look_25 (by decide) ?_
  refine vq_icmp_eq (tgt := 42) d_V_look_26 (by decide) (fun h26 => ?_) (fun h26 => ?_)
  · rw [eO_m1 (zs_lt hW he)] at h26
    have hw : zw F e = none := by unfold zw; rw [h26]
    refine vq_iconst (v := -1) d_V_look_42 (by decide) ?_
    refine vq_int (show _ = eO (zw F e) by first | (rw [hw]; done) | (rw [hw]; rfl) | (rw [hw, hj]; done) | (rw [hw, hj]; rfl)) ?_
    exact s43 _
  · rw [eO_m1 (zs_lt hW he)] at h26
    obtain ⟨j, hj⟩ := Option.ne_none_iff_exists'.mp h26
    have hjn := hW.2.2.2.2.1 e j he hj
    refine vq_aload_n d_V_look_29 rfl ?_
    refine vq_getR (k := 4) (C := R_V) (T := T_V) d_V_look_30 rfl in_V w_92 (by decide) rfl (by decide) rfl rfl ?_
    refine vq_iload_n d_V_look_33 rfl ?_
    refine vq_zald d_V_look_34 (by decide) rfl (show _ = nI j by rw [hj]; rfl) (show _ < 20 by omega) ?_
    refine vq_if_eq (tgt := 42) d_V_look_35 (by decide) (fun h35 => ?_) (fun h35 => ?_)
    · rw [hL30 j hjn] at h35
      have hw : zw F e = none := by unfold zw; rw [hj]; simp [bI_0.mp h35]
      refine vq_iconst (v := -1) d_V_look_42 (by decide) ?_
      refine vq_int (show _ = eO (zw F e) by first | (rw [hw]; done) | (rw [hw]; rfl) | (rw [hw, hj]; done) | (rw [hw, hj]; rfl)) ?_
      exact s43 _
    · rw [hL30 j hjn] at h35
      have hw : zw F e = some j := by unfold zw; rw [hj]; simp [bI_n0.mp h35]
      refine vq_iload_n d_V_look_38 rfl ?_
      refine vq_goto (tgt := 43) d_V_look_39 (by decide) ?_
      refine vq_int (show _ = eO (zw F e) by first | (rw [hw]; done) | (rw [hw]; rfl) | (rw [hw, hj]; done) | (rw [hw, hj]; rfl)) ?_
      exact s43 _
end
section
/-! SuccessionClerk$Survey: stems. Laid by wip/whole/specs/p24.py -/
def zfst (P : Nat → Bool) : Nat → Option Nat
  | 0 => none
  | k + 1 => match zfst P k with
    | some i => some i
    | none => if P k = true then some k else none
theorem zfst_none {P : Nat → Bool} {k : Nat} (h : zfst P k = none) (hp : P k = false) : zfst P (k + 1) = none := by
  show (match zfst P k with | some i => some i | none => if P k = true then some k else none) = none
  rw [h]; simp [hp]
theorem zfst_some {P : Nat → Bool} {k : Nat} (h : zfst P k = none) (hp : P k = true) : zfst P (k + 1) = some k := by
  show (match zfst P k with | some i => some i | none => if P k = true then some k else none) = some k
  rw [h]; simp [hp]
theorem zfst_on {P : Nat → Bool} {k i : Nat} (h : zfst P k = some i) : ∀ d, zfst P (k + d) = some i
  | 0 => h
  | d + 1 => by
    show (match zfst P (k + d) with | some i => some i | none => if P (k + d) = true then some (k + d) else none) = some i
    rw [zfst_on h d]
theorem zfst_congr {P Q : Nat → Bool} : ∀ {k : Nat}, (∀ i, i < k → P i = Q i) → zfst P k = zfst Q k
  | 0, _ => rfl
  | k + 1, h => by
    show (match zfst P k with | some i => some i | none => if P k = true then some k else none) = (match zfst Q k with | some i => some i | none => if Q k = true then some k else none)
    rw [zfst_congr (k := k) (fun i hi => h i (by omega)), h k (by omega)]
def zbg (F : Fam) (e top : Nat) : Bool := if zt F e = 0 then zch F top e else zan F (zt F e) e top
def zst (F : Fam) (e w : Nat) : Option Nat := if zt F e ≤ 3 ∧ zl F e w = true then zfst (fun t => zbg F e t && zR F e t w) (w + 1) else none
def m_V_passesOn : Mt := (y_V_passesOn, c_V_passesOn, 2, { frames := 8, cells := 0, slots := 0, locals := 130 }, (some .boolean), none)
def m_V_stemReaches : Mt := (y_V_stemReaches, c_V_stemReaches, 4, { frames := 9, cells := 0, slots := 0, locals := 175 }, (some .boolean), none)
def m_V_beginsOrder : Mt := (y_V_beginsOrder, c_V_beginsOrder, 2, { frames := 14, cells := 0, slots := 0, locals := 400 }, (some .boolean), none)
def m_V_leastStemOver : Mt := (y_V_leastStemOver, c_V_leastStemOver, 3, { frames := 15, cells := 0, slots := 0, locals := 445 }, (some .int), none)
set_option maxRecDepth 100000 in
set_option maxHeartbeats 4000000 in
theorem ct_V_passesOn (l : Launch) (b : Nat) (id : Nat → ClassId) (D : va_G) {g : Sg} {o : Option Nat} {Rf Lf : Nat → Bool} (hL : ∀ j, o = some j → j < 20 ∧ g.1 33 j = bI (Rf j) ∧ g.1 30 j = bI (Lf j)) : qCT l b id D m_V_passesOn false [.ref (b + 29), .int (eO o)] 85 kT g 85 kT (fun v g' => v = some (.int (bI (zoB o (fun j => Rf j && !Lf j)))) ∧ g' = g) (fun _ _ => False) := by
  refine qCT_of rfl (by decide) (Nat.le_of_ble_eq_true rfl) ?_
  show Vq l b id D m_V_passesOn false 85 kT _ 85 kT _ 85 kT 0 0 0 [(0, .ref (b + 29)), (1, .int (eO o))] [] g
  refine vq_iload_n d_V_passesOn_0 rfl ?_
  refine vq_iconst (v := -1) d_V_passesOn_1 (by decide) ?_
  refine vq_icmp_eq (tgt := 27) d_V_passesOn_2 (by decide) (fun h2 => ?_) (fun h2 => ?_)
  · have ho : o = none := (eO_m1 (fun j hj => Nat.lt_trans (hL j hj).1 (by decide))).mp h2
    refine vq_iconst (v := 0) d_V_passesOn_27 (by decide) ?_
    refine vq_zret d_V_passesOn_28 rfl (by first | exact Or.inl rfl | exact Or.inr rfl | assumption) (by decide) (by decide) rfl rfl ?_
    first | refine ⟨r0 ?_, rfl⟩ | refine ⟨r1 ?_, rfl⟩
    first | (rw [ho]; rfl) | (simp [zoB, h11]; done) | (simp [zoB, h11, h20]; done)
  · obtain ⟨j, rfl⟩ : ∃ j, o = some j := by cases o with | none => exact absurd rfl h2 | some j => exact ⟨j, rfl⟩
    obtain ⟨hj, hv, hw⟩ := hL j rfl
    refine vq_aload_n d_V_passesOn_5 rfl ?_
    refine vq_getR (k := 7) (C := R_V) (T := T_V) d_V_passesOn_6 rfl in_V w_97 (by decide) rfl (by decide) rfl rfl ?_
    refine vq_iload_n d_V_passesOn_9 rfl ?_
    refine vq_zald d_V_passesOn_10 (by decide) rfl rfl (show _ < 20 by omega) ?_
    refine vq_if_eq (tgt := 27) d_V_passesOn_11 (by decide) (fun h11 => ?_) (fun h11 => ?_)
    · rw [hv, bI_0] at h11
      refine vq_iconst (v := 0) d_V_passesOn_27 (by decide) ?_
      refine vq_zret d_V_passesOn_28 rfl (by first | exact Or.inl rfl | exact Or.inr rfl | assumption) (by decide) (by decide) rfl rfl ?_
      first | refine ⟨r0 ?_, rfl⟩ | refine ⟨r1 ?_, rfl⟩
      first | (rw [ho]; rfl) | (simp [zoB, h11]; done) | (simp [zoB, h11, h20]; done)
    · rw [hv, bI_n0] at h11
      refine vq_aload_n d_V_passesOn_14 rfl ?_
      refine vq_getR (k := 4) (C := R_V) (T := T_V) d_V_passesOn_15 rfl in_V w_92 (by decide) rfl (by decide) rfl rfl ?_
      refine vq_iload_n d_V_passesOn_18 rfl ?_
      refine vq_zald d_V_passesOn_19 (by decide) rfl rfl (show _ < 20 by omega) ?_
      refine vq_if_ne (tgt := 27) d_V_passesOn_20 (by decide) (fun h20 => ?_) (fun h20 => ?_)
      · rw [hw, bI_n0] at h20
        refine vq_iconst (v := 0) d_V_passesOn_27 (by decide) ?_
        refine vq_zret d_V_passesOn_28 rfl (by first | exact Or.inl rfl | exact Or.inr rfl | assumption) (by decide) (by decide) rfl rfl ?_
        first | refine ⟨r0 ?_, rfl⟩ | refine ⟨r1 ?_, rfl⟩
        first | (rw [ho]; rfl) | (simp [zoB, h11]; done) | (simp [zoB, h11, h20]; done)
      · rw [hw, bI_0] at h20
        refine vq_iconst (v := 1) d_V_passesOn_23 (by decide) ?_
        refine vq_goto (tgt := 28) d_V_passesOn_24 (by decide) ?_
        refine vq_zret d_V_passesOn_28 rfl (by first | exact Or.inl rfl | exact Or.inr rfl | assumption) (by decide) (by decide) rfl rfl ?_
        first | refine ⟨r0 ?_, rfl⟩ | refine ⟨r1 ?_, rfl⟩
        first | (rw [ho]; rfl) | (simp [zoB, h11]; done) | (simp [zoB, h11, h20]; done)
set_option maxRecDepth 100000 in
set_option maxHeartbeats 4000000 in
theorem ct_V_stemReaches (l : Launch) (b : Nat) (id : Nat → ClassId) (D : va_G) {g : Sg} {F : Fam} (hW : zW F) (hc : Hc g F) {e t w : Nat} (hl30 : ∀ p, p < zn F → g.1 30 p = bI (zl F e p)) (ht : t < zn F) (hw : w < zn F) : qCT l b id D m_V_stemReaches false [.ref (b + 29), .int (nI t), .int (nI w)] 85 kT g 85 kT (fun v g' => v = some (.int (bI (zR F e t w))) ∧ g'.2 = g.2 ∧ ∀ q, q ≠ 33 → g'.1 q = g.1 q) (fun _ _ => False) := by
  have hn := hW.1
  refine qCT_of rfl (by decide) (Nat.le_of_ble_eq_true rfl) ?_
  show Vq l b id D m_V_stemReaches false 85 kT _ 85 kT _ 85 kT 0 0 0 [(0, .ref (b + 29)), (1, .int (nI t)), (2, .int (nI w))] [] g
  have loop : ∀ (n9 : Nat) (i : Nat) (g1 : Sg), w + 1 - i = n9 → (i ≤ w + 1 ∧ g1.2 = g.2 ∧ (∀ q, q ≠ 33 → g1.1 q = g.1 q) ∧ ∀ j, j < i → g1.1 33 j = bI (zR F e t j)) → Vq l b id D m_V_stemReaches false 85 kT (fun v g' => v = some (.int (bI (zR F e t w))) ∧ g'.2 = g.2 ∧ ∀ q, q ≠ 33 → g'.1 q = g.1 q) 85 kT (fun _ _ => False) 85 kT 0 0 2 [(3, .int (nI i)), (0, .ref (b + 29)), (1, .int (nI t)), (2, .int (nI w))] [] g1 := by
    intro n9
    induction n9 using Nat.strongRecOn with
    | ind n9 ih =>
    intro i g1 hm hI
    have hi1 := hI.1
    refine vq_iload_n d_V_stemReaches_2 rfl ?_
    refine vq_iload_n d_V_stemReaches_3 rfl ?_
    refine vq_icmp_gt (tgt := 61) d_V_stemReaches_4 (by decide) (fun h4 => ?_) (fun h4 => ?_)
    · have hi : i = w + 1 := by
        rw [nI_ltI (by omega) (by omega)] at h4
        omega
      refine vq_aload_n d_V_stemReaches_61 rfl ?_
      refine vq_getR (k := 7) (C := R_V) (T := T_V) d_V_stemReaches_62 rfl in_V w_97 (by decide) rfl (by decide) rfl rfl ?_
      refine vq_iload_n d_V_stemReaches_65 rfl ?_
      refine vq_zald d_V_stemReaches_66 (by decide) rfl rfl (show _ < 20 by omega) ?_
      refine vq_int (y := bI (zR F e t w)) (hI.2.2.2 w (by omega)) ?_
      refine vq_zret d_V_stemReaches_67 rfl (bI_01 _) (by decide) (by decide) rfl rfl ?_
      exact ⟨rfl, hI.2.1, hI.2.2.1⟩
    · have hi : i ≤ w := by
        rw [nI_ltI (by omega) (by omega)] at h4
        omega
      have hin : i < zn F := by omega
      have hc1 : Hc g1 F := hc.congr (fun q a c => hI.2.2.1 q (by omega))
      have hza := hc1.2.1 i hin
      have hzb := hc1.2.2.1 i hin
      have hq := zR_eq (e := e) hW t hin
      have hL1 : ∀ (o : Option Nat), (∀ j, o = some j → j < i) → ∀ j, o = some j → j < 20 ∧ g1.1 33 j = bI (zR F e t j) ∧ g1.1 30 j = bI (zl F e j) := fun o ho j hj => ⟨by have := ho j hj; omega, hI.2.2.2 j (ho j hj), by rw [hI.2.2.1 30 (by decide)]; exact hl30 j (by have := ho j hj; omega)⟩
      have s55 : ∀ (g2 : Sg), (g2.2 = g.2 ∧ (∀ q, q ≠ 33 → g2.1 q = g.1 q) ∧ ∀ j, j < i + 1 → g2.1 33 j = bI (zR F e t j)) → Vq l b id D m_V_stemReaches false 85 kT (fun v g' => v = some (.int (bI (zR F e t w))) ∧ g'.2 = g.2 ∧ ∀ q, q ≠ 33 → g'.1 q = g.1 q) 85 kT (fun _ _ => False) 85 kT 0 0 55 [(3, .int (nI i)), (0, .ref (b + 29)), (1, .int (nI t)), (2, .int (nI w))] [] g2 := by
        intro g2 hI2
        refine vq_iinc (k := 0) (lv' := [(3, _), (0, _), (1, _), (2, _)]) d_V_stemReaches_55 rfl (ip1 i) (by decide) rfl ?_
        refine vq_goto (tgt := 2) d_V_stemReaches_58 (by decide) ?_
        exact ih (w + 1 - (i + 1)) (by omega) (i + 1) _ rfl ⟨by omega, hI2⟩
      refine vq_aload_n d_V_stemReaches_7 rfl ?_
      refine vq_getR (k := 7) (C := R_V) (T := T_V) d_V_stemReaches_8 rfl in_V w_97 (by decide) rfl (by decide) rfl rfl ?_
      refine vq_iload_n d_V_stemReaches_11 rfl ?_
      refine vq_iload_n d_V_stemReaches_12 rfl ?_
      refine vq_iload_n d_V_stemReaches_13 rfl ?_
      refine vq_icmp_eq (tgt := 49) d_V_stemReaches_14 (by decide) (fun h14 => ?_) (fun h14 => ?_)
      · rw [nI_eq (by omega) (by omega)] at h14
        have hx : zR F e t i = true := by rw [hq]; simp [h14]
        refine vq_iconst (v := 1) d_V_stemReaches_49 (by decide) ?_
        refine vq_goto (tgt := 54) d_V_stemReaches_50 (by decide) ?_
        refine vq_zast d_V_stemReaches_54 rfl (by decide) rfl rfl (show _ < 20 by omega) (by first | exact Or.inl rfl | exact Or.inr rfl) ?_
        refine s55 _ ⟨hI.2.1, fun q hq9 => by rw [sI_n hq9]; exact hI.2.2.1 q hq9, fun j hj => ?_⟩
        rw [sI_s, upd]
        by_cases e1 : j = i
        · rw [if_pos e1, e1, hx]; rfl
        · rw [if_neg e1]; exact hI.2.2.2 j (by omega)
      · rw [nI_eq (by omega) (by omega)] at h14
        refine vq_aload_n d_V_stemReaches_17 rfl ?_
        refine vq_aload_n d_V_stemReaches_18 rfl ?_
        refine vq_getR (k := 0) (C := R_V) (T := T_V) d_V_stemReaches_19 rfl in_V w_82 (by decide) rfl (by decide) rfl rfl ?_
        refine vq_getR (k := 1) (C := R_F) (T := T_F) d_V_stemReaches_22 rfl in_F w_39 (by decide) rfl (by decide) rfl rfl ?_
        refine vq_iload_n d_V_stemReaches_25 rfl ?_
        refine vq_iald d_V_stemReaches_26 (by decide) rfl rfl (show _ < 20 by omega) ?_
        refine vq_int (y := eO (za F i)) hza ?_
        refine vq_callV (n := 1) (C := R_V) (T := T_V) _ _ d_V_stemReaches_27 (ct_V_passesOn l b id D (o := za F i) (Rf := zR F e t) (Lf := zl F e) (hL1 _ (fun j hj => hW.2.1 i j hin hj))) w_620 w_622 sel_V_passesOn w_623 w_3 rfl ⟨by decide, by decide, by decide +kernel⟩ ⟨by decide, by decide⟩ (by decide) rfl rfl rfl rfl (Nat.le_of_ble_eq_true rfl) rfl rfl rfl ⟨by decide, by decide⟩ (fun _ _ h => h.elim) (fun v27 g27 h27 => ?_)
        rw [h27.1, h27.2]
        refine vq_if_ne (tgt := 49) d_V_stemReaches_30 (by decide) (fun h30 => ?_) (fun h30 => ?_)
        · have hx : zR F e t i = true := by rw [hq, bI_n0.mp h30]; simp
          refine vq_iconst (v := 1) d_V_stemReaches_49 (by decide) ?_
          refine vq_goto (tgt := 54) d_V_stemReaches_50 (by decide) ?_
          refine vq_zast d_V_stemReaches_54 rfl (by decide) rfl rfl (show _ < 20 by omega) (by first | exact Or.inl rfl | exact Or.inr rfl) ?_
          refine s55 _ ⟨hI.2.1, fun q hq9 => by rw [sI_n hq9]; exact hI.2.2.1 q hq9, fun j hj => ?_⟩
          rw [sI_s, upd]
          by_cases e1 : j = i
          · rw [if_pos e1, e1, hx]; rfl
          · rw [if_neg e1]; exact hI.2.2.2 j (by omega)
        · have hp1 := bI_0.mp h30
          refine vq_aload_n d_V_stemReaches_33 rfl ?_
          refine vq_aload_n d_V_stemReaches_34 rfl ?_
          refine vq_getR (k := 0) (C := R_V) (T := T_V) d_V_stemReaches_35 rfl in_V w_82 (by decide) rfl (by decide) rfl rfl ?_
          refine vq_getR (k := 2) (C := R_F) (T := T_F) d_V_stemReaches_38 rfl in_F w_43 (by decide) rfl (by decide) rfl rfl ?_
          refine vq_iload_n d_V_stemReaches_41 rfl ?_
          refine vq_iald d_V_stemReaches_42 (by decide) rfl rfl (show _ < 20 by omega) ?_
          refine vq_int (y := eO (zb F i)) hzb ?_
          refine vq_callV (n := 1) (C := R_V) (T := T_V) _ _ d_V_stemReaches_43 (ct_V_passesOn l b id D (o := zb F i) (Rf := zR F e t) (Lf := zl F e) (hL1 _ (fun j hj => hW.2.2.1 i j hin hj))) w_620 w_622 sel_V_passesOn w_623 w_3 rfl ⟨by decide, by decide, by decide +kernel⟩ ⟨by decide, by decide⟩ (by decide) rfl rfl rfl rfl (Nat.le_of_ble_eq_true rfl) rfl rfl rfl ⟨by decide, by decide⟩ (fun _ _ h => h.elim) (fun v43 g43 h43 => ?_)
          rw [h43.1, h43.2]
          refine vq_if_eq (tgt := 53) d_V_stemReaches_46 (by decide) (fun h46 => ?_) (fun h46 => ?_)
          · have hx : zR F e t i = false := by rw [hq, hp1, bI_0.mp h46]; simp [h14]
            refine vq_iconst (v := 0) d_V_stemReaches_53 (by decide) ?_
            refine vq_zast d_V_stemReaches_54 rfl (by decide) rfl rfl (show _ < 20 by omega) (by first | exact Or.inl rfl | exact Or.inr rfl) ?_
            refine s55 _ ⟨hI.2.1, fun q hq9 => by rw [sI_n hq9]; exact hI.2.2.1 q hq9, fun j hj => ?_⟩
            rw [sI_s, upd]
            by_cases e1 : j = i
            · rw [if_pos e1, e1, hx]; rfl
            · rw [if_neg e1]; exact hI.2.2.2 j (by omega)
          · have hx : zR F e t i = true := by rw [hq, hp1, bI_n0.mp h46]; simp [h14]
            refine vq_iconst (v := 1) d_V_stemReaches_49 (by decide) ?_
            refine vq_goto (tgt := 54) d_V_stemReaches_50 (by decide) ?_
            refine vq_zast d_V_stemReaches_54 rfl (by decide) rfl rfl (show _ < 20 by omega) (by first | exact Or.inl rfl | exact Or.inr rfl) ?_
            refine s55 _ ⟨hI.2.1, fun q hq9 => by rw [sI_n hq9]; exact hI.2.2.1 q hq9, fun j hj => ?_⟩
            rw [sI_s, upd]
            by_cases e1 : j = i
            · rw [if_pos e1, e1, hx]; rfl
            · rw [if_neg e1]; exact hI.2.2.2 j (by omega)
  refine vq_iconst (v := 0) d_V_stemReaches_0 (by decide) ?_
  refine vq_istore_n (lv' := [(3, _), (0, _), (1, _), (2, _)]) d_V_stemReaches_1 (by decide) rfl ?_
  exact loop (w + 1) 0 _ rfl ⟨by omega, rfl, fun q hq => rfl, fun j hj => absurd hj (Nat.not_lt_zero j)⟩
def m_V_isAncestor0 : Mt := (y_V_isAncestor, c_V_isAncestor, 4, { frames := 8, cells := 0, slots := 0, locals := 130 }, (some .boolean), none)
def m_V_isAncestor1 : Mt := (y_V_isAncestor, c_V_isAncestor, 4, { frames := 9, cells := 0, slots := 0, locals := 175 }, (some .boolean), none)
def m_V_isAncestor2 : Mt := (y_V_isAncestor, c_V_isAncestor, 4, { frames := 10, cells := 0, slots := 0, locals := 220 }, (some .boolean), none)
def m_V_isAncestor3 : Mt := (y_V_isAncestor, c_V_isAncestor, 4, { frames := 11, cells := 0, slots := 0, locals := 265 }, (some .boolean), none)
set_option maxRecDepth 100000 in
set_option maxHeartbeats 4000000 in
theorem ct_V_isAncestor0 (l : Launch) (b : Nat) (id : Nat → ClassId) (D : va_G) {g : Sg} {F : Fam} (hW : zW F) (hc : Hc g F) {o : Option Nat} {t : Nat} (ho : ∀ j, o = some j → j < zn F) (ht : t < zn F) : qCT l b id D m_V_isAncestor0 false [.ref (b + 1), .int (nI t), .int (eO o), .int (nI 0)] 85 kT g 85 kT (fun v g' => v = some (.int (bI (zoB o (fun j => zan F 0 j t)))) ∧ g' = g) (fun _ _ => False) := by
  have hn := hW.1
  refine qCT_of rfl (by decide) (Nat.le_of_ble_eq_true rfl) ?_
  show Vq l b id D m_V_isAncestor0 false 85 kT _ 85 kT _ 85 kT 0 0 0 [(0, .ref (b + 1)), (1, .int (nI t)), (2, .int (eO o)), (3, .int (nI 0))] [] g
  refine vq_iload_n d_V_isAncestor_0 rfl ?_
  refine vq_iconst (v := -1) d_V_isAncestor_1 (by decide) ?_
  refine vq_icmp_eq (tgt := 9) d_V_isAncestor_2 (by decide) (fun h2 => ?_) (fun h2 => ?_)
  · have hj : o = none := (eO_m1 (fun j hj => Nat.lt_trans (ho j hj) (by omega))).mp h2
    subst hj
    refine vq_iload_n d_V_isAncestor_9 rfl ?_
    refine vq_iload_n d_V_isAncestor_10 rfl ?_
    refine vq_icmp_ne (tgt := 18) d_V_isAncestor_11 (by decide) (fun h11 => ?_) (fun h11 => ?_)
    · first | (rw [show eO (some j) = nI j from rfl, nI_eq (by omega) (by omega)] at h11) | (have h11b : ¬ nI t = -1 := nI_ne_m1 (by omega))
      refine vq_iconst (v := 0) d_V_isAncestor_18 (by decide) ?_
      refine vq_zret d_V_isAncestor_19 rfl (by first | exact Or.inl rfl | exact Or.inr rfl | assumption) (by decide) (by decide) rfl rfl ?_
      first | refine ⟨r0 ?_, rfl⟩ | refine ⟨r1 ?_, rfl⟩
      first | rfl | (show (j == t) = _; simp [h11]; done) | (exact absurd h11.symm h11b)
    · first | (rw [show eO (some j) = nI j from rfl, nI_eq (by omega) (by omega)] at h11) | (have h11b : ¬ nI t = -1 := nI_ne_m1 (by omega))
      refine vq_iconst (v := 1) d_V_isAncestor_14 (by decide) ?_
      refine vq_goto (tgt := 19) d_V_isAncestor_15 (by decide) ?_
      refine vq_zret d_V_isAncestor_19 rfl (by first | exact Or.inl rfl | exact Or.inr rfl | assumption) (by decide) (by decide) rfl rfl ?_
      first | refine ⟨r0 ?_, rfl⟩ | refine ⟨r1 ?_, rfl⟩
      first | rfl | (show (j == t) = _; simp [h11]; done) | (exact absurd h11.symm h11b)
  · obtain ⟨j, rfl⟩ : ∃ j, o = some j := by cases o with | none => exact absurd rfl h2 | some j => exact ⟨j, rfl⟩
    have hj := ho j rfl
    have hza := hc.2.1 j hj
    have hzb := hc.2.2.1 j hj
    refine vq_iload_n d_V_isAncestor_5 rfl ?_
    refine vq_if_gt (tgt := 20) d_V_isAncestor_6 (by decide) (fun h6 => absurd h6 (by decide)) (fun h6 => ?_)
    refine vq_iload_n d_V_isAncestor_9 rfl ?_
    refine vq_iload_n d_V_isAncestor_10 rfl ?_
    refine vq_icmp_ne (tgt := 18) d_V_isAncestor_11 (by decide) (fun h11 => ?_) (fun h11 => ?_)
    · first | (rw [show eO (some j) = nI j from rfl, nI_eq (by omega) (by omega)] at h11) | (have h11b : ¬ nI t = -1 := nI_ne_m1 (by omega))
      refine vq_iconst (v := 0) d_V_isAncestor_18 (by decide) ?_
      refine vq_zret d_V_isAncestor_19 rfl (by first | exact Or.inl rfl | exact Or.inr rfl | assumption) (by decide) (by decide) rfl rfl ?_
      first | refine ⟨r0 ?_, rfl⟩ | refine ⟨r1 ?_, rfl⟩
      first | rfl | (show (j == t) = _; simp [h11]; done) | (exact absurd h11.symm h11b)
    · first | (rw [show eO (some j) = nI j from rfl, nI_eq (by omega) (by omega)] at h11) | (have h11b : ¬ nI t = -1 := nI_ne_m1 (by omega))
      refine vq_iconst (v := 1) d_V_isAncestor_14 (by decide) ?_
      refine vq_goto (tgt := 19) d_V_isAncestor_15 (by decide) ?_
      refine vq_zret d_V_isAncestor_19 rfl (by first | exact Or.inl rfl | exact Or.inr rfl | assumption) (by decide) (by decide) rfl rfl ?_
      first | refine ⟨r0 ?_, rfl⟩ | refine ⟨r1 ?_, rfl⟩
      first | rfl | (show (j == t) = _; simp [h11]; done) | (exact absurd h11.symm h11b)
set_option maxRecDepth 100000 in
set_option maxHeartbeats 4000000 in
theorem ct_V_isAncestor1 (l : Launch) (b : Nat) (id : Nat → ClassId) (D : va_G) {g : Sg} {F : Fam} (hW : zW F) (hc : Hc g F) {o : Option Nat} {t : Nat} (ho : ∀ j, o = some j → j < zn F) (ht : t < zn F) : qCT l b id D m_V_isAncestor1 false [.ref (b + 1), .int (nI t), .int (eO o), .int (nI 1)] 85 kT g 85 kT (fun v g' => v = some (.int (bI (zoB o (fun j => zan F 1 j t)))) ∧ g' = g) (fun _ _ => False) := by
  have hn := hW.1
  refine qCT_of rfl (by decide) (Nat.le_of_ble_eq_true rfl) ?_
  show Vq l b id D m_V_isAncestor1 false 85 kT _ 85 kT _ 85 kT 0 0 0 [(0, .ref (b + 1)), (1, .int (nI t)), (2, .int (eO o)), (3, .int (nI 1))] [] g
  refine vq_iload_n d_V_isAncestor_0 rfl ?_
  refine vq_iconst (v := -1) d_V_isAncestor_1 (by decide) ?_
  refine vq_icmp_eq (tgt := 9) d_V_isAncestor_2 (by decide) (fun h2 => ?_) (fun h2 => ?_)
  · have hj : o = none := (eO_m1 (fun j hj => Nat.lt_trans (ho j hj) (by omega))).mp h2
    subst hj
    refine vq_iload_n d_V_isAncestor_9 rfl ?_
    refine vq_iload_n d_V_isAncestor_10 rfl ?_
    refine vq_icmp_ne (tgt := 18) d_V_isAncestor_11 (by decide) (fun h11 => ?_) (fun h11 => ?_)
    · first | (rw [show eO (some j) = nI j from rfl, nI_eq (by omega) (by omega)] at h11) | (have h11b : ¬ nI t = -1 := nI_ne_m1 (by omega))
      refine vq_iconst (v := 0) d_V_isAncestor_18 (by decide) ?_
      refine vq_zret d_V_isAncestor_19 rfl (by first | exact Or.inl rfl | exact Or.inr rfl | assumption) (by decide) (by decide) rfl rfl ?_
      first | refine ⟨r0 ?_, rfl⟩ | refine ⟨r1 ?_, rfl⟩
      first | rfl | (exact absurd h11.symm h11b) | (show (zoB (za F j) (fun i => zan F 0 i t) || zoB (zb F j) (fun i => zan F 0 i t)) = _; first | (rw [hp1]; rfl) | (rw [hp1, hp2]; rfl))
    · first | (rw [show eO (some j) = nI j from rfl, nI_eq (by omega) (by omega)] at h11) | (have h11b : ¬ nI t = -1 := nI_ne_m1 (by omega))
      refine vq_iconst (v := 1) d_V_isAncestor_14 (by decide) ?_
      refine vq_goto (tgt := 19) d_V_isAncestor_15 (by decide) ?_
      refine vq_zret d_V_isAncestor_19 rfl (by first | exact Or.inl rfl | exact Or.inr rfl | assumption) (by decide) (by decide) rfl rfl ?_
      first | refine ⟨r0 ?_, rfl⟩ | refine ⟨r1 ?_, rfl⟩
      first | rfl | (exact absurd h11.symm h11b) | (show (zoB (za F j) (fun i => zan F 0 i t) || zoB (zb F j) (fun i => zan F 0 i t)) = _; first | (rw [hp1]; rfl) | (rw [hp1, hp2]; rfl))
  · obtain ⟨j, rfl⟩ : ∃ j, o = some j := by cases o with | none => exact absurd rfl h2 | some j => exact ⟨j, rfl⟩
    have hj := ho j rfl
    have hza := hc.2.1 j hj
    have hzb := hc.2.2.1 j hj
    refine vq_iload_n d_V_isAncestor_5 rfl ?_
    refine vq_if_gt (tgt := 20) d_V_isAncestor_6 (by decide) (fun h6 => ?_) (fun h6 => absurd h6 (by decide))
    refine vq_aload_n d_V_isAncestor_20 rfl ?_
    refine vq_iload_n d_V_isAncestor_21 rfl ?_
    refine vq_aload_n d_V_isAncestor_22 rfl ?_
    refine vq_getR (k := 1) (C := R_F) (T := T_F) d_V_isAncestor_23 rfl in_F w_39 (by decide) rfl (by decide) rfl rfl ?_
    refine vq_iload_n d_V_isAncestor_26 rfl ?_
    refine vq_iald d_V_isAncestor_27 (by decide) rfl rfl (show _ < 20 by omega) ?_
    refine vq_int (y := eO (za F j)) hza ?_
    refine vq_iload_n d_V_isAncestor_28 rfl ?_
    refine vq_iconst (v := 1) d_V_isAncestor_29 (by decide) ?_
    refine vq_isub d_V_isAncestor_30 ?_
    refine vq_int (show _ = nI 0 from rfl) ?_
    refine vq_callS (n := 4) _ _ d_V_isAncestor_31 (ct_V_isAncestor0 l b id D hW hc (o := za F j) (fun i hi => by have := hW.2.1 j i hj hi; omega) ht) w_613 w_614 w_615 w_3 rfl ⟨by decide, by decide, by decide +kernel⟩ ⟨by decide, by decide⟩ rfl rfl (Nat.le_of_ble_eq_true rfl) rfl rfl rfl ⟨by decide, by decide⟩ (fun _ _ h => h.elim) (fun v31 g31 h31 => ?_)
    rw [h31.1, h31.2]
    refine vq_if_ne (tgt := 54) d_V_isAncestor_34 (by decide) (fun h34 => ?_) (fun h34 => ?_)
    · have hp1 := bI_n0.mp h34
      refine vq_iconst (v := 1) d_V_isAncestor_54 (by decide) ?_
      refine vq_goto (tgt := 59) d_V_isAncestor_55 (by decide) ?_
      refine vq_zret d_V_isAncestor_59 rfl (by first | exact Or.inl rfl | exact Or.inr rfl | assumption) (by decide) (by decide) rfl rfl ?_
      first | refine ⟨r0 ?_, rfl⟩ | refine ⟨r1 ?_, rfl⟩
      first | rfl | (exact absurd h11.symm h11b) | (show (zoB (za F j) (fun i => zan F 0 i t) || zoB (zb F j) (fun i => zan F 0 i t)) = _; first | (rw [hp1]; rfl) | (rw [hp1, hp2]; rfl))
    · have hp1 := bI_0.mp h34
      refine vq_aload_n d_V_isAncestor_37 rfl ?_
      refine vq_iload_n d_V_isAncestor_38 rfl ?_
      refine vq_aload_n d_V_isAncestor_39 rfl ?_
      refine vq_getR (k := 2) (C := R_F) (T := T_F) d_V_isAncestor_40 rfl in_F w_43 (by decide) rfl (by decide) rfl rfl ?_
      refine vq_iload_n d_V_isAncestor_43 rfl ?_
      refine vq_iald d_V_isAncestor_44 (by decide) rfl rfl (show _ < 20 by omega) ?_
      refine vq_int (y := eO (zb F j)) hzb ?_
      refine vq_iload_n d_V_isAncestor_45 rfl ?_
      refine vq_iconst (v := 1) d_V_isAncestor_46 (by decide) ?_
      refine vq_isub d_V_isAncestor_47 ?_
      refine vq_int (show _ = nI 0 from rfl) ?_
      refine vq_callS (n := 4) _ _ d_V_isAncestor_48 (ct_V_isAncestor0 l b id D hW hc (o := zb F j) (fun i hi => by have := hW.2.2.1 j i hj hi; omega) ht) w_613 w_614 w_615 w_3 rfl ⟨by decide, by decide, by decide +kernel⟩ ⟨by decide, by decide⟩ rfl rfl (Nat.le_of_ble_eq_true rfl) rfl rfl rfl ⟨by decide, by decide⟩ (fun _ _ h => h.elim) (fun v48 g48 h48 => ?_)
      rw [h48.1, h48.2]
      refine vq_if_eq (tgt := 58) d_V_isAncestor_51 (by decide) (fun h51 => ?_) (fun h51 => ?_)
      · have hp2 := bI_0.mp h51
        refine vq_iconst (v := 0) d_V_isAncestor_58 (by decide) ?_
        refine vq_zret d_V_isAncestor_59 rfl (by first | exact Or.inl rfl | exact Or.inr rfl | assumption) (by decide) (by decide) rfl rfl ?_
        first | refine ⟨r0 ?_, rfl⟩ | refine ⟨r1 ?_, rfl⟩
        first | rfl | (exact absurd h11.symm h11b) | (show (zoB (za F j) (fun i => zan F 0 i t) || zoB (zb F j) (fun i => zan F 0 i t)) = _; first | (rw [hp1]; rfl) | (rw [hp1, hp2]; rfl))
      · have hp2 := bI_n0.mp h51
        refine vq_iconst (v := 1) d_V_isAncestor_54 (by decide) ?_
        refine vq_goto (tgt := 59) d_V_isAncestor_55 (by decide) ?_
        refine vq_zret d_V_isAncestor_59 rfl (by first | exact Or.inl rfl | exact Or.inr rfl | assumption) (by decide) (by decide) rfl rfl ?_
        first | refine ⟨r0 ?_, rfl⟩ | refine ⟨r1 ?_, rfl⟩
        first | rfl | (exact absurd h11.symm h11b) | (show (zoB (za F j) (fun i => zan F 0 i t) || zoB (zb F j) (fun i => zan F 0 i t)) = _; first | (rw [hp1]; rfl) | (rw [hp1, hp2]; rfl))
set_option maxRecDepth 100000 in
set_option maxHeartbeats 4000000 in
theorem ct_V_isAncestor2 (l : Launch) (b : Nat) (id : Nat → ClassId) (D : va_G) {g : Sg} {F : Fam} (hW : zW F) (hc : Hc g F) {o : Option Nat} {t : Nat} (ho : ∀ j, o = some j → j < zn F) (ht : t < zn F) : qCT l b id D m_V_isAncestor2 false [.ref (b + 1), .int (nI t), .int (eO o), .int (nI 2)] 85 kT g 85 kT (fun v g' => v = some (.int (bI (zoB o (fun j => zan F 2 j t)))) ∧ g' = g) (fun _ _ => False) := by
  have hn := hW.1
  refine qCT_of rfl (by decide) (Nat.le_of_ble_eq_true rfl) ?_
  show Vq l b id D m_V_isAncestor2 false 85 kT _ 85 kT _ 85 kT 0 0 0 [(0, .ref (b + 1)), (1, .int (nI t)), (2, .int (eO o)), (3, .int (nI 2))] [] g
  refine vq_iload_n d_V_isAncestor_0 rfl ?_
  refine vq_iconst (v := -1) d_V_isAncestor_1 (by decide) ?_
  refine vq_icmp_eq (tgt := 9) d_V_isAncestor_2 (by decide) (fun h2 => ?_) (fun h2 => ?_)
  · have hj : o = none := (eO_m1 (fun j hj => Nat.lt_trans (ho j hj) (by omega))).mp h2
    subst hj
    refine vq_iload_n d_V_isAncestor_9 rfl ?_
    refine vq_iload_n d_V_isAncestor_10 rfl ?_
    refine vq_icmp_ne (tgt := 18) d_V_isAncestor_11 (by decide) (fun h11 => ?_) (fun h11 => ?_)
    · first | (rw [show eO (some j) = nI j from rfl, nI_eq (by omega) (by omega)] at h11) | (have h11b : ¬ nI t = -1 := nI_ne_m1 (by omega))
      refine vq_iconst (v := 0) d_V_isAncestor_18 (by decide) ?_
      refine vq_zret d_V_isAncestor_19 rfl (by first | exact Or.inl rfl | exact Or.inr rfl | assumption) (by decide) (by decide) rfl rfl ?_
      first | refine ⟨r0 ?_, rfl⟩ | refine ⟨r1 ?_, rfl⟩
      first | rfl | (exact absurd h11.symm h11b) | (show (zoB (za F j) (fun i => zan F 1 i t) || zoB (zb F j) (fun i => zan F 1 i t)) = _; first | (rw [hp1]; rfl) | (rw [hp1, hp2]; rfl))
    · first | (rw [show eO (some j) = nI j from rfl, nI_eq (by omega) (by omega)] at h11) | (have h11b : ¬ nI t = -1 := nI_ne_m1 (by omega))
      refine vq_iconst (v := 1) d_V_isAncestor_14 (by decide) ?_
      refine vq_goto (tgt := 19) d_V_isAncestor_15 (by decide) ?_
      refine vq_zret d_V_isAncestor_19 rfl (by first | exact Or.inl rfl | exact Or.inr rfl | assumption) (by decide) (by decide) rfl rfl ?_
      first | refine ⟨r0 ?_, rfl⟩ | refine ⟨r1 ?_, rfl⟩
      first | rfl | (exact absurd h11.symm h11b) | (show (zoB (za F j) (fun i => zan F 1 i t) || zoB (zb F j) (fun i => zan F 1 i t)) = _; first | (rw [hp1]; rfl) | (rw [hp1, hp2]; rfl))
  · obtain ⟨j, rfl⟩ : ∃ j, o = some j := by cases o with | none => exact absurd rfl h2 | some j => exact ⟨j, rfl⟩
    have hj := ho j rfl
    have hza := hc.2.1 j hj
    have hzb := hc.2.2.1 j hj
    refine vq_iload_n d_V_isAncestor_5 rfl ?_
    refine vq_if_gt (tgt := 20) d_V_isAncestor_6 (by decide) (fun h6 => ?_) (fun h6 => absurd h6 (by decide))
    refine vq_aload_n d_V_isAncestor_20 rfl ?_
    refine vq_iload_n d_V_isAncestor_21 rfl ?_
    refine vq_aload_n d_V_isAncestor_22 rfl ?_
    refine vq_getR (k := 1) (C := R_F) (T := T_F) d_V_isAncestor_23 rfl in_F w_39 (by decide) rfl (by decide) rfl rfl ?_
    refine vq_iload_n d_V_isAncestor_26 rfl ?_
    refine vq_iald d_V_isAncestor_27 (by decide) rfl rfl (show _ < 20 by omega) ?_
    refine vq_int (y := eO (za F j)) hza ?_
    refine vq_iload_n d_V_isAncestor_28 rfl ?_
    refine vq_iconst (v := 1) d_V_isAncestor_29 (by decide) ?_
    refine vq_isub d_V_isAncestor_30 ?_
    refine vq_int (show _ = nI 1 from rfl) ?_
    refine vq_callS (n := 4) _ _ d_V_isAncestor_31 (ct_V_isAncestor1 l b id D hW hc (o := za F j) (fun i hi => by have := hW.2.1 j i hj hi; omega) ht) w_613 w_614 w_615 w_3 rfl ⟨by decide, by decide, by decide +kernel⟩ ⟨by decide, by decide⟩ rfl rfl (Nat.le_of_ble_eq_true rfl) rfl rfl rfl ⟨by decide, by decide⟩ (fun _ _ h => h.elim) (fun v31 g31 h31 => ?_)
    rw [h31.1, h31.2]
    refine vq_if_ne (tgt := 54) d_V_isAncestor_34 (by decide) (fun h34 => ?_) (fun h34 => ?_)
    · have hp1 := bI_n0.mp h34
      refine vq_iconst (v := 1) d_V_isAncestor_54 (by decide) ?_
      refine vq_goto (tgt := 59) d_V_isAncestor_55 (by decide) ?_
      refine vq_zret d_V_isAncestor_59 rfl (by first | exact Or.inl rfl | exact Or.inr rfl | assumption) (by decide) (by decide) rfl rfl ?_
      first | refine ⟨r0 ?_, rfl⟩ | refine ⟨r1 ?_, rfl⟩
      first | rfl | (exact absurd h11.symm h11b) | (show (zoB (za F j) (fun i => zan F 1 i t) || zoB (zb F j) (fun i => zan F 1 i t)) = _; first | (rw [hp1]; rfl) | (rw [hp1, hp2]; rfl))
    · have hp1 := bI_0.mp h34
      refine vq_aload_n d_V_isAncestor_37 rfl ?_
      refine vq_iload_n d_V_isAncestor_38 rfl ?_
      refine vq_aload_n d_V_isAncestor_39 rfl ?_
      refine vq_getR (k := 2) (C := R_F) (T := T_F) d_V_isAncestor_40 rfl in_F w_43 (by decide) rfl (by decide) rfl rfl ?_
      refine vq_iload_n d_V_isAncestor_43 rfl ?_
      refine vq_iald d_V_isAncestor_44 (by decide) rfl rfl (show _ < 20 by omega) ?_
      refine vq_int (y := eO (zb F j)) hzb ?_
      refine vq_iload_n d_V_isAncestor_45 rfl ?_
      refine vq_iconst (v := 1) d_V_isAncestor_46 (by decide) ?_
      refine vq_isub d_V_isAncestor_47 ?_
      refine vq_int (show _ = nI 1 from rfl) ?_
      refine vq_callS (n := 4) _ _ d_V_isAncestor_48 (ct_V_isAncestor1 l b id D hW hc (o := zb F j) (fun i hi => by have := hW.2.2.1 j i hj hi; omega) ht) w_613 w_614 w_615 w_3 rfl ⟨by decide, by decide, by decide +kernel⟩ ⟨by decide, by decide⟩ rfl rfl (Nat.le_of_ble_eq_true rfl) rfl rfl rfl ⟨by decide, by decide⟩ (fun _ _ h => h.elim) (fun v48 g48 h48 => ?_)
      rw [h48.1, h48.2]
      refine vq_if_eq (tgt := 58) d_V_isAncestor_51 (by decide) (fun h51 => ?_) (fun h51 => ?_)
      · have hp2 := bI_0.mp h51
        refine vq_iconst (v := 0) d_V_isAncestor_58 (by decide) ?_
        refine vq_zret d_V_isAncestor_59 rfl (by first | exact Or.inl rfl | exact Or.inr rfl | assumption) (by decide) (by decide) rfl rfl ?_
        first | refine ⟨r0 ?_, rfl⟩ | refine ⟨r1 ?_, rfl⟩
        first | rfl | (exact absurd h11.symm h11b) | (show (zoB (za F j) (fun i => zan F 1 i t) || zoB (zb F j) (fun i => zan F 1 i t)) = _; first | (rw [hp1]; rfl) | (rw [hp1, hp2]; rfl))
      · have hp2 := bI_n0.mp h51
        refine vq_iconst (v := 1) d_V_isAncestor_54 (by decide) ?_
        refine vq_goto (tgt := 59) d_V_isAncestor_55 (by decide) ?_
        refine vq_zret d_V_isAncestor_59 rfl (by first | exact Or.inl rfl | exact Or.inr rfl | assumption) (by decide) (by decide) rfl rfl ?_
        first | refine ⟨r0 ?_, rfl⟩ | refine ⟨r1 ?_, rfl⟩
        first | rfl | (exact absurd h11.symm h11b) | (show (zoB (za F j) (fun i => zan F 1 i t) || zoB (zb F j) (fun i => zan F 1 i t)) = _; first | (rw [hp1]; rfl) | (rw [hp1, hp2]; rfl))
set_option maxRecDepth 100000 in
set_option maxHeartbeats 4000000 in
theorem ct_V_isAncestor3 (l : Launch) (b : Nat) (id : Nat → ClassId) (D : va_G) {g : Sg} {F : Fam} (hW : zW F) (hc : Hc g F) {o : Option Nat} {t : Nat} (ho : ∀ j, o = some j → j < zn F) (ht : t < zn F) : qCT l b id D m_V_isAncestor3 false [.ref (b + 1), .int (nI t), .int (eO o), .int (nI 3)] 85 kT g 85 kT (fun v g' => v = some (.int (bI (zoB o (fun j => zan F 3 j t)))) ∧ g' = g) (fun _ _ => False) := by
  have hn := hW.1
  refine qCT_of rfl (by decide) (Nat.le_of_ble_eq_true rfl) ?_
  show Vq l b id D m_V_isAncestor3 false 85 kT _ 85 kT _ 85 kT 0 0 0 [(0, .ref (b + 1)), (1, .int (nI t)), (2, .int (eO o)), (3, .int (nI 3))] [] g
  refine vq_iload_n d_V_isAncestor_0 rfl ?_
  refine vq_iconst (v := -1) d_V_isAncestor_1 (by decide) ?_
  refine vq_icmp_eq (tgt := 9) d_V_isAncestor_2 (by decide) (fun h2 => ?_) (fun h2 => ?_)
  · have hj : o = none := (eO_m1 (fun j hj => Nat.lt_trans (ho j hj) (by omega))).mp h2
    subst hj
    refine vq_iload_n d_V_isAncestor_9 rfl ?_
    refine vq_iload_n d_V_isAncestor_10 rfl ?_
    refine vq_icmp_ne (tgt := 18) d_V_isAncestor_11 (by decide) (fun h11 => ?_) (fun h11 => ?_)
    · first | (rw [show eO (some j) = nI j from rfl, nI_eq (by omega) (by omega)] at h11) | (have h11b : ¬ nI t = -1 := nI_ne_m1 (by omega))
      refine vq_iconst (v := 0) d_V_isAncestor_18 (by decide) ?_
      refine vq_zret d_V_isAncestor_19 rfl (by first | exact Or.inl rfl | exact Or.inr rfl | assumption) (by decide) (by decide) rfl rfl ?_
      first | refine ⟨r0 ?_, rfl⟩ | refine ⟨r1 ?_, rfl⟩
      first | rfl | (exact absurd h11.symm h11b) | (show (zoB (za F j) (fun i => zan F 2 i t) || zoB (zb F j) (fun i => zan F 2 i t)) = _; first | (rw [hp1]; rfl) | (rw [hp1, hp2]; rfl))
    · first | (rw [show eO (some j) = nI j from rfl, nI_eq (by omega) (by omega)] at h11) | (have h11b : ¬ nI t = -1 := nI_ne_m1 (by omega))
      refine vq_iconst (v := 1) d_V_isAncestor_14 (by decide) ?_
      refine vq_goto (tgt := 19) d_V_isAncestor_15 (by decide) ?_
      refine vq_zret d_V_isAncestor_19 rfl (by first | exact Or.inl rfl | exact Or.inr rfl | assumption) (by decide) (by decide) rfl rfl ?_
      first | refine ⟨r0 ?_, rfl⟩ | refine ⟨r1 ?_, rfl⟩
      first | rfl | (exact absurd h11.symm h11b) | (show (zoB (za F j) (fun i => zan F 2 i t) || zoB (zb F j) (fun i => zan F 2 i t)) = _; first | (rw [hp1]; rfl) | (rw [hp1, hp2]; rfl))
  · obtain ⟨j, rfl⟩ : ∃ j, o = some j := by cases o with | none => exact absurd rfl h2 | some j => exact ⟨j, rfl⟩
    have hj := ho j rfl
    have hza := hc.2.1 j hj
    have hzb := hc.2.2.1 j hj
    refine vq_iload_n d_V_isAncestor_5 rfl ?_
    refine vq_if_gt (tgt := 20) d_V_isAncestor_6 (by decide) (fun h6 => ?_) (fun h6 => absurd h6 (by decide))
    refine vq_aload_n d_V_isAncestor_20 rfl ?_
    refine vq_iload_n d_V_isAncestor_21 rfl ?_
    refine vq_aload_n d_V_isAncestor_22 rfl ?_
    refine vq_getR (k := 1) (C := R_F) (T := T_F) d_V_isAncestor_23 rfl in_F w_39 (by decide) rfl (by decide) rfl rfl ?_
    refine vq_iload_n d_V_isAncestor_26 rfl ?_
    refine vq_iald d_V_isAncestor_27 (by decide) rfl rfl (show _ < 20 by omega) ?_
    refine vq_int (y := eO (za F j)) hza ?_
    refine vq_iload_n d_V_isAncestor_28 rfl ?_
    refine vq_iconst (v := 1) d_V_isAncestor_29 (by decide) ?_
    refine vq_isub d_V_isAncestor_30 ?_
    refine vq_int (show _ = nI 2 from rfl) ?_
    refine vq_callS (n := 4) _ _ d_V_isAncestor_31 (ct_V_isAncestor2 l b id D hW hc (o := za F j) (fun i hi => by have := hW.2.1 j i hj hi; omega) ht) w_613 w_614 w_615 w_3 rfl ⟨by decide, by decide, by decide +kernel⟩ ⟨by decide, by decide⟩ rfl rfl (Nat.le_of_ble_eq_true rfl) rfl rfl rfl ⟨by decide, by decide⟩ (fun _ _ h => h.elim) (fun v31 g31 h31 => ?_)
    rw [h31.1, h31.2]
    refine vq_if_ne (tgt := 54) d_V_isAncestor_34 (by decide) (fun h34 => ?_) (fun h34 => ?_)
    · have hp1 := bI_n0.mp h34
      refine vq_iconst (v := 1) d_V_isAncestor_54 (by decide) ?_
      refine vq_goto (tgt := 59) d_V_isAncestor_55 (by decide) ?_
      refine vq_zret d_V_isAncestor_59 rfl (by first | exact Or.inl rfl | exact Or.inr rfl | assumption) (by decide) (by decide) rfl rfl ?_
      first | refine ⟨r0 ?_, rfl⟩ | refine ⟨r1 ?_, rfl⟩
      first | rfl | (exact absurd h11.symm h11b) | (show (zoB (za F j) (fun i => zan F 2 i t) || zoB (zb F j) (fun i => zan F 2 i t)) = _; first | (rw [hp1]; rfl) | (rw [hp1, hp2]; rfl))
    · have hp1 := bI_0.mp h34
      refine vq_aload_n d_V_isAncestor_37 rfl ?_
      refine vq_iload_n d_V_isAncestor_38 rfl ?_
      refine vq_aload_n d_V_isAncestor_39 rfl ?_
      refine vq_getR (k := 2) (C := R_F) (T := T_F) d_V_isAncestor_40 rfl in_F w_43 (by decide) rfl (by decide) rfl rfl ?_
      refine vq_iload_n d_V_isAncestor_43 rfl ?_
      refine vq_iald d_V_isAncestor_44 (by decide) rfl rfl (show _ < 20 by omega) ?_
      refine vq_int (y := eO (zb F j)) hzb ?_
      refine vq_iload_n d_V_isAncestor_45 rfl ?_
      refine vq_iconst (v := 1) d_V_isAncestor_46 (by decide) ?_
      refine vq_isub d_V_isAncestor_47 ?_
      refine vq_int (show _ = nI 2 from rfl) ?_
      refine vq_callS (n := 4) _ _ d_V_isAncestor_48 (ct_V_isAncestor2 l b id D hW hc (o := zb F j) (fun i hi => by have := hW.2.2.1 j i hj hi; omega) ht) w_613 w_614 w_615 w_3 rfl ⟨by decide, by decide, by decide +kernel⟩ ⟨by decide, by decide⟩ rfl rfl (Nat.le_of_ble_eq_true rfl) rfl rfl rfl ⟨by decide, by decide⟩ (fun _ _ h => h.elim) (fun v48 g48 h48 => ?_)
      rw [h48.1, h48.2]
      refine vq_if_eq (tgt := 58) d_V_isAncestor_51 (by decide) (fun h51 => ?_) (fun h51 => ?_)
      · have hp2 := bI_0.mp h51
        refine vq_iconst (v := 0) d_V_isAncestor_58 (by decide) ?_
        refine vq_zret d_V_isAncestor_59 rfl (by first | exact Or.inl rfl | exact Or.inr rfl | assumption) (by decide) (by decide) rfl rfl ?_
        first | refine ⟨r0 ?_, rfl⟩ | refine ⟨r1 ?_, rfl⟩
        first | rfl | (exact absurd h11.symm h11b) | (show (zoB (za F j) (fun i => zan F 2 i t) || zoB (zb F j) (fun i => zan F 2 i t)) = _; first | (rw [hp1]; rfl) | (rw [hp1, hp2]; rfl))
      · have hp2 := bI_n0.mp h51
        refine vq_iconst (v := 1) d_V_isAncestor_54 (by decide) ?_
        refine vq_goto (tgt := 59) d_V_isAncestor_55 (by decide) ?_
        refine vq_zret d_V_isAncestor_59 rfl (by first | exact Or.inl rfl | exact Or.inr rfl | assumption) (by decide) (by decide) rfl rfl ?_
        first | refine ⟨r0 ?_, rfl⟩ | refine ⟨r1 ?_, rfl⟩
        first | rfl | (exact absurd h11.symm h11b) | (show (zoB (za F j) (fun i => zan F 2 i t) || zoB (zb F j) (fun i => zan F 2 i t)) = _; first | (rw [hp1]; rfl) | (rw [hp1, hp2]; rfl))
end
section
/-! SuccessionClerk$Survey.leastStemOver. Laid by wip/whole/specs/p25.py -/
set_option maxRecDepth 100000 in
set_option maxHeartbeats 4000000 in
theorem ct_V_beginsOrder (l : Launch) (b : Nat) (id : Nat → ClassId) (D : va_G) {g : Sg} {F : Fam} (hW : zW F) (hc : Hc g F) {e top : Nat} (he : e < zn F) (hk : LK g F e) (h3 : zt F e ≤ 3) (htop : top < zn F) : qCT l b id D m_V_beginsOrder false [.ref (b + 29), .int (nI top)] 85 kT g 85 kT (fun v g' => v = some (.int (bI (zbg F e top))) ∧ g' = g) (fun _ _ => False) := by
  have hn := hW.1
  refine qCT_of rfl (by decide) (Nat.le_of_ble_eq_true rfl) ?_
  show Vq l b id D m_V_beginsOrder false 85 kT _ 85 kT _ 85 kT 0 0 0 [(0, .ref (b + 29)), (1, .int (nI top))] [] g
  refine vq_aload_n d_V_beginsOrder_0 rfl ?_
  refine vq_getI (k := 3) (C := R_V) (T := T_V) d_V_beginsOrder_1 rfl in_V w_89 (by decide) rfl (by decide) rfl ?_
  refine vq_int (y := nI (zt F e)) hk.2.2.1 ?_
  refine vq_if_ne (tgt := 22) d_V_beginsOrder_4 (by decide) (fun h4 => ?_) (fun h4 => ?_)
  · have h0 : ¬ zt F e = 0 := by
      rw [show (0 : Int32) = nI 0 from rfl, nI_eq (by omega) (by decide)] at h4
      exact h4
    have h3 : zt F e = 1 ∨ zt F e = 2 ∨ zt F e = 3 := by omega
    rcases h3 with ht | ht | ht
    · refine vq_aload_n d_V_beginsOrder_22 rfl ?_
      refine vq_getR (k := 0) (C := R_V) (T := T_V) d_V_beginsOrder_23 rfl in_V w_82 (by decide) rfl (by decide) rfl rfl ?_
      refine vq_iload_n d_V_beginsOrder_26 rfl ?_
      refine vq_aload_n d_V_beginsOrder_27 rfl ?_
      refine vq_getI (k := 1) (C := R_V) (T := T_V) d_V_beginsOrder_28 rfl in_V w_83 (by decide) rfl (by decide) rfl ?_
      refine vq_int (y := eO (some e)) hk.1 ?_
      refine vq_aload_n d_V_beginsOrder_31 rfl ?_
      refine vq_getI (k := 3) (C := R_V) (T := T_V) d_V_beginsOrder_32 rfl in_V w_89 (by decide) rfl (by decide) rfl ?_
      refine vq_int (y := nI 1) (by rw [hk.2.2.1, ht]) ?_
      refine vq_callS (n := 4) _ _ d_V_beginsOrder_35 (ct_V_isAncestor1 l b id D hW hc (o := some e) (fun j hj => by cases hj; exact he) htop) w_613 w_614 w_615 w_3 rfl ⟨by decide, by decide, by decide +kernel⟩ ⟨by decide, by decide⟩ rfl rfl (Nat.le_of_ble_eq_true rfl) rfl rfl rfl ⟨by decide, by decide⟩ (fun _ _ h => h.elim) (fun v35 g35 h35 => ?_)
      rw [h35.1, h35.2]
      refine vq_zret d_V_beginsOrder_38 rfl (bI_01 _) (by decide) (by decide) rfl rfl ?_
      exact ⟨by unfold zbg; first | (rw [if_pos h0]; done) | (rw [if_neg h0, ht]; rfl), rfl⟩
    · refine vq_aload_n d_V_beginsOrder_22 rfl ?_
      refine vq_getR (k := 0) (C := R_V) (T := T_V) d_V_beginsOrder_23 rfl in_V w_82 (by decide) rfl (by decide) rfl rfl ?_
      refine vq_iload_n d_V_beginsOrder_26 rfl ?_
      refine vq_aload_n d_V_beginsOrder_27 rfl ?_
      refine vq_getI (k := 1) (C := R_V) (T := T_V) d_V_beginsOrder_28 rfl in_V w_83 (by decide) rfl (by decide) rfl ?_
      refine vq_int (y := eO (some e)) hk.1 ?_
      refine vq_aload_n d_V_beginsOrder_31 rfl ?_
      refine vq_getI (k := 3) (C := R_V) (T := T_V) d_V_beginsOrder_32 rfl in_V w_89 (by decide) rfl (by decide) rfl ?_
      refine vq_int (y := nI 2) (by rw [hk.2.2.1, ht]) ?_
      refine vq_callS (n := 4) _ _ d_V_beginsOrder_35 (ct_V_isAncestor2 l b id D hW hc (o := some e) (fun j hj => by cases hj; exact he) htop) w_613 w_614 w_615 w_3 rfl ⟨by decide, by decide, by decide +kernel⟩ ⟨by decide, by decide⟩ rfl rfl (Nat.le_of_ble_eq_true rfl) rfl rfl rfl ⟨by decide, by decide⟩ (fun _ _ h => h.elim) (fun v35 g35 h35 => ?_)
      rw [h35.1, h35.2]
      refine vq_zret d_V_beginsOrder_38 rfl (bI_01 _) (by decide) (by decide) rfl rfl ?_
      exact ⟨by unfold zbg; first | (rw [if_pos h0]; done) | (rw [if_neg h0, ht]; rfl), rfl⟩
    · refine vq_aload_n d_V_beginsOrder_22 rfl ?_
      refine vq_getR (k := 0) (C := R_V) (T := T_V) d_V_beginsOrder_23 rfl in_V w_82 (by decide) rfl (by decide) rfl rfl ?_
      refine vq_iload_n d_V_beginsOrder_26 rfl ?_
      refine vq_aload_n d_V_beginsOrder_27 rfl ?_
      refine vq_getI (k := 1) (C := R_V) (T := T_V) d_V_beginsOrder_28 rfl in_V w_83 (by decide) rfl (by decide) rfl ?_
      refine vq_int (y := eO (some e)) hk.1 ?_
      refine vq_aload_n d_V_beginsOrder_31 rfl ?_
      refine vq_getI (k := 3) (C := R_V) (T := T_V) d_V_beginsOrder_32 rfl in_V w_89 (by decide) rfl (by decide) rfl ?_
      refine vq_int (y := nI 3) (by rw [hk.2.2.1, ht]) ?_
      refine vq_callS (n := 4) _ _ d_V_beginsOrder_35 (ct_V_isAncestor3 l b id D hW hc (o := some e) (fun j hj => by cases hj; exact he) htop) w_613 w_614 w_615 w_3 rfl ⟨by decide, by decide, by decide +kernel⟩ ⟨by decide, by decide⟩ rfl rfl (Nat.le_of_ble_eq_true rfl) rfl rfl rfl ⟨by decide, by decide⟩ (fun _ _ h => h.elim) (fun v35 g35 h35 => ?_)
      rw [h35.1, h35.2]
      refine vq_zret d_V_beginsOrder_38 rfl (bI_01 _) (by decide) (by decide) rfl rfl ?_
      exact ⟨by unfold zbg; first | (rw [if_pos h0]; done) | (rw [if_neg h0, ht]; rfl), rfl⟩
  · have h0 : zt F e = 0 := by
      rw [show (0 : Int32) = nI 0 from rfl, nI_eq (by omega) (by decide)] at h4
      exact h4
    refine vq_aload_n d_V_beginsOrder_7 rfl ?_
    refine vq_getR (k := 0) (C := R_V) (T := T_V) d_V_beginsOrder_8 rfl in_V w_82 (by decide) rfl (by decide) rfl rfl ?_
    refine vq_iload_n d_V_beginsOrder_11 rfl ?_
    refine vq_aload_n d_V_beginsOrder_12 rfl ?_
    refine vq_getI (k := 1) (C := R_V) (T := T_V) d_V_beginsOrder_13 rfl in_V w_83 (by decide) rfl (by decide) rfl ?_
    refine vq_int (y := nI e) hk.1 ?_
    refine vq_callV (n := 2) (C := R_F) (T := T_F) _ _ d_V_beginsOrder_16 (ct_F_isChild l b id D hW hc htop he) w_612 w_303 w_304 w_305 w_2 rfl ⟨by decide, by decide, by decide +kernel⟩ ⟨by decide, by decide⟩ (by decide) rfl rfl rfl rfl (Nat.le_of_ble_eq_true rfl) rfl rfl rfl ⟨by decide, by decide⟩ (fun _ _ h => h.elim) (fun v16 g16 h16 => ?_)
    rw [h16.1, h16.2]
    refine vq_goto (tgt := 38) d_V_beginsOrder_19 (by decide) ?_
    refine vq_zret d_V_beginsOrder_38 rfl (bI_01 _) (by decide) (by decide) rfl rfl ?_
    exact ⟨by unfold zbg; first | (rw [if_pos h0]; done) | (rw [if_neg h0, ht]; rfl), rfl⟩
set_option maxRecDepth 100000 in
set_option maxHeartbeats 4000000 in
theorem ct_V_leastStemOver (l : Launch) (b : Nat) (id : Nat → ClassId) (D : va_G) {g : Sg} {F : Fam} (hW : zW F) (hc : Hc g F) {e w : Nat} (he : e < zn F) (hk : LK g F e) (hw : w < zn F) : qCT l b id D m_V_leastStemOver false [.ref (b + 29), .int (nI w)] 85 kT g 85 kT (fun v g' => v = some (.int (eO (zst F e w))) ∧ g'.2 = g.2 ∧ ∀ q, q ≠ 33 → g'.1 q = g.1 q) (fun _ _ => False) := by
  have hn := hW.1
  have ht5 := zt_le F e
  refine qCT_of rfl (by decide) (Nat.le_of_ble_eq_true rfl) ?_
  show Vq l b id D m_V_leastStemOver false 85 kT _ 85 kT _ 85 kT 0 0 0 [(0, .ref (b + 29)), (1, .int (nI w))] [] g
  refine vq_aload_n d_V_leastStemOver_0 rfl ?_
  refine vq_getI (k := 3) (C := R_V) (T := T_V) d_V_leastStemOver_1 rfl in_V w_89 (by decide) rfl (by decide) rfl ?_
  refine vq_int (y := nI (zt F e)) hk.2.2.1 ?_
  refine vq_iconst (v := 3) d_V_leastStemOver_4 (by decide) ?_
  refine vq_icmp_gt (tgt := 17) d_V_leastStemOver_5 (by decide) (fun h5 => ?_) (fun h5 => ?_)
  · rw [show (3 : Int32) = nI 3 from rfl, nI_ltI (by decide) (by omega)] at h5
    refine vq_iconst (v := -1) d_V_leastStemOver_17 (by decide) ?_
    refine vq_iret d_V_leastStemOver_18 rfl (by decide) (by decide) rfl rfl ?_
    refine ⟨?_, rfl, fun q hq => rfl⟩
    have hz : zst F e w = none := by
      unfold zst
      rw [if_neg]
      intro h9
      first | omega | (rw [hl0] at h9; cases h9.2)
    rw [hz]; rfl
  · rw [show (3 : Int32) = nI 3 from rfl, nI_ltI (by decide) (by omega)] at h5
    refine vq_aload_n d_V_leastStemOver_8 rfl ?_
    refine vq_getR (k := 4) (C := R_V) (T := T_V) d_V_leastStemOver_9 rfl in_V w_92 (by decide) rfl (by decide) rfl rfl ?_
    refine vq_iload_n d_V_leastStemOver_12 rfl ?_
    refine vq_zald d_V_leastStemOver_13 (by decide) rfl rfl (show _ < 20 by omega) ?_
    refine vq_int (y := bI (zl F e w)) (hk.2.2.2.1 w hw) ?_
    refine vq_if_ne (tgt := 19) d_V_leastStemOver_14 (by decide) (fun h14 => ?_) (fun h14 => ?_)
    · have hl := bI_n0.mp h14
      have hst : zst F e w = zfst (fun t => zbg F e t && zR F e t w) (w + 1) := by unfold zst; rw [if_pos ⟨by omega, hl⟩]
      have loop : ∀ (n9 : Nat) (i : Nat) (g1 : Sg), w + 1 - i = n9 → (i ≤ w + 1 ∧ g1.2 = g.2 ∧ (∀ q, q ≠ 33 → g1.1 q = g.1 q) ∧ zfst (fun t => zbg F e t && zR F e t w) i = none) → Vq l b id D m_V_leastStemOver false 85 kT (fun v g' => v = some (.int (eO (zst F e w))) ∧ g'.2 = g.2 ∧ ∀ q, q ≠ 33 → g'.1 q = g.1 q) 85 kT (fun _ _ => False) 85 kT 0 0 21 [(2, .int (nI i)), (0, .ref (b + 29)), (1, .int (nI w))] [] g1 := by
        intro n9
        induction n9 using Nat.strongRecOn with
        | ind n9 ih =>
        intro i g1 hm hI
        have hi1 := hI.1
        have hfr := hI.2.2.1
        refine vq_iload_n d_V_leastStemOver_21 rfl ?_
        refine vq_iload_n d_V_leastStemOver_22 rfl ?_
        refine vq_icmp_gt (tgt := 51) d_V_leastStemOver_23 (by decide) (fun h23 => ?_) (fun h23 => ?_)
        · have hi : i = w + 1 := by
            rw [nI_ltI (by omega) (by omega)] at h23
            omega
          subst hi
          refine vq_iconst (v := -1) d_V_leastStemOver_51 (by decide) ?_
          refine vq_iret d_V_leastStemOver_52 rfl (by decide) (by decide) rfl rfl ?_
          refine ⟨?_, hI.2.1, hfr⟩
          rw [hst, hI.2.2.2]; rfl
        · have hi : i ≤ w := by
            rw [nI_ltI (by omega) (by omega)] at h23
            omega
          have hc1 : Hc g1 F := hc.congr (fun q a c => hfr q (by omega))
          have hk1 : LK g1 F e := hk.congr (fun q a c => hfr q (by omega))
          refine vq_aload_n d_V_leastStemOver_26 rfl ?_
          refine vq_iload_n d_V_leastStemOver_27 rfl ?_
          refine vq_callV (n := 1) (C := R_V) (T := T_V) _ _ d_V_leastStemOver_28 (ct_V_beginsOrder l b id D hW hc1 he hk1 (by omega) (show i < zn F by omega)) w_608 w_610 sel_V_beginsOrder w_611 w_3 rfl ⟨by decide, by decide, by decide +kernel⟩ ⟨by decide, by decide⟩ (by decide) rfl rfl rfl rfl (Nat.le_of_ble_eq_true rfl) rfl rfl rfl ⟨by decide, by decide⟩ (fun _ _ h => h.elim) (fun v28 g28 h28 => ?_)
          rw [h28.1, h28.2]
          refine vq_if_eq (tgt := 45) d_V_leastStemOver_31 (by decide) (fun h31 => ?_) (fun h31 => ?_)
          · have hb0 := bI_0.mp h31
            have hP : (zbg F e i && zR F e i w) = false := by rw [hb0]; rfl
            refine vq_iinc (k := 0) (lv' := [(2, _), (0, _), (1, _)]) d_V_leastStemOver_45 rfl (ip1 i) (by decide) rfl ?_
            refine vq_goto (tgt := 21) d_V_leastStemOver_48 (by decide) ?_
            first | exact ih (w + 1 - (i + 1)) (by omega) (i + 1) _ rfl ⟨by omega, hI.2.1, hfr, zfst_none hI.2.2.2 hP⟩ | exact ih (w + 1 - (i + 1)) (by omega) (i + 1) _ rfl ⟨by omega, a2.trans hI.2.1, fun q hq => (a3 q hq).trans (hfr q hq), zfst_none hI.2.2.2 hP⟩
          · have hb1 := bI_n0.mp h31
            refine vq_aload_n d_V_leastStemOver_34 rfl ?_
            refine vq_iload_n d_V_leastStemOver_35 rfl ?_
            refine vq_iload_n d_V_leastStemOver_36 rfl ?_
            refine vq_callV (n := 2) (C := R_V) (T := T_V) _ _ d_V_leastStemOver_37 (ct_V_stemReaches l b id D hW hc1 hk1.2.2.2.1 (show i < zn F by omega) hw) w_616 w_618 sel_V_stemReaches w_619 w_3 rfl ⟨by decide, by decide, by decide +kernel⟩ ⟨by decide, by decide⟩ (by decide) rfl rfl rfl rfl (Nat.le_of_ble_eq_true rfl) rfl rfl rfl ⟨by decide, by decide⟩ (fun _ _ h => h.elim) (fun v37 g37 h37 => ?_)
            obtain ⟨rfl, a2, a3⟩ := h37
            refine vq_if_eq (tgt := 45) d_V_leastStemOver_40 (by decide) (fun h40 => ?_) (fun h40 => ?_)
            · have hP : (zbg F e i && zR F e i w) = false := by rw [bI_0.mp h40]; simp
              refine vq_iinc (k := 0) (lv' := [(2, _), (0, _), (1, _)]) d_V_leastStemOver_45 rfl (ip1 i) (by decide) rfl ?_
              refine vq_goto (tgt := 21) d_V_leastStemOver_48 (by decide) ?_
              first | exact ih (w + 1 - (i + 1)) (by omega) (i + 1) _ rfl ⟨by omega, hI.2.1, hfr, zfst_none hI.2.2.2 hP⟩ | exact ih (w + 1 - (i + 1)) (by omega) (i + 1) _ rfl ⟨by omega, a2.trans hI.2.1, fun q hq => (a3 q hq).trans (hfr q hq), zfst_none hI.2.2.2 hP⟩
            · have hP : (zbg F e i && zR F e i w) = true := by rw [bI_n0.mp h40, hb1]; rfl
              refine vq_iload_n d_V_leastStemOver_43 rfl ?_
              refine vq_iret d_V_leastStemOver_44 rfl (by decide) (by decide) rfl rfl ?_
              refine ⟨?_, a2.trans hI.2.1, fun q hq => (a3 q hq).trans (hfr q hq)⟩
              have h9 := zfst_on (zfst_some hI.2.2.2 hP) (w - i)
              rw [show i + 1 + (w - i) = w + 1 by omega] at h9
              rw [hst, h9]; rfl
      refine vq_iconst (v := 0) d_V_leastStemOver_19 (by decide) ?_
      refine vq_istore_n (lv' := [(2, _), (0, _), (1, _)]) d_V_leastStemOver_20 (by decide) rfl ?_
      exact loop (w + 1) 0 _ rfl ⟨by omega, rfl, fun q hq => rfl, rfl⟩
    · have hl0 := bI_0.mp h14
      refine vq_iconst (v := -1) d_V_leastStemOver_17 (by decide) ?_
      refine vq_iret d_V_leastStemOver_18 rfl (by decide) (by decide) rfl rfl ?_
      refine ⟨?_, rfl, fun q hq => rfl⟩
      have hz : zst F e w = none := by
        unfold zst
        rw [if_neg]
        intro h9
        first | omega | (rw [hl0] at h9; cases h9.2)
      rw [hz]; rfl
end
section
/-! SuccessionClerk$Division: the product, the start, what is lowered. Laid by wip/whole/specs/p26.py -/
theorem lpos {a : Nat} (ha : a < 2 ^ 63) : (lg_cmp (lN a) 0 ≤ 0) ↔ a = 0 := by
  rw [lg_cmp_le, show (0 : Int64) = lN 0 from rfl, pk_lLE ha (by decide)]; omega
theorem lposg {a : Nat} (ha : a < 2 ^ 63) : (0 < lg_cmp (lN a) 0) ↔ 0 < a := by
  rw [lg_cmp_gt, show (0 : Int64) = lN 0 from rfl, pk_lLT (by decide) ha]
theorem sw_take {f2 : Nat → Int64} {j p x : Nat} (h : f2 p = 0) : (if p = j then lN x else f2 p) = lN (if some j = some p then x else 0) := by
  by_cases ep : p = j
  · subst ep; simp
  · rw [if_neg ep, if_neg (fun h => ep (Option.some.inj h).symm), h]; rfl
theorem lN_ne0 {a : Nat} (h0 : 0 < a) (ha : a < 2 ^ 63) : ¬ lN a = 0 := by
  rw [show (0 : Int64) = lN 0 from rfl, pk_lEQ ha (by decide)]; omega
def m_D_branchProduct : Mt := (y_D_branchProduct, c_D_branchProduct, 4, { frames := 8, cells := 0, slots := 0, locals := 130 }, (some .long), none)
def m_D_startWith : Mt := (y_D_startWith, c_D_startWith, 5, { frames := 9, cells := 0, slots := 0, locals := 175 }, none, none)
def m_D_lowerPart : Mt := (y_D_lowerPart, c_D_lowerPart, 5, { frames := 9, cells := 0, slots := 0, locals := 175 }, none, none)
def m_D_lowerParts : Mt := (y_D_lowerParts, c_D_lowerParts, 2, { frames := 10, cells := 0, slots := 0, locals := 220 }, none, none)
def m_D_raisePart : Mt := (y_D_raisePart, c_D_raisePart, 9, { frames := 9, cells := 0, slots := 0, locals := 175 }, none, none)
def m_D_raiseParts : Mt := (y_D_raiseParts, c_D_raiseParts, 4, { frames := 10, cells := 0, slots := 0, locals := 220 }, none, none)
def m_D_divideByShares : Mt := (y_D_divideByShares, c_D_divideByShares, 5, { frames := 11, cells := 0, slots := 0, locals := 265 }, none, none)
set_option maxRecDepth 100000 in
set_option maxHeartbeats 4000000 in
theorem ct_D_branchProduct (l : Launch) (b : Nat) (id : Nat → ClassId) (D : va_G) {g : Sg} {F : Fam} (hW : zW F) (hc : Hc g F) {e : Nat} (he : e < zn F) (hk : LK g F e) : qCT l b id D m_D_branchProduct false [.ref (b + 34)] 85 kT g 85 kT (fun v g' => v = some (.long (lN (zpr F e))) ∧ g' = g) (fun _ _ => False) := by
  have hn := hW.1
  refine qCT_of rfl (by decide) (Nat.le_of_ble_eq_true rfl) ?_
  show Vq l b id D m_D_branchProduct false 85 kT _ 85 kT _ 85 kT 0 0 0 [(0, .ref (b + 34))] [] g
  have loop : ∀ (n9 : Nat) (i : Nat), zn F - i = n9 → i ≤ zn F → Vq l b id D m_D_branchProduct false 85 kT (fun v g' => v = some (.long (lN (zpr F e))) ∧ g' = g) 85 kT (fun _ _ => False) 85 kT 0 0 4 [(3, .int (nI i)), (1, .long (lN (zpd (zfa F e) i))), (0, .ref (b + 34))] [] g := by
    intro n9
    induction n9 using Nat.strongRecOn with
    | ind n9 ih =>
    intro i hm hle
    refine vq_iload_n d_D_branchProduct_4 rfl ?_
    refine vq_aload_n d_D_branchProduct_5 rfl ?_
    refine vq_getR (k := 0) (C := R_D) (T := T_D) d_D_branchProduct_6 rfl in_D w_150 (by decide) rfl (by decide) rfl rfl ?_
    refine vq_getI (k := 0) (C := R_F) (T := T_F) d_D_branchProduct_9 rfl in_F w_35 (by decide) rfl (by decide) rfl ?_
    refine vq_int (y := nI (zn F)) hc.1 ?_
    refine vq_icmp_ge (tgt := 58) d_D_branchProduct_12 (by decide) (fun h12 => ?_) (fun h12 => ?_)
    · have hi : i = zn F := by
        rw [nI_leI (by omega) (by omega)] at h12
        omega
      subst hi
      refine vq_lload_n d_D_branchProduct_58 rfl ?_
      refine vq_lret d_D_branchProduct_59 rfl (by decide) (by decide) rfl rfl ?_
      exact ⟨rfl, rfl⟩
    · have hi : i < zn F := by
        rw [nI_leI (by omega) (by omega)] at h12
        omega
      have hB := zB_le (F := F) (e := e) i
      have hB31 : zB F e i < 2 ^ 31 := by omega
      have s52 : ∀ x : Nat, x = zpd (zfa F e) (i + 1) → Vq l b id D m_D_branchProduct false 85 kT (fun v g' => v = some (.long (lN (zpr F e))) ∧ g' = g) 85 kT (fun _ _ => False) 85 kT 0 0 52 [(1, .long (lN x)), (3, .int (nI i)), (0, .ref (b + 34))] [] g := by
        intro x hx
        refine vq_iinc (k := 1) (lv' := [(3, _), (1, _), (0, _)]) d_D_branchProduct_52 rfl (ip1 i) (by decide) rfl ?_
        refine vq_goto (tgt := 4) d_D_branchProduct_55 (by decide) ?_
        rw [hx]
        exact ih (zn F - (i + 1)) (by omega) (i + 1) rfl (by omega)
      refine vq_aload_n d_D_branchProduct_15 rfl ?_
      refine vq_getR (k := 1) (C := R_D) (T := T_D) d_D_branchProduct_16 rfl in_D w_151 (by decide) rfl (by decide) rfl rfl ?_
      refine vq_getR (k := 4) (C := R_V) (T := T_V) d_D_branchProduct_19 rfl in_V w_93 (by decide) rfl (by decide) rfl rfl ?_
      refine vq_iload_n d_D_branchProduct_22 rfl ?_
      refine vq_zald d_D_branchProduct_23 (by decide) rfl rfl (show _ < 20 by omega) ?_
      refine vq_int (y := bI (zl F e i)) (hk.2.2.2.1 i hi) ?_
      refine vq_if_ne (tgt := 52) d_D_branchProduct_24 (by decide) (fun h24 => ?_) (fun h24 => ?_)
      · have hl := bI_n0.mp h24
        have hz : zfa F e i = 1 := by unfold zfa; simp [hl]
        refine vq_pk [1, 0, 2] (lv' := [(1, _), (3, _), (0, _)]) rfl ?_
        exact s52 _ (by show _ = zpd (zfa F e) i * zfa F e i; first | (rw [hz]; done) | (rw [hz, Nat.mul_one]; done))
      · have hl := bI_0.mp h24
        refine vq_aload_n d_D_branchProduct_27 rfl ?_
        refine vq_getR (k := 1) (C := R_D) (T := T_D) d_D_branchProduct_28 rfl in_D w_151 (by decide) rfl (by decide) rfl rfl ?_
        refine vq_getR (k := 5) (C := R_V) (T := T_V) d_D_branchProduct_31 rfl in_V w_95 (by decide) rfl (by decide) rfl rfl ?_
        refine vq_iload_n d_D_branchProduct_34 rfl ?_
        refine vq_iald d_D_branchProduct_35 (by decide) rfl rfl (show _ < 20 by omega) ?_
        refine vq_int (y := nI (zB F e i)) (hk.2.2.2.2.1 i hi) ?_
        refine vq_if_le (tgt := 52) d_D_branchProduct_36 (by decide) (fun h36 => ?_) (fun h36 => ?_)
        · rw [nI_n0 hB31] at h36
          have hz : zfa F e i = 1 := by unfold zfa; simp [h36]
          refine vq_pk [1, 0, 2] (lv' := [(1, _), (3, _), (0, _)]) rfl ?_
          exact s52 _ (by show _ = zpd (zfa F e) i * zfa F e i; first | (rw [hz]; done) | (rw [hz, Nat.mul_one]; done))
        · rw [nI_n0 hB31] at h36
          have hz : zfa F e i = zB F e i := by unfold zfa; rw [if_pos (by simp [hl]; omega)]
          refine vq_lload_n d_D_branchProduct_39 rfl ?_
          refine vq_aload_n d_D_branchProduct_40 rfl ?_
          refine vq_getR (k := 1) (C := R_D) (T := T_D) d_D_branchProduct_41 rfl in_D w_151 (by decide) rfl (by decide) rfl rfl ?_
          refine vq_getR (k := 5) (C := R_V) (T := T_V) d_D_branchProduct_44 rfl in_V w_95 (by decide) rfl (by decide) rfl rfl ?_
          refine vq_iload_n d_D_branchProduct_47 rfl ?_
          refine vq_iald d_D_branchProduct_48 (by decide) rfl rfl (show _ < 20 by omega) ?_
          refine vq_int (y := nI (zB F e i)) (hk.2.2.2.2.1 i hi) ?_
          refine vq_i2l d_D_branchProduct_49 (nI_l hB31) ?_
          refine vq_lmul d_D_branchProduct_50 ?_
          rw [lN_mul]
          refine vq_lstore_n (lv' := [(1, _), (3, _), (0, _)]) d_D_branchProduct_51 (by decide) rfl ?_
          exact s52 _ (by show _ = zpd (zfa F e) i * zfa F e i; first | (rw [hz]; done) | (rw [hz, Nat.mul_one]; done))
  refine vq_lconst (v := 1) d_D_branchProduct_0 rfl ?_
  refine vq_lstore_n (lv' := [(1, _), (0, _)]) d_D_branchProduct_1 (by decide) rfl ?_
  refine vq_iconst (v := 0) d_D_branchProduct_2 (by decide) ?_
  refine vq_istore_n (lv' := [(3, _), (1, _), (0, _)]) d_D_branchProduct_3 (by decide) rfl ?_
  exact loop (zn F) 0 rfl (by omega)
set_option maxRecDepth 100000 in
set_option maxHeartbeats 4000000 in
theorem ct_D_startWith (l : Launch) (b : Nat) (id : Nat → ClassId) (D : va_G) {g : Sg} {F : Fam} (hW : zW F) (hc : Hc g F) {e : Nat} (he : e < zn F) (hk : LK g F e) (d : Int64) (u : Nat) : qCT l b id D m_D_startWith false [.ref (b + 34), .long d, .long (lN u)] 85 kT g 85 kT (fun v g' => v = none ∧ g'.1 = g.1 ∧ (∀ q, q ≠ 34 → q ≠ 35 → q ≠ 36 → g'.2 q = g.2 q) ∧ g'.2 34 4 = d ∧ (∀ p, p < 20 → g'.2 36 p = 0) ∧ (∀ p, p < 20 → g'.2 35 p = lN (if zw F e = some p then u * zq F e else 0))) (fun _ _ => False) := by
  have hn := hW.1
  refine qCT_of rfl (by decide) (Nat.le_of_ble_eq_true rfl) ?_
  show Vq l b id D m_D_startWith false 85 kT _ 85 kT _ 85 kT 0 0 0 [(0, .ref (b + 34)), (1, .long d), (3, .long (lN u))] [] g
  refine vq_aload_n d_D_startWith_0 rfl ?_
  refine vq_lload_n d_D_startWith_1 rfl ?_
  refine vq_putJ (k := 4) (C := R_D) (T := T_D) t_D d_D_startWith_2 rfl in_D w_155 ty_D nm_D (by decide) rfl (by decide) rfl (by decide +kernel) rfl ?_
  refine vq_aload_n d_D_startWith_5 rfl ?_
  refine vq_getR (k := 5) (C := R_D) (T := T_D) d_D_startWith_6 rfl in_D w_157 (by decide) rfl (by decide) rfl rfl ?_
  refine vq_lconst (v := 0) d_D_startWith_9 rfl ?_
  refine vq_callS (n := 2) _ _ d_D_startWith_10 (ct_A_fillJ l b id D (q := 36) (by decide) rfl 0) w_329 w_236 w_237 w_13 rfl ⟨by decide, by decide, by decide +kernel⟩ ⟨by decide, by decide⟩ rfl rfl (Nat.le_of_ble_eq_true rfl) rfl rfl rfl ⟨by decide, by decide⟩ (fun _ _ h => h.elim) (fun v10 g10 h10 => ?_)
  obtain ⟨rfl, f, rfl, hf⟩ := h10
  refine vq_aload_n d_D_startWith_13 rfl ?_
  refine vq_getR (k := 3) (C := R_D) (T := T_D) d_D_startWith_14 rfl in_D w_153 (by decide) rfl (by decide) rfl rfl ?_
  refine vq_lconst (v := 0) d_D_startWith_17 rfl ?_
  refine vq_callS (n := 2) _ _ d_D_startWith_18 (ct_A_fillJ l b id D (q := 35) (by decide) rfl 0) w_329 w_236 w_237 w_13 rfl ⟨by decide, by decide, by decide +kernel⟩ ⟨by decide, by decide⟩ rfl rfl (Nat.le_of_ble_eq_true rfl) rfl rfl rfl ⟨by decide, by decide⟩ (fun _ _ h => h.elim) (fun v18 g18 h18 => ?_)
  obtain ⟨rfl, f2, rfl, hf2⟩ := h18
  refine vq_aload_n d_D_startWith_21 rfl ?_
  refine vq_getR (k := 1) (C := R_D) (T := T_D) d_D_startWith_22 rfl in_D w_151 (by decide) rfl (by decide) rfl rfl ?_
  refine vq_getI (k := 2) (C := R_V) (T := T_V) d_D_startWith_25 rfl in_V w_87 (by decide) rfl (by decide) rfl ?_
  refine vq_int (y := eO (zw F e)) hk.2.1 ?_
  refine vq_iconst (v := -1) d_D_startWith_28 (by decide) ?_
  refine vq_icmp_eq (tgt := 54) d_D_startWith_29 (by decide) (fun h29 => ?_) (fun h29 => ?_)
  · rw [eO_m1 (zw_isNone hW he)] at h29
    refine vq_vret d_D_startWith_54 rfl (by decide) (by decide) rfl rfl ?_
    refine ⟨rfl, rfl, fun q a c d9 => ?_, ?_, fun p hp => ?_, fun p hp => ?_⟩
    · simp [sJ, a, c, d9]
    · simp [sJ, vp_updL]
    · simp only [sJ, if_neg (show ¬ (36 : Nat) = 35 by decide), if_true]; exact hf p hp
    · first | (rw [h29]; simp only [sJ, if_true]; rw [hf2 p hp]; rfl) | (rw [hj]; exact sw_take (hf2 p hp))
  · rw [eO_m1 (zw_isNone hW he)] at h29
    obtain ⟨j, hj⟩ := Option.ne_none_iff_exists'.mp h29
    have hjn := (zw_lt hW he hj).1
    refine vq_aload_n d_D_startWith_32 rfl ?_
    refine vq_getR (k := 3) (C := R_D) (T := T_D) d_D_startWith_33 rfl in_D w_153 (by decide) rfl (by decide) rfl rfl ?_
    refine vq_aload_n d_D_startWith_36 rfl ?_
    refine vq_getR (k := 1) (C := R_D) (T := T_D) d_D_startWith_37 rfl in_D w_151 (by decide) rfl (by decide) rfl rfl ?_
    refine vq_getI (k := 2) (C := R_V) (T := T_V) d_D_startWith_40 rfl in_V w_87 (by decide) rfl (by decide) rfl ?_
    refine vq_int (y := eO (zw F e)) hk.2.1 ?_
    refine vq_lload_n d_D_startWith_43 rfl ?_
    refine vq_aload_n d_D_startWith_44 rfl ?_
    refine vq_getR (k := 1) (C := R_D) (T := T_D) d_D_startWith_45 rfl in_D w_151 (by decide) rfl (by decide) rfl rfl ?_
    refine vq_callV (n := 0) (C := R_V) (T := T_V) _ _ d_D_startWith_48 (ct_V_spouseQuarters l b id D hW he (hk.congr (fun q a c => rfl))) w_294 w_295 w_296 w_297 w_3 rfl ⟨by decide, by decide, by decide +kernel⟩ ⟨by decide, by decide⟩ (by decide) rfl rfl rfl rfl (Nat.le_of_ble_eq_true rfl) rfl rfl rfl ⟨by decide, by decide⟩ (fun _ _ h => h.elim) (fun v48 g48 h48 => ?_)
    rw [h48.1, h48.2]
    refine vq_i2l d_D_startWith_51 (nI_l (by have := zq_le (F := F) (e := e); omega)) ?_
    refine vq_lmul d_D_startWith_52 ?_
    rw [lN_mul]
    refine vq_last d_D_startWith_53 rfl (by decide) rfl (show _ = nI j by rw [hj]; rfl) (show _ < 20 by omega) ?_
    refine vq_vret d_D_startWith_54 rfl (by decide) (by decide) rfl rfl ?_
    refine ⟨rfl, rfl, fun q a c d9 => ?_, ?_, fun p hp => ?_, fun p hp => ?_⟩
    · simp [sJ, a, c, d9]
    · simp [sJ, vp_updL]
    · simp only [sJ, if_neg (show ¬ (36 : Nat) = 35 by decide), if_true]; exact hf p hp
    · first | (rw [h29]; simp only [sJ, if_true]; rw [hf2 p hp]; rfl) | (rw [hj]; exact sw_take (hf2 p hp))
set_option maxRecDepth 100000 in
set_option maxHeartbeats 4000000 in
theorem ct_D_lowerPart (l : Launch) (b : Nat) (id : Nat → ClassId) (D : va_G) {g : Sg} {F : Fam} (hW : zW F) (hc : Hc g F) {e : Nat} (he : e < zn F) (hk : LK g F e) {w : Nat} (hw : w < zn F) (x : Nat) : qCT l b id D m_D_lowerPart false [.ref (b + 34), .int (nI w), .long (lN x)] 85 kT g 85 kT (fun v g' => v = none ∧ g'.1 = g.1 ∧ (∀ q, q ≠ 36 → g'.2 q = g.2 q) ∧ (∀ c, c < zn F → g'.2 36 c = g.2 36 c + lN (if zk F e w c = true then x else 0))) (fun _ _ => False) := by
  have hn := hW.1
  refine qCT_of rfl (by decide) (Nat.le_of_ble_eq_true rfl) ?_
  show Vq l b id D m_D_lowerPart false 85 kT _ 85 kT _ 85 kT 0 0 0 [(0, .ref (b + 34)), (1, .int (nI w)), (2, .long (lN x))] [] g
  have loop : ∀ (n9 : Nat) (i : Nat) (g1 : Sg), zn F - i = n9 → (w + 1 ≤ i ∧ i ≤ zn F ∧ g1.1 = g.1 ∧ (∀ q, q ≠ 36 → g1.2 q = g.2 q) ∧ (∀ c, c < zn F → g1.2 36 c = g.2 36 c + lN (if c < i ∧ zk F e w c = true then x else 0))) → Vq l b id D m_D_lowerPart false 85 kT (fun v g' => v = none ∧ g'.1 = g.1 ∧ (∀ q, q ≠ 36 → g'.2 q = g.2 q) ∧ (∀ c, c < zn F → g'.2 36 c = g.2 36 c + lN (if zk F e w c = true then x else 0))) 85 kT (fun _ _ => False) 85 kT 0 0 5 [(4, .int (nI i)), (0, .ref (b + 34)), (1, .int (nI w)), (2, .long (lN x))] [] g1 := by
    intro n9
    induction n9 using Nat.strongRecOn with
    | ind n9 ih =>
    intro i g1 hm hI
    have hi1 := hI.1
    have hi2 := hI.2.1
    have hc1 : Hc g1 F := hc.congr (fun q a c => by rw [hI.2.2.1])
    have hk1 : LK g1 F e := hk.congr (fun q a c => by rw [hI.2.2.1])
    refine vq_iload d_D_lowerPart_5 rfl ?_
    refine vq_aload_n d_D_lowerPart_7 rfl ?_
    refine vq_getR (k := 0) (C := R_D) (T := T_D) d_D_lowerPart_8 rfl in_D w_150 (by decide) rfl (by decide) rfl rfl ?_
    refine vq_getI (k := 0) (C := R_F) (T := T_F) d_D_lowerPart_11 rfl in_F w_35 (by decide) rfl (by decide) rfl ?_
    refine vq_int (y := nI (zn F)) hc1.1 ?_
    refine vq_icmp_ge (tgt := 60) d_D_lowerPart_14 (by decide) (fun h14 => ?_) (fun h14 => ?_)
    · have hi : i = zn F := by
        rw [nI_leI (by omega) (by omega)] at h14
        omega
      subst hi
      refine vq_vret d_D_lowerPart_60 rfl (by decide) (by decide) rfl rfl ?_
      refine ⟨rfl, hI.2.2.1, hI.2.2.2.1, fun c hcn => ?_⟩
      have h9 := hI.2.2.2.2 c hcn
      simp only [hcn, true_and] at h9
      exact h9
    · have hi : i < zn F := by
        rw [nI_leI (by omega) (by omega)] at h14
        omega
      have s54 : ∀ (g2 : Sg), (w + 1 ≤ i + 1 ∧ i + 1 ≤ zn F ∧ g2.1 = g.1 ∧ (∀ q, q ≠ 36 → g2.2 q = g.2 q) ∧ (∀ c, c < zn F → g2.2 36 c = g.2 36 c + lN (if c < i + 1 ∧ zk F e w c = true then x else 0))) → Vq l b id D m_D_lowerPart false 85 kT (fun v g' => v = none ∧ g'.1 = g.1 ∧ (∀ q, q ≠ 36 → g'.2 q = g.2 q) ∧ (∀ c, c < zn F → g'.2 36 c = g.2 36 c + lN (if zk F e w c = true then x else 0))) 85 kT (fun _ _ => False) 85 kT 0 0 54 [(4, .int (nI i)), (0, .ref (b + 34)), (1, .int (nI w)), (2, .long (lN x))] [] g2 := by
        intro g2 hI2
        refine vq_iinc (k := 0) (lv' := [(4, _), (0, _), (1, _), (2, _)]) d_D_lowerPart_54 rfl (ip1 i) (by decide) rfl ?_
        refine vq_goto (tgt := 5) d_D_lowerPart_57 (by decide) ?_
        exact ih (zn F - (i + 1)) (by omega) (i + 1) _ rfl hI2
      refine vq_aload_n d_D_lowerPart_17 rfl ?_
      refine vq_getR (k := 0) (C := R_D) (T := T_D) d_D_lowerPart_18 rfl in_D w_150 (by decide) rfl (by decide) rfl rfl ?_
      refine vq_iload d_D_lowerPart_21 rfl ?_
      refine vq_iload_n d_D_lowerPart_23 rfl ?_
      refine vq_callV (n := 2) (C := R_F) (T := T_F) _ _ d_D_lowerPart_24 (ct_F_isChild l b id D hW hc1 hi hw) w_339 w_303 w_304 w_305 w_2 rfl ⟨by decide, by decide, by decide +kernel⟩ ⟨by decide, by decide⟩ (by decide) rfl rfl rfl rfl (Nat.le_of_ble_eq_true rfl) rfl rfl rfl ⟨by decide, by decide⟩ (fun _ _ h => h.elim) (fun v24 g24 h24 => ?_)
      rw [h24.1, h24.2]
      refine vq_if_eq (tgt := 54) d_D_lowerPart_27 (by decide) (fun h27 => ?_) (fun h27 => ?_)
      · have hch := bI_0.mp h27
        have hz : zk F e w i = false := by unfold zk; rw [hch]; simp
        refine s54 _ ⟨by omega, by omega, hI.2.2.1, fun q hq => ?_, fun c hcn => ?_⟩
        · first | exact hI.2.2.2.1 q hq | (rw [sJ_n hq]; exact hI.2.2.2.1 q hq)
        · by_cases ec : c = i
          · subst ec
            have h9 := hI.2.2.2.2 c hcn
            rw [if_neg (by omega)] at h9
            first | (rw [if_neg (by rw [hz]; simp)]; exact h9) | (rw [if_pos ⟨by omega, hz⟩, sJ_s, vp_updL, if_pos rfl, h9]; rw [show lN 0 = 0 from rfl, Int64.add_zero])
          · have h9 := hI.2.2.2.2 c hcn
            have h8 : (c < i + 1 ∧ zk F e w c = true) ↔ (c < i ∧ zk F e w c = true) := by
              constructor
              · rintro ⟨a, d⟩; exact ⟨by omega, d⟩
              · rintro ⟨a, d⟩; exact ⟨by omega, d⟩
            first | (simp only [h8]; exact h9) | (rw [sJ_s, vp_updL, if_neg ec]; simp only [h8]; exact h9)
      · have hch := bI_n0.mp h27
        refine vq_aload_n d_D_lowerPart_30 rfl ?_
        refine vq_getR (k := 1) (C := R_D) (T := T_D) d_D_lowerPart_31 rfl in_D w_151 (by decide) rfl (by decide) rfl rfl ?_
        refine vq_iload d_D_lowerPart_34 rfl ?_
        refine vq_iconst (v := 0) d_D_lowerPart_36 (by decide) ?_
        refine vq_callV (n := 2) (C := R_V) (T := T_V) _ _ d_D_lowerPart_37 (ct_V_hasHeirs l b id D (o := some i) (h := 0) (Y := zX F e) (by omega) (fun j hj => by cases hj; exact ⟨by omega, hk1.2.2.2.2.2 0 (by omega) i hi⟩)) w_340 w_279 w_280 w_281 w_3 rfl ⟨by decide, by decide, by decide +kernel⟩ ⟨by decide, by decide⟩ (by decide) rfl rfl rfl rfl (Nat.le_of_ble_eq_true rfl) rfl rfl rfl ⟨by decide, by decide⟩ (fun _ _ h => h.elim) (fun v37 g37 h37 => ?_)
        rw [h37.1, h37.2]
        refine vq_if_eq (tgt := 54) d_D_lowerPart_40 (by decide) (fun h40 => ?_) (fun h40 => ?_)
        · have hx0 := bI_0.mp h40
          have hz : zk F e w i = false := by unfold zk; rw [hch, show zX F e i = _ from hx0]; simp; try omega
          refine s54 _ ⟨by omega, by omega, hI.2.2.1, fun q hq => ?_, fun c hcn => ?_⟩
          · first | exact hI.2.2.2.1 q hq | (rw [sJ_n hq]; exact hI.2.2.2.1 q hq)
          · by_cases ec : c = i
            · subst ec
              have h9 := hI.2.2.2.2 c hcn
              rw [if_neg (by omega)] at h9
              first | (rw [if_neg (by rw [hz]; simp)]; exact h9) | (rw [if_pos ⟨by omega, hz⟩, sJ_s, vp_updL, if_pos rfl, h9]; rw [show lN 0 = 0 from rfl, Int64.add_zero])
            · have h9 := hI.2.2.2.2 c hcn
              have h8 : (c < i + 1 ∧ zk F e w c = true) ↔ (c < i ∧ zk F e w c = true) := by
                constructor
                · rintro ⟨a, d⟩; exact ⟨by omega, d⟩
                · rintro ⟨a, d⟩; exact ⟨by omega, d⟩
              first | (simp only [h8]; exact h9) | (rw [sJ_s, vp_updL, if_neg ec]; simp only [h8]; exact h9)
        · have hx0 := bI_n0.mp h40
          have hz : zk F e w i = true := by unfold zk; rw [hch, show zX F e i = _ from hx0]; simp; try omega
          refine vq_aload_n d_D_lowerPart_43 rfl ?_
          refine vq_getR (k := 5) (C := R_D) (T := T_D) d_D_lowerPart_44 rfl in_D w_157 (by decide) rfl (by decide) rfl rfl ?_
          refine vq_iload d_D_lowerPart_47 rfl ?_
          refine vq_dup2_11 d_D_lowerPart_49 rfl rfl ?_
          refine vq_lald d_D_lowerPart_50 (by decide) rfl rfl (show _ < 20 by omega) ?_
          refine vq_lload_n d_D_lowerPart_51 rfl ?_
          refine vq_ladd d_D_lowerPart_52 ?_
          refine vq_last d_D_lowerPart_53 rfl (by decide) rfl rfl (show _ < 20 by omega) ?_
          refine s54 _ ⟨by omega, by omega, hI.2.2.1, fun q hq => ?_, fun c hcn => ?_⟩
          · first | exact hI.2.2.2.1 q hq | (rw [sJ_n hq]; exact hI.2.2.2.1 q hq)
          · by_cases ec : c = i
            · subst ec
              have h9 := hI.2.2.2.2 c hcn
              rw [if_neg (by omega)] at h9
              first | (rw [if_neg (by rw [hz]; simp)]; exact h9) | (rw [if_pos ⟨by omega, hz⟩, sJ_s, vp_updL, if_pos rfl, h9]; rw [show lN 0 = 0 from rfl, Int64.add_zero])
            · have h9 := hI.2.2.2.2 c hcn
              have h8 : (c < i + 1 ∧ zk F e w c = true) ↔ (c < i ∧ zk F e w c = true) := by
                constructor
                · rintro ⟨a, d⟩; exact ⟨by omega, d⟩
                · rintro ⟨a, d⟩; exact ⟨by omega, d⟩
              first | (simp only [h8]; exact h9) | (rw [sJ_s, vp_updL, if_neg ec]; simp only [h8]; exact h9)
  refine vq_iload_n d_D_lowerPart_0 rfl ?_
  refine vq_iconst (v := 1) d_D_lowerPart_1 (by decide) ?_
  refine vq_iadd d_D_lowerPart_2 ?_
  rw [nI_1]
  refine vq_istore (lv' := [(4, _), (0, _), (1, _), (2, _)]) d_D_lowerPart_3 (by decide) rfl ?_
  exact loop (zn F - (w + 1)) (w + 1) _ rfl ⟨by omega, by omega, rfl, fun q hq => rfl, fun c hcn => by
    have h8 : ¬ (c < w + 1 ∧ zk F e w c = true) := by rintro ⟨a, d⟩; have := zk_lt d; omega
    rw [if_neg h8, show lN 0 = 0 from rfl, Int64.add_zero]⟩
set_option maxRecDepth 100000 in
set_option maxHeartbeats 4000000 in
theorem ct_D_lowerParts (l : Launch) (b : Nat) (id : Nat → ClassId) (D : va_G) {g : Sg} {F : Fam} (hW : zW F) (hc : Hc g F) {e : Nat} (he : e < zn F) (hk : LK g F e) {P T : Nat → Nat} (hP63 : zsum P (zn F) < 2 ^ 63) (hP : ∀ p, p < zn F → g.2 36 p = lN (P p)) (hT : ∀ p, p < zn F → g.2 35 p = lN (T p)) : qCT l b id D m_D_lowerParts false [.ref (b + 34)] 85 kT g 85 kT (fun v g' => v = none ∧ g'.1 = g.1 ∧ (∀ q, q ≠ 35 → q ≠ 36 → g'.2 q = g.2 q) ∧ (∀ p, p < zn F → g'.2 35 p = lN (zta F e P T p))) (fun _ _ => False) := by
  have hn := hW.1
  refine qCT_of rfl (by decide) (Nat.le_of_ble_eq_true rfl) ?_
  show Vq l b id D m_D_lowerParts false 85 kT _ 85 kT _ 85 kT 0 0 0 [(0, .ref (b + 34))] [] g
  have loop : ∀ (n9 : Nat) (i : Nat) (g1 : Sg), zn F - i = n9 → (i ≤ zn F ∧ g1.1 = g.1 ∧ (∀ q, q ≠ 35 → q ≠ 36 → g1.2 q = g.2 q) ∧ (∀ c, c < zn F → g1.2 36 c = lN (ztb F e P i c)) ∧ (∀ p, p < zn F → g1.2 35 p = lN (T p + (if (decide (p < i) && zl F e p) = true then ztb F e P p p else 0)))) → Vq l b id D m_D_lowerParts false 85 kT (fun v g' => v = none ∧ g'.1 = g.1 ∧ (∀ q, q ≠ 35 → q ≠ 36 → g'.2 q = g.2 q) ∧ (∀ p, p < zn F → g'.2 35 p = lN (zta F e P T p))) 85 kT (fun _ _ => False) 85 kT 0 0 2 [(1, .int (nI i)), (0, .ref (b + 34))] [] g1 := by
    intro n9
    induction n9 using Nat.strongRecOn with
    | ind n9 ih =>
    intro i g1 hm hI
    have hi1 := hI.1
    have hc1 : Hc g1 F := hc.congr (fun q a c => by rw [hI.2.1])
    have hk1 : LK g1 F e := hk.congr (fun q a c => by rw [hI.2.1])
    refine vq_iload_n d_D_lowerParts_2 rfl ?_
    refine vq_aload_n d_D_lowerParts_3 rfl ?_
    refine vq_getR (k := 0) (C := R_D) (T := T_D) d_D_lowerParts_4 rfl in_D w_150 (by decide) rfl (by decide) rfl rfl ?_
    refine vq_getI (k := 0) (C := R_F) (T := T_F) d_D_lowerParts_7 rfl in_F w_35 (by decide) rfl (by decide) rfl ?_
    refine vq_int (y := nI (zn F)) hc1.1 ?_
    refine vq_icmp_ge (tgt := 94) d_D_lowerParts_10 (by decide) (fun h10 => ?_) (fun h10 => ?_)
    · have hi : i = zn F := by
        rw [nI_leI (by omega) (by omega)] at h10
        omega
      subst hi
      refine vq_vret d_D_lowerParts_94 rfl (by decide) (by decide) rfl rfl ?_
      refine ⟨rfl, hI.2.1, hI.2.2.1, fun p hp => ?_⟩
      have h9 := hI.2.2.2.2 p hp
      simp only [hp, decide_true, Bool.true_and] at h9
      exact h9
    · have hi : i < zn F := by
        rw [nI_leI (by omega) (by omega)] at h10
        omega
      have hB := zB_le (F := F) (e := e) i
      have hb63 : ztb F e P i i < 2 ^ 63 := Nat.lt_of_le_of_lt (ztb_le (Nat.le_refl i) hi) hP63
      have ht0 : g1.2 35 i = lN (T i) := by
        have h9 := hI.2.2.2.2 i hi
        rw [if_neg (by simp)] at h9
        exact h9
      have hnext : ∀ (x : Nat), (∀ c, c < zn F → zk F e i c = true → zl F e i = false → x = ztb F e P i i / zB F e i) → ∀ c, c < zn F → ztb F e P (i + 1) c = ztb F e P i c + (if (!zl F e i && zk F e i c) = true then x else 0) := by
        intro x hx c hcn
        show ztb F e P i c + _ = _
        by_cases hz : (!zl F e i && zk F e i c) = true
        · simp only [Bool.and_eq_true, Bool.not_eq_true'] at hz
          rw [hx c hcn hz.2 hz.1]
          simp [hz.1, hz.2, hcn]
        · have hz2 : ¬ (!zl F e i && decide (c < zn F) && zk F e i c) = true := by
            intro h9; apply hz; simp only [Bool.and_eq_true] at h9 ⊢; exact ⟨h9.1.1, h9.2⟩
          rw [if_neg hz, if_neg hz2]
      have s88 : ∀ (g2 : Sg), (i + 1 ≤ zn F ∧ g2.1 = g.1 ∧ (∀ q, q ≠ 35 → q ≠ 36 → g2.2 q = g.2 q) ∧ (∀ c, c < zn F → g2.2 36 c = lN (ztb F e P (i + 1) c)) ∧ (∀ p, p < zn F → g2.2 35 p = lN (T p + (if (decide (p < i + 1) && zl F e p) = true then ztb F e P p p else 0)))) → Vq l b id D m_D_lowerParts false 85 kT (fun v g' => v = none ∧ g'.1 = g.1 ∧ (∀ q, q ≠ 35 → q ≠ 36 → g'.2 q = g.2 q) ∧ (∀ p, p < zn F → g'.2 35 p = lN (zta F e P T p))) 85 kT (fun _ _ => False) 85 kT 0 0 88 [(1, .int (nI i)), (0, .ref (b + 34))] [] g2 := by
        intro g2 hI2
        refine vq_iinc (k := 0) (lv' := [(1, _), (0, _)]) d_D_lowerParts_88 rfl (ip1 i) (by decide) rfl ?_
        refine vq_goto (tgt := 2) d_D_lowerParts_91 (by decide) ?_
        exact ih (zn F - (i + 1)) (by omega) (i + 1) _ rfl hI2
      have htk : zl F e i = false → ∀ p, p < zn F → lN (T p + (if (decide (p < i + 1) && zl F e p) = true then ztb F e P p p else 0)) = lN (T p + (if (decide (p < i) && zl F e p) = true then ztb F e P p p else 0)) := by
        intro hl p hp
        by_cases e1 : p = i
        · rw [e1]; simp [hl]
        · have h8 : decide (p < i + 1) = decide (p < i) := by simp; omega
          rw [h8]
      refine vq_aload_n d_D_lowerParts_13 rfl ?_
      refine vq_getR (k := 1) (C := R_D) (T := T_D) d_D_lowerParts_14 rfl in_D w_151 (by decide) rfl (by decide) rfl rfl ?_
      refine vq_getR (k := 4) (C := R_V) (T := T_V) d_D_lowerParts_17 rfl in_V w_93 (by decide) rfl (by decide) rfl rfl ?_
      refine vq_iload_n d_D_lowerParts_20 rfl ?_
      refine vq_zald d_D_lowerParts_21 (by decide) rfl rfl (show _ < 20 by omega) ?_
      refine vq_int (y := bI (zl F e i)) (hk1.2.2.2.1 i hi) ?_
      refine vq_if_eq (tgt := 43) d_D_lowerParts_22 (by decide) (fun h22 => ?_) (fun h22 => ?_)
      · have hl := bI_0.mp h22
        refine vq_aload_n d_D_lowerParts_43 rfl ?_
        refine vq_getR (k := 5) (C := R_D) (T := T_D) d_D_lowerParts_44 rfl in_D w_157 (by decide) rfl (by decide) rfl rfl ?_
        refine vq_iload_n d_D_lowerParts_47 rfl ?_
        refine vq_lald d_D_lowerParts_48 (by decide) rfl rfl (show _ < 20 by omega) ?_
        refine vq_long (y := lN (ztb F e P i i)) (hI.2.2.2.1 i hi) ?_
        refine vq_lconst (v := 0) d_D_lowerParts_49 rfl ?_
        refine vq_lcmp d_D_lowerParts_50 ?_
        refine vq_if_le (tgt := 88) d_D_lowerParts_51 (by decide) (fun h51 => ?_) (fun h51 => ?_)
        · rw [lpos hb63] at h51
          have hst : ∀ c, c < zn F → ztb F e P (i + 1) c = ztb F e P i c := fun c hcn => by
            rw [hnext 0 (fun _ _ _ _ => by rw [h51, Nat.zero_div]) c hcn]; split <;> rfl
          first
            | exact s88 _ ⟨by omega, hI.2.1, hI.2.2.1, fun c hcn => by rw [hst c hcn]; exact hI.2.2.2.1 c hcn, fun p hp => by rw [htk hl p hp]; exact hI.2.2.2.2 p hp⟩
            | exact s88 _ ⟨by omega, a1.trans hI.2.1, fun q c1 c2 => (a2 q c2).trans (hI.2.2.1 q c1 c2), fun c hcn => by rw [a3 c hcn, hI.2.2.2.1 c hcn, lN_add, hnext _ (fun _ _ _ _ => rfl) c hcn, hl]; simp, fun p hp => by rw [htk hl p hp, a2 35 (by decide)]; exact hI.2.2.2.2 p hp⟩
            | (refine s88 _ ⟨by omega, hI.2.1, fun q c1 c2 => by rw [sJ_n c1]; exact hI.2.2.1 q c1 c2, fun c hcn => ?_, fun p hp => ?_⟩
               · rw [sJ_n (by decide), hnext 0 (fun _ _ _ h9 => by rw [hl] at h9; cases h9) c hcn, hI.2.2.2.1 c hcn, hl]; simp
               · by_cases e1 : p = i
                 · rw [e1, sJ_s, vp_updL, if_pos rfl]; simp [hl]
                 · have h8 : decide (p < i + 1) = decide (p < i) := by simp; omega
                   rw [sJ_s, vp_updL, if_neg e1, h8]; exact hI.2.2.2.2 p hp)
        · rw [lpos hb63] at h51
          refine vq_aload_n d_D_lowerParts_54 rfl ?_
          refine vq_getR (k := 1) (C := R_D) (T := T_D) d_D_lowerParts_55 rfl in_D w_151 (by decide) rfl (by decide) rfl rfl ?_
          refine vq_getR (k := 5) (C := R_V) (T := T_V) d_D_lowerParts_58 rfl in_V w_95 (by decide) rfl (by decide) rfl rfl ?_
          refine vq_iload_n d_D_lowerParts_61 rfl ?_
          refine vq_iald d_D_lowerParts_62 (by decide) rfl rfl (show _ < 20 by omega) ?_
          refine vq_int (y := nI (zB F e i)) (hk1.2.2.2.2.1 i hi) ?_
          refine vq_if_le (tgt := 88) d_D_lowerParts_63 (by decide) (fun h63 => ?_) (fun h63 => ?_)
          · rw [nI_n0 (by omega)] at h63
            have hst : ∀ c, c < zn F → ztb F e P (i + 1) c = ztb F e P i c := fun c hcn => by
              rw [hnext 0 (fun c9 h9 hk9 _ => absurd (zB_pos h9 hk9) (by omega)) c hcn]; split <;> rfl
            first
              | exact s88 _ ⟨by omega, hI.2.1, hI.2.2.1, fun c hcn => by rw [hst c hcn]; exact hI.2.2.2.1 c hcn, fun p hp => by rw [htk hl p hp]; exact hI.2.2.2.2 p hp⟩
              | exact s88 _ ⟨by omega, a1.trans hI.2.1, fun q c1 c2 => (a2 q c2).trans (hI.2.2.1 q c1 c2), fun c hcn => by rw [a3 c hcn, hI.2.2.2.1 c hcn, lN_add, hnext _ (fun _ _ _ _ => rfl) c hcn, hl]; simp, fun p hp => by rw [htk hl p hp, a2 35 (by decide)]; exact hI.2.2.2.2 p hp⟩
              | (refine s88 _ ⟨by omega, hI.2.1, fun q c1 c2 => by rw [sJ_n c1]; exact hI.2.2.1 q c1 c2, fun c hcn => ?_, fun p hp => ?_⟩
                 · rw [sJ_n (by decide), hnext 0 (fun _ _ _ h9 => by rw [hl] at h9; cases h9) c hcn, hI.2.2.2.1 c hcn, hl]; simp
                 · by_cases e1 : p = i
                   · rw [e1, sJ_s, vp_updL, if_pos rfl]; simp [hl]
                   · have h8 : decide (p < i + 1) = decide (p < i) := by simp; omega
                     rw [sJ_s, vp_updL, if_neg e1, h8]; exact hI.2.2.2.2 p hp)
          · rw [nI_n0 (by omega)] at h63
            refine vq_aload_n d_D_lowerParts_66 rfl ?_
            refine vq_iload_n d_D_lowerParts_67 rfl ?_
            refine vq_aload_n d_D_lowerParts_68 rfl ?_
            refine vq_getR (k := 5) (C := R_D) (T := T_D) d_D_lowerParts_69 rfl in_D w_157 (by decide) rfl (by decide) rfl rfl ?_
            refine vq_iload_n d_D_lowerParts_72 rfl ?_
            refine vq_lald d_D_lowerParts_73 (by decide) rfl rfl (show _ < 20 by omega) ?_
            refine vq_long (y := lN (ztb F e P i i)) (hI.2.2.2.1 i hi) ?_
            refine vq_aload_n d_D_lowerParts_74 rfl ?_
            refine vq_getR (k := 1) (C := R_D) (T := T_D) d_D_lowerParts_75 rfl in_D w_151 (by decide) rfl (by decide) rfl rfl ?_
            refine vq_getR (k := 5) (C := R_V) (T := T_V) d_D_lowerParts_78 rfl in_V w_95 (by decide) rfl (by decide) rfl rfl ?_
            refine vq_iload_n d_D_lowerParts_81 rfl ?_
            refine vq_iald d_D_lowerParts_82 (by decide) rfl rfl (show _ < 20 by omega) ?_
            refine vq_int (y := nI (zB F e i)) (hk1.2.2.2.2.1 i hi) ?_
            refine vq_i2l d_D_lowerParts_83 (nI_l (by omega)) ?_
            refine vq_ldiv d_D_lowerParts_84 (lN_ne0 (by omega) (by omega)) ?_
            rw [pk_lDiv hb63 (by omega) (by omega)]
            refine vq_callV (n := 2) (C := R_D) (T := T_D) _ _ d_D_lowerParts_85 (ct_D_lowerPart l b id D hW hc1 he hk1 hi (ztb F e P i i / zB F e i)) w_335 w_337 sel_D_lowerPart w_338 w_4 rfl ⟨by decide, by decide, by decide +kernel⟩ ⟨by decide, by decide⟩ (by decide) rfl rfl rfl rfl (Nat.le_of_ble_eq_true rfl) rfl rfl rfl ⟨by decide, by decide⟩ (fun _ _ h => h.elim) (fun v85 g85 h85 => ?_)
            obtain ⟨rfl, a1, a2, a3⟩ := h85
            first
              | exact s88 _ ⟨by omega, hI.2.1, hI.2.2.1, fun c hcn => by rw [hst c hcn]; exact hI.2.2.2.1 c hcn, fun p hp => by rw [htk hl p hp]; exact hI.2.2.2.2 p hp⟩
              | exact s88 _ ⟨by omega, a1.trans hI.2.1, fun q c1 c2 => (a2 q c2).trans (hI.2.2.1 q c1 c2), fun c hcn => by rw [a3 c hcn, hI.2.2.2.1 c hcn, lN_add, hnext _ (fun _ _ _ _ => rfl) c hcn, hl]; simp, fun p hp => by rw [htk hl p hp, a2 35 (by decide)]; exact hI.2.2.2.2 p hp⟩
              | (refine s88 _ ⟨by omega, hI.2.1, fun q c1 c2 => by rw [sJ_n c1]; exact hI.2.2.1 q c1 c2, fun c hcn => ?_, fun p hp => ?_⟩
                 · rw [sJ_n (by decide), hnext 0 (fun _ _ _ h9 => by rw [hl] at h9; cases h9) c hcn, hI.2.2.2.1 c hcn, hl]; simp
                 · by_cases e1 : p = i
                   · rw [e1, sJ_s, vp_updL, if_pos rfl]; simp [hl]
                   · have h8 : decide (p < i + 1) = decide (p < i) := by simp; omega
                     rw [sJ_s, vp_updL, if_neg e1, h8]; exact hI.2.2.2.2 p hp)
      · have hl := bI_n0.mp h22
        refine vq_aload_n d_D_lowerParts_25 rfl ?_
        refine vq_getR (k := 3) (C := R_D) (T := T_D) d_D_lowerParts_26 rfl in_D w_153 (by decide) rfl (by decide) rfl rfl ?_
        refine vq_iload_n d_D_lowerParts_29 rfl ?_
        refine vq_dup2_11 d_D_lowerParts_30 rfl rfl ?_
        refine vq_lald d_D_lowerParts_31 (by decide) rfl rfl (show _ < 20 by omega) ?_
        refine vq_long (y := lN (T i)) ht0 ?_
        refine vq_aload_n d_D_lowerParts_32 rfl ?_
        refine vq_getR (k := 5) (C := R_D) (T := T_D) d_D_lowerParts_33 rfl in_D w_157 (by decide) rfl (by decide) rfl rfl ?_
        refine vq_iload_n d_D_lowerParts_36 rfl ?_
        refine vq_lald d_D_lowerParts_37 (by decide) rfl rfl (show _ < 20 by omega) ?_
        refine vq_long (y := lN (ztb F e P i i)) (hI.2.2.2.1 i hi) ?_
        refine vq_ladd d_D_lowerParts_38 ?_
        rw [lN_add]
        refine vq_last d_D_lowerParts_39 rfl (by decide) rfl rfl (show _ < 20 by omega) ?_
        refine vq_goto (tgt := 88) d_D_lowerParts_40 (by decide) ?_
        first
          | exact s88 _ ⟨by omega, hI.2.1, hI.2.2.1, fun c hcn => by rw [hst c hcn]; exact hI.2.2.2.1 c hcn, fun p hp => by rw [htk hl p hp]; exact hI.2.2.2.2 p hp⟩
          | exact s88 _ ⟨by omega, a1.trans hI.2.1, fun q c1 c2 => (a2 q c2).trans (hI.2.2.1 q c1 c2), fun c hcn => by rw [a3 c hcn, hI.2.2.2.1 c hcn, lN_add, hnext _ (fun _ _ _ _ => rfl) c hcn, hl]; simp, fun p hp => by rw [htk hl p hp, a2 35 (by decide)]; exact hI.2.2.2.2 p hp⟩
          | (refine s88 _ ⟨by omega, hI.2.1, fun q c1 c2 => by rw [sJ_n c1]; exact hI.2.2.1 q c1 c2, fun c hcn => ?_, fun p hp => ?_⟩
             · rw [sJ_n (by decide), hnext 0 (fun _ _ _ h9 => by rw [hl] at h9; cases h9) c hcn, hI.2.2.2.1 c hcn, hl]; simp
             · by_cases e1 : p = i
               · rw [e1, sJ_s, vp_updL, if_pos rfl]; simp [hl]
               · have h8 : decide (p < i + 1) = decide (p < i) := by simp; omega
                 rw [sJ_s, vp_updL, if_neg e1, h8]; exact hI.2.2.2.2 p hp)
  refine vq_iconst (v := 0) d_D_lowerParts_0 (by decide) ?_
  refine vq_istore_n (lv' := [(1, _), (0, _)]) d_D_lowerParts_1 (by decide) rfl ?_
  exact loop (zn F) 0 _ rfl ⟨by omega, rfl, fun q c1 c2 => rfl, fun c hcn => hP c hcn, fun p hp => by rw [if_neg (by simp)]; exact hT p hp⟩
end
section
/-! SuccessionClerk$Division: what is raised. Laid by wip/whole/specs/p27.py -/
theorem zc1_eq (F : Fam) (e h : Nat) (v : Nat → Nat) (w j : Nat) : zc1 F e h v w j = (if zoB (za F w) (zY F e h) = true ∧ za F w = some j then (if (zoB (za F w) (zY F e h) && zoB (zb F w) (zY F e h)) = true then v w / 2 else v w) else 0) + (if zoB (zb F w) (zY F e h) = true ∧ zb F w = some j then (if (zoB (za F w) (zY F e h) && zoB (zb F w) (zY F e h)) = true then v w / 2 else v w) else 0) := by
  unfold zc1
  congr 1
  · by_cases ha : za F w = some j
    · have h1 : zoB (za F w) (zY F e h) = zY F e h j := by rw [ha]; rfl
      rw [h1]
      by_cases hy : zY F e h j = true
      · simp [ha, hy]
      · simp [hy]
    · simp [ha]
  · by_cases hb : zb F w = some j
    · have h1 : zoB (zb F w) (zY F e h) = zY F e h j := by rw [hb]; rfl
      rw [h1]
      by_cases hy : zY F e h j = true
      · simp [hb, hy]
      · simp [hy]
    · simp [hb]
theorem up_at (f : Nat → Int64) (a x j : Nat) : vp_updL f a (f a + lN x) j = f j + lN (if a = j then x else 0) := by
  unfold vp_updL
  by_cases h : j = a
  · subst h; simp
  · rw [if_neg h, if_neg (Ne.symm h), show lN 0 = 0 from rfl, Int64.add_zero]
theorem zc1_le {F : Fam} (hW : zW F) {e h p : Nat} (hp : p < zn F) (v : Nat → Nat) : zsum (fun j => zc1 F e h v p j) (zn F) ≤ v p := by
  unfold zc1
  rw [zsum_add, zpt (za F p) (zY F e h) _ (zn F) (fun j hj => Nat.lt_trans (zpar hW hp (Or.inl hj)) hp), zpt (zb F p) (zY F e h) _ (zn F) (fun j hj => Nat.lt_trans (zpar hW hp (Or.inr hj)) hp)]
  by_cases ha : zoB (za F p) (zY F e h) = true <;> by_cases hb : zoB (zb F p) (zY F e h) = true <;> simp [ha, hb] <;> omega
theorem zcl_le {F : Fam} (hW : zW F) {e h : Nat} (v : Nat → Nat) : zsum (zcl F e h v) (zn F) ≤ zsum v (zn F) := by
  show zsum (fun j => zsum (fun p => zc1 F e h v p j) (zn F)) (zn F) ≤ _
  rw [zsum_swap]
  exact zsum_le (fun p hp => zc1_le hW hp v)
theorem zc1_0 {F : Fam} {e h : Nat} {v : Nat → Nat} {w : Nat} (hv : v w = 0) (j : Nat) : zc1 F e h v w j = 0 := by
  unfold zc1; simp [hv]
set_option maxRecDepth 100000 in
set_option maxHeartbeats 4000000 in
theorem ct_D_raisePart (l : Launch) (b : Nat) (id : Nat → ClassId) (D : va_G) {g : Sg} {F : Fam} (hW : zW F) (hc : Hc g F) {e : Nat} (he : e < zn F) (hk : LK g F e) {w h : Nat} {v : Nat → Nat} (hw : w < zn F) (hh : h ≤ 2) (hv : g.2 36 w = lN (v w)) (hv63 : v w < 2 ^ 63) : qCT l b id D m_D_raisePart false [.ref (b + 34), .int (nI w), .int (nI h)] 85 kT g 85 kT (fun v' g' => v' = none ∧ g'.1 = g.1 ∧ (∀ q, q ≠ 37 → g'.2 q = g.2 q) ∧ (∀ j, j < zn F → g'.2 37 j = g.2 37 j + lN (zc1 F e h v w j))) (fun _ _ => False) := by
  have hn := hW.1
  refine qCT_of rfl (by decide) (Nat.le_of_ble_eq_true rfl) ?_
  show Vq l b id D m_D_raisePart false 85 kT _ 85 kT _ 85 kT 0 0 0 [(0, .ref (b + 34)), (1, .int (nI w)), (2, .int (nI h))] [] g
  have s73 : Vq l b id D m_D_raisePart false 85 kT (fun v' g' => v' = none ∧ g'.1 = g.1 ∧ (∀ q, q ≠ 37 → g'.2 q = g.2 q) ∧ (∀ j, j < zn F → g'.2 37 j = g.2 37 j + lN (zc1 F e h v w j))) 85 kT (fun _ _ => False) 85 kT 0 0 73 [(6, .int (bI (zoB (zb F w) (zY F e h)))), (5, .int (bI (zoB (za F w) (zY F e h)))), (4, .int (eO (zb F w))), (3, .int (eO (za F w))), (0, .ref (b + 34)), (1, .int (nI w)), (2, .int (nI h))] [.long (lN (if (zoB (za F w) (zY F e h) && zoB (zb F w) (zY F e h)) = true then v w / 2 else v w))] g := by
    refine vq_lstore (lv' := [(7, _), (6, _), (5, _), (4, _), (3, _), (0, _), (1, _), (2, _)]) d_D_raisePart_73 (by decide) rfl ?_
    refine vq_iload d_D_raisePart_75 rfl ?_
    refine vq_if_eq (tgt := 91) d_D_raisePart_77 (by decide) (fun h77 => ?_) (fun h77 => ?_)
    · have hA := bI_0.mp h77
      refine vq_iload d_D_raisePart_91 rfl ?_
      refine vq_if_eq (tgt := 108) d_D_raisePart_93 (by decide) (fun h93 => ?_) (fun h93 => ?_)
      · have hB := bI_0.mp h93
        refine vq_vret d_D_raisePart_108 rfl (by decide) (by decide) rfl rfl ?_
        refine ⟨rfl, rfl, fun q hq => by first | rfl | simp [sJ, hq], fun j hj => ?_⟩
        rw [zc1_eq]
        generalize (if (zoB (za F w) (zY F e h) && zoB (zb F w) (zY F e h)) = true then v w / 2 else v w) = pt
        first
          | (simp only [hA, hB]; simp; done)
          | (simp only [hA, hB]; simp [show lN 0 = 0 from rfl]; done)
          | (rw [sJ_s, up_at, hA, hB, ha]; simp; done)
          | (rw [sJ_s, up_at, hA, hB, hcc]; simp; done)
          | (rw [sJ_s, sJ_s, up_at, up_at, hA, hB, ha, hcc, Int64.add_assoc, lN_add]; simp)
      · have hB := bI_n0.mp h93
        obtain ⟨c, hcc, -⟩ := zoB_some hB
        have hcw := hW.2.2.1 w c hw hcc
        refine vq_aload_n d_D_raisePart_96 rfl ?_
        refine vq_getR (k := 6) (C := R_D) (T := T_D) d_D_raisePart_97 rfl in_D w_158 (by decide) rfl (by decide) rfl rfl ?_
        refine vq_iload d_D_raisePart_100 rfl ?_
        refine vq_dup2_11 d_D_raisePart_102 rfl rfl ?_
        refine vq_lald d_D_raisePart_103 (by decide) rfl (show _ = nI c by rw [hcc]; rfl) (show _ < 20 by omega) ?_
        refine vq_lload d_D_raisePart_104 rfl ?_
        refine vq_ladd d_D_raisePart_106 ?_
        refine vq_last d_D_raisePart_107 rfl (by decide) rfl (show _ = nI c by rw [hcc]; rfl) (show _ < 20 by omega) ?_
        refine vq_vret d_D_raisePart_108 rfl (by decide) (by decide) rfl rfl ?_
        refine ⟨rfl, rfl, fun q hq => by first | rfl | simp [sJ, hq], fun j hj => ?_⟩
        rw [zc1_eq]
        generalize (if (zoB (za F w) (zY F e h) && zoB (zb F w) (zY F e h)) = true then v w / 2 else v w) = pt
        first
          | (simp only [hA, hB]; simp; done)
          | (simp only [hA, hB]; simp [show lN 0 = 0 from rfl]; done)
          | (rw [sJ_s, up_at, hA, hB, ha]; simp; done)
          | (rw [sJ_s, up_at, hA, hB, hcc]; simp; done)
          | (rw [sJ_s, sJ_s, up_at, up_at, hA, hB, ha, hcc, Int64.add_assoc, lN_add]; simp)
    · have hA := bI_n0.mp h77
      obtain ⟨a, ha, -⟩ := zoB_some hA
      have haw := hW.2.1 w a hw ha
      refine vq_aload_n d_D_raisePart_80 rfl ?_
      refine vq_getR (k := 6) (C := R_D) (T := T_D) d_D_raisePart_81 rfl in_D w_158 (by decide) rfl (by decide) rfl rfl ?_
      refine vq_iload_n d_D_raisePart_84 rfl ?_
      refine vq_dup2_11 d_D_raisePart_85 rfl rfl ?_
      refine vq_lald d_D_raisePart_86 (by decide) rfl (show _ = nI a by rw [ha]; rfl) (show _ < 20 by omega) ?_
      refine vq_lload d_D_raisePart_87 rfl ?_
      refine vq_ladd d_D_raisePart_89 ?_
      refine vq_last d_D_raisePart_90 rfl (by decide) rfl (show _ = nI a by rw [ha]; rfl) (show _ < 20 by omega) ?_
      refine vq_iload d_D_raisePart_91 rfl ?_
      refine vq_if_eq (tgt := 108) d_D_raisePart_93 (by decide) (fun h93 => ?_) (fun h93 => ?_)
      · have hB := bI_0.mp h93
        refine vq_vret d_D_raisePart_108 rfl (by decide) (by decide) rfl rfl ?_
        refine ⟨rfl, rfl, fun q hq => by first | rfl | simp [sJ, hq], fun j hj => ?_⟩
        rw [zc1_eq]
        generalize (if (zoB (za F w) (zY F e h) && zoB (zb F w) (zY F e h)) = true then v w / 2 else v w) = pt
        first
          | (simp only [hA, hB]; simp; done)
          | (simp only [hA, hB]; simp [show lN 0 = 0 from rfl]; done)
          | (rw [sJ_s, up_at, hA, hB, ha]; simp; done)
          | (rw [sJ_s, up_at, hA, hB, hcc]; simp; done)
          | (rw [sJ_s, sJ_s, up_at, up_at, hA, hB, ha, hcc, Int64.add_assoc, lN_add]; simp)
      · have hB := bI_n0.mp h93
        obtain ⟨c, hcc, -⟩ := zoB_some hB
        have hcw := hW.2.2.1 w c hw hcc
        refine vq_aload_n d_D_raisePart_96 rfl ?_
        refine vq_getR (k := 6) (C := R_D) (T := T_D) d_D_raisePart_97 rfl in_D w_158 (by decide) rfl (by decide) rfl rfl ?_
        refine vq_iload d_D_raisePart_100 rfl ?_
        refine vq_dup2_11 d_D_raisePart_102 rfl rfl ?_
        refine vq_lald d_D_raisePart_103 (by decide) rfl (show _ = nI c by rw [hcc]; rfl) (show _ < 20 by omega) ?_
        refine vq_lload d_D_raisePart_104 rfl ?_
        refine vq_ladd d_D_raisePart_106 ?_
        refine vq_last d_D_raisePart_107 rfl (by decide) rfl (show _ = nI c by rw [hcc]; rfl) (show _ < 20 by omega) ?_
        refine vq_vret d_D_raisePart_108 rfl (by decide) (by decide) rfl rfl ?_
        refine ⟨rfl, rfl, fun q hq => by first | rfl | simp [sJ, hq], fun j hj => ?_⟩
        rw [zc1_eq]
        generalize (if (zoB (za F w) (zY F e h) && zoB (zb F w) (zY F e h)) = true then v w / 2 else v w) = pt
        first
          | (simp only [hA, hB]; simp; done)
          | (simp only [hA, hB]; simp [show lN 0 = 0 from rfl]; done)
          | (rw [sJ_s, up_at, hA, hB, ha]; simp; done)
          | (rw [sJ_s, up_at, hA, hB, hcc]; simp; done)
          | (rw [sJ_s, sJ_s, up_at, up_at, hA, hB, ha, hcc, Int64.add_assoc, lN_add]; simp)
  refine vq_aload_n d_D_raisePart_0 rfl ?_
  refine vq_getR (k := 0) (C := R_D) (T := T_D) d_D_raisePart_1 rfl in_D w_150 (by decide) rfl (by decide) rfl rfl ?_
  refine vq_getR (k := 1) (C := R_F) (T := T_F) d_D_raisePart_4 rfl in_F w_40 (by decide) rfl (by decide) rfl rfl ?_
  refine vq_iload_n d_D_raisePart_7 rfl ?_
  refine vq_iald d_D_raisePart_8 (by decide) rfl rfl (show _ < 20 by omega) ?_
  refine vq_int (y := eO (za F w)) (hc.2.1 w hw) ?_
  refine vq_istore_n (lv' := [(3, _), (0, _), (1, _), (2, _)]) d_D_raisePart_9 (by decide) rfl ?_
  refine vq_aload_n d_D_raisePart_10 rfl ?_
  refine vq_getR (k := 0) (C := R_D) (T := T_D) d_D_raisePart_11 rfl in_D w_150 (by decide) rfl (by decide) rfl rfl ?_
  refine vq_getR (k := 2) (C := R_F) (T := T_F) d_D_raisePart_14 rfl in_F w_44 (by decide) rfl (by decide) rfl rfl ?_
  refine vq_iload_n d_D_raisePart_17 rfl ?_
  refine vq_iald d_D_raisePart_18 (by decide) rfl rfl (show _ < 20 by omega) ?_
  refine vq_int (y := eO (zb F w)) (hc.2.2.1 w hw) ?_
  refine vq_istore (lv' := [(4, _), (3, _), (0, _), (1, _), (2, _)]) d_D_raisePart_19 (by decide) rfl ?_
  refine vq_aload_n d_D_raisePart_21 rfl ?_
  refine vq_getR (k := 1) (C := R_D) (T := T_D) d_D_raisePart_22 rfl in_D w_151 (by decide) rfl (by decide) rfl rfl ?_
  refine vq_iload_n d_D_raisePart_25 rfl ?_
  refine vq_iload_n d_D_raisePart_26 rfl ?_
  refine vq_callV (n := 2) (C := R_V) (T := T_V) _ _ d_D_raisePart_27 (ct_V_hasHeirs l b id D (o := za F w) (h := h) (Y := zY F e h) (by omega) (fun j hj => ⟨by have := hW.2.1 w j hw hj; omega, hk.2.2.2.2.2 h (by omega) j (by have := hW.2.1 w j hw hj; omega)⟩)) w_340 w_279 w_280 w_281 w_3 rfl ⟨by decide, by decide, by decide +kernel⟩ ⟨by decide, by decide⟩ (by decide) rfl rfl rfl rfl (Nat.le_of_ble_eq_true rfl) rfl rfl rfl ⟨by decide, by decide⟩ (fun _ _ h => h.elim) (fun v27 g27 h27 => ?_)
  rw [h27.1, h27.2]
  refine vq_istore (lv' := [(5, _), (4, _), (3, _), (0, _), (1, _), (2, _)]) d_D_raisePart_30 (by decide) rfl ?_
  refine vq_aload_n d_D_raisePart_32 rfl ?_
  refine vq_getR (k := 1) (C := R_D) (T := T_D) d_D_raisePart_33 rfl in_D w_151 (by decide) rfl (by decide) rfl rfl ?_
  refine vq_iload d_D_raisePart_36 rfl ?_
  refine vq_iload_n d_D_raisePart_38 rfl ?_
  refine vq_callV (n := 2) (C := R_V) (T := T_V) _ _ d_D_raisePart_39 (ct_V_hasHeirs l b id D (o := zb F w) (h := h) (Y := zY F e h) (by omega) (fun j hj => ⟨by have := hW.2.2.1 w j hw hj; omega, hk.2.2.2.2.2 h (by omega) j (by have := hW.2.2.1 w j hw hj; omega)⟩)) w_340 w_279 w_280 w_281 w_3 rfl ⟨by decide, by decide, by decide +kernel⟩ ⟨by decide, by decide⟩ (by decide) rfl rfl rfl rfl (Nat.le_of_ble_eq_true rfl) rfl rfl rfl ⟨by decide, by decide⟩ (fun _ _ h => h.elim) (fun v39 g39 h39 => ?_)
  rw [h39.1, h39.2]
  refine vq_istore (lv' := [(6, _), (5, _), (4, _), (3, _), (0, _), (1, _), (2, _)]) d_D_raisePart_42 (by decide) rfl ?_
  refine vq_iload d_D_raisePart_44 rfl ?_
  refine vq_if_eq (tgt := 67) d_D_raisePart_46 (by decide) (fun h46 => ?_) (fun h46 => ?_)
  · have hA := bI_0.mp h46
    refine vq_aload_n d_D_raisePart_67 rfl ?_
    refine vq_getR (k := 5) (C := R_D) (T := T_D) d_D_raisePart_68 rfl in_D w_157 (by decide) rfl (by decide) rfl rfl ?_
    refine vq_iload_n d_D_raisePart_71 rfl ?_
    refine vq_lald d_D_raisePart_72 (by decide) rfl rfl (show _ < 20 by omega) ?_
    refine vq_long (y := lN (v w)) hv ?_
    refine vq_long (show _ = lN (if (zoB (za F w) (zY F e h) && zoB (zb F w) (zY F e h)) = true then v w / 2 else v w) by first | (rw [hA, hB]; rfl) | (rw [hA]; rfl)) ?_
    exact s73
  · have hA := bI_n0.mp h46
    refine vq_iload d_D_raisePart_49 rfl ?_
    refine vq_if_eq (tgt := 67) d_D_raisePart_51 (by decide) (fun h51 => ?_) (fun h51 => ?_)
    · have hB := bI_0.mp h51
      refine vq_aload_n d_D_raisePart_67 rfl ?_
      refine vq_getR (k := 5) (C := R_D) (T := T_D) d_D_raisePart_68 rfl in_D w_157 (by decide) rfl (by decide) rfl rfl ?_
      refine vq_iload_n d_D_raisePart_71 rfl ?_
      refine vq_lald d_D_raisePart_72 (by decide) rfl rfl (show _ < 20 by omega) ?_
      refine vq_long (y := lN (v w)) hv ?_
      refine vq_long (show _ = lN (if (zoB (za F w) (zY F e h) && zoB (zb F w) (zY F e h)) = true then v w / 2 else v w) by first | (rw [hA, hB]; rfl) | (rw [hA]; rfl)) ?_
      exact s73
    · have hB := bI_n0.mp h51
      refine vq_aload_n d_D_raisePart_54 rfl ?_
      refine vq_getR (k := 5) (C := R_D) (T := T_D) d_D_raisePart_55 rfl in_D w_157 (by decide) rfl (by decide) rfl rfl ?_
      refine vq_iload_n d_D_raisePart_58 rfl ?_
      refine vq_lald d_D_raisePart_59 (by decide) rfl rfl (show _ < 20 by omega) ?_
      refine vq_long (y := lN (v w)) hv ?_
      refine vq_ldc2 d_D_raisePart_60 w_354 ?_
      refine vq_ldiv d_D_raisePart_63 (by decide) ?_
      rw [show (2 : Int64) = lN 2 from rfl, pk_lDiv hv63 (by decide) (by decide)]
      refine vq_goto (tgt := 73) d_D_raisePart_64 (by decide) ?_
      refine vq_long (show _ = lN (if (zoB (za F w) (zY F e h) && zoB (zb F w) (zY F e h)) = true then v w / 2 else v w) by first | (rw [hA, hB]; rfl) | (rw [hA]; rfl)) ?_
      exact s73
set_option maxRecDepth 100000 in
set_option maxHeartbeats 4000000 in
theorem ct_D_raiseParts (l : Launch) (b : Nat) (id : Nat → ClassId) (D : va_G) {g : Sg} {F : Fam} (hW : zW F) (hc : Hc g F) {e : Nat} (he : e < zn F) (hk : LK g F e) {t : Nat} {v : Nat → Nat} (ht : t ≤ 3) (hv63 : zsum v (zn F) < 2 ^ 63) (hv : ∀ p, p < zn F → g.2 36 p = lN (v p)) : qCT l b id D m_D_raiseParts false [.ref (b + 34), .int (nI t)] 85 kT g 85 kT (fun v' g' => v' = none ∧ g'.1 = g.1 ∧ (∀ q, q ≠ 36 → q ≠ 37 → g'.2 q = g.2 q) ∧ (∀ p, p < zn F → g'.2 36 p = lN (zup F e t v p))) (fun _ _ => False) := by
  have hn := hW.1
  refine qCT_of rfl (by decide) (Nat.le_of_ble_eq_true rfl) ?_
  show Vq l b id D m_D_raiseParts false 85 kT _ 85 kT _ 85 kT 0 0 0 [(0, .ref (b + 34)), (1, .int (nI t))] [] g
  have loop : ∀ (n9 : Nat) (k : Nat) (g1 : Sg) (V : Nat → Nat), k = n9 → (k ≤ t ∧ g1.1 = g.1 ∧ (∀ q, q ≠ 36 → q ≠ 37 → g1.2 q = g.2 q) ∧ zsum V (zn F) < 2 ^ 63 ∧ (∀ p, p < zn F → g1.2 36 p = lN (V p)) ∧ (∀ p, p < zn F → zup F e k V p = zup F e t v p)) → Vq l b id D m_D_raiseParts false 85 kT (fun v' g' => v' = none ∧ g'.1 = g.1 ∧ (∀ q, q ≠ 36 → q ≠ 37 → g'.2 q = g.2 q) ∧ (∀ p, p < zn F → g'.2 36 p = lN (zup F e t v p))) 85 kT (fun _ _ => False) 85 kT 0 0 4 [(2, .int (nI k - 1)), (0, .ref (b + 34)), (1, .int (nI t))] [] g1 := by
    intro n9
    induction n9 using Nat.strongRecOn with
    | ind n9 ih =>
    intro k g1 V hm hI
    have hk1 := hI.1
    refine vq_iload_n d_D_raiseParts_4 rfl ?_
    refine vq_if_lt (tgt := 73) d_D_raiseParts_5 (by decide) (fun h5 => ?_) (fun h5 => ?_)
    · have hk0 : k = 0 := by
        cases k with
        | zero => rfl
        | succ r => exact absurd h5 (by rw [nI_pred]; exact nI_pos (by omega))
      subst hk0
      refine vq_vret d_D_raiseParts_73 rfl (by decide) (by decide) rfl rfl ?_
      exact ⟨rfl, hI.2.1, hI.2.2.1, fun p hp => by rw [hI.2.2.2.2.1 p hp, ← hI.2.2.2.2.2 p hp]; rfl⟩
    · obtain ⟨r, rfl⟩ : ∃ r, k = r + 1 := by
        cases k with
        | zero => exact absurd (by decide) h5
        | succ r => exact ⟨r, rfl⟩
      rw [nI_pred]
      have inner : ∀ (n8 : Nat) (i : Nat) (g2 : Sg), zn F - i = n8 → (i ≤ zn F ∧ g2.1 = g.1 ∧ (∀ q, q ≠ 37 → g2.2 q = g1.2 q) ∧ (∀ j, j < zn F → g2.2 37 j = lN (zsum (fun p => zc1 F e r V p j) i))) → Vq l b id D m_D_raiseParts false 85 kT (fun v' g' => v' = none ∧ g'.1 = g.1 ∧ (∀ q, q ≠ 36 → q ≠ 37 → g'.2 q = g.2 q) ∧ (∀ p, p < zn F → g'.2 36 p = lN (zup F e t v p))) 85 kT (fun _ _ => False) 85 kT 0 0 18 [(3, .int (nI i)), (2, .int (nI r)), (0, .ref (b + 34)), (1, .int (nI t))] [] g2 := by
        intro n8
        induction n8 using Nat.strongRecOn with
        | ind n8 ih8 =>
        intro i g2 hm8 hJ
        have hj1 := hJ.1
        have hc2 : Hc g2 F := hc.congr (fun q a c => by rw [hJ.2.1])
        have hk2 : LK g2 F e := hk.congr (fun q a c => by rw [hJ.2.1])
        refine vq_iload_n d_D_raiseParts_18 rfl ?_
        refine vq_aload_n d_D_raiseParts_19 rfl ?_
        refine vq_getR (k := 0) (C := R_D) (T := T_D) d_D_raiseParts_20 rfl in_D w_150 (by decide) rfl (by decide) rfl rfl ?_
        refine vq_getI (k := 0) (C := R_F) (T := T_F) d_D_raiseParts_23 rfl in_F w_35 (by decide) rfl (by decide) rfl ?_
        refine vq_int (y := nI (zn F)) hc2.1 ?_
        refine vq_icmp_ge (tgt := 52) d_D_raiseParts_26 (by decide) (fun h26 => ?_) (fun h26 => ?_)
        · have hi : i = zn F := by
            rw [nI_leI (by omega) (by omega)] at h26
            omega
          subst hi
          refine vq_aload_n d_D_raiseParts_52 rfl ?_
          refine vq_getR (k := 6) (C := R_D) (T := T_D) d_D_raiseParts_53 rfl in_D w_158 (by decide) rfl (by decide) rfl rfl ?_
          refine vq_iconst (v := 0) d_D_raiseParts_56 (by decide) ?_
          refine vq_aload_n d_D_raiseParts_57 rfl ?_
          refine vq_getR (k := 5) (C := R_D) (T := T_D) d_D_raiseParts_58 rfl in_D w_157 (by decide) rfl (by decide) rfl rfl ?_
          refine vq_iconst (v := 0) d_D_raiseParts_61 (by decide) ?_
          refine vq_bipush (v := 20) d_D_raiseParts_62 (by decide) ?_
          refine vq_copy 20 d_D_raiseParts_64 w_355 w_357 w_356 w_14 rfl (by decide) (by decide) rfl rfl (by decide) (by decide) (by decide) (by decide) ?_
          refine vq_iinc (k := 1) (lv' := [(2, _), (3, _), (0, _), (1, _)]) d_D_raiseParts_67 rfl (im1 (nI r)) (by decide) rfl ?_
          refine vq_goto (tgt := 4) d_D_raiseParts_70 (by decide) ?_
          refine vq_pk [0, 2, 3] (lv' := [(2, _), (0, _), (1, _)]) rfl ?_
          refine ih r (by omega) r _ (zcl F e r V) rfl ⟨by omega, hJ.2.1, fun q a c => ?_, Nat.lt_of_le_of_lt (zcl_le hW V) hI.2.2.2.1, fun p hp => ?_, fun p hp => hI.2.2.2.2.2 p hp⟩
          · rw [sJ_n a, hJ.2.2.1 q c]; exact hI.2.2.1 q a c
          · rw [sJ_s, pk_cpy_in (by omega) (by omega)]
            simp only [Nat.sub_zero, Nat.zero_add]
            exact hJ.2.2.2 p hp
        · have hi : i < zn F := by
            rw [nI_leI (by omega) (by omega)] at h26
            omega
          have hV63 : V i < 2 ^ 63 := Nat.lt_of_le_of_lt (zsum_one hi) hI.2.2.2.1
          have s46 : ∀ (g3 : Sg), (g3.1 = g.1 ∧ (∀ q, q ≠ 37 → g3.2 q = g1.2 q) ∧ (∀ j, j < zn F → g3.2 37 j = lN (zsum (fun p => zc1 F e r V p j) (i + 1)))) → Vq l b id D m_D_raiseParts false 85 kT (fun v' g' => v' = none ∧ g'.1 = g.1 ∧ (∀ q, q ≠ 36 → q ≠ 37 → g'.2 q = g.2 q) ∧ (∀ p, p < zn F → g'.2 36 p = lN (zup F e t v p))) 85 kT (fun _ _ => False) 85 kT 0 0 46 [(3, .int (nI i)), (2, .int (nI r)), (0, .ref (b + 34)), (1, .int (nI t))] [] g3 := by
            intro g3 hI3
            refine vq_iinc (k := 0) (lv' := [(3, _), (2, _), (0, _), (1, _)]) d_D_raiseParts_46 rfl (ip1 i) (by decide) rfl ?_
            refine vq_goto (tgt := 18) d_D_raiseParts_49 (by decide) ?_
            exact ih8 (zn F - (i + 1)) (by omega) (i + 1) _ rfl ⟨by omega, hI3⟩
          refine vq_aload_n d_D_raiseParts_29 rfl ?_
          refine vq_getR (k := 5) (C := R_D) (T := T_D) d_D_raiseParts_30 rfl in_D w_157 (by decide) rfl (by decide) rfl rfl ?_
          refine vq_iload_n d_D_raiseParts_33 rfl ?_
          refine vq_lald d_D_raiseParts_34 (by decide) rfl rfl (show _ < 20 by omega) ?_
          refine vq_long (y := lN (V i)) (by rw [hJ.2.2.1 36 (by decide)]; exact hI.2.2.2.2.1 i hi) ?_
          refine vq_lconst (v := 0) d_D_raiseParts_35 rfl ?_
          refine vq_lcmp d_D_raiseParts_36 ?_
          refine vq_if_le (tgt := 46) d_D_raiseParts_37 (by decide) (fun h37 => ?_) (fun h37 => ?_)
          · rw [lpos hV63] at h37
            first
              | exact s46 _ ⟨a1.trans hJ.2.1, fun q hq => (a2 q hq).trans (hJ.2.2.1 q hq), fun j hj => by rw [a3 j hj, hJ.2.2.2 j hj, lN_add]; rfl⟩
              | exact s46 _ ⟨hJ.2.1, hJ.2.2.1, fun j hj => by rw [hJ.2.2.2 j hj]; show _ = lN (_ + zc1 F e r V i j); rw [zc1_0 h37]; rfl⟩
          · rw [lpos hV63] at h37
            refine vq_aload_n d_D_raiseParts_40 rfl ?_
            refine vq_iload_n d_D_raiseParts_41 rfl ?_
            refine vq_iload_n d_D_raiseParts_42 rfl ?_
            refine vq_callV (n := 2) (C := R_D) (T := T_D) _ _ d_D_raiseParts_43 (ct_D_raisePart l b id D hW hc2 he hk2 (w := i) (h := r) (v := V) hi (by omega) (by rw [hJ.2.2.1 36 (by decide)]; exact hI.2.2.2.2.1 i hi) hV63) w_350 w_352 sel_D_raisePart w_353 w_4 rfl ⟨by decide, by decide, by decide +kernel⟩ ⟨by decide, by decide⟩ (by decide) rfl rfl rfl rfl (Nat.le_of_ble_eq_true rfl) rfl rfl rfl ⟨by decide, by decide⟩ (fun _ _ h => h.elim) (fun v43 g43 h43 => ?_)
            obtain ⟨rfl, a1, a2, a3⟩ := h43
            first
              | exact s46 _ ⟨a1.trans hJ.2.1, fun q hq => (a2 q hq).trans (hJ.2.2.1 q hq), fun j hj => by rw [a3 j hj, hJ.2.2.2 j hj, lN_add]; rfl⟩
              | exact s46 _ ⟨hJ.2.1, hJ.2.2.1, fun j hj => by rw [hJ.2.2.2 j hj]; show _ = lN (_ + zc1 F e r V i j); rw [zc1_0 h37]; rfl⟩
      refine vq_aload_n d_D_raiseParts_8 rfl ?_
      refine vq_getR (k := 6) (C := R_D) (T := T_D) d_D_raiseParts_9 rfl in_D w_158 (by decide) rfl (by decide) rfl rfl ?_
      refine vq_lconst (v := 0) d_D_raiseParts_12 rfl ?_
      refine vq_callS (n := 2) _ _ d_D_raiseParts_13 (ct_A_fillJ l b id D (q := 37) (by decide) rfl 0) w_329 w_236 w_237 w_13 rfl ⟨by decide, by decide, by decide +kernel⟩ ⟨by decide, by decide⟩ rfl rfl (Nat.le_of_ble_eq_true rfl) rfl rfl rfl ⟨by decide, by decide⟩ (fun _ _ h => h.elim) (fun v13 g13 h13 => ?_)
      obtain ⟨rfl, f, rfl, hf⟩ := h13
      refine vq_iconst (v := 0) d_D_raiseParts_16 (by decide) ?_
      refine vq_istore_n (lv' := [(3, _), (2, _), (0, _), (1, _)]) d_D_raiseParts_17 (by decide) rfl ?_
      exact inner (zn F) 0 _ rfl ⟨by omega, hI.2.1, fun q hq => sJ_n hq, fun j hj => by rw [sJ_s]; exact hf j (show j < 20 by omega)⟩
  refine vq_iload_n d_D_raiseParts_0 rfl ?_
  refine vq_iconst (v := 1) d_D_raiseParts_1 (by decide) ?_
  refine vq_isub d_D_raiseParts_2 ?_
  refine vq_istore_n (lv' := [(2, _), (0, _), (1, _)]) d_D_raiseParts_3 (by decide) rfl ?_
  exact loop t t _ v rfl ⟨Nat.le_refl _, rfl, fun q a c => rfl, hv63, hv, fun p hp => rfl⟩
end
section
/-! SuccessionClerk$Division: shares, takers, lowest terms. Laid by wip/whole/specs/p28.py -/
theorem ztb_zero {F : Fam} {e : Nat} {P : Nat → Nat} (h : ∀ c, P c = 0) : ∀ k c, ztb F e P k c = 0
  | 0, c => h c
  | k + 1, c => by
    show ztb F e P k c + _ = 0
    rw [ztb_zero h k c, ztb_zero h k k, Nat.zero_div]; simp
theorem zup_le {F : Fam} (hW : zW F) {e : Nat} : ∀ (h : Nat) (v : Nat → Nat), zsum (zup F e h v) (zn F) ≤ zsum v (zn F)
  | 0, v => Nat.le_refl _
  | h + 1, v => Nat.le_trans (zup_le hW h (zcl F e h v)) (zcl_le hW v)
def zcn (S : Nat → Nat) (n : Nat) : Nat := zsum (fun p => if 0 < S p then 1 else 0) n
theorem zcn_le (S : Nat → Nat) : ∀ n, zcn S n ≤ n
  | 0 => Nat.le_refl _
  | n + 1 => by
    have := zcn_le S n
    show zcn S n + (if 0 < S n then 1 else 0) ≤ n + 1
    split <;> omega
/-- the taker at a place, as an int -/
def ztk (S : Nat → Nat) (n : Nat) (i : Int32) : Option Nat := zfst (fun p => decide (0 < S p) && decide (nI (zcn S p) = i)) n
/-- a fraction in lowest terms, packed -/
def zfr (s d : Nat) : Int64 := if s = 0 then 0 else ((lN (s / Nat.gcd s d)) <<< ((32 : Int32).toInt64 &&& 63)) ||| lN (d / Nat.gcd s d)
/-- Euclid's steps are few -/
def zEu (G s x y : Nat) : Prop := Nat.gcd x y = G ∧ x < 2 ^ 62 ∧ y < 2 ^ 62 ∧ 0 < x ∧ ((s = 0 ∧ x < 2 ^ 40 ∧ y < 2 ^ 40) ∨ (0 < s ∧ y < x ∧ x * y * 2 ^ s < 2 ^ 82))
theorem zEu_step {G s x y : Nat} (h : zEu G s x y) (hy : 0 < y) : zEu G (s + 1) y (x % y) := by
  obtain ⟨h1, h2, h3, h4, h5⟩ := h
  have hr := Nat.mod_lt x hy
  refine ⟨by rw [← h1, Nat.gcd_comm x y, Nat.gcd_rec y x, Nat.gcd_comm], h3, by omega, hy, Or.inr ⟨by omega, hr, ?_⟩⟩
  rcases h5 with ⟨rfl, hx40, hy40⟩ | ⟨hs, hyx, hp⟩
  · have e1 : y * (x % y) ≤ 2 ^ 40 * 2 ^ 40 := Nat.mul_le_mul (by omega) (by omega)
    have e2 : y * (x % y) * 2 ^ (0 + 1) ≤ 2 ^ 40 * 2 ^ 40 * 2 ^ (0 + 1) := Nat.mul_le_mul_right _ e1
    exact Nat.lt_of_le_of_lt e2 (by decide)
  · have e0 : 2 * (x % y) ≤ x := by
      have h6 := Nat.div_add_mod x y
      have h7 : 1 ≤ x / y := Nat.div_pos (by omega) hy
      have h8 : y * 1 ≤ y * (x / y) := Nat.mul_le_mul_left y h7
      omega
    have e1 : y * (x % y) * 2 ^ (s + 1) = (y * (2 * (x % y))) * 2 ^ s := by
      rw [Nat.pow_succ, Nat.mul_comm (2 ^ s) 2, ← Nat.mul_assoc, Nat.mul_assoc y, Nat.mul_comm (x % y) 2]
    have e2 : (y * (2 * (x % y))) * 2 ^ s ≤ (y * x) * 2 ^ s := Nat.mul_le_mul_right _ (Nat.mul_le_mul_left y e0)
    rw [e1]
    refine Nat.lt_of_le_of_lt e2 ?_
    rw [Nat.mul_comm y x]
    exact hp
theorem zEu_end {G x y : Nat} (h : zEu G 100 x y) : y = 0 := by
  obtain ⟨-, -, -, h4, h5⟩ := h
  rcases h5 with ⟨h, -⟩ | ⟨-, -, hp⟩
  · omega
  · cases y with
    | zero => rfl
    | succ k =>
      exfalso
      have e1 : 1 ≤ x * (k + 1) := Nat.mul_pos h4 (by omega)
      have e2 : 1 * 2 ^ 100 ≤ x * (k + 1) * 2 ^ 100 := Nat.mul_le_mul_right _ e1
      have e3 : (2 : Nat) ^ 82 < 1 * 2 ^ 100 := by decide
      omega
def m_D_countTakers : Mt := (y_D_countTakers, c_D_countTakers, 3, { frames := 8, cells := 0, slots := 0, locals := 130 }, (some .int), none)
def m_D_takerAt : Mt := (y_D_takerAt, c_D_takerAt, 4, { frames := 8, cells := 0, slots := 0, locals := 130 }, (some .int), none)
def m_D_commonDivisor : Mt := (y_D_commonDivisor, c_D_commonDivisor, 11, { frames := 8, cells := 0, slots := 0, locals := 130 }, (some .long), none)
def m_D_inLowestTerms : Mt := (y_D_inLowestTerms, c_D_inLowestTerms, 4, { frames := 9, cells := 0, slots := 0, locals := 175 }, (some .long), none)
set_option maxRecDepth 100000 in
set_option maxHeartbeats 4000000 in
theorem ct_D_divideByShares (l : Launch) (b : Nat) (id : Nat → ClassId) (D : va_G) {g : Sg} {F : Fam} (hW : zW F) (hc : Hc g F) {e : Nat} (he : e < zn F) (hk : LK g F e) {a : Nat} (ha63 : a * (8 * zpr F e) * 4 < 2 ^ 63) : qCT l b id D m_D_divideByShares false [.ref (b + 34), .long (lN a)] 85 kT g 85 kT (fun v' g' => v' = none ∧ g'.1 = g.1 ∧ (∀ q, q < 34 ∨ 37 < q → g'.2 q = g.2 q) ∧ g'.2 34 4 = lN (4 * (8 * zpr F e)) ∧ (∀ p, p < zn F → g'.2 35 p = lN (zsh F e a p))) (fun _ _ => False) := by
  have hn := hW.1
  have ht5 := zt_le F e
  have hq4 := zq_le (F := F) (e := e)
  have hX63 : a * (8 * zpr F e) * (4 - zq F e) < 2 ^ 63 := Nat.lt_of_le_of_lt (Nat.mul_le_mul_left _ (by omega)) ha63
  refine qCT_of rfl (by decide) (Nat.le_of_ble_eq_true rfl) ?_
  show Vq l b id D m_D_divideByShares false 85 kT _ 85 kT _ 85 kT 0 0 0 [(0, .ref (b + 34)), (1, .long (lN a))] [] g
  refine vq_ldc2 d_D_divideByShares_0 w_345 ?_
  refine vq_aload_n d_D_divideByShares_3 rfl ?_
  refine vq_callV (n := 0) (C := R_D) (T := T_D) _ _ d_D_divideByShares_4 (ct_D_branchProduct l b id D hW hc he hk) w_320 w_322 sel_D_branchProduct w_323 w_4 rfl ⟨by decide, by decide, by decide +kernel⟩ ⟨by decide, by decide⟩ (by decide) rfl rfl rfl rfl (Nat.le_of_ble_eq_true rfl) rfl rfl rfl ⟨by decide, by decide⟩ (fun _ _ h => h.elim) (fun v4 g4 h4 => ?_)
  rw [h4.1, h4.2]
  refine vq_lmul d_D_divideByShares_7 ?_
  rw [show (8 : Int64) = lN 8 from rfl, lN_mul]
  refine vq_lstore_n (lv' := [(3, _), (0, _), (1, _)]) d_D_divideByShares_8 (by decide) rfl ?_
  refine vq_aload_n d_D_divideByShares_9 rfl ?_
  refine vq_ldc2 d_D_divideByShares_10 w_324 ?_
  refine vq_lload_n d_D_divideByShares_13 rfl ?_
  refine vq_lmul d_D_divideByShares_14 ?_
  rw [show (4 : Int64) = lN 4 from rfl, lN_mul]
  refine vq_lload_n d_D_divideByShares_15 rfl ?_
  refine vq_lload_n d_D_divideByShares_16 rfl ?_
  refine vq_lmul d_D_divideByShares_17 ?_
  rw [lN_mul]
  refine vq_callV (n := 2) (C := R_D) (T := T_D) _ _ d_D_divideByShares_18 (ct_D_startWith l b id D hW hc he hk (lN (4 * (8 * zpr F e))) (a * (8 * zpr F e))) w_325 w_327 sel_D_startWith w_328 w_4 rfl ⟨by decide, by decide, by decide +kernel⟩ ⟨by decide, by decide⟩ (by decide) rfl rfl rfl rfl (Nat.le_of_ble_eq_true rfl) rfl rfl rfl ⟨by decide, by decide⟩ (fun _ _ h => h.elim) (fun v18 g18 h18 => ?_)
  obtain ⟨rfl, a1, a2, a3, a4, a5⟩ := h18
  have hk1 : LK g18 F e := hk.congr (fun q _ _ => by rw [a1])
  have hc1 : Hc g18 F := hc.congr (fun q _ _ => by rw [a1])
  refine vq_aload_n d_D_divideByShares_21 rfl ?_
  refine vq_getR (k := 1) (C := R_D) (T := T_D) d_D_divideByShares_22 rfl in_D w_151 (by decide) rfl (by decide) rfl rfl ?_
  refine vq_getI (k := 3) (C := R_V) (T := T_V) d_D_divideByShares_25 rfl in_V w_88 (by decide) rfl (by decide) rfl ?_
  refine vq_int (y := nI (zt F e)) (hk1.2.2.1) ?_
  refine vq_iconst (v := 3) d_D_divideByShares_28 (by decide) ?_
  refine vq_icmp_gt (tgt := 73) d_D_divideByShares_29 (by decide) (fun h29 => ?_) (fun h29 => ?_)
  · rw [show (3 : Int32) = nI 3 from rfl, nI_ltI (by decide) (by omega)] at h29
    refine vq_vret d_D_divideByShares_73 rfl (by decide) (by decide) rfl rfl ?_
    first
      | exact ⟨rfl, c1.trans (b1.trans a1), fun q hq => by rw [c2 q (by omega) (by omega), b2 q (by omega) (by omega), sJ_n (by omega)]; exact a2 q (by omega) (by omega) (by omega), by rw [c2 34 (by decide) (by decide), b2 34 (by decide) (by decide), sJ_n (by decide)]; exact a3, c3⟩
      | (refine ⟨rfl, a1, fun q hq => a2 q (by omega) (by omega) (by omega), a3, fun p hp => ?_⟩; rw [a5 p (by omega)]; unfold zsh zta; rw [ztb_zero (P := zP0 F e a) (fun c => by unfold zP0; rw [if_neg (by omega)])]; simp [zT0])
  · rw [show (3 : Int32) = nI 3 from rfl, nI_ltI (by decide) (by omega)] at h29
    have hP0 : zP0 F e a = zup F e (zt F e) (fun p => if p = e then a * (8 * zpr F e) * (4 - zq F e) else 0) := by unfold zP0; rw [if_pos (by omega)]
    have hP63 : zsum (zP0 F e a) (zn F) < 2 ^ 63 := by rw [hP0]; exact Nat.lt_of_le_of_lt (zup_le hW _ _) (by rw [zsum_pt, if_pos he]; exact hX63)
    refine vq_aload_n d_D_divideByShares_32 rfl ?_
    refine vq_getR (k := 5) (C := R_D) (T := T_D) d_D_divideByShares_33 rfl in_D w_157 (by decide) rfl (by decide) rfl rfl ?_
    refine vq_aload_n d_D_divideByShares_36 rfl ?_
    refine vq_getR (k := 1) (C := R_D) (T := T_D) d_D_divideByShares_37 rfl in_D w_151 (by decide) rfl (by decide) rfl rfl ?_
    refine vq_getI (k := 1) (C := R_V) (T := T_V) d_D_divideByShares_40 rfl in_V w_85 (by decide) rfl (by decide) rfl ?_
    refine vq_int (y := nI e) hk1.1 ?_
    refine vq_lload_n d_D_divideByShares_43 rfl ?_
    refine vq_lload_n d_D_divideByShares_44 rfl ?_
    refine vq_lmul d_D_divideByShares_45 ?_
    rw [lN_mul]
    refine vq_iconst (v := 4) d_D_divideByShares_46 (by decide) ?_
    refine vq_aload_n d_D_divideByShares_47 rfl ?_
    refine vq_getR (k := 1) (C := R_D) (T := T_D) d_D_divideByShares_48 rfl in_D w_151 (by decide) rfl (by decide) rfl rfl ?_
    refine vq_callV (n := 0) (C := R_V) (T := T_V) _ _ d_D_divideByShares_51 (ct_V_spouseQuarters l b id D hW he hk1) w_294 w_295 w_296 w_297 w_3 rfl ⟨by decide, by decide, by decide +kernel⟩ ⟨by decide, by decide⟩ (by decide) rfl rfl rfl rfl (Nat.le_of_ble_eq_true rfl) rfl rfl rfl ⟨by decide, by decide⟩ (fun _ _ h => h.elim) (fun v51 g51 h51 => ?_)
    rw [h51.1, h51.2]
    refine vq_isub d_D_divideByShares_54 ?_
    refine vq_int (show _ = nI (4 - zq F e) from pk_sub zq_le) ?_
    refine vq_i2l d_D_divideByShares_55 (nI_l (by omega)) ?_
    refine vq_lmul d_D_divideByShares_56 ?_
    rw [lN_mul]
    refine vq_last d_D_divideByShares_57 rfl (by decide) rfl rfl (show _ < 20 by omega) ?_
    have hc2 : Hc (sJ g18 36 (vp_updL (g18.2 36) e (lN (a * (8 * zpr F e) * (4 - zq F e))))) F := hc1.congr (fun q _ _ => rfl)
    have hk2 : LK (sJ g18 36 (vp_updL (g18.2 36) e (lN (a * (8 * zpr F e) * (4 - zq F e))))) F e := hk1.congr (fun q _ _ => rfl)
    have hv36 : ∀ p, p < zn F → (sJ g18 36 (vp_updL (g18.2 36) e (lN (a * (8 * zpr F e) * (4 - zq F e))))).2 36 p = lN ((fun p => if p = e then a * (8 * zpr F e) * (4 - zq F e) else 0) p) := by
      intro p hp
      rw [sJ_s, vp_updL]
      by_cases ep : p = e
      · simp [ep]
      · simp only [ep, if_false]; exact a4 p (by omega)
    refine vq_aload_n d_D_divideByShares_58 rfl ?_
    refine vq_aload_n d_D_divideByShares_59 rfl ?_
    refine vq_getR (k := 1) (C := R_D) (T := T_D) d_D_divideByShares_60 rfl in_D w_151 (by decide) rfl (by decide) rfl rfl ?_
    refine vq_getI (k := 3) (C := R_V) (T := T_V) d_D_divideByShares_63 rfl in_V w_88 (by decide) rfl (by decide) rfl ?_
    refine vq_int (y := nI (zt F e)) (hk1.2.2.1) ?_
    refine vq_callV (n := 1) (C := R_D) (T := T_D) _ _ d_D_divideByShares_66 (ct_D_raiseParts l b id D hW hc2 he hk2 (t := zt F e) (v := fun p => if p = e then a * (8 * zpr F e) * (4 - zq F e) else 0) (by omega) (by rw [zsum_pt, if_pos he]; exact hX63) (fun p hp => hv36 p hp)) w_346 w_348 sel_D_raiseParts w_349 w_4 rfl ⟨by decide, by decide, by decide +kernel⟩ ⟨by decide, by decide⟩ (by decide) rfl rfl rfl rfl (Nat.le_of_ble_eq_true rfl) rfl rfl rfl ⟨by decide, by decide⟩ (fun _ _ h => h.elim) (fun v66 g66 h66 => ?_)
    obtain ⟨rfl, b1, b2, b3⟩ := h66
    refine vq_aload_n d_D_divideByShares_69 rfl ?_
    refine vq_callV (n := 0) (C := R_D) (T := T_D) _ _ d_D_divideByShares_70 (ct_D_lowerParts l b id D hW (hc1.congr (fun q _ _ => by rw [b1]; rfl)) he (hk1.congr (fun q _ _ => by rw [b1]; rfl)) (P := zP0 F e a) (T := zT0 F e a) hP63 (fun p hp => by rw [b3 p hp, hP0]) (fun p hp => by rw [b2 35 (by decide) (by decide), sJ_n (by decide)]; exact a5 p (by omega))) w_331 w_333 sel_D_lowerParts w_334 w_4 rfl ⟨by decide, by decide, by decide +kernel⟩ ⟨by decide, by decide⟩ (by decide) rfl rfl rfl rfl (Nat.le_of_ble_eq_true rfl) rfl rfl rfl ⟨by decide, by decide⟩ (fun _ _ h => h.elim) (fun v70 g70 h70 => ?_)
    obtain ⟨rfl, c1, c2, c3⟩ := h70
    refine vq_vret d_D_divideByShares_73 rfl (by decide) (by decide) rfl rfl ?_
    first
      | exact ⟨rfl, c1.trans (b1.trans a1), fun q hq => by rw [c2 q (by omega) (by omega), b2 q (by omega) (by omega), sJ_n (by omega)]; exact a2 q (by omega) (by omega) (by omega), by rw [c2 34 (by decide) (by decide), b2 34 (by decide) (by decide), sJ_n (by decide)]; exact a3, c3⟩
      | (refine ⟨rfl, a1, fun q hq => a2 q (by omega) (by omega) (by omega), a3, fun p hp => ?_⟩; rw [a5 p (by omega)]; unfold zsh zta; rw [ztb_zero (P := zP0 F e a) (fun c => by unfold zP0; rw [if_neg (by omega)])]; simp [zT0])
set_option maxRecDepth 100000 in
set_option maxHeartbeats 4000000 in
theorem ct_D_countTakers (l : Launch) (b : Nat) (id : Nat → ClassId) (D : va_G) {g : Sg} {F : Fam} (hW : zW F) (hc : Hc g F) {S : Nat → Nat} (hS : ∀ p, p < zn F → g.2 35 p = lN (S p) ∧ S p < 2 ^ 63) : qCT l b id D m_D_countTakers false [.ref (b + 34)] 85 kT g 85 kT (fun v' g' => v' = some (.int (nI (zcn S (zn F)))) ∧ g' = g) (fun _ _ => False) := by
  have hn := hW.1
  refine qCT_of rfl (by decide) (Nat.le_of_ble_eq_true rfl) ?_
  show Vq l b id D m_D_countTakers false 85 kT _ 85 kT _ 85 kT 0 0 0 [(0, .ref (b + 34))] [] g
  have loop : ∀ (n9 : Nat) (i : Nat), zn F - i = n9 → i ≤ zn F → Vq l b id D m_D_countTakers false 85 kT (fun v' g' => v' = some (.int (nI (zcn S (zn F)))) ∧ g' = g) 85 kT (fun _ _ => False) 85 kT 0 0 4 [(2, .int (nI i)), (1, .int (nI (zcn S i))), (0, .ref (b + 34))] [] g := by
    intro n9
    induction n9 using Nat.strongRecOn with
    | ind n9 ih =>
    intro i hm hle
    refine vq_iload_n d_D_countTakers_4 rfl ?_
    refine vq_aload_n d_D_countTakers_5 rfl ?_
    refine vq_getR (k := 0) (C := R_D) (T := T_D) d_D_countTakers_6 rfl in_D w_150 (by decide) rfl (by decide) rfl rfl ?_
    refine vq_getI (k := 0) (C := R_F) (T := T_F) d_D_countTakers_9 rfl in_F w_35 (by decide) rfl (by decide) rfl ?_
    refine vq_int (y := nI (zn F)) hc.1 ?_
    refine vq_icmp_ge (tgt := 35) d_D_countTakers_12 (by decide) (fun h12 => ?_) (fun h12 => ?_)
    · have hi : i = zn F := by
        rw [nI_leI (by omega) (by omega)] at h12
        omega
      subst hi
      refine vq_iload_n d_D_countTakers_35 rfl ?_
      refine vq_iret d_D_countTakers_36 rfl (by decide) (by decide) rfl rfl ?_
      exact ⟨rfl, rfl⟩
    · have hi : i < zn F := by
        rw [nI_leI (by omega) (by omega)] at h12
        omega
      have s29 : ∀ (x : Nat), x = zcn S (i + 1) → Vq l b id D m_D_countTakers false 85 kT (fun v' g' => v' = some (.int (nI (zcn S (zn F)))) ∧ g' = g) 85 kT (fun _ _ => False) 85 kT 0 0 29 [(1, .int (nI x)), (2, .int (nI i)), (0, .ref (b + 34))] [] g := by
        intro x hx
        refine vq_iinc (k := 1) (lv' := [(2, _), (1, _), (0, _)]) d_D_countTakers_29 rfl (ip1 i) (by decide) rfl ?_
        refine vq_goto (tgt := 4) d_D_countTakers_32 (by decide) ?_
        rw [hx]
        exact ih (zn F - (i + 1)) (by omega) (i + 1) rfl (by omega)
      refine vq_aload_n d_D_countTakers_15 rfl ?_
      refine vq_getR (k := 3) (C := R_D) (T := T_D) d_D_countTakers_16 rfl in_D w_153 (by decide) rfl (by decide) rfl rfl ?_
      refine vq_iload_n d_D_countTakers_19 rfl ?_
      refine vq_lald d_D_countTakers_20 (by decide) rfl rfl (show _ < 20 by omega) ?_
      refine vq_long (y := lN (S i)) (hS i hi).1 ?_
      refine vq_lconst (v := 0) d_D_countTakers_21 rfl ?_
      refine vq_lcmp d_D_countTakers_22 ?_
      refine vq_if_le (tgt := 29) d_D_countTakers_23 (by decide) (fun h23 => ?_) (fun h23 => ?_)
      · rw [lpos (hS i hi).2] at h23
        refine vq_pk [1, 0, 2] (lv' := [(1, _), (2, _), (0, _)]) rfl ?_
        exact s29 _ (by show _ = zcn S i + (if 0 < S i then 1 else 0); first | (rw [if_pos (by omega)]; done) | (rw [if_neg (by omega)]; rfl))
      · rw [lpos (hS i hi).2] at h23
        refine vq_iinc (k := 1) (lv' := [(1, _), (2, _), (0, _)]) d_D_countTakers_26 rfl (ip1 (zcn S i)) (by decide) rfl ?_
        exact s29 _ (by show _ = zcn S i + (if 0 < S i then 1 else 0); first | (rw [if_pos (by omega)]; done) | (rw [if_neg (by omega)]; rfl))
  refine vq_iconst (v := 0) d_D_countTakers_0 (by decide) ?_
  refine vq_istore_n (lv' := [(1, _), (0, _)]) d_D_countTakers_1 (by decide) rfl ?_
  refine vq_iconst (v := 0) d_D_countTakers_2 (by decide) ?_
  refine vq_istore_n (lv' := [(2, _), (1, _), (0, _)]) d_D_countTakers_3 (by decide) rfl ?_
  exact loop (zn F) 0 rfl (by omega)
set_option maxRecDepth 100000 in
set_option maxHeartbeats 4000000 in
theorem ct_D_takerAt (l : Launch) (b : Nat) (id : Nat → ClassId) (D : va_G) {g : Sg} {F : Fam} (hW : zW F) (hc : Hc g F) {S : Nat → Nat} (hS : ∀ p, p < zn F → g.2 35 p = lN (S p) ∧ S p < 2 ^ 63) (x : Int32) : qCT l b id D m_D_takerAt false [.ref (b + 34), .int x] 85 kT g 85 kT (fun v' g' => v' = some (.int (eO (ztk S (zn F) x))) ∧ g' = g) (fun _ _ => False) := by
  have hn := hW.1
  refine qCT_of rfl (by decide) (Nat.le_of_ble_eq_true rfl) ?_
  show Vq l b id D m_D_takerAt false 85 kT _ 85 kT _ 85 kT 0 0 0 [(0, .ref (b + 34)), (1, .int x)] [] g
  have loop : ∀ (n9 : Nat) (i : Nat), zn F - i = n9 → (i ≤ zn F ∧ ztk S i x = none) → Vq l b id D m_D_takerAt false 85 kT (fun v' g' => v' = some (.int (eO (ztk S (zn F) x))) ∧ g' = g) 85 kT (fun _ _ => False) 85 kT 0 0 4 [(3, .int (nI i)), (2, .int (nI (zcn S i))), (0, .ref (b + 34)), (1, .int x)] [] g := by
    intro n9
    induction n9 using Nat.strongRecOn with
    | ind n9 ih =>
    intro i hm hI
    have hle := hI.1
    refine vq_iload_n d_D_takerAt_4 rfl ?_
    refine vq_aload_n d_D_takerAt_5 rfl ?_
    refine vq_getR (k := 0) (C := R_D) (T := T_D) d_D_takerAt_6 rfl in_D w_150 (by decide) rfl (by decide) rfl rfl ?_
    refine vq_getI (k := 0) (C := R_F) (T := T_F) d_D_takerAt_9 rfl in_F w_35 (by decide) rfl (by decide) rfl ?_
    refine vq_int (y := nI (zn F)) hc.1 ?_
    refine vq_icmp_ge (tgt := 42) d_D_takerAt_12 (by decide) (fun h12 => ?_) (fun h12 => ?_)
    · have hi : i = zn F := by
        rw [nI_leI (by omega) (by omega)] at h12
        omega
      subst hi
      refine vq_iconst (v := -1) d_D_takerAt_42 (by decide) ?_
      refine vq_iret d_D_takerAt_43 rfl (by decide) (by decide) rfl rfl ?_
      exact ⟨by rw [hI.2]; rfl, rfl⟩
    · have hi : i < zn F := by
        rw [nI_leI (by omega) (by omega)] at h12
        omega
      have s36 : ∀ (y : Nat), y = zcn S (i + 1) → ztk S (i + 1) x = none → Vq l b id D m_D_takerAt false 85 kT (fun v' g' => v' = some (.int (eO (ztk S (zn F) x))) ∧ g' = g) 85 kT (fun _ _ => False) 85 kT 0 0 36 [(2, .int (nI y)), (3, .int (nI i)), (0, .ref (b + 34)), (1, .int x)] [] g := by
        intro y hy hno2
        refine vq_iinc (k := 1) (lv' := [(3, _), (2, _), (0, _), (1, _)]) d_D_takerAt_36 rfl (ip1 i) (by decide) rfl ?_
        refine vq_goto (tgt := 4) d_D_takerAt_39 (by decide) ?_
        rw [hy]
        exact ih (zn F - (i + 1)) (by omega) (i + 1) rfl ⟨by omega, hno2⟩
      refine vq_aload_n d_D_takerAt_15 rfl ?_
      refine vq_getR (k := 3) (C := R_D) (T := T_D) d_D_takerAt_16 rfl in_D w_153 (by decide) rfl (by decide) rfl rfl ?_
      refine vq_iload_n d_D_takerAt_19 rfl ?_
      refine vq_lald d_D_takerAt_20 (by decide) rfl rfl (show _ < 20 by omega) ?_
      refine vq_long (y := lN (S i)) (hS i hi).1 ?_
      refine vq_lconst (v := 0) d_D_takerAt_21 rfl ?_
      refine vq_lcmp d_D_takerAt_22 ?_
      refine vq_if_le (tgt := 36) d_D_takerAt_23 (by decide) (fun h23 => ?_) (fun h23 => ?_)
      · rw [lpos (hS i hi).2] at h23
        refine vq_pk [1, 0, 2, 3] (lv' := [(2, _), (3, _), (0, _), (1, _)]) rfl ?_
        exact s36 _ (by show _ = zcn S i + (if 0 < S i then 1 else 0); first | (rw [if_pos (by omega)]; done) | (rw [if_neg (by omega)]; rfl)) (zfst_none hI.2 (by first | (simp [h23]; done) | (simp [h28]; done)))
      · rw [lpos (hS i hi).2] at h23
        refine vq_iload_n d_D_takerAt_26 rfl ?_
        refine vq_iload_n d_D_takerAt_27 rfl ?_
        refine vq_icmp_ne (tgt := 33) d_D_takerAt_28 (by decide) (fun h28 => ?_) (fun h28 => ?_)
        · refine vq_iinc (k := 1) (lv' := [(2, _), (3, _), (0, _), (1, _)]) d_D_takerAt_33 rfl (ip1 (zcn S i)) (by decide) rfl ?_
          exact s36 _ (by show _ = zcn S i + (if 0 < S i then 1 else 0); first | (rw [if_pos (by omega)]; done) | (rw [if_neg (by omega)]; rfl)) (zfst_none hI.2 (by first | (simp [h23]; done) | (simp [h28]; done)))
        · refine vq_iload_n d_D_takerAt_31 rfl ?_
          refine vq_iret d_D_takerAt_32 rfl (by decide) (by decide) rfl rfl ?_
          refine ⟨?_, rfl⟩
          have h9 := zfst_on (zfst_some hI.2 (by simp [h28]; omega)) (zn F - (i + 1))
          rw [show i + 1 + (zn F - (i + 1)) = zn F by omega] at h9
          unfold ztk
          rw [h9]; rfl
  refine vq_iconst (v := 0) d_D_takerAt_0 (by decide) ?_
  refine vq_istore_n (lv' := [(2, _), (0, _), (1, _)]) d_D_takerAt_1 (by decide) rfl ?_
  refine vq_iconst (v := 0) d_D_takerAt_2 (by decide) ?_
  refine vq_istore_n (lv' := [(3, _), (2, _), (0, _), (1, _)]) d_D_takerAt_3 (by decide) rfl ?_
  exact loop (zn F) 0 rfl ⟨by omega, rfl⟩
set_option maxRecDepth 100000 in
set_option maxHeartbeats 4000000 in
theorem ct_D_commonDivisor (l : Launch) (b : Nat) (id : Nat → ClassId) (D : va_G) {g : Sg} {p q : Nat} (hp0 : 0 < p) (hp : p < 2 ^ 40) (hq : q < 2 ^ 40) : qCT l b id D m_D_commonDivisor false [.long (lN p), .long (lN q)] 85 kT g 85 kT (fun v' g' => v' = some (.long (lN (Nat.gcd p q))) ∧ g' = g) (fun _ _ => False) := by
  refine qCT_of rfl (by decide) (Nat.le_of_ble_eq_true rfl) ?_
  show Vq l b id D m_D_commonDivisor false 85 kT _ 85 kT _ 85 kT 0 0 0 [(0, .long (lN p)), (2, .long (lN q))] [] g
  have loop : ∀ (n9 : Nat) (s x y : Nat), 100 - s = n9 → (s ≤ 100 ∧ zEu (Nat.gcd p q) s x y) → Vq l b id D m_D_commonDivisor false 85 kT (fun v' g' => v' = some (.long (lN (Nat.gcd p q))) ∧ g' = g) 85 kT (fun _ _ => False) 85 kT 0 0 9 [(8, .int (nI s)), (6, .long (lN y)), (4, .long (lN x)), (0, .long (lN p)), (2, .long (lN q))] [] g := by
    intro n9
    induction n9 using Nat.strongRecOn with
    | ind n9 ih =>
    intro s x y hm hI
    have hs1 := hI.1
    have hx62 := hI.2.2.1
    have hy62 := hI.2.2.2.1
    refine vq_iload d_D_commonDivisor_9 rfl ?_
    refine vq_bipush (v := 100) d_D_commonDivisor_11 (by decide) ?_
    refine vq_icmp_ge (tgt := 44) d_D_commonDivisor_13 (by decide) (fun h13 => ?_) (fun h13 => ?_)
    · have hs : s = 100 := by
        rw [show (100 : Int32) = nI 100 from rfl, nI_leI (by decide) (by omega)] at h13
        omega
      subst hs
      have hy0 := zEu_end hI.2
      refine vq_lload d_D_commonDivisor_44 rfl ?_
      refine vq_lret d_D_commonDivisor_46 rfl (by decide) (by decide) rfl rfl ?_
      refine ⟨?_, rfl⟩
      have h9 := hI.2.1
      rw [hy0, Nat.gcd_zero_right] at h9
      rw [h9]
    · have hs : s < 100 := by
        rw [show (100 : Int32) = nI 100 from rfl, nI_leI (by decide) (by omega)] at h13
        omega
      refine vq_lload d_D_commonDivisor_16 rfl ?_
      refine vq_lconst (v := 0) d_D_commonDivisor_18 rfl ?_
      refine vq_lcmp d_D_commonDivisor_19 ?_
      refine vq_if_le (tgt := 44) d_D_commonDivisor_20 (by decide) (fun h20 => ?_) (fun h20 => ?_)
      · rw [lpos (by omega)] at h20
        have hy0 := h20
        refine vq_lload d_D_commonDivisor_44 rfl ?_
        refine vq_lret d_D_commonDivisor_46 rfl (by decide) (by decide) rfl rfl ?_
        refine ⟨?_, rfl⟩
        have h9 := hI.2.1
        rw [hy0, Nat.gcd_zero_right] at h9
        rw [h9]
      · rw [lpos (by omega)] at h20
        refine vq_lload d_D_commonDivisor_23 rfl ?_
        refine vq_lload d_D_commonDivisor_25 rfl ?_
        refine vq_lrem d_D_commonDivisor_27 (lN_ne0 (by omega) (by omega)) ?_
        rw [pk_lRem (by omega) (by omega) (by omega)]
        refine vq_lstore (lv' := [(9, _), (8, _), (6, _), (4, _), (0, _), (2, _)]) d_D_commonDivisor_28 (by decide) rfl ?_
        refine vq_lload d_D_commonDivisor_30 rfl ?_
        refine vq_lstore (lv' := [(4, _), (9, _), (8, _), (6, _), (0, _), (2, _)]) d_D_commonDivisor_32 (by decide) rfl ?_
        refine vq_lload d_D_commonDivisor_34 rfl ?_
        refine vq_lstore (lv' := [(6, _), (4, _), (9, _), (8, _), (0, _), (2, _)]) d_D_commonDivisor_36 (by decide) rfl ?_
        refine vq_iinc (k := 3) (lv' := [(8, _), (6, _), (4, _), (9, _), (0, _), (2, _)]) d_D_commonDivisor_38 rfl (ip1 s) (by decide) rfl ?_
        refine vq_goto (tgt := 9) d_D_commonDivisor_41 (by decide) ?_
        refine vq_pk [0, 1, 2, 4, 5] (lv' := [(8, _), (6, _), (4, _), (0, _), (2, _)]) rfl ?_
        exact ih (100 - (s + 1)) (by omega) (s + 1) y (x % y) rfl ⟨by omega, zEu_step hI.2 (by omega)⟩
  refine vq_lload_n d_D_commonDivisor_0 rfl ?_
  refine vq_lstore (lv' := [(4, _), (0, _), (2, _)]) d_D_commonDivisor_1 (by decide) rfl ?_
  refine vq_lload_n d_D_commonDivisor_3 rfl ?_
  refine vq_lstore (lv' := [(6, _), (4, _), (0, _), (2, _)]) d_D_commonDivisor_4 (by decide) rfl ?_
  refine vq_iconst (v := 0) d_D_commonDivisor_6 (by decide) ?_
  refine vq_istore (lv' := [(8, _), (6, _), (4, _), (0, _), (2, _)]) d_D_commonDivisor_7 (by decide) rfl ?_
  exact loop 100 0 p q rfl ⟨by omega, rfl, by omega, by omega, hp0, Or.inl ⟨rfl, hp, hq⟩⟩
set_option maxRecDepth 100000 in
set_option maxHeartbeats 4000000 in
theorem ct_D_inLowestTerms (l : Launch) (b : Nat) (id : Nat → ClassId) (D : va_G) {g : Sg} {w s d : Nat} (hw : w < 20) (hs : g.2 35 w = lN s) (hd : g.2 34 4 = lN d) (hs40 : s < 2 ^ 40) (hd40 : d < 2 ^ 40) : qCT l b id D m_D_inLowestTerms false [.ref (b + 34), .int (nI w)] 85 kT g 85 kT (fun v' g' => v' = some (.long (zfr s d)) ∧ g' = g) (fun _ _ => False) := by
  refine qCT_of rfl (by decide) (Nat.le_of_ble_eq_true rfl) ?_
  show Vq l b id D m_D_inLowestTerms false 85 kT _ 85 kT _ 85 kT 0 0 0 [(0, .ref (b + 34)), (1, .int (nI w))] [] g
  refine vq_aload_n d_D_inLowestTerms_0 rfl ?_
  refine vq_getR (k := 3) (C := R_D) (T := T_D) d_D_inLowestTerms_1 rfl in_D w_153 (by decide) rfl (by decide) rfl rfl ?_
  refine vq_iload_n d_D_inLowestTerms_4 rfl ?_
  refine vq_lald d_D_inLowestTerms_5 (by decide) rfl rfl (show _ < 20 by omega) ?_
  refine vq_long (y := lN s) hs ?_
  refine vq_lconst (v := 0) d_D_inLowestTerms_6 rfl ?_
  refine vq_lcmp d_D_inLowestTerms_7 ?_
  refine vq_if_gt (tgt := 13) d_D_inLowestTerms_8 (by decide) (fun h8 => ?_) (fun h8 => ?_)
  · rw [lposg (by omega)] at h8
    refine vq_aload_n d_D_inLowestTerms_13 rfl ?_
    refine vq_getR (k := 3) (C := R_D) (T := T_D) d_D_inLowestTerms_14 rfl in_D w_153 (by decide) rfl (by decide) rfl rfl ?_
    refine vq_iload_n d_D_inLowestTerms_17 rfl ?_
    refine vq_lald d_D_inLowestTerms_18 (by decide) rfl rfl (show _ < 20 by omega) ?_
    refine vq_long (y := lN s) hs ?_
    refine vq_aload_n d_D_inLowestTerms_19 rfl ?_
    refine vq_getJ (k := 4) (C := R_D) (T := T_D) d_D_inLowestTerms_20 rfl in_D w_155 (by decide) rfl (by decide) rfl ?_
    refine vq_long (y := lN d) hd ?_
    refine vq_callS (n := 2) _ _ d_D_inLowestTerms_23 (ct_D_commonDivisor l b id D (p := s) (q := d) (by omega) hs40 hd40) w_587 w_588 w_589 w_4 rfl ⟨by decide, by decide, by decide +kernel⟩ ⟨by decide, by decide⟩ rfl rfl (Nat.le_of_ble_eq_true rfl) rfl rfl rfl ⟨by decide, by decide⟩ (fun _ _ h => h.elim) (fun v23 g23 h23 => ?_)
    rw [h23.1, h23.2]
    have hg0 : 0 < Nat.gcd s d := Nat.gcd_pos_of_pos_left d (by omega)
    have hg63 : Nat.gcd s d < 2 ^ 63 := Nat.lt_of_le_of_lt (Nat.gcd_le_left d (by omega)) (by omega)
    refine vq_lstore_n (lv' := [(2, _), (0, _), (1, _)]) d_D_inLowestTerms_26 (by decide) rfl ?_
    refine vq_lload_n d_D_inLowestTerms_27 rfl ?_
    refine vq_lconst (v := 0) d_D_inLowestTerms_28 rfl ?_
    refine vq_lcmp d_D_inLowestTerms_29 ?_
    refine vq_if_gt (tgt := 37) d_D_inLowestTerms_30 (by decide) (fun h30 => ?_) (fun h30 => absurd h30 (fun h => h ((lposg hg63).mpr hg0)))
    refine vq_aload_n d_D_inLowestTerms_37 rfl ?_
    refine vq_getR (k := 3) (C := R_D) (T := T_D) d_D_inLowestTerms_38 rfl in_D w_153 (by decide) rfl (by decide) rfl rfl ?_
    refine vq_iload_n d_D_inLowestTerms_41 rfl ?_
    refine vq_lald d_D_inLowestTerms_42 (by decide) rfl rfl (show _ < 20 by omega) ?_
    refine vq_long (y := lN s) hs ?_
    refine vq_lload_n d_D_inLowestTerms_43 rfl ?_
    refine vq_ldiv d_D_inLowestTerms_44 (lN_ne0 hg0 hg63) ?_
    rw [pk_lDiv (by omega) hg0 hg63]
    refine vq_bipush (v := 32) d_D_inLowestTerms_45 (by decide) ?_
    refine vq_lshl d_D_inLowestTerms_47 rfl ?_
    refine vq_aload_n d_D_inLowestTerms_48 rfl ?_
    refine vq_getJ (k := 4) (C := R_D) (T := T_D) d_D_inLowestTerms_49 rfl in_D w_155 (by decide) rfl (by decide) rfl ?_
    refine vq_long (y := lN d) hd ?_
    refine vq_lload_n d_D_inLowestTerms_52 rfl ?_
    refine vq_ldiv d_D_inLowestTerms_53 (lN_ne0 hg0 hg63) ?_
    rw [pk_lDiv (by omega) hg0 hg63]
    refine vq_lor d_D_inLowestTerms_54 ?_
    refine vq_lret d_D_inLowestTerms_55 rfl (by decide) (by decide) rfl rfl ?_
    exact ⟨by unfold zfr; rw [if_neg (by omega)], rfl⟩
  · rw [lposg (by omega)] at h8
    refine vq_lconst (v := 0) d_D_inLowestTerms_11 rfl ?_
    refine vq_lret d_D_inLowestTerms_12 rfl (by decide) (by decide) rfl rfl ?_
    exact ⟨by unfold zfr; rw [if_pos (by omega)], rfl⟩
end
section
/-! Gifts brought in: who stays among the children that divide; numbers alone -/
theorem lsub_toInt {a b : Nat} (ha : a < 2 ^ 62) (hb : b < 2 ^ 62) : (lN a - lN b).toInt = (a : Int) - b := by
  rw [Int64.toInt_sub, pk_lT (by omega), pk_lT (by omega)]
  exact Int.bmod_eq_of_le (by omega) (by omega)
theorem lsub_sign {a b : Nat} (ha : a < 2 ^ 62) (hb : b < 2 ^ 62) : (0 ≤ lN a - lN b) ↔ b ≤ a := by
  rw [Int64.le_iff_toInt_le, lsub_toInt ha hb, show (0 : Int64).toInt = 0 from by decide]
  omega
theorem zfst_yes {P : Nat → Bool} : ∀ {n p : Nat}, zfst P n = some p → p < n ∧ P p = true
  | 0, p, h => by cases h
  | n + 1, p, h => by
    have h9 : (match zfst P n with | some i => some i | none => if P n = true then some n else none) = some p := h
    cases hz : zfst P n with
    | some i =>
      rw [hz] at h9
      cases h9
      have := zfst_yes hz
      exact ⟨by omega, this.2⟩
    | none =>
      rw [hz] at h9
      by_cases hp : P n = true
      · simp [hp] at h9
        subst h9
        exact ⟨by omega, hp⟩
      · simp [hp] at h9
theorem zfst_no {P : Nat → Bool} : ∀ {n : Nat}, zfst P n = none → ∀ p, p < n → P p = false
  | 0, _, p, h => absurd h (Nat.not_lt_zero p)
  | n + 1, h, p, hp => by
    have h9 : (match zfst P n with | some i => some i | none => if P n = true then some n else none) = none := h
    cases hz : zfst P n with
    | some i => rw [hz] at h9; cases h9
    | none =>
      rw [hz] at h9
      by_cases hn : P n = true
      · simp [hn] at h9
      · by_cases e1 : p = n
        · subst e1; simpa using hn
        · exact zfst_no hz p (by omega)
theorem zfst_all {P : Nat → Bool} : ∀ {n : Nat}, (∀ p, p < n → P p = false) → zfst P n = none
  | 0, _ => rfl
  | n + 1, h => zfst_none (zfst_all (fun p hp => h p (by omega))) (h n (by omega))
theorem zsum_at {f f' : Nat → Nat} {p : Nat} : ∀ {n : Nat}, p < n → (∀ q, q ≠ p → f q = f' q) → zsum f n + f' p = zsum f' n + f p
  | 0, h, _ => absurd h (Nat.not_lt_zero p)
  | n + 1, h, hq => by
    show zsum f n + f n + f' p = zsum f' n + f' n + f p
    by_cases e1 : p = n
    · subst e1
      rw [zsum_congr (n := p) (fun c hc => hq c (by omega))]
      omega
    · have := zsum_at (n := n) (by omega) hq
      rw [hq n (Ne.symm e1)]
      omega
section Sf
variable {F : Fam} {e c : Nat}
def zIn0 (F : Fam) (e p : Nat) : Bool := zch F p e && zX F e p
def zam (F : Fam) (e c : Nat) (In : Nat → Bool) : Nat := c + zsum (fun p => if In p = true then 4 * zg F p e else 0) (zn F)
def zsz (F : Fam) (In : Nat → Bool) : Nat := zsum (fun p => if In p = true then 1 else 0) (zn F)
def zab (F : Fam) (e c : Nat) (In : Nat → Bool) (p : Nat) : Bool := In p && decide (zam F e c In < zsz F In * (4 * zg F p e))
def zab1 (F : Fam) (e c : Nat) (In : Nat → Bool) : Option Nat := zfst (zab F e c In) (zn F)
def zrm (In : Nat → Bool) (p : Nat) : Nat → Bool := fun q => if q = p then false else In q
def zst1 (F : Fam) (e c : Nat) (In : Nat → Bool) : Nat → Bool := match zab1 F e c In with
  | none => In
  | some p => zrm In p
def zit (F : Fam) (e c : Nat) : Nat → Nat → Bool
  | 0 => zIn0 F e
  | r + 1 => zst1 F e c (zit F e c r)
theorem zsz_le (In : Nat → Bool) : zsz F In ≤ zn F := by
  have h : zsz F In ≤ zsum (fun _ => 1) (zn F) := zsum_le (fun p _ => by split <;> omega)
  have h1 : ∀ n : Nat, zsum (fun _ => 1) n = n := by
    intro n
    induction n with
    | zero => rfl
    | succ n ih =>
      show zsum (fun _ => 1) n + 1 = n + 1
      rw [ih]
  rw [h1] at h
  exact h
theorem zam_le (hW : zW F) (In : Nat → Bool) : zam F e c In ≤ c + 80000000 := by
  have h : zsum (fun p => if In p = true then 4 * zg F p e else 0) (zn F) ≤ zsum (fun _ => 4000000 * 1) (zn F) := zsum_le (fun p _ => by
    have := hW.2.2.2.2.2.2.2 p e
    split <;> omega)
  rw [zsum_mul] at h
  have h1 : ∀ n : Nat, zsum (fun _ => 1) n = n := by
    intro n
    induction n with
    | zero => rfl
    | succ n ih =>
      show zsum (fun _ => 1) n + 1 = n + 1
      rw [ih]
  rw [h1] at h
  have := hW.1
  unfold zam
  omega
theorem zsg_le (hW : zW F) (In : Nat → Bool) (p : Nat) : zsz F In * (4 * zg F p e) ≤ 80000000 := by
  have h1 := zsz_le (F := F) In
  have h2 := hW.1
  have h3 := hW.2.2.2.2.2.2.2 p e
  have := Nat.mul_le_mul (show zsz F In ≤ 20 by omega) (show 4 * zg F p e ≤ 4000000 by omega)
  omega
theorem zrm_sz {In : Nat → Bool} {p : Nat} (hp : p < zn F) (h : In p = true) : zsz F (zrm In p) + 1 = zsz F In := by
  have h9 : zsz F (zrm In p) + (if In p = true then 1 else 0) = zsz F In + (if zrm In p p = true then 1 else 0) := zsum_at (f := fun q => if zrm In p q = true then 1 else 0) (f' := fun q => if In q = true then 1 else 0) hp (fun q hq => by simp [zrm, hq])
  rw [if_pos h, if_neg (by simp [zrm])] at h9
  exact h9
theorem zrm_am {In : Nat → Bool} {p : Nat} (hp : p < zn F) (h : In p = true) : zam F e c (zrm In p) + 4 * zg F p e = zam F e c In := by
  have h9 : zsum (fun q => if zrm In p q = true then 4 * zg F q e else 0) (zn F) + (if In p = true then 4 * zg F p e else 0) = zsum (fun q => if In q = true then 4 * zg F q e else 0) (zn F) + (if zrm In p p = true then 4 * zg F p e else 0) := zsum_at (f := fun q => if zrm In p q = true then 4 * zg F q e else 0) (f' := fun q => if In q = true then 4 * zg F q e else 0) hp (fun q hq => by simp [zrm, hq])
  rw [if_pos h, if_neg (by simp [zrm])] at h9
  unfold zam
  omega
theorem zab1_some {In : Nat → Bool} {p : Nat} (h : zab1 F e c In = some p) : p < zn F ∧ In p = true ∧ zam F e c In < zsz F In * (4 * zg F p e) := by
  have := zfst_yes h
  unfold zab at this
  simp only [Bool.and_eq_true, decide_eq_true_eq] at this
  exact ⟨this.1, this.2.1, this.2.2⟩
theorem zab1_none {In : Nat → Bool} (h : zab1 F e c In = none) {p : Nat} (hp : p < zn F) (hi : In p = true) : zsz F In * (4 * zg F p e) ≤ zam F e c In := by
  have := zfst_no h p hp
  unfold zab at this
  simp [hi] at this
  exact this
/-- the last one is never above -/
theorem zst1_pos {In : Nat → Bool} (h : 1 ≤ zsz F In) : 1 ≤ zsz F (zst1 F e c In) := by
  unfold zst1
  cases hz : zab1 F e c In with
  | none => exact h
  | some p =>
    obtain ⟨h1, h2, h3⟩ := zab1_some hz
    have h4 := zrm_sz h1 h2
    show 1 ≤ zsz F (zrm In p)
    have h5 : 4 * zg F p e ≤ zam F e c In := by
      have := zsum_one (f := fun q => if In q = true then 4 * zg F q e else 0) h1
      simp [h2] at this
      unfold zam
      omega
    by_cases h6 : zsz F In = 1
    · rw [h6] at h3; omega
    · omega
theorem zit_pos (h : 1 ≤ zsz F (zIn0 F e)) : ∀ r, 1 ≤ zsz F (zit F e c r)
  | 0 => h
  | r + 1 => zst1_pos (zit_pos h r)
theorem zit_stay {r : Nat} (h : zab1 F e c (zit F e c r) = none) : ∀ d, zit F e c (r + d) = zit F e c r
  | 0 => rfl
  | d + 1 => by
    show zst1 F e c (zit F e c (r + d)) = _
    rw [zit_stay h d]
    unfold zst1
    rw [h]
theorem zit_sub : ∀ (r p : Nat), zit F e c r p = true → zIn0 F e p = true
  | 0, p, h => h
  | r + 1, p, h => by
    have h9 : zst1 F e c (zit F e c r) p = true := h
    unfold zst1 at h9
    cases hz : zab1 F e c (zit F e c r) with
    | none => rw [hz] at h9; exact zit_sub r p h9
    | some q =>
      rw [hz] at h9
      by_cases e1 : p = q
      · simp [zrm, e1] at h9
      · simp [zrm, e1] at h9
        exact zit_sub r p h9
theorem zit_fall : ∀ r, zab1 F e c (zit F e c r) ≠ none → zsz F (zit F e c r) + r ≤ zsz F (zIn0 F e)
  | 0, _ => Nat.le_refl _
  | r + 1, h => by
    have h1 : zab1 F e c (zit F e c r) ≠ none := by
      intro h2
      apply h
      have := zit_stay h2 1
      rw [this]; exact h2
    have h3 := zit_fall r h1
    obtain ⟨p, hp⟩ := Option.ne_none_iff_exists'.mp h1
    obtain ⟨q1, q2, -⟩ := zab1_some hp
    have h4 := zrm_sz q1 q2
    have h5 : zit F e c (r + 1) = zrm (zit F e c r) p := by
      show zst1 F e c (zit F e c r) = _
      unfold zst1
      rw [hp]
    rw [h5]
    omega
theorem zit_end (hn : zn F ≤ 20) : zab1 F e c (zit F e c 20) = none := by
  cases hz : zab1 F e c (zit F e c 20) with
  | none => rfl
  | some p =>
    exfalso
    have h1 := zit_fall 20 (by rw [hz]; exact fun h => by cases h)
    have h2 := zsz_le (F := F) (zIn0 F e)
    obtain ⟨q1, q2, -⟩ := zab1_some hz
    have h3 := zrm_sz q1 q2
    omega
end Sf
end
section
/-! SuccessionClerk$Hotchpot. Laid by wip/whole/specs/p30.py -/
/-- the hotchpot holds the children In, of those with which it began -/
def HS (g : Sg) (F : Fam) (e c : Nat) (In : Nat → Bool) : Prop := (∀ p, p < zn F → g.1 39 p = bI (In p)) ∧ g.1 38 3 = nI (zsz F In) ∧ g.2 38 4 = lN (zam F e c In) ∧ (∀ p, p < zn F → zIn0 F e p = true → g.2 40 p = lN (4 * zg F p e)) ∧ (∀ p, In p = true → zIn0 F e p = true)
theorem HS.congr {g g' : Sg} {F : Fam} {e c : Nat} {In : Nat → Bool} (h : HS g F e c In) (h1 : g'.1 38 = g.1 38) (h2 : g'.1 39 = g.1 39) (h3 : g'.2 38 = g.2 38) (h4 : g'.2 40 = g.2 40) : HS g' F e c In := by
  obtain ⟨a1, a2, a3, a4, a5⟩ := h
  exact ⟨fun p hp => by rw [h2]; exact a1 p hp, by rw [h1]; exact a2, by rw [h3]; exact a3, fun p hp hi => by rw [h4]; exact a4 p hp hi, a5⟩
def m_H_partTimesSize : Mt := (y_H_partTimesSize, c_H_partTimesSize, 2, { frames := 8, cells := 0, slots := 0, locals := 130 }, (some .long), none)
def m_H_findOneAbove : Mt := (y_H_findOneAbove, c_H_findOneAbove, 2, { frames := 9, cells := 0, slots := 0, locals := 175 }, (some .int), none)
def m_H_releaseThoseAbove : Mt := (y_H_releaseThoseAbove, c_H_releaseThoseAbove, 3, { frames := 10, cells := 0, slots := 0, locals := 220 }, none, none)
def m_H_gather : Mt := (y_H_gather, c_H_gather, 4, { frames := 9, cells := 0, slots := 0, locals := 175 }, none, none)
set_option maxRecDepth 100000 in
set_option maxHeartbeats 4000000 in
theorem ct_H_partTimesSize (l : Launch) (b : Nat) (id : Nat → ClassId) (D : va_G) {g : Sg} {F : Fam} (hW : zW F) (hc : Hc g F) {e c : Nat} {In : Nat → Bool} (hc40 : c < 2 ^ 40) (hs : HS g F e c In) {p : Nat} (hp : p < zn F) (hi : In p = true) : qCT l b id D m_H_partTimesSize false [.ref (b + 38), .int (nI p)] 85 kT g 85 kT (fun v' g' => v' = some (.long (lN (zam F e c In) - lN (zsz F In * (4 * zg F p e)))) ∧ g' = g) (fun _ _ => False) := by
  have hn := hW.1
  refine qCT_of rfl (by decide) (Nat.le_of_ble_eq_true rfl) ?_
  show Vq l b id D m_H_partTimesSize false 85 kT _ 85 kT _ 85 kT 0 0 0 [(0, .ref (b + 38)), (1, .int (nI p))] [] g
  refine vq_aload_n d_H_partTimesSize_0 rfl ?_
  refine vq_getJ (k := 4) (C := R_H) (T := T_H) d_H_partTimesSize_1 rfl in_H w_134 (by decide) rfl (by decide) rfl ?_
  refine vq_long (y := lN (zam F e c In)) hs.2.2.1 ?_
  refine vq_aload_n d_H_partTimesSize_4 rfl ?_
  refine vq_getI (k := 3) (C := R_H) (T := T_H) d_H_partTimesSize_5 rfl in_H w_132 (by decide) rfl (by decide) rfl ?_
  refine vq_int (y := nI (zsz F In)) hs.2.1 ?_
  refine vq_i2l d_H_partTimesSize_8 (nI_l (by have := zsz_le (F := F) In; omega)) ?_
  refine vq_aload_n d_H_partTimesSize_9 rfl ?_
  refine vq_getR (k := 5) (C := R_H) (T := T_H) d_H_partTimesSize_10 rfl in_H w_135 (by decide) rfl (by decide) rfl rfl ?_
  refine vq_iload_n d_H_partTimesSize_13 rfl ?_
  refine vq_lald d_H_partTimesSize_14 (by decide) rfl rfl (show _ < 20 by omega) ?_
  refine vq_long (y := lN (4 * zg F p e)) (hs.2.2.2.1 p hp (hs.2.2.2.2 p hi)) ?_
  refine vq_lmul d_H_partTimesSize_15 ?_
  rw [lN_mul]
  refine vq_lsub d_H_partTimesSize_16 ?_
  refine vq_lret d_H_partTimesSize_17 rfl (by decide) (by decide) rfl rfl ?_
  exact ⟨rfl, rfl⟩
set_option maxRecDepth 100000 in
set_option maxHeartbeats 4000000 in
theorem ct_H_findOneAbove (l : Launch) (b : Nat) (id : Nat → ClassId) (D : va_G) {g : Sg} {F : Fam} (hW : zW F) (hc : Hc g F) {e c : Nat} {In : Nat → Bool} (hc40 : c < 2 ^ 40) (hs : HS g F e c In) : qCT l b id D m_H_findOneAbove false [.ref (b + 38)] 85 kT g 85 kT (fun v' g' => v' = some (.int (eO (zab1 F e c In))) ∧ g' = g) (fun _ _ => False) := by
  have hn := hW.1
  refine qCT_of rfl (by decide) (Nat.le_of_ble_eq_true rfl) ?_
  show Vq l b id D m_H_findOneAbove false 85 kT _ 85 kT _ 85 kT 0 0 0 [(0, .ref (b + 38))] [] g
  have loop : ∀ (n9 : Nat) (i : Nat), zn F - i = n9 → (i ≤ zn F ∧ zfst (zab F e c In) i = none) → Vq l b id D m_H_findOneAbove false 85 kT (fun v' g' => v' = some (.int (eO (zab1 F e c In))) ∧ g' = g) 85 kT (fun _ _ => False) 85 kT 0 0 2 [(1, .int (nI i)), (0, .ref (b + 38))] [] g := by
    intro n9
    induction n9 using Nat.strongRecOn with
    | ind n9 ih =>
    intro i hm hI
    have hle := hI.1
    refine vq_iload_n d_H_findOneAbove_2 rfl ?_
    refine vq_aload_n d_H_findOneAbove_3 rfl ?_
    refine vq_getR (k := 0) (C := R_H) (T := T_H) d_H_findOneAbove_4 rfl in_H w_128 (by decide) rfl (by decide) rfl rfl ?_
    refine vq_getI (k := 0) (C := R_F) (T := T_F) d_H_findOneAbove_7 rfl in_F w_34 (by decide) rfl (by decide) rfl ?_
    refine vq_int (y := nI (zn F)) hc.1 ?_
    refine vq_icmp_ge (tgt := 40) d_H_findOneAbove_10 (by decide) (fun h10 => ?_) (fun h10 => ?_)
    · have hi : i = zn F := by
        rw [nI_leI (by omega) (by omega)] at h10
        omega
      subst hi
      refine vq_iconst (v := -1) d_H_findOneAbove_40 (by decide) ?_
      refine vq_iret d_H_findOneAbove_41 rfl (by decide) (by decide) rfl rfl ?_
      exact ⟨by unfold zab1; rw [hI.2]; rfl, rfl⟩
    · have hi : i < zn F := by
        rw [nI_leI (by omega) (by omega)] at h10
        omega
      have hA := zam_le (e := e) (c := c) hW In
      have hG := zsg_le (e := e) hW In i
      have s34 : zab F e c In i = false → Vq l b id D m_H_findOneAbove false 85 kT (fun v' g' => v' = some (.int (eO (zab1 F e c In))) ∧ g' = g) 85 kT (fun _ _ => False) 85 kT 0 0 34 [(1, .int (nI i)), (0, .ref (b + 38))] [] g := by
        intro hno
        refine vq_iinc (k := 0) (lv' := [(1, _), (0, _)]) d_H_findOneAbove_34 rfl (ip1 i) (by decide) rfl ?_
        refine vq_goto (tgt := 2) d_H_findOneAbove_37 (by decide) ?_
        exact ih (zn F - (i + 1)) (by omega) (i + 1) rfl ⟨by omega, zfst_none hI.2 hno⟩
      refine vq_aload_n d_H_findOneAbove_13 rfl ?_
      refine vq_getR (k := 2) (C := R_H) (T := T_H) d_H_findOneAbove_14 rfl in_H w_130 (by decide) rfl (by decide) rfl rfl ?_
      refine vq_iload_n d_H_findOneAbove_17 rfl ?_
      refine vq_zald d_H_findOneAbove_18 (by decide) rfl rfl (show _ < 20 by omega) ?_
      refine vq_int (y := bI (In i)) (hs.1 i hi) ?_
      refine vq_if_eq (tgt := 34) d_H_findOneAbove_19 (by decide) (fun h19 => ?_) (fun h19 => ?_)
      · have hz : zab F e c In i = false := by unfold zab; rw [bI_0.mp h19]; rfl
        exact s34 hz
      · have hin := bI_n0.mp h19
        refine vq_aload_n d_H_findOneAbove_22 rfl ?_
        refine vq_iload_n d_H_findOneAbove_23 rfl ?_
        refine vq_callV (n := 1) (C := R_H) (T := T_H) _ _ d_H_findOneAbove_24 (ct_H_partTimesSize l b id D hW hc hc40 hs hi hin) w_316 w_317 w_318 w_319 w_5 rfl ⟨by decide, by decide, by decide +kernel⟩ ⟨by decide, by decide⟩ (by decide) rfl rfl rfl rfl (Nat.le_of_ble_eq_true rfl) rfl rfl rfl ⟨by decide, by decide⟩ (fun _ _ h => h.elim) (fun v24 g24 h24 => ?_)
        rw [h24.1, h24.2]
        refine vq_lconst (v := 0) d_H_findOneAbove_27 rfl ?_
        refine vq_lcmp d_H_findOneAbove_28 ?_
        refine vq_if_ge (tgt := 34) d_H_findOneAbove_29 (by decide) (fun h29 => ?_) (fun h29 => ?_)
        · rw [lg_cmp_ge, lsub_sign (by omega) (by omega)] at h29
          have hz : zab F e c In i = false := by unfold zab; rw [hin]; simp; omega
          exact s34 hz
        · rw [lg_cmp_ge, lsub_sign (by omega) (by omega)] at h29
          have hz : zab F e c In i = true := by unfold zab; rw [hin]; simp; omega
          refine vq_iload_n d_H_findOneAbove_32 rfl ?_
          refine vq_iret d_H_findOneAbove_33 rfl (by decide) (by decide) rfl rfl ?_
          refine ⟨?_, rfl⟩
          have h9 := zfst_on (zfst_some hI.2 hz) (zn F - (i + 1))
          rw [show i + 1 + (zn F - (i + 1)) = zn F by omega] at h9
          unfold zab1
          rw [h9]; rfl
  refine vq_iconst (v := 0) d_H_findOneAbove_0 (by decide) ?_
  refine vq_istore_n (lv' := [(1, _), (0, _)]) d_H_findOneAbove_1 (by decide) rfl ?_
  exact loop (zn F) 0 rfl ⟨by omega, rfl⟩
set_option maxRecDepth 100000 in
set_option maxHeartbeats 4000000 in
theorem ct_H_releaseThoseAbove (l : Launch) (b : Nat) (id : Nat → ClassId) (D : va_G) {g : Sg} {F : Fam} (hW : zW F) (hc : Hc g F) {e c : Nat} (hc40 : c < 2 ^ 40) (hs : HS g F e c (zIn0 F e)) : qCT l b id D m_H_releaseThoseAbove false [.ref (b + 38)] 85 kT g 85 kT (fun v' g' => v' = none ∧ (∀ q, q ≠ 38 → q ≠ 39 → g'.1 q = g.1 q) ∧ (∀ k, k ≠ 3 → g'.1 38 k = g.1 38 k) ∧ (∀ q, q ≠ 38 → g'.2 q = g.2 q) ∧ HS g' F e c (zit F e c 20)) (fun _ _ => False) := by
  have hn := hW.1
  refine qCT_of rfl (by decide) (Nat.le_of_ble_eq_true rfl) ?_
  show Vq l b id D m_H_releaseThoseAbove false 85 kT _ 85 kT _ 85 kT 0 0 0 [(0, .ref (b + 38))] [] g
  have loop : ∀ (n9 : Nat) (r : Nat) (g1 : Sg), 20 - r = n9 → (r ≤ 20 ∧ (∀ q, q ≠ 38 → q ≠ 39 → g1.1 q = g.1 q) ∧ (∀ k, k ≠ 3 → g1.1 38 k = g.1 38 k) ∧ (∀ q, q ≠ 38 → g1.2 q = g.2 q) ∧ HS g1 F e c (zit F e c r)) → Vq l b id D m_H_releaseThoseAbove false 85 kT (fun v' g' => v' = none ∧ (∀ q, q ≠ 38 → q ≠ 39 → g'.1 q = g.1 q) ∧ (∀ k, k ≠ 3 → g'.1 38 k = g.1 38 k) ∧ (∀ q, q ≠ 38 → g'.2 q = g.2 q) ∧ HS g' F e c (zit F e c 20)) 85 kT (fun _ _ => False) 85 kT 0 0 2 [(1, .int (nI r)), (0, .ref (b + 38))] [] g1 := by
    intro n9
    induction n9 using Nat.strongRecOn with
    | ind n9 ih =>
    intro r g1 hm hI
    have hr1 := hI.1
    refine vq_iload_n d_H_releaseThoseAbove_2 rfl ?_
    refine vq_bipush (v := 20) d_H_releaseThoseAbove_3 (by decide) ?_
    refine vq_icmp_ge (tgt := 57) d_H_releaseThoseAbove_5 (by decide) (fun h5 => ?_) (fun h5 => ?_)
    · have hr : r = 20 := by
        rw [show (20 : Int32) = nI 20 from rfl, nI_leI (by decide) (by omega)] at h5
        omega
      subst hr
      refine vq_vret d_H_releaseThoseAbove_57 rfl (by decide) (by decide) rfl rfl ?_
      exact ⟨rfl, hI.2.1, hI.2.2.1, hI.2.2.2.1, hI.2.2.2.2⟩
    · have hr : r < 20 := by
        rw [show (20 : Int32) = nI 20 from rfl, nI_leI (by decide) (by omega)] at h5
        omega
      have hc1 : Hc g1 F := hc.congr (fun q a d => hI.2.1 q (by omega) (by omega))
      refine vq_aload_n d_H_releaseThoseAbove_8 rfl ?_
      refine vq_callV (n := 0) (C := R_H) (T := T_H) _ _ d_H_releaseThoseAbove_9 (ct_H_findOneAbove l b id D hW hc1 hc40 hI.2.2.2.2) w_312 w_314 sel_H_findOneAbove w_315 w_5 rfl ⟨by decide, by decide, by decide +kernel⟩ ⟨by decide, by decide⟩ (by decide) rfl rfl rfl rfl (Nat.le_of_ble_eq_true rfl) rfl rfl rfl ⟨by decide, by decide⟩ (fun _ _ h => h.elim) (fun v9 g9 h9 => ?_)
      rw [h9.1, h9.2]
      refine vq_istore_n (lv' := [(2, _), (1, _), (0, _)]) d_H_releaseThoseAbove_12 (by decide) rfl ?_
      refine vq_iload_n d_H_releaseThoseAbove_13 rfl ?_
      refine vq_iconst (v := -1) d_H_releaseThoseAbove_14 (by decide) ?_
      refine vq_icmp_ne (tgt := 19) d_H_releaseThoseAbove_15 (by decide) (fun h15 => ?_) (fun h15 => ?_)
      · rw [eO_m1 (fun j hj => by have := (zab1_some hj).1; omega)] at h15
        obtain ⟨j, hj⟩ := Option.ne_none_iff_exists'.mp h15
        obtain ⟨hjn, hjI, -⟩ := zab1_some hj
        have hrs := zrm_sz hjn hjI
        have hra := zrm_am (e := e) (c := c) hjn hjI
        have hst : zit F e c (r + 1) = zrm (zit F e c r) j := by
          show zst1 F e c (zit F e c r) = _
          unfold zst1
          rw [hj]
        refine vq_aload_n d_H_releaseThoseAbove_19 rfl ?_
        refine vq_getR (k := 2) (C := R_H) (T := T_H) d_H_releaseThoseAbove_20 rfl in_H w_130 (by decide) rfl (by decide) rfl rfl ?_
        refine vq_iload_n d_H_releaseThoseAbove_23 rfl ?_
        refine vq_iconst (v := 0) d_H_releaseThoseAbove_24 (by decide) ?_
        refine vq_zast d_H_releaseThoseAbove_25 rfl (by decide) rfl (show _ = nI j by rw [hj]; rfl) (show _ < 20 by omega) (by first | exact Or.inl rfl | exact Or.inr rfl | assumption) ?_
        refine vq_aload_n d_H_releaseThoseAbove_26 rfl ?_
        refine vq_dup d_H_releaseThoseAbove_27 rfl ?_
        refine vq_getJ (k := 4) (C := R_H) (T := T_H) d_H_releaseThoseAbove_28 rfl in_H w_134 (by decide) rfl (by decide) rfl ?_
        refine vq_long (y := lN (zam F e c (zit F e c r))) hI.2.2.2.2.2.2.1 ?_
        refine vq_aload_n d_H_releaseThoseAbove_31 rfl ?_
        refine vq_getR (k := 5) (C := R_H) (T := T_H) d_H_releaseThoseAbove_32 rfl in_H w_135 (by decide) rfl (by decide) rfl rfl ?_
        refine vq_iload_n d_H_releaseThoseAbove_35 rfl ?_
        refine vq_lald d_H_releaseThoseAbove_36 (by decide) rfl (show _ = nI j by rw [hj]; rfl) (show _ < 20 by omega) ?_
        refine vq_long (y := lN (4 * zg F j e)) (hI.2.2.2.2.2.2.2.1 j hjn (zit_sub r j hjI)) ?_
        refine vq_lsub d_H_releaseThoseAbove_37 ?_
        refine vq_long (show _ = lN (zam F e c (zrm (zit F e c r) j)) by rw [lN_sub (by omega)]; congr 1; omega) ?_
        refine vq_putJ (k := 4) (C := R_H) (T := T_H) t_H d_H_releaseThoseAbove_38 rfl in_H w_134 ty_H nm_H (by decide) rfl (by decide) rfl (by decide +kernel) rfl ?_
        refine vq_aload_n d_H_releaseThoseAbove_41 rfl ?_
        refine vq_dup d_H_releaseThoseAbove_42 rfl ?_
        refine vq_getI (k := 3) (C := R_H) (T := T_H) d_H_releaseThoseAbove_43 rfl in_H w_132 (by decide) rfl (by decide) rfl ?_
        refine vq_int (y := nI (zsz F (zit F e c r))) (hI.2.2.2.2.2.1) ?_
        refine vq_iconst (v := 1) d_H_releaseThoseAbove_46 (by decide) ?_
        refine vq_isub d_H_releaseThoseAbove_47 ?_
        refine vq_int (show _ = nI (zsz F (zrm (zit F e c r) j)) by rw [← hrs]; exact nI_pred _) ?_
        refine vq_putI (k := 3) (C := R_H) (T := T_H) (ty := .int) t_H d_H_releaseThoseAbove_48 rfl in_H w_132 ty_H nm_H (by decide) rfl (by decide) rfl (by decide +kernel) rfl rfl rfl ?_
        refine vq_iinc (k := 1) (lv' := [(1, _), (2, _), (0, _)]) d_H_releaseThoseAbove_51 rfl (ip1 r) (by decide) rfl ?_
        refine vq_goto (tgt := 2) d_H_releaseThoseAbove_54 (by decide) ?_
        refine vq_pk [0, 2] (lv' := [(1, _), (0, _)]) rfl ?_
        refine ih (20 - (r + 1)) (by omega) (r + 1) _ rfl ⟨by omega, fun q a d => ?_, fun k a => ?_, fun q a => ?_, ?_⟩
        · rw [sI_n a, sJ_1, sI_n d]; exact hI.2.1 q a d
        · rw [sI_s, upd, if_neg a]; exact hI.2.2.1 k a
        · rw [sI_2, sJ_n a]; exact hI.2.2.2.1 q a
        · rw [hst]
          refine ⟨fun p hp => ?_, ?_, ?_, fun p hp hi => ?_, fun p hp => ?_⟩
          · rw [sI_n (by decide), sJ_1, sI_s, upd, zrm]
            by_cases e1 : p = j
            · simp [e1, bI]
            · simp only [e1, if_false]; exact hI.2.2.2.2.1 p hp
          · rw [sI_s, upd, if_pos rfl]
          · rw [sI_2, sJ_s, vp_updL, if_pos rfl]
          · rw [sI_2, sJ_n (by decide)]; exact hI.2.2.2.2.2.2.2.1 p hp hi
          · by_cases e1 : p = j
            · simp [zrm, e1] at hp
            · simp [zrm, e1] at hp; exact zit_sub r p hp
      · rw [eO_m1 (fun j hj => by have := (zab1_some hj).1; omega)] at h15
        refine vq_vret d_H_releaseThoseAbove_18 rfl (by decide) (by decide) rfl rfl ?_
        have h20 := zit_stay h15 (20 - r)
        rw [show r + (20 - r) = 20 by omega] at h20
        exact ⟨rfl, hI.2.1, hI.2.2.1, hI.2.2.2.1, by rw [h20]; exact hI.2.2.2.2⟩
  refine vq_iconst (v := 0) d_H_releaseThoseAbove_0 (by decide) ?_
  refine vq_istore_n (lv' := [(1, _), (0, _)]) d_H_releaseThoseAbove_1 (by decide) rfl ?_
  exact loop 20 0 _ rfl ⟨by omega, fun q a d => rfl, fun k a => rfl, fun q a => rfl, hs⟩
end
section
/-! Hotchpot.gather, Division.divideWithGifts. Laid by wip/whole/specs/p31.py -/
def zszk (In : Nat → Bool) (k : Nat) : Nat := zsum (fun p => if In p = true then 1 else 0) k
def zamk (F : Fam) (e c : Nat) (In : Nat → Bool) (k : Nat) : Nat := c + zsum (fun p => if In p = true then 4 * zg F p e else 0) k
theorem zszk_le (In : Nat → Bool) : ∀ k, zszk In k ≤ k
  | 0 => Nat.le_refl _
  | k + 1 => by
    have := zszk_le In k
    show zszk In k + (if In k = true then 1 else 0) ≤ k + 1
    split <;> omega
def IGa (g : Sg) (F : Fam) (e c i : Nat) (g1 : Sg) : Prop := i ≤ zn F ∧ (∀ q, q ≠ 38 → q ≠ 39 → g1.1 q = g.1 q) ∧ (∀ k, k ≠ 3 → g1.1 38 k = g.1 38 k) ∧ (∀ q, q ≠ 38 → q ≠ 40 → g1.2 q = g.2 q) ∧ (∀ p, p < i → g1.1 39 p = bI (zIn0 F e p)) ∧ g1.1 38 3 = nI (zszk (zIn0 F e) i) ∧ g1.2 38 4 = lN (zamk F e c (zIn0 F e) i) ∧ (∀ p, p < i → zIn0 F e p = true → g1.2 40 p = lN (4 * zg F p e))
set_option maxRecDepth 100000 in
set_option maxHeartbeats 4000000 in
theorem ct_H_gather (l : Launch) (b : Nat) (id : Nat → ClassId) (D : va_G) {g : Sg} {F : Fam} (hW : zW F) (hc : Hc g F) {e : Nat} (he : e < zn F) (hk : LK g F e) (c : Nat) : qCT l b id D m_H_gather false [.ref (b + 38), .long (lN c)] 85 kT g 85 kT (fun v' g' => v' = none ∧ (∀ q, q ≠ 38 → q ≠ 39 → g'.1 q = g.1 q) ∧ (∀ k, k ≠ 3 → g'.1 38 k = g.1 38 k) ∧ (∀ q, q ≠ 38 → q ≠ 40 → g'.2 q = g.2 q) ∧ HS g' F e c (zIn0 F e)) (fun _ _ => False) := by
  have hn := hW.1
  refine qCT_of rfl (by decide) (Nat.le_of_ble_eq_true rfl) ?_
  show Vq l b id D m_H_gather false 85 kT _ 85 kT _ 85 kT 0 0 0 [(0, .ref (b + 38)), (1, .long (lN c))] [] g
  have loop : ∀ (n9 : Nat) (i : Nat) (g1 : Sg), zn F - i = n9 → IGa g F e c i g1 → Vq l b id D m_H_gather false 85 kT (fun v' g' => v' = none ∧ (∀ q, q ≠ 38 → q ≠ 39 → g'.1 q = g.1 q) ∧ (∀ k, k ≠ 3 → g'.1 38 k = g.1 38 k) ∧ (∀ q, q ≠ 38 → q ≠ 40 → g'.2 q = g.2 q) ∧ HS g' F e c (zIn0 F e)) 85 kT (fun _ _ => False) 85 kT 0 0 12 [(3, .int (nI i)), (0, .ref (b + 38)), (1, .long (lN c))] [] g1 := by
    intro n9
    induction n9 using Nat.strongRecOn with
    | ind n9 ih =>
    intro i g1 hm hI
    have hle := hI.1
    have hc1 : Hc g1 F := hc.congr (fun q a d => hI.2.1 q (by omega) (by omega))
    have hk1 : LK g1 F e := hk.congr (fun q a d => hI.2.1 q (by omega) (by omega))
    refine vq_iload_n d_H_gather_12 rfl ?_
    refine vq_aload_n d_H_gather_13 rfl ?_
    refine vq_getR (k := 0) (C := R_H) (T := T_H) d_H_gather_14 rfl in_H w_128 (by decide) rfl (by decide) rfl rfl ?_
    refine vq_getI (k := 0) (C := R_F) (T := T_F) d_H_gather_17 rfl in_F w_34 (by decide) rfl (by decide) rfl ?_
    refine vq_int (y := nI (zn F)) hc1.1 ?_
    refine vq_icmp_ge (tgt := 132) d_H_gather_20 (by decide) (fun h20 => ?_) (fun h20 => ?_)
    · have hi : i = zn F := by
        rw [nI_leI (by omega) (by omega)] at h20
        omega
      subst hi
      refine vq_vret d_H_gather_132 rfl (by decide) (by decide) rfl rfl ?_
      exact ⟨rfl, hI.2.1, hI.2.2.1, hI.2.2.2.1, fun p hp => hI.2.2.2.2.1 p hp, hI.2.2.2.2.2.1, hI.2.2.2.2.2.2.1, fun p hp hq => hI.2.2.2.2.2.2.2 p hp hq, fun p hp => hp⟩
    · have hi : i < zn F := by
        rw [nI_leI (by omega) (by omega)] at h20
        omega
      have s126 : ∀ (g2 : Sg), IGa g F e c (i + 1) g2 → Vq l b id D m_H_gather false 85 kT (fun v' g' => v' = none ∧ (∀ q, q ≠ 38 → q ≠ 39 → g'.1 q = g.1 q) ∧ (∀ k, k ≠ 3 → g'.1 38 k = g.1 38 k) ∧ (∀ q, q ≠ 38 → q ≠ 40 → g'.2 q = g.2 q) ∧ HS g' F e c (zIn0 F e)) 85 kT (fun _ _ => False) 85 kT 0 0 126 [(3, .int (nI i)), (0, .ref (b + 38)), (1, .long (lN c))] [] g2 := by
        intro g2 hI2
        refine vq_iinc (k := 0) (lv' := [(3, _), (0, _), (1, _)]) d_H_gather_126 rfl (ip1 i) (by decide) rfl ?_
        refine vq_goto (tgt := 12) d_H_gather_129 (by decide) ?_
        exact ih (zn F - (i + 1)) (by omega) (i + 1) _ rfl hI2
      have s64 : Vq l b id D m_H_gather false 85 kT (fun v' g' => v' = none ∧ (∀ q, q ≠ 38 → q ≠ 39 → g'.1 q = g.1 q) ∧ (∀ k, k ≠ 3 → g'.1 38 k = g.1 38 k) ∧ (∀ q, q ≠ 38 → q ≠ 40 → g'.2 q = g.2 q) ∧ HS g' F e c (zIn0 F e)) 85 kT (fun _ _ => False) 85 kT 0 0 64 [(3, .int (nI i)), (0, .ref (b + 38)), (1, .long (lN c))] [] (sI g1 39 (upd (g1.1 39) i (bI (zIn0 F e i)))) := by
        refine vq_aload_n d_H_gather_64 rfl ?_
        refine vq_getR (k := 2) (C := R_H) (T := T_H) d_H_gather_65 rfl in_H w_130 (by decide) rfl (by decide) rfl rfl ?_
        refine vq_iload_n d_H_gather_68 rfl ?_
        refine vq_zald d_H_gather_69 (by decide) rfl rfl (show _ < 20 by omega) ?_
        refine vq_int (show _ = bI (zIn0 F e i) by rw [sI_s, upd, if_pos rfl]) ?_
        refine vq_if_eq (tgt := 126) d_H_gather_70 (by decide) (fun h70 => ?_) (fun h70 => ?_)
        · have hz := bI_0.mp h70
          first
            | (refine s126 _ ⟨by omega, fun q a d => by simp [sI, a, d]; exact hI.2.1 q a d, fun k a => by simp [sI]; exact hI.2.2.1 k a, hI.2.2.2.1, fun p hp => ?_, ?_, ?_, fun p hp hq => ?_⟩
               · by_cases e1 : p = i
                 · rw [e1, sI_s, upd, if_pos rfl]
                 · rw [sI_s, upd, if_neg e1]; exact hI.2.2.2.2.1 p (by omega)
               · rw [sI_n (by decide), hI.2.2.2.2.2.1]; show _ = nI (zszk (zIn0 F e) i + (if zIn0 F e i = true then 1 else 0)); rw [if_neg (by rw [hz]; simp)]; rfl
               · rw [sI_2, hI.2.2.2.2.2.2.1]; show _ = lN (c + (zsum (fun p => if zIn0 F e p = true then 4 * zg F p e else 0) i + (if zIn0 F e i = true then 4 * zg F i e else 0))); rw [if_neg (by rw [hz]; simp)]; rfl
               · by_cases e1 : p = i
                 · rw [e1, hz] at hq; cases hq
                 · exact hI.2.2.2.2.2.2.2 p (by omega) hq)
            | (refine s126 _ ⟨by omega, fun q a d => by rw [sI_n a, sJ_1, sJ_1, sI_n d]; exact hI.2.1 q a d, fun k a => by rw [sI_s, upd, if_neg a]; exact hI.2.2.1 k a, fun q a d => by rw [sI_2, sJ_n a, sJ_n d]; exact hI.2.2.2.1 q a d, fun p hp => ?_, ?_, ?_, fun p hp hq => ?_⟩
               · rw [sI_n (by decide), sJ_1, sJ_1]
                 by_cases e1 : p = i
                 · rw [e1, sI_s, upd, if_pos rfl]
                 · rw [sI_s, upd, if_neg e1]; exact hI.2.2.2.2.1 p (by omega)
               · rw [sI_s, upd, if_pos rfl]; show _ = nI (zszk (zIn0 F e) i + (if zIn0 F e i = true then 1 else 0)); rw [if_pos hz]
               · rw [sI_2, sJ_s, vp_updL, if_pos rfl]; show _ = lN (c + (zsum (fun p => if zIn0 F e p = true then 4 * zg F p e else 0) i + (if zIn0 F e i = true then 4 * zg F i e else 0))); rw [if_pos hz]; unfold zamk; rw [Nat.add_assoc]
               · rw [sI_2, sJ_n (by decide), sJ_s, vp_updL]
                 by_cases e1 : p = i
                 · rw [if_pos e1, e1]
                 · rw [if_neg e1]; exact hI.2.2.2.2.2.2.2 p (by omega) hq)
        · have hz := bI_n0.mp h70
          refine vq_aload_n d_H_gather_73 rfl ?_
          refine vq_getR (k := 5) (C := R_H) (T := T_H) d_H_gather_74 rfl in_H w_135 (by decide) rfl (by decide) rfl rfl ?_
          refine vq_iload_n d_H_gather_77 rfl ?_
          refine vq_ldc2 d_H_gather_78 w_307 ?_
          refine vq_aload_n d_H_gather_81 rfl ?_
          refine vq_getR (k := 0) (C := R_H) (T := T_H) d_H_gather_82 rfl in_H w_128 (by decide) rfl (by decide) rfl rfl ?_
          refine vq_getR (k := 6) (C := R_F) (T := T_F) d_H_gather_85 rfl in_F w_55 (by decide) rfl (by decide) rfl rfl ?_
          refine vq_iload_n d_H_gather_88 rfl ?_
          refine vq_aald4 d_H_gather_89 (by decide) rfl rfl (show _ < 20 by omega) ?_
          refine vq_aload_n d_H_gather_90 rfl ?_
          refine vq_getR (k := 1) (C := R_H) (T := T_H) d_H_gather_91 rfl in_H w_129 (by decide) rfl (by decide) rfl rfl ?_
          refine vq_getI (k := 1) (C := R_V) (T := T_V) d_H_gather_94 rfl in_V w_84 (by decide) rfl (by decide) rfl ?_
          refine vq_int (y := nI e) hk1.1 ?_
          refine vq_iald d_H_gather_97 (show 8 + _ < 85 by omega) (qK_gi _ (by omega)) rfl (Nat.lt_of_lt_of_eq (show _ < 20 by omega) (qL_gi _ (by omega)).symm) ?_
          refine vq_int (y := nI (zg F i e)) (by rw [sI_n (show qC 7 + i ≠ 39 from (show 8 + i ≠ 39 by omega))]; exact hc1.2.2.2.2.2.2.1 i e (by omega) (by omega)) ?_
          refine vq_i2l d_H_gather_98 (nI_l (by have := hW.2.2.2.2.2.2.2 i e; omega)) ?_
          refine vq_lmul d_H_gather_99 ?_
          rw [show (4 : Int64) = lN 4 from rfl, lN_mul]
          refine vq_last d_H_gather_100 rfl (by decide) rfl rfl (show _ < 20 by omega) ?_
          refine vq_aload_n d_H_gather_101 rfl ?_
          refine vq_dup d_H_gather_102 rfl ?_
          refine vq_getJ (k := 4) (C := R_H) (T := T_H) d_H_gather_103 rfl in_H w_134 (by decide) rfl (by decide) rfl ?_
          refine vq_long (y := lN (zamk F e c (zIn0 F e) i)) hI.2.2.2.2.2.2.1 ?_
          refine vq_aload_n d_H_gather_106 rfl ?_
          refine vq_getR (k := 5) (C := R_H) (T := T_H) d_H_gather_107 rfl in_H w_135 (by decide) rfl (by decide) rfl rfl ?_
          refine vq_iload_n d_H_gather_110 rfl ?_
          refine vq_lald d_H_gather_111 (by decide) rfl rfl (show _ < 20 by omega) ?_
          refine vq_long (show _ = lN (4 * zg F i e) by rw [sJ_s, vp_updL, if_pos rfl]) ?_
          refine vq_ladd d_H_gather_112 ?_
          rw [lN_add]
          refine vq_putJ (k := 4) (C := R_H) (T := T_H) t_H d_H_gather_113 rfl in_H w_134 ty_H nm_H (by decide) rfl (by decide) rfl (by decide +kernel) rfl ?_
          refine vq_aload_n d_H_gather_116 rfl ?_
          refine vq_dup d_H_gather_117 rfl ?_
          refine vq_getI (k := 3) (C := R_H) (T := T_H) d_H_gather_118 rfl in_H w_132 (by decide) rfl (by decide) rfl ?_
          refine vq_int (y := nI (zszk (zIn0 F e) i)) hI.2.2.2.2.2.1 ?_
          refine vq_iconst (v := 1) d_H_gather_121 (by decide) ?_
          refine vq_iadd d_H_gather_122 ?_
          rw [nI_1]
          refine vq_putI (k := 3) (C := R_H) (T := T_H) (ty := .int) t_H d_H_gather_123 rfl in_H w_132 ty_H nm_H (by decide) rfl (by decide) rfl (by decide +kernel) rfl rfl rfl ?_
          first
            | (refine s126 _ ⟨by omega, fun q a d => by simp [sI, a, d]; exact hI.2.1 q a d, fun k a => by simp [sI]; exact hI.2.2.1 k a, hI.2.2.2.1, fun p hp => ?_, ?_, ?_, fun p hp hq => ?_⟩
               · by_cases e1 : p = i
                 · rw [e1, sI_s, upd, if_pos rfl]
                 · rw [sI_s, upd, if_neg e1]; exact hI.2.2.2.2.1 p (by omega)
               · rw [sI_n (by decide), hI.2.2.2.2.2.1]; show _ = nI (zszk (zIn0 F e) i + (if zIn0 F e i = true then 1 else 0)); rw [if_neg (by rw [hz]; simp)]; rfl
               · rw [sI_2, hI.2.2.2.2.2.2.1]; show _ = lN (c + (zsum (fun p => if zIn0 F e p = true then 4 * zg F p e else 0) i + (if zIn0 F e i = true then 4 * zg F i e else 0))); rw [if_neg (by rw [hz]; simp)]; rfl
               · by_cases e1 : p = i
                 · rw [e1, hz] at hq; cases hq
                 · exact hI.2.2.2.2.2.2.2 p (by omega) hq)
            | (refine s126 _ ⟨by omega, fun q a d => by rw [sI_n a, sJ_1, sJ_1, sI_n d]; exact hI.2.1 q a d, fun k a => by rw [sI_s, upd, if_neg a]; exact hI.2.2.1 k a, fun q a d => by rw [sI_2, sJ_n a, sJ_n d]; exact hI.2.2.2.1 q a d, fun p hp => ?_, ?_, ?_, fun p hp hq => ?_⟩
               · rw [sI_n (by decide), sJ_1, sJ_1]
                 by_cases e1 : p = i
                 · rw [e1, sI_s, upd, if_pos rfl]
                 · rw [sI_s, upd, if_neg e1]; exact hI.2.2.2.2.1 p (by omega)
               · rw [sI_s, upd, if_pos rfl]; show _ = nI (zszk (zIn0 F e) i + (if zIn0 F e i = true then 1 else 0)); rw [if_pos hz]
               · rw [sI_2, sJ_s, vp_updL, if_pos rfl]; show _ = lN (c + (zsum (fun p => if zIn0 F e p = true then 4 * zg F p e else 0) i + (if zIn0 F e i = true then 4 * zg F i e else 0))); rw [if_pos hz]; unfold zamk; rw [Nat.add_assoc]
               · rw [sI_2, sJ_n (by decide), sJ_s, vp_updL]
                 by_cases e1 : p = i
                 · rw [if_pos e1, e1]
                 · rw [if_neg e1]; exact hI.2.2.2.2.2.2.2 p (by omega) hq)
      refine vq_aload_n d_H_gather_23 rfl ?_
      refine vq_getR (k := 2) (C := R_H) (T := T_H) d_H_gather_24 rfl in_H w_130 (by decide) rfl (by decide) rfl rfl ?_
      refine vq_iload_n d_H_gather_27 rfl ?_
      refine vq_aload_n d_H_gather_28 rfl ?_
      refine vq_getR (k := 0) (C := R_H) (T := T_H) d_H_gather_29 rfl in_H w_128 (by decide) rfl (by decide) rfl rfl ?_
      refine vq_iload_n d_H_gather_32 rfl ?_
      refine vq_aload_n d_H_gather_33 rfl ?_
      refine vq_getR (k := 1) (C := R_H) (T := T_H) d_H_gather_34 rfl in_H w_129 (by decide) rfl (by decide) rfl rfl ?_
      refine vq_getI (k := 1) (C := R_V) (T := T_V) d_H_gather_37 rfl in_V w_84 (by decide) rfl (by decide) rfl ?_
      refine vq_int (y := nI e) hk1.1 ?_
      refine vq_callV (n := 2) (C := R_F) (T := T_F) _ _ d_H_gather_40 (ct_F_isChild l b id D hW hc1 hi he) w_302 w_303 w_304 w_305 w_2 rfl ⟨by decide, by decide, by decide +kernel⟩ ⟨by decide, by decide⟩ (by decide) rfl rfl rfl rfl (Nat.le_of_ble_eq_true rfl) rfl rfl rfl ⟨by decide, by decide⟩ (fun _ _ h => h.elim) (fun v40 g40 h40 => ?_)
      rw [h40.1, h40.2]
      refine vq_if_eq (tgt := 62) d_H_gather_43 (by decide) (fun h43 => ?_) (fun h43 => ?_)
      · have hz : zIn0 F e i = false := by unfold zIn0; rw [bI_0.mp h43]; rfl
        refine vq_iconst (v := 0) d_H_gather_62 (by decide) ?_
        refine vq_zast d_H_gather_63 rfl (by decide) rfl rfl (show _ < 20 by omega) (by first | exact Or.inl rfl | exact Or.inr rfl | assumption) ?_
        have hzz : sI g1 39 (upd (g1.1 39) i (bI (zIn0 F e i))) = _ := rfl
        rw [hz] at hzz s64
        exact s64
      · have hch := bI_n0.mp h43
        refine vq_aload_n d_H_gather_46 rfl ?_
        refine vq_getR (k := 1) (C := R_H) (T := T_H) d_H_gather_47 rfl in_H w_129 (by decide) rfl (by decide) rfl rfl ?_
        refine vq_iload_n d_H_gather_50 rfl ?_
        refine vq_iconst (v := 0) d_H_gather_51 (by decide) ?_
        refine vq_callV (n := 2) (C := R_V) (T := T_V) _ _ d_H_gather_52 (ct_V_hasHeirs l b id D (o := some i) (h := 0) (Y := zX F e) (by omega) (fun j hj => by cases hj; exact ⟨by omega, hk1.2.2.2.2.2 0 (by omega) i hi⟩)) w_306 w_279 w_280 w_281 w_3 rfl ⟨by decide, by decide, by decide +kernel⟩ ⟨by decide, by decide⟩ (by decide) rfl rfl rfl rfl (Nat.le_of_ble_eq_true rfl) rfl rfl rfl ⟨by decide, by decide⟩ (fun _ _ h => h.elim) (fun v52 g52 h52 => ?_)
        rw [h52.1, h52.2]
        refine vq_if_eq (tgt := 62) d_H_gather_55 (by decide) (fun h55 => ?_) (fun h55 => ?_)
        · have hz : zIn0 F e i = false := by unfold zIn0; rw [hch, show zX F e i = _ from bI_0.mp h55]; rfl
          refine vq_iconst (v := 0) d_H_gather_62 (by decide) ?_
          refine vq_zast d_H_gather_63 rfl (by decide) rfl rfl (show _ < 20 by omega) (by first | exact Or.inl rfl | exact Or.inr rfl | assumption) ?_
          have hzz : sI g1 39 (upd (g1.1 39) i (bI (zIn0 F e i))) = _ := rfl
          rw [hz] at hzz s64
          exact s64
        · have hz : zIn0 F e i = true := by unfold zIn0; rw [hch, show zX F e i = _ from bI_n0.mp h55]; rfl
          refine vq_iconst (v := 1) d_H_gather_58 (by decide) ?_
          refine vq_goto (tgt := 63) d_H_gather_59 (by decide) ?_
          refine vq_zast d_H_gather_63 rfl (by decide) rfl rfl (show _ < 20 by omega) (by first | exact Or.inl rfl | exact Or.inr rfl | assumption) ?_
          have hzz : sI g1 39 (upd (g1.1 39) i (bI (zIn0 F e i))) = _ := rfl
          rw [hz] at hzz s64
          exact s64
  refine vq_aload_n d_H_gather_0 rfl ?_
  refine vq_lload_n d_H_gather_1 rfl ?_
  refine vq_putJ (k := 4) (C := R_H) (T := T_H) t_H d_H_gather_2 rfl in_H w_134 ty_H nm_H (by decide) rfl (by decide) rfl (by decide +kernel) rfl ?_
  refine vq_aload_n d_H_gather_5 rfl ?_
  refine vq_iconst (v := 0) d_H_gather_6 (by decide) ?_
  refine vq_putI (k := 3) (C := R_H) (T := T_H) (ty := .int) t_H d_H_gather_7 rfl in_H w_132 ty_H nm_H (by decide) rfl (by decide) rfl (by decide +kernel) rfl rfl rfl ?_
  refine vq_iconst (v := 0) d_H_gather_10 (by decide) ?_
  refine vq_istore_n (lv' := [(3, _), (0, _), (1, _)]) d_H_gather_11 (by decide) rfl ?_
  refine loop (zn F) 0 _ rfl ⟨by omega, fun q a d => by rw [sI_n a]; rfl, fun k a => by rw [sI_s, upd, if_neg a]; rfl, fun q a d => by rw [sI_2, sJ_n a], fun p hp => absurd hp (Nat.not_lt_zero p), ?_, ?_, fun p hp => absurd hp (Nat.not_lt_zero p)⟩
  · rw [sI_s, upd, if_pos rfl]; rfl
  · rw [sI_2, sJ_s, vp_updL, if_pos rfl]; rfl
end
