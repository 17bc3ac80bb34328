/-! Names: classes, their fields in the order of the slots, methods, the words of the tables. Written by wip/whole/tools/names.py out of javap's listing and the Statement. -/
def R_S : String := "SuccessionClerk"
def T_S : u_T := fun k => match k with
  | 0 => ("SuccessionClerk", "family", "LSuccessionClerk$Family;", true)
  | 1 => ("SuccessionClerk", "survey", "LSuccessionClerk$Survey;", true)
  | 2 => ("SuccessionClerk", "division", "LSuccessionClerk$Division;", true)
  | _ => ("SuccessionClerk", "ledger", "LSuccessionClerk$Ledger;", true)
def t_S : Nat → FieldType := fun k => match k with
  | 0 => .object "SuccessionClerk$Family"
  | 1 => .object "SuccessionClerk$Survey"
  | 2 => .object "SuccessionClerk$Division"
  | _ => .object "SuccessionClerk$Ledger"
theorem nm_S : ∀ a, a < 4 → ∀ b, b < 4 → a ≠ b → (T_S a).2.1 ≠ (T_S b).2.1 := by decide +kernel
theorem ty_S : ∀ k, k < 4 → parseFieldDescriptor (T_S k).2.2.1 = some (t_S k) := by decide +kernel
def R_F : String := "SuccessionClerk$Family"
def T_F : u_T := fun k => match k with
  | 0 => ("SuccessionClerk$Family", "count", "I", false)
  | 1 => ("SuccessionClerk$Family", "first", "[I", true)
  | 2 => ("SuccessionClerk$Family", "second", "[I", true)
  | 3 => ("SuccessionClerk$Family", "spouseOf", "[I", true)
  | 4 => ("SuccessionClerk$Family", "deathDay", "[I", true)
  | 5 => ("SuccessionClerk$Family", "ownCents", "[I", true)
  | 6 => ("SuccessionClerk$Family", "gifts", "[[I", true)
  | _ => ("SuccessionClerk$Family", "excluded", "[I", true)
def t_F : Nat → FieldType := fun k => match k with
  | 0 => .int
  | 1 => .array .int
  | 2 => .array .int
  | 3 => .array .int
  | 4 => .array .int
  | 5 => .array .int
  | 6 => .array (.array .int)
  | _ => .array .int
theorem nm_F : ∀ a, a < 8 → ∀ b, b < 8 → a ≠ b → (T_F a).2.1 ≠ (T_F b).2.1 := by decide +kernel
theorem ty_F : ∀ k, k < 8 → parseFieldDescriptor (T_F k).2.2.1 = some (t_F k) := by decide +kernel
def R_V : String := "SuccessionClerk$Survey"
def T_V : u_T := fun k => match k with
  | 0 => ("SuccessionClerk$Survey", "family", "LSuccessionClerk$Family;", true)
  | 1 => ("SuccessionClerk$Survey", "deceased", "I", false)
  | 2 => ("SuccessionClerk$Survey", "widowed", "I", false)
  | 3 => ("SuccessionClerk$Survey", "taker", "I", false)
  | 4 => ("SuccessionClerk$Survey", "left", "[Z", true)
  | 5 => ("SuccessionClerk$Survey", "branches", "[I", true)
  | 6 => ("SuccessionClerk$Survey", "lines", "[Z", true)
  | _ => ("SuccessionClerk$Survey", "reached", "[Z", true)
def t_V : Nat → FieldType := fun k => match k with
  | 0 => .object "SuccessionClerk$Family"
  | 1 => .int
  | 2 => .int
  | 3 => .int
  | 4 => .array .boolean
  | 5 => .array .int
  | 6 => .array .boolean
  | _ => .array .boolean
theorem nm_V : ∀ a, a < 8 → ∀ b, b < 8 → a ≠ b → (T_V a).2.1 ≠ (T_V b).2.1 := by decide +kernel
theorem ty_V : ∀ k, k < 8 → parseFieldDescriptor (T_V k).2.2.1 = some (t_V k) := by decide +kernel
def R_D : String := "SuccessionClerk$Division"
def T_D : u_T := fun k => match k with
  | 0 => ("SuccessionClerk$Division", "family", "LSuccessionClerk$Family;", true)
  | 1 => ("SuccessionClerk$Division", "survey", "LSuccessionClerk$Survey;", true)
  | 2 => ("SuccessionClerk$Division", "hotchpot", "LSuccessionClerk$Hotchpot;", true)
  | 3 => ("SuccessionClerk$Division", "takes", "[J", true)
  | 4 => ("SuccessionClerk$Division", "denominator", "J", false)
  | 5 => ("SuccessionClerk$Division", "parts", "[J", true)
  | _ => ("SuccessionClerk$Division", "higher", "[J", true)
def t_D : Nat → FieldType := fun k => match k with
  | 0 => .object "SuccessionClerk$Family"
  | 1 => .object "SuccessionClerk$Survey"
  | 2 => .object "SuccessionClerk$Hotchpot"
  | 3 => .array .long
  | 4 => .long
  | 5 => .array .long
  | _ => .array .long
theorem nm_D : ∀ a, a < 7 → ∀ b, b < 7 → a ≠ b → (T_D a).2.1 ≠ (T_D b).2.1 := by decide +kernel
theorem ty_D : ∀ k, k < 7 → parseFieldDescriptor (T_D k).2.2.1 = some (t_D k) := by decide +kernel
def R_H : String := "SuccessionClerk$Hotchpot"
def T_H : u_T := fun k => match k with
  | 0 => ("SuccessionClerk$Hotchpot", "family", "LSuccessionClerk$Family;", true)
  | 1 => ("SuccessionClerk$Hotchpot", "survey", "LSuccessionClerk$Survey;", true)
  | 2 => ("SuccessionClerk$Hotchpot", "in", "[Z", true)
  | 3 => ("SuccessionClerk$Hotchpot", "size", "I", false)
  | 4 => ("SuccessionClerk$Hotchpot", "amount", "J", false)
  | _ => ("SuccessionClerk$Hotchpot", "gifts", "[J", true)
def t_H : Nat → FieldType := fun k => match k with
  | 0 => .object "SuccessionClerk$Family"
  | 1 => .object "SuccessionClerk$Survey"
  | 2 => .array .boolean
  | 3 => .int
  | 4 => .long
  | _ => .array .long
theorem nm_H : ∀ a, a < 6 → ∀ b, b < 6 → a ≠ b → (T_H a).2.1 ≠ (T_H b).2.1 := by decide +kernel
theorem ty_H : ∀ k, k < 6 → parseFieldDescriptor (T_H k).2.2.1 = some (t_H k) := by decide +kernel
def R_L : String := "SuccessionClerk$Ledger"
def T_L : u_T := fun k => match k with
  | 0 => ("SuccessionClerk$Ledger", "family", "LSuccessionClerk$Family;", true)
  | 1 => ("SuccessionClerk$Ledger", "survey", "LSuccessionClerk$Survey;", true)
  | 2 => ("SuccessionClerk$Ledger", "division", "LSuccessionClerk$Division;", true)
  | 3 => ("SuccessionClerk$Ledger", "payments", "[[J", true)
  | 4 => ("SuccessionClerk$Ledger", "totals", "[J", true)
  | 5 => ("SuccessionClerk$Ledger", "receipts", "[J", true)
  | 6 => ("SuccessionClerk$Ledger", "settled", "[Z", true)
  | _ => ("SuccessionClerk$Ledger", "rests", "[J", true)
def t_L : Nat → FieldType := fun k => match k with
  | 0 => .object "SuccessionClerk$Family"
  | 1 => .object "SuccessionClerk$Survey"
  | 2 => .object "SuccessionClerk$Division"
  | 3 => .array (.array .long)
  | 4 => .array .long
  | 5 => .array .long
  | 6 => .array .boolean
  | _ => .array .long
theorem nm_L : ∀ a, a < 8 → ∀ b, b < 8 → a ≠ b → (T_L a).2.1 ≠ (T_L b).2.1 := by decide +kernel
theorem ty_L : ∀ k, k < 8 → parseFieldDescriptor (T_L k).2.2.1 = some (t_L k) := by decide +kernel
def R_M : String := "SuccessionClerkModel"
def T_M : u_T := fun k => match k with
  | 0 => ("SuccessionClerkModel", "thrown", "I", false)
  | 1 => ("SuccessionClerkModel", "persons", "I", false)
  | 2 => ("SuccessionClerkModel", "firsts", "[I", true)
  | 3 => ("SuccessionClerkModel", "seconds", "[I", true)
  | 4 => ("SuccessionClerkModel", "spouses", "[I", true)
  | 5 => ("SuccessionClerkModel", "days", "[I", true)
  | 6 => ("SuccessionClerkModel", "estates", "[I", true)
  | 7 => ("SuccessionClerkModel", "gifts", "[I", true)
  | 8 => ("SuccessionClerkModel", "excluded", "[Z", true)
  | 9 => ("SuccessionClerkModel", "of", "I", false)
  | 10 => ("SuccessionClerkModel", "left", "[Z", true)
  | 11 => ("SuccessionClerkModel", "many", "[I", true)
  | 12 => ("SuccessionClerkModel", "lines", "[Z", true)
  | 13 => ("SuccessionClerkModel", "parts", "[J", true)
  | 14 => ("SuccessionClerkModel", "takes", "[J", true)
  | 15 => ("SuccessionClerkModel", "product", "J", false)
  | 16 => ("SuccessionClerkModel", "whole", "J", false)
  | 17 => ("SuccessionClerkModel", "code", "I", false)
  | 18 => ("SuccessionClerkModel", "widow", "Z", false)
  | 19 => ("SuccessionClerkModel", "in", "[Z", true)
  | 20 => ("SuccessionClerkModel", "paid", "[J", true)
  | 21 => ("SuccessionClerkModel", "totals", "[J", true)
  | _ => ("SuccessionClerkModel", "gots", "[J", true)
def t_M : Nat → FieldType := fun k => match k with
  | 0 => .int
  | 1 => .int
  | 2 => .array .int
  | 3 => .array .int
  | 4 => .array .int
  | 5 => .array .int
  | 6 => .array .int
  | 7 => .array .int
  | 8 => .array .boolean
  | 9 => .int
  | 10 => .array .boolean
  | 11 => .array .int
  | 12 => .array .boolean
  | 13 => .array .long
  | 14 => .array .long
  | 15 => .long
  | 16 => .long
  | 17 => .int
  | 18 => .boolean
  | 19 => .array .boolean
  | 20 => .array .long
  | 21 => .array .long
  | _ => .array .long
theorem nm_M : ∀ a, a < 23 → ∀ b, b < 23 → a ≠ b → (T_M a).2.1 ≠ (T_M b).2.1 := by decide +kernel
theorem ty_M : ∀ k, k < 23 → parseFieldDescriptor (T_M k).2.2.1 = some (t_M k) := by decide +kernel
def R_W : String := "SuccessionClerkLaw"
def vwCl : List vw_C := [(R_S, T_S, 4), (R_F, T_F, 8), (R_V, T_V, 8), (R_D, T_D, 7), (R_H, T_H, 6), (R_L, T_L, 8), (R_M, T_M, 23)]
/-- the words that every method here has: those of the tables that stay -/
def TT : List Cond := lw_tbl.filter goodWord
theorem tm {w : Cond} (i : Nat) (h : tables_1[i]? = some w) (hg : goodWord w = true) : w ∈ TT := List.mem_filter.mpr ⟨List.mem_append_right _ (List.mem_of_getElem? h), hg⟩
theorem ts {w : Cond} (i : Nat) (h : (k2_sels lw_privs)[i]? = some w) (hg : goodWord w = true) : w ∈ TT := List.mem_filter.mpr ⟨List.mem_append_left _ (List.mem_of_getElem? h), hg⟩
theorem gT {c1 c2 : Cond} (h : c2 ∈ TT) : GoodIn (c1 :: TT) (c2 :: TT) := by
  intro w hw
  rcases List.mem_cons.mp hw with rfl | hw
  · exact ⟨List.mem_cons_of_mem _ h, good_of_word (List.mem_filter.mp h).2⟩
  · exact ⟨List.mem_cons_of_mem _ hw, good_of_word (List.mem_filter.mp hw).2⟩
theorem in_S : ∀ w ∈ u_ws R_S T_S 4, w ∈ TT := by
  have h : ∀ w ∈ u_ws R_S T_S 4, w ∈ tables_1 ∧ goodWord w = true := by decide +kernel
  exact fun w hw => List.mem_filter.mpr ⟨List.mem_append_right _ (h w hw).1, (h w hw).2⟩
theorem in_F : ∀ w ∈ u_ws R_F T_F 8, w ∈ TT := by
  have h : ∀ w ∈ u_ws R_F T_F 8, w ∈ tables_1 ∧ goodWord w = true := by decide +kernel
  exact fun w hw => List.mem_filter.mpr ⟨List.mem_append_right _ (h w hw).1, (h w hw).2⟩
theorem in_V : ∀ w ∈ u_ws R_V T_V 8, w ∈ TT := by
  have h : ∀ w ∈ u_ws R_V T_V 8, w ∈ tables_1 ∧ goodWord w = true := by decide +kernel
  exact fun w hw => List.mem_filter.mpr ⟨List.mem_append_right _ (h w hw).1, (h w hw).2⟩
theorem in_D : ∀ w ∈ u_ws R_D T_D 7, w ∈ TT := by
  have h : ∀ w ∈ u_ws R_D T_D 7, w ∈ tables_1 ∧ goodWord w = true := by decide +kernel
  exact fun w hw => List.mem_filter.mpr ⟨List.mem_append_right _ (h w hw).1, (h w hw).2⟩
theorem in_H : ∀ w ∈ u_ws R_H T_H 6, w ∈ TT := by
  have h : ∀ w ∈ u_ws R_H T_H 6, w ∈ tables_1 ∧ goodWord w = true := by decide +kernel
  exact fun w hw => List.mem_filter.mpr ⟨List.mem_append_right _ (h w hw).1, (h w hw).2⟩
theorem in_L : ∀ w ∈ u_ws R_L T_L 8, w ∈ TT := by
  have h : ∀ w ∈ u_ws R_L T_L 8, w ∈ tables_1 ∧ goodWord w = true := by decide +kernel
  exact fun w hw => List.mem_filter.mpr ⟨List.mem_append_right _ (h w hw).1, (h w hw).2⟩
theorem in_M : ∀ w ∈ u_ws R_M T_M 23, w ∈ TT := by
  have h : ∀ w ∈ u_ws R_M T_M 23, w ∈ tables_1 ∧ goodWord w = true := by decide +kernel
  exact fun w hw => List.mem_filter.mpr ⟨List.mem_append_right _ (h w hw).1, (h w hw).2⟩
abbrev c_S_init : ByteArray := prog_1_method_1_code
def y_S_init : MethodName := ⟨R_S, "<init>", "()V"⟩
abbrev c_F_init : ByteArray := prog_3_method_1_code
def y_F_init : MethodName := ⟨R_F, "<init>", "()V"⟩
abbrev c_V_init : ByteArray := prog_6_method_1_code
def y_V_init : MethodName := ⟨R_V, "<init>", "(LSuccessionClerk$Family;)V"⟩
abbrev c_D_init : ByteArray := prog_2_method_1_code
def y_D_init : MethodName := ⟨R_D, "<init>", "(LSuccessionClerk$Family;LSuccessionClerk$Survey;)V"⟩
abbrev c_H_init : ByteArray := prog_4_method_1_code
def y_H_init : MethodName := ⟨R_H, "<init>", "(LSuccessionClerk$Family;LSuccessionClerk$Survey;)V"⟩
abbrev c_L_init : ByteArray := prog_5_method_1_code
def y_L_init : MethodName := ⟨R_L, "<init>", "(LSuccessionClerk$Family;LSuccessionClerk$Survey;LSuccessionClerk$Division;)V"⟩
abbrev c_S_settle : ByteArray := prog_1_method_16_code
def y_S_settle : MethodName := ⟨R_S, "settle", "()I"⟩
abbrev c_L_settleAll : ByteArray := prog_5_method_2_code
def y_L_settleAll : MethodName := ⟨R_L, "settleAll", "()I"⟩
abbrev c_L_forget : ByteArray := prog_5_method_3_code
def y_L_forget : MethodName := ⟨R_L, "forget", "()V"⟩
abbrev c_A_fillJ : ByteArray := prog_16_method_101_code
def y_A_fillJ : MethodName := ⟨"java/util/Arrays", "fill", "([JJ)V"⟩
abbrev c_L_earliestUnsettled : ByteArray := prog_5_method_4_code
def y_L_earliestUnsettled : MethodName := ⟨R_L, "earliestUnsettled", "()I"⟩
abbrev c_F_died : ByteArray := prog_3_method_3_code
def y_F_died : MethodName := ⟨R_F, "died", "(I)Z"⟩
abbrev c_L_settleOne : ByteArray := prog_5_method_5_code
def y_L_settleOne : MethodName := ⟨R_L, "settleOne", "(I)V"⟩
abbrev c_V_look : ByteArray := prog_6_method_2_code
def y_V_look : MethodName := ⟨R_V, "look", "(I)V"⟩
abbrev c_V_findStems : ByteArray := prog_6_method_5_code
def y_V_findStems : MethodName := ⟨R_V, "findStems", "()V"⟩
abbrev c_A_fillI : ByteArray := prog_16_method_103_code
def y_A_fillI : MethodName := ⟨"java/util/Arrays", "fill", "([II)V"⟩
abbrev c_F_isLeft : ByteArray := prog_3_method_8_code
def y_F_isLeft : MethodName := ⟨R_F, "isLeft", "(II)Z"⟩
abbrev c_F_isExcluded : ByteArray := prog_3_method_6_code
def y_F_isExcluded : MethodName := ⟨R_F, "isExcluded", "(II)Z"⟩
abbrev c_V_addBranch : ByteArray := prog_6_method_6_code
def y_V_addBranch : MethodName := ⟨R_V, "addBranch", "(I)V"⟩
abbrev c_V_findLines : ByteArray := prog_6_method_7_code
def y_V_findLines : MethodName := ⟨R_V, "findLines", "()V"⟩
abbrev c_V_hasHeirs : ByteArray := prog_6_method_3_code
def y_V_hasHeirs : MethodName := ⟨R_V, "hasHeirs", "(II)Z"⟩
abbrev c_V_findTaker : ByteArray := prog_6_method_8_code
def y_V_findTaker : MethodName := ⟨R_V, "findTaker", "()I"⟩
abbrev c_L_pay : ByteArray := prog_5_method_8_code
def y_L_pay : MethodName := ⟨R_L, "pay", "(IIJ)V"⟩
abbrev c_D_divideWithGifts : ByteArray := prog_2_method_3_code
def y_D_divideWithGifts : MethodName := ⟨R_D, "divideWithGifts", "(J)V"⟩
abbrev c_V_spouseQuarters : ByteArray := prog_6_method_4_code
def y_V_spouseQuarters : MethodName := ⟨R_V, "spouseQuarters", "()I"⟩
abbrev c_H_gather : ByteArray := prog_4_method_2_code
def y_H_gather : MethodName := ⟨R_H, "gather", "(J)V"⟩
abbrev c_F_isChild : ByteArray := prog_3_method_5_code
def y_F_isChild : MethodName := ⟨R_F, "isChild", "(II)Z"⟩
abbrev c_H_releaseThoseAbove : ByteArray := prog_4_method_3_code
def y_H_releaseThoseAbove : MethodName := ⟨R_H, "releaseThoseAbove", "()V"⟩
abbrev c_H_findOneAbove : ByteArray := prog_4_method_4_code
def y_H_findOneAbove : MethodName := ⟨R_H, "findOneAbove", "()I"⟩
abbrev c_H_partTimesSize : ByteArray := prog_4_method_5_code
def y_H_partTimesSize : MethodName := ⟨R_H, "partTimesSize", "(I)J"⟩
abbrev c_D_branchProduct : ByteArray := prog_2_method_4_code
def y_D_branchProduct : MethodName := ⟨R_D, "branchProduct", "()J"⟩
abbrev c_D_startWith : ByteArray := prog_2_method_5_code
def y_D_startWith : MethodName := ⟨R_D, "startWith", "(JJ)V"⟩
abbrev c_D_lowerParts : ByteArray := prog_2_method_8_code
def y_D_lowerParts : MethodName := ⟨R_D, "lowerParts", "()V"⟩
abbrev c_D_lowerPart : ByteArray := prog_2_method_9_code
def y_D_lowerPart : MethodName := ⟨R_D, "lowerPart", "(IJ)V"⟩
abbrev c_D_divideByShares : ByteArray := prog_2_method_2_code
def y_D_divideByShares : MethodName := ⟨R_D, "divideByShares", "(J)V"⟩
abbrev c_D_raiseParts : ByteArray := prog_2_method_6_code
def y_D_raiseParts : MethodName := ⟨R_D, "raiseParts", "(I)V"⟩
abbrev c_D_raisePart : ByteArray := prog_2_method_7_code
def y_D_raisePart : MethodName := ⟨R_D, "raisePart", "(II)V"⟩
abbrev c_L_payDues : ByteArray := prog_5_method_6_code
def y_L_payDues : MethodName := ⟨R_L, "payDues", "(I)V"⟩
abbrev c_L_greatestRest : ByteArray := prog_5_method_7_code
def y_L_greatestRest : MethodName := ⟨R_L, "greatestRest", "()I"⟩
abbrev c_W_person : ByteArray := method_3_code
def y_W_person : MethodName := ⟨R_W, "person", "(LSuccessionClerk;II[J)I"⟩
abbrev c_S_person : ByteArray := prog_1_method_2_code
def y_S_person : MethodName := ⟨R_S, "person", "(II)I"⟩
abbrev c_S_requireParents : ByteArray := prog_1_method_22_code
def y_S_requireParents : MethodName := ⟨R_S, "requireParents", "(III)V"⟩
abbrev c_F_enter : ByteArray := prog_3_method_2_code
def y_F_enter : MethodName := ⟨R_F, "enter", "(II)I"⟩
abbrev c_W_amend : ByteArray := method_4_code
def y_W_amend : MethodName := ⟨R_W, "amend", "(LSuccessionClerk;III)I"⟩
abbrev c_S_amend : ByteArray := prog_1_method_3_code
def y_S_amend : MethodName := ⟨R_S, "amend", "(III)V"⟩
abbrev c_S_requirePerson : ByteArray := prog_1_method_20_code
def y_S_requirePerson : MethodName := ⟨R_S, "requirePerson", "(I)V"⟩
abbrev c_W_marry : ByteArray := method_5_code
def y_W_marry : MethodName := ⟨R_W, "marry", "(LSuccessionClerk;II)I"⟩
abbrev c_S_marry : ByteArray := prog_1_method_4_code
def y_S_marry : MethodName := ⟨R_S, "marry", "(II)V"⟩
abbrev c_F_isFree : ByteArray := prog_3_method_4_code
def y_F_isFree : MethodName := ⟨R_F, "isFree", "(I)Z"⟩
abbrev c_W_divorce : ByteArray := method_6_code
def y_W_divorce : MethodName := ⟨R_W, "divorce", "(LSuccessionClerk;I[J)I"⟩
abbrev c_S_divorce : ByteArray := prog_1_method_5_code
def y_S_divorce : MethodName := ⟨R_S, "divorce", "(I)Z"⟩
abbrev c_W_spouse : ByteArray := method_7_code
def y_W_spouse : MethodName := ⟨R_W, "spouse", "(LSuccessionClerk;I[J)I"⟩
abbrev c_S_spouse : ByteArray := prog_1_method_6_code
def y_S_spouse : MethodName := ⟨R_S, "spouse", "(I)I"⟩
abbrev c_W_dies : ByteArray := method_8_code
def y_W_dies : MethodName := ⟨R_W, "dies", "(LSuccessionClerk;II)I"⟩
abbrev c_S_dies : ByteArray := prog_1_method_7_code
def y_S_dies : MethodName := ⟨R_S, "dies", "(II)V"⟩
abbrev c_W_exclude : ByteArray := method_9_code
def y_W_exclude : MethodName := ⟨R_W, "exclude", "(LSuccessionClerk;IIZ[J)I"⟩
abbrev c_S_exclude : ByteArray := prog_1_method_8_code
def y_S_exclude : MethodName := ⟨R_S, "exclude", "(IIZ)Z"⟩
abbrev c_F_setExcluded : ByteArray := prog_3_method_7_code
def y_F_setExcluded : MethodName := ⟨R_F, "setExcluded", "(IIZ)V"⟩
abbrev c_W_gift : ByteArray := method_10_code
def y_W_gift : MethodName := ⟨R_W, "gift", "(LSuccessionClerk;III[J)I"⟩
abbrev c_S_gift : ByteArray := prog_1_method_9_code
def y_S_gift : MethodName := ⟨R_S, "gift", "(III)I"⟩
abbrev c_W_estate : ByteArray := method_11_code
def y_W_estate : MethodName := ⟨R_W, "estate", "(LSuccessionClerk;II)I"⟩
abbrev c_S_estate : ByteArray := prog_1_method_10_code
def y_S_estate : MethodName := ⟨R_S, "estate", "(II)V"⟩
abbrev c_W_heirs : ByteArray := method_12_code
def y_W_heirs : MethodName := ⟨R_W, "heirs", "(LSuccessionClerk;I[J)I"⟩
abbrev c_S_heirs : ByteArray := prog_1_method_11_code
def y_S_heirs : MethodName := ⟨R_S, "heirs", "(I)I"⟩
abbrev c_S_requireDead : ByteArray := prog_1_method_21_code
def y_S_requireDead : MethodName := ⟨R_S, "requireDead", "(I)V"⟩
abbrev c_D_countTakers : ByteArray := prog_2_method_10_code
def y_D_countTakers : MethodName := ⟨R_D, "countTakers", "()I"⟩
abbrev c_W_heir : ByteArray := method_13_code
def y_W_heir : MethodName := ⟨R_W, "heir", "(LSuccessionClerk;II[J)I"⟩
abbrev c_S_heir : ByteArray := prog_1_method_12_code
def y_S_heir : MethodName := ⟨R_S, "heir", "(II)I"⟩
abbrev c_D_takerAt : ByteArray := prog_2_method_11_code
def y_D_takerAt : MethodName := ⟨R_D, "takerAt", "(I)I"⟩
abbrev c_W_share : ByteArray := method_14_code
def y_W_share : MethodName := ⟨R_W, "share", "(LSuccessionClerk;II[J)I"⟩
abbrev c_S_share : ByteArray := prog_1_method_13_code
def y_S_share : MethodName := ⟨R_S, "share", "(II)J"⟩
abbrev c_D_inLowestTerms : ByteArray := prog_2_method_12_code
def y_D_inLowestTerms : MethodName := ⟨R_D, "inLowestTerms", "(I)J"⟩
abbrev c_D_commonDivisor : ByteArray := prog_2_method_13_code
def y_D_commonDivisor : MethodName := ⟨R_D, "commonDivisor", "(JJ)J"⟩
abbrev c_W_order : ByteArray := method_15_code
def y_W_order : MethodName := ⟨R_W, "order", "(LSuccessionClerk;I[J)I"⟩
abbrev c_S_order : ByteArray := prog_1_method_14_code
def y_S_order : MethodName := ⟨R_S, "order", "(I)I"⟩
abbrev c_W_stem : ByteArray := method_16_code
def y_W_stem : MethodName := ⟨R_W, "stem", "(LSuccessionClerk;II[J)I"⟩
abbrev c_S_stem : ByteArray := prog_1_method_15_code
def y_S_stem : MethodName := ⟨R_S, "stem", "(II)I"⟩
abbrev c_V_leastStemOver : ByteArray := prog_6_method_9_code
def y_V_leastStemOver : MethodName := ⟨R_V, "leastStemOver", "(I)I"⟩
abbrev c_V_beginsOrder : ByteArray := prog_6_method_10_code
def y_V_beginsOrder : MethodName := ⟨R_V, "beginsOrder", "(I)Z"⟩
abbrev c_V_isAncestor : ByteArray := prog_6_method_11_code
def y_V_isAncestor : MethodName := ⟨R_V, "isAncestor", "(LSuccessionClerk$Family;III)Z"⟩
abbrev c_V_stemReaches : ByteArray := prog_6_method_12_code
def y_V_stemReaches : MethodName := ⟨R_V, "stemReaches", "(II)Z"⟩
abbrev c_V_passesOn : ByteArray := prog_6_method_13_code
def y_V_passesOn : MethodName := ⟨R_V, "passesOn", "(I)Z"⟩
abbrev c_W_paid : ByteArray := method_17_code
def y_W_paid : MethodName := ⟨R_W, "paid", "(LSuccessionClerk;II[J)I"⟩
abbrev c_S_paid : ByteArray := prog_1_method_17_code
def y_S_paid : MethodName := ⟨R_S, "paid", "(II)J"⟩
abbrev c_S_placeOf : ByteArray := prog_1_method_23_code
def y_S_placeOf : MethodName := ⟨R_S, "placeOf", "(I)I"⟩
abbrev c_W_total : ByteArray := method_18_code
def y_W_total : MethodName := ⟨R_W, "total", "(LSuccessionClerk;I[J)I"⟩
abbrev c_S_total : ByteArray := prog_1_method_18_code
def y_S_total : MethodName := ⟨R_S, "total", "(I)J"⟩
abbrev c_W_got : ByteArray := method_19_code
def y_W_got : MethodName := ⟨R_W, "got", "(LSuccessionClerk;I[J)I"⟩
abbrev c_S_got : ByteArray := prog_1_method_19_code
def y_S_got : MethodName := ⟨R_S, "got", "(I)J"⟩
abbrev c_M_init : ByteArray := prog_8_method_1_code
def y_M_init : MethodName := ⟨R_M, "<init>", "()V"⟩
abbrev c_M_thrown : ByteArray := prog_8_method_2_code
def y_M_thrown : MethodName := ⟨R_M, "thrown", "()I"⟩
abbrev c_M_person : ByteArray := prog_8_method_4_code
def y_M_person : MethodName := ⟨R_M, "person", "(II)I"⟩
abbrev c_M_no : ByteArray := prog_8_method_3_code
def y_M_no : MethodName := ⟨R_M, "no", "(I)Z"⟩
abbrev c_M_amend : ByteArray := prog_8_method_5_code
def y_M_amend : MethodName := ⟨R_M, "amend", "(III)V"⟩
abbrev c_M_marry : ByteArray := prog_8_method_7_code
def y_M_marry : MethodName := ⟨R_M, "marry", "(II)V"⟩
abbrev c_M_isMarried : ByteArray := prog_8_method_6_code
def y_M_isMarried : MethodName := ⟨R_M, "isMarried", "(I)Z"⟩
abbrev c_M_divorce : ByteArray := prog_8_method_8_code
def y_M_divorce : MethodName := ⟨R_M, "divorce", "(I)Z"⟩
abbrev c_M_spouse : ByteArray := prog_8_method_9_code
def y_M_spouse : MethodName := ⟨R_M, "spouse", "(I)I"⟩
abbrev c_M_dies : ByteArray := prog_8_method_10_code
def y_M_dies : MethodName := ⟨R_M, "dies", "(II)V"⟩
abbrev c_M_exclude : ByteArray := prog_8_method_11_code
def y_M_exclude : MethodName := ⟨R_M, "exclude", "(IIZ)Z"⟩
abbrev c_M_gift : ByteArray := prog_8_method_12_code
def y_M_gift : MethodName := ⟨R_M, "gift", "(III)I"⟩
abbrev c_M_estate : ByteArray := prog_8_method_13_code
def y_M_estate : MethodName := ⟨R_M, "estate", "(II)V"⟩
abbrev c_M_heirs : ByteArray := prog_8_method_22_code
def y_M_heirs : MethodName := ⟨R_M, "heirs", "(I)I"⟩
abbrev c_M_unsettled : ByteArray := prog_8_method_21_code
def y_M_unsettled : MethodName := ⟨R_M, "unsettled", "(I)I"⟩
abbrev c_M_divide : ByteArray := prog_8_method_20_code
def y_M_divide : MethodName := ⟨R_M, "divide", "(I)V"⟩
abbrev c_M_look : ByteArray := prog_8_method_15_code
def y_M_look : MethodName := ⟨R_M, "look", "(I)V"⟩
abbrev c_M_isChild : ByteArray := prog_8_method_14_code
def y_M_isChild : MethodName := ⟨R_M, "isChild", "(II)Z"⟩
abbrev c_M_hasLine : ByteArray := prog_8_method_16_code
def y_M_hasLine : MethodName := ⟨R_M, "hasLine", "(II)Z"⟩
abbrev c_M_clear : ByteArray := prog_8_method_17_code
def y_M_clear : MethodName := ⟨R_M, "clear", "()V"⟩
abbrev c_M_climb : ByteArray := prog_8_method_18_code
def y_M_climb : MethodName := ⟨R_M, "climb", "(I)V"⟩
abbrev c_M_descend : ByteArray := prog_8_method_19_code
def y_M_descend : MethodName := ⟨R_M, "descend", "()V"⟩
abbrev c_M_heir : ByteArray := prog_8_method_23_code
def y_M_heir : MethodName := ⟨R_M, "heir", "(II)I"⟩
abbrev c_M_share : ByteArray := prog_8_method_25_code
def y_M_share : MethodName := ⟨R_M, "share", "(II)J"⟩
abbrev c_M_divisor : ByteArray := prog_8_method_24_code
def y_M_divisor : MethodName := ⟨R_M, "divisor", "(JJ)J"⟩
abbrev c_M_order : ByteArray := prog_8_method_26_code
def y_M_order : MethodName := ⟨R_M, "order", "(I)I"⟩
abbrev c_M_stem : ByteArray := prog_8_method_27_code
def y_M_stem : MethodName := ⟨R_M, "stem", "(II)I"⟩
abbrev c_M_settle : ByteArray := prog_8_method_33_code
def y_M_settle : MethodName := ⟨R_M, "settle", "()I"⟩
abbrev c_M_settleOne : ByteArray := prog_8_method_32_code
def y_M_settleOne : MethodName := ⟨R_M, "settleOne", "(I)V"⟩
abbrev c_M_due : ByteArray := prog_8_method_30_code
def y_M_due : MethodName := ⟨R_M, "due", "(IJ)V"⟩
abbrev c_M_sift : ByteArray := prog_8_method_28_code
def y_M_sift : MethodName := ⟨R_M, "sift", "(J)I"⟩
abbrev c_M_giftsIn : ByteArray := prog_8_method_29_code
def y_M_giftsIn : MethodName := ⟨R_M, "giftsIn", "()J"⟩
abbrev c_M_pay : ByteArray := prog_8_method_31_code
def y_M_pay : MethodName := ⟨R_M, "pay", "(IIJ)V"⟩
abbrev c_M_paid : ByteArray := prog_8_method_34_code
def y_M_paid : MethodName := ⟨R_M, "paid", "(II)J"⟩
abbrev c_M_total : ByteArray := prog_8_method_35_code
def y_M_total : MethodName := ⟨R_M, "total", "(I)J"⟩
abbrev c_M_got : ByteArray := prog_8_method_36_code
def y_M_got : MethodName := ⟨R_M, "got", "(I)J"⟩
theorem w_0 : Cond.initialized "SuccessionClerkLaw" ∈ TT := tm 0 (by decide +kernel) (by decide +kernel)
theorem w_1 : Cond.initialized "SuccessionClerk" ∈ TT := tm 1 (by decide +kernel) (by decide +kernel)
theorem w_2 : Cond.initialized "SuccessionClerk$Family" ∈ TT := tm 2 (by decide +kernel) (by decide +kernel)
theorem w_3 : Cond.initialized "SuccessionClerk$Survey" ∈ TT := tm 3 (by decide +kernel) (by decide +kernel)
theorem w_4 : Cond.initialized "SuccessionClerk$Division" ∈ TT := tm 4 (by decide +kernel) (by decide +kernel)
theorem w_5 : Cond.initialized "SuccessionClerk$Hotchpot" ∈ TT := tm 5 (by decide +kernel) (by decide +kernel)
theorem w_6 : Cond.initialized "SuccessionClerk$Ledger" ∈ TT := tm 6 (by decide +kernel) (by decide +kernel)
theorem w_7 : Cond.initialized "SuccessionClerkModel" ∈ TT := tm 7 (by decide +kernel) (by decide +kernel)
theorem w_8 : Cond.initialized "java/lang/Throwable" ∈ TT := tm 8 (by decide +kernel) (by decide +kernel)
theorem w_9 : Cond.initialized "java/lang/Exception" ∈ TT := tm 9 (by decide +kernel) (by decide +kernel)
theorem w_10 : Cond.initialized "java/lang/RuntimeException" ∈ TT := tm 10 (by decide +kernel) (by decide +kernel)
theorem w_11 : Cond.initialized "java/lang/IllegalArgumentException" ∈ TT := tm 11 (by decide +kernel) (by decide +kernel)
theorem w_12 : Cond.initialized "java/lang/IllegalStateException" ∈ TT := tm 12 (by decide +kernel) (by decide +kernel)
theorem w_13 : Cond.initialized "java/util/Arrays" ∈ TT := tm 13 (by decide +kernel) (by decide +kernel)
theorem w_14 : Cond.initialized "java/lang/System" ∈ TT := tm 14 (by decide +kernel) (by decide +kernel)
theorem w_15 : Cond.classLink "SuccessionClerkLaw" (8 : Nat) "SuccessionClerk" ∈ TT := tm 15 (by decide +kernel) (by decide +kernel)
theorem w_16 : Cond.instantiable "SuccessionClerk" (4 : Nat) ∈ TT := tm 16 (by decide +kernel) (by decide +kernel)
theorem w_17 : Cond.methodLink "SuccessionClerkLaw" (73 : Nat) ({ cls := "SuccessionClerk", name := "<init>", desc := "()V" } : MethodName) ∈ TT := tm 17 (by decide +kernel) (by decide +kernel)
theorem w_18 : Cond.instanceMethod ({ cls := "SuccessionClerk", name := "<init>", desc := "()V" } : MethodName) ∈ TT := tm 18 (by decide +kernel) (by decide +kernel)
theorem w_19 : Cond.code ({ cls := "SuccessionClerk", name := "<init>", desc := "()V" } : MethodName) prog_1_method_1_code (1 : Nat) (Option.none : Option FieldType) ∈ TT := tm 19 (by decide +kernel) (by decide +kernel)
theorem w_20 : Cond.methodLink "SuccessionClerk" (3 : Nat) ({ cls := "java/lang/Object", name := "<init>", desc := "()V" } : MethodName) ∈ TT := tm 20 (by decide +kernel) (by decide +kernel)
theorem w_21 : Cond.instanceMethod ({ cls := "java/lang/Object", name := "<init>", desc := "()V" } : MethodName) ∈ TT := tm 21 (by decide +kernel) (by decide +kernel)
theorem w_22 : Cond.code ({ cls := "java/lang/Object", name := "<init>", desc := "()V" } : MethodName) object_method_1_code (1 : Nat) (Option.none : Option FieldType) ∈ TT := tm 22 (by decide +kernel) (by decide +kernel)
theorem w_23 : Cond.classLink "SuccessionClerk" (9 : Nat) "SuccessionClerk$Family" ∈ TT := tm 23 (by decide +kernel) (by decide +kernel)
theorem w_24 : Cond.instantiable "SuccessionClerk$Family" (8 : Nat) ∈ TT := tm 24 (by decide +kernel) (by decide +kernel)
theorem w_26 : Cond.instanceMethod ({ cls := "SuccessionClerk$Family", name := "<init>", desc := "()V" } : MethodName) ∈ TT := tm 26 (by decide +kernel) (by decide +kernel)
theorem w_27 : Cond.code ({ cls := "SuccessionClerk$Family", name := "<init>", desc := "()V" } : MethodName) prog_3_method_1_code (1 : Nat) (Option.none : Option FieldType) ∈ TT := tm 27 (by decide +kernel) (by decide +kernel)
theorem w_28 : Cond.methodLink "SuccessionClerk$Family" (3 : Nat) ({ cls := "java/lang/Object", name := "<init>", desc := "()V" } : MethodName) ∈ TT := tm 28 (by decide +kernel) (by decide +kernel)
theorem w_29 : Cond.classLink "SuccessionClerk$Family" (27 : Nat) "[[I" ∈ TT := tm 29 (by decide +kernel) (by decide +kernel)
theorem w_31 : Cond.fieldLink "SuccessionClerk$Family" (35 : Nat) "SuccessionClerk$Family" "count" "I" ∈ TT := tm 31 (by decide +kernel) (by decide +kernel)
theorem w_32 : Cond.fieldLink "SuccessionClerk" (43 : Nat) "SuccessionClerk$Family" "count" "I" ∈ TT := tm 32 (by decide +kernel) (by decide +kernel)
theorem w_33 : Cond.fieldLink "SuccessionClerk$Ledger" (45 : Nat) "SuccessionClerk$Family" "count" "I" ∈ TT := tm 33 (by decide +kernel) (by decide +kernel)
theorem w_34 : Cond.fieldLink "SuccessionClerk$Hotchpot" (35 : Nat) "SuccessionClerk$Family" "count" "I" ∈ TT := tm 34 (by decide +kernel) (by decide +kernel)
theorem w_35 : Cond.fieldLink "SuccessionClerk$Division" (84 : Nat) "SuccessionClerk$Family" "count" "I" ∈ TT := tm 35 (by decide +kernel) (by decide +kernel)
theorem w_36 : Cond.fieldLink "SuccessionClerk$Survey" (60 : Nat) "SuccessionClerk$Family" "count" "I" ∈ TT := tm 36 (by decide +kernel) (by decide +kernel)
theorem w_37 : Cond.fieldLink "SuccessionClerk$Family" (9 : Nat) "SuccessionClerk$Family" "first" "[I" ∈ TT := tm 37 (by decide +kernel) (by decide +kernel)
theorem w_38 : Cond.fieldLink "SuccessionClerk" (66 : Nat) "SuccessionClerk$Family" "first" "[I" ∈ TT := tm 38 (by decide +kernel) (by decide +kernel)
theorem w_39 : Cond.fieldLink "SuccessionClerk$Survey" (67 : Nat) "SuccessionClerk$Family" "first" "[I" ∈ TT := tm 39 (by decide +kernel) (by decide +kernel)
theorem w_40 : Cond.fieldLink "SuccessionClerk$Division" (123 : Nat) "SuccessionClerk$Family" "first" "[I" ∈ TT := tm 40 (by decide +kernel) (by decide +kernel)
theorem w_41 : Cond.fieldLink "SuccessionClerk$Family" (15 : Nat) "SuccessionClerk$Family" "second" "[I" ∈ TT := tm 41 (by decide +kernel) (by decide +kernel)
theorem w_42 : Cond.fieldLink "SuccessionClerk" (70 : Nat) "SuccessionClerk$Family" "second" "[I" ∈ TT := tm 42 (by decide +kernel) (by decide +kernel)
theorem w_43 : Cond.fieldLink "SuccessionClerk$Survey" (74 : Nat) "SuccessionClerk$Family" "second" "[I" ∈ TT := tm 43 (by decide +kernel) (by decide +kernel)
theorem w_44 : Cond.fieldLink "SuccessionClerk$Division" (126 : Nat) "SuccessionClerk$Family" "second" "[I" ∈ TT := tm 44 (by decide +kernel) (by decide +kernel)
theorem w_45 : Cond.fieldLink "SuccessionClerk$Family" (18 : Nat) "SuccessionClerk$Family" "spouseOf" "[I" ∈ TT := tm 45 (by decide +kernel) (by decide +kernel)
theorem w_46 : Cond.fieldLink "SuccessionClerk$Survey" (39 : Nat) "SuccessionClerk$Family" "spouseOf" "[I" ∈ TT := tm 46 (by decide +kernel) (by decide +kernel)
theorem w_47 : Cond.fieldLink "SuccessionClerk" (84 : Nat) "SuccessionClerk$Family" "spouseOf" "[I" ∈ TT := tm 47 (by decide +kernel) (by decide +kernel)
theorem w_48 : Cond.fieldLink "SuccessionClerk$Family" (21 : Nat) "SuccessionClerk$Family" "deathDay" "[I" ∈ TT := tm 48 (by decide +kernel) (by decide +kernel)
theorem w_49 : Cond.fieldLink "SuccessionClerk$Ledger" (69 : Nat) "SuccessionClerk$Family" "deathDay" "[I" ∈ TT := tm 49 (by decide +kernel) (by decide +kernel)
theorem w_50 : Cond.fieldLink "SuccessionClerk" (94 : Nat) "SuccessionClerk$Family" "deathDay" "[I" ∈ TT := tm 50 (by decide +kernel) (by decide +kernel)
theorem w_51 : Cond.fieldLink "SuccessionClerk$Family" (24 : Nat) "SuccessionClerk$Family" "ownCents" "[I" ∈ TT := tm 51 (by decide +kernel) (by decide +kernel)
theorem w_52 : Cond.fieldLink "SuccessionClerk$Ledger" (73 : Nat) "SuccessionClerk$Family" "ownCents" "[I" ∈ TT := tm 52 (by decide +kernel) (by decide +kernel)
theorem w_53 : Cond.fieldLink "SuccessionClerk" (121 : Nat) "SuccessionClerk$Family" "ownCents" "[I" ∈ TT := tm 53 (by decide +kernel) (by decide +kernel)
theorem w_54 : Cond.fieldLink "SuccessionClerk$Family" (29 : Nat) "SuccessionClerk$Family" "gifts" "[[I" ∈ TT := tm 54 (by decide +kernel) (by decide +kernel)
theorem w_55 : Cond.fieldLink "SuccessionClerk$Hotchpot" (54 : Nat) "SuccessionClerk$Family" "gifts" "[[I" ∈ TT := tm 55 (by decide +kernel) (by decide +kernel)
theorem w_56 : Cond.fieldLink "SuccessionClerk" (113 : Nat) "SuccessionClerk$Family" "gifts" "[[I" ∈ TT := tm 56 (by decide +kernel) (by decide +kernel)
theorem w_57 : Cond.fieldLink "SuccessionClerk$Family" (32 : Nat) "SuccessionClerk$Family" "excluded" "[I" ∈ TT := tm 57 (by decide +kernel) (by decide +kernel)
theorem w_75 : Cond.arrayClass FieldType.int ∈ TT := tm 75 (by decide +kernel) (by decide +kernel)
theorem w_76 : Cond.classLink "SuccessionClerk" (16 : Nat) "SuccessionClerk$Survey" ∈ TT := tm 76 (by decide +kernel) (by decide +kernel)
theorem w_77 : Cond.instantiable "SuccessionClerk$Survey" (8 : Nat) ∈ TT := tm 77 (by decide +kernel) (by decide +kernel)
theorem w_78 : Cond.methodLink "SuccessionClerk" (18 : Nat) ({ cls := "SuccessionClerk$Survey", name := "<init>", desc := "(LSuccessionClerk$Family;)V" } : MethodName) ∈ TT := tm 78 (by decide +kernel) (by decide +kernel)
theorem w_79 : Cond.instanceMethod ({ cls := "SuccessionClerk$Survey", name := "<init>", desc := "(LSuccessionClerk$Family;)V" } : MethodName) ∈ TT := tm 79 (by decide +kernel) (by decide +kernel)
theorem w_80 : Cond.code ({ cls := "SuccessionClerk$Survey", name := "<init>", desc := "(LSuccessionClerk$Family;)V" } : MethodName) prog_6_method_1_code (2 : Nat) (Option.none : Option FieldType) ∈ TT := tm 80 (by decide +kernel) (by decide +kernel)
theorem w_81 : Cond.methodLink "SuccessionClerk$Survey" (3 : Nat) ({ cls := "java/lang/Object", name := "<init>", desc := "()V" } : MethodName) ∈ TT := tm 81 (by decide +kernel) (by decide +kernel)
theorem w_82 : Cond.fieldLink "SuccessionClerk$Survey" (25 : Nat) "SuccessionClerk$Survey" "family" "LSuccessionClerk$Family;" ∈ TT := tm 82 (by decide +kernel) (by decide +kernel)
theorem w_83 : Cond.fieldLink "SuccessionClerk$Survey" (29 : Nat) "SuccessionClerk$Survey" "deceased" "I" ∈ TT := tm 83 (by decide +kernel) (by decide +kernel)
theorem w_84 : Cond.fieldLink "SuccessionClerk$Hotchpot" (40 : Nat) "SuccessionClerk$Survey" "deceased" "I" ∈ TT := tm 84 (by decide +kernel) (by decide +kernel)
theorem w_85 : Cond.fieldLink "SuccessionClerk$Division" (60 : Nat) "SuccessionClerk$Survey" "deceased" "I" ∈ TT := tm 85 (by decide +kernel) (by decide +kernel)
theorem w_86 : Cond.fieldLink "SuccessionClerk$Survey" (44 : Nat) "SuccessionClerk$Survey" "widowed" "I" ∈ TT := tm 86 (by decide +kernel) (by decide +kernel)
theorem w_87 : Cond.fieldLink "SuccessionClerk$Division" (110 : Nat) "SuccessionClerk$Survey" "widowed" "I" ∈ TT := tm 87 (by decide +kernel) (by decide +kernel)
theorem w_88 : Cond.fieldLink "SuccessionClerk$Division" (54 : Nat) "SuccessionClerk$Survey" "taker" "I" ∈ TT := tm 88 (by decide +kernel) (by decide +kernel)
theorem w_89 : Cond.fieldLink "SuccessionClerk$Survey" (51 : Nat) "SuccessionClerk$Survey" "taker" "I" ∈ TT := tm 89 (by decide +kernel) (by decide +kernel)
theorem w_90 : Cond.fieldLink "SuccessionClerk$Ledger" (81 : Nat) "SuccessionClerk$Survey" "taker" "I" ∈ TT := tm 90 (by decide +kernel) (by decide +kernel)
theorem w_91 : Cond.fieldLink "SuccessionClerk" (146 : Nat) "SuccessionClerk$Survey" "taker" "I" ∈ TT := tm 91 (by decide +kernel) (by decide +kernel)
theorem w_92 : Cond.fieldLink "SuccessionClerk$Survey" (9 : Nat) "SuccessionClerk$Survey" "left" "[Z" ∈ TT := tm 92 (by decide +kernel) (by decide +kernel)
theorem w_93 : Cond.fieldLink "SuccessionClerk$Division" (97 : Nat) "SuccessionClerk$Survey" "left" "[Z" ∈ TT := tm 93 (by decide +kernel) (by decide +kernel)
theorem w_94 : Cond.fieldLink "SuccessionClerk$Survey" (15 : Nat) "SuccessionClerk$Survey" "branches" "[I" ∈ TT := tm 94 (by decide +kernel) (by decide +kernel)
theorem w_95 : Cond.fieldLink "SuccessionClerk$Division" (100 : Nat) "SuccessionClerk$Survey" "branches" "[I" ∈ TT := tm 95 (by decide +kernel) (by decide +kernel)
theorem w_96 : Cond.fieldLink "SuccessionClerk$Survey" (19 : Nat) "SuccessionClerk$Survey" "lines" "[Z" ∈ TT := tm 96 (by decide +kernel) (by decide +kernel)
theorem w_97 : Cond.fieldLink "SuccessionClerk$Survey" (22 : Nat) "SuccessionClerk$Survey" "reached" "[Z" ∈ TT := tm 97 (by decide +kernel) (by decide +kernel)
theorem w_115 : Cond.arrayClass FieldType.boolean ∈ TT := tm 115 (by decide +kernel) (by decide +kernel)
theorem w_116 : Cond.classLink "SuccessionClerk" (25 : Nat) "SuccessionClerk$Division" ∈ TT := tm 116 (by decide +kernel) (by decide +kernel)
theorem w_117 : Cond.instantiable "SuccessionClerk$Division" (7 : Nat) ∈ TT := tm 117 (by decide +kernel) (by decide +kernel)
theorem w_118 : Cond.methodLink "SuccessionClerk" (27 : Nat) ({ cls := "SuccessionClerk$Division", name := "<init>", desc := "(LSuccessionClerk$Family;LSuccessionClerk$Survey;)V" } : MethodName) ∈ TT := tm 118 (by decide +kernel) (by decide +kernel)
theorem w_119 : Cond.instanceMethod ({ cls := "SuccessionClerk$Division", name := "<init>", desc := "(LSuccessionClerk$Family;LSuccessionClerk$Survey;)V" } : MethodName) ∈ TT := tm 119 (by decide +kernel) (by decide +kernel)
theorem w_120 : Cond.code ({ cls := "SuccessionClerk$Division", name := "<init>", desc := "(LSuccessionClerk$Family;LSuccessionClerk$Survey;)V" } : MethodName) prog_2_method_1_code (3 : Nat) (Option.none : Option FieldType) ∈ TT := tm 120 (by decide +kernel) (by decide +kernel)
theorem w_121 : Cond.methodLink "SuccessionClerk$Division" (3 : Nat) ({ cls := "java/lang/Object", name := "<init>", desc := "()V" } : MethodName) ∈ TT := tm 121 (by decide +kernel) (by decide +kernel)
theorem w_122 : Cond.classLink "SuccessionClerk$Division" (33 : Nat) "SuccessionClerk$Hotchpot" ∈ TT := tm 122 (by decide +kernel) (by decide +kernel)
theorem w_123 : Cond.instantiable "SuccessionClerk$Hotchpot" (6 : Nat) ∈ TT := tm 123 (by decide +kernel) (by decide +kernel)
theorem w_124 : Cond.methodLink "SuccessionClerk$Division" (35 : Nat) ({ cls := "SuccessionClerk$Hotchpot", name := "<init>", desc := "(LSuccessionClerk$Family;LSuccessionClerk$Survey;)V" } : MethodName) ∈ TT := tm 124 (by decide +kernel) (by decide +kernel)
theorem w_125 : Cond.instanceMethod ({ cls := "SuccessionClerk$Hotchpot", name := "<init>", desc := "(LSuccessionClerk$Family;LSuccessionClerk$Survey;)V" } : MethodName) ∈ TT := tm 125 (by decide +kernel) (by decide +kernel)
theorem w_126 : Cond.code ({ cls := "SuccessionClerk$Hotchpot", name := "<init>", desc := "(LSuccessionClerk$Family;LSuccessionClerk$Survey;)V" } : MethodName) prog_4_method_1_code (3 : Nat) (Option.none : Option FieldType) ∈ TT := tm 126 (by decide +kernel) (by decide +kernel)
theorem w_127 : Cond.methodLink "SuccessionClerk$Hotchpot" (3 : Nat) ({ cls := "java/lang/Object", name := "<init>", desc := "()V" } : MethodName) ∈ TT := tm 127 (by decide +kernel) (by decide +kernel)
theorem w_128 : Cond.fieldLink "SuccessionClerk$Hotchpot" (19 : Nat) "SuccessionClerk$Hotchpot" "family" "LSuccessionClerk$Family;" ∈ TT := tm 128 (by decide +kernel) (by decide +kernel)
theorem w_129 : Cond.fieldLink "SuccessionClerk$Hotchpot" (23 : Nat) "SuccessionClerk$Hotchpot" "survey" "LSuccessionClerk$Survey;" ∈ TT := tm 129 (by decide +kernel) (by decide +kernel)
theorem w_130 : Cond.fieldLink "SuccessionClerk$Hotchpot" (9 : Nat) "SuccessionClerk$Hotchpot" "in" "[Z" ∈ TT := tm 130 (by decide +kernel) (by decide +kernel)
theorem w_131 : Cond.fieldLink "SuccessionClerk$Division" (89 : Nat) "SuccessionClerk$Hotchpot" "in" "[Z" ∈ TT := tm 131 (by decide +kernel) (by decide +kernel)
theorem w_132 : Cond.fieldLink "SuccessionClerk$Hotchpot" (31 : Nat) "SuccessionClerk$Hotchpot" "size" "I" ∈ TT := tm 132 (by decide +kernel) (by decide +kernel)
theorem w_133 : Cond.fieldLink "SuccessionClerk$Division" (81 : Nat) "SuccessionClerk$Hotchpot" "size" "I" ∈ TT := tm 133 (by decide +kernel) (by decide +kernel)
theorem w_134 : Cond.fieldLink "SuccessionClerk$Hotchpot" (27 : Nat) "SuccessionClerk$Hotchpot" "amount" "J" ∈ TT := tm 134 (by decide +kernel) (by decide +kernel)
theorem w_135 : Cond.fieldLink "SuccessionClerk$Hotchpot" (15 : Nat) "SuccessionClerk$Hotchpot" "gifts" "[J" ∈ TT := tm 135 (by decide +kernel) (by decide +kernel)
theorem w_149 : Cond.arrayClass FieldType.long ∈ TT := tm 149 (by decide +kernel) (by decide +kernel)
theorem w_150 : Cond.fieldLink "SuccessionClerk$Division" (25 : Nat) "SuccessionClerk$Division" "family" "LSuccessionClerk$Family;" ∈ TT := tm 150 (by decide +kernel) (by decide +kernel)
theorem w_151 : Cond.fieldLink "SuccessionClerk$Division" (29 : Nat) "SuccessionClerk$Division" "survey" "LSuccessionClerk$Survey;" ∈ TT := tm 151 (by decide +kernel) (by decide +kernel)
theorem w_152 : Cond.fieldLink "SuccessionClerk$Division" (38 : Nat) "SuccessionClerk$Division" "hotchpot" "LSuccessionClerk$Hotchpot;" ∈ TT := tm 152 (by decide +kernel) (by decide +kernel)
theorem w_153 : Cond.fieldLink "SuccessionClerk$Division" (9 : Nat) "SuccessionClerk$Division" "takes" "[J" ∈ TT := tm 153 (by decide +kernel) (by decide +kernel)
theorem w_154 : Cond.fieldLink "SuccessionClerk$Ledger" (104 : Nat) "SuccessionClerk$Division" "takes" "[J" ∈ TT := tm 154 (by decide +kernel) (by decide +kernel)
theorem w_155 : Cond.fieldLink "SuccessionClerk$Division" (15 : Nat) "SuccessionClerk$Division" "denominator" "J" ∈ TT := tm 155 (by decide +kernel) (by decide +kernel)
theorem w_156 : Cond.fieldLink "SuccessionClerk$Ledger" (100 : Nat) "SuccessionClerk$Division" "denominator" "J" ∈ TT := tm 156 (by decide +kernel) (by decide +kernel)
theorem w_157 : Cond.fieldLink "SuccessionClerk$Division" (19 : Nat) "SuccessionClerk$Division" "parts" "[J" ∈ TT := tm 157 (by decide +kernel) (by decide +kernel)
theorem w_158 : Cond.fieldLink "SuccessionClerk$Division" (22 : Nat) "SuccessionClerk$Division" "higher" "[J" ∈ TT := tm 158 (by decide +kernel) (by decide +kernel)
theorem w_174 : Cond.classLink "SuccessionClerk" (34 : Nat) "SuccessionClerk$Ledger" ∈ TT := tm 174 (by decide +kernel) (by decide +kernel)
theorem w_175 : Cond.instantiable "SuccessionClerk$Ledger" (8 : Nat) ∈ TT := tm 175 (by decide +kernel) (by decide +kernel)
theorem w_176 : Cond.methodLink "SuccessionClerk" (36 : Nat) ({ cls := "SuccessionClerk$Ledger", name := "<init>", desc := "(LSuccessionClerk$Family;LSuccessionClerk$Survey;LSuccessionClerk$Division;)V" } : MethodName) ∈ TT := tm 176 (by decide +kernel) (by decide +kernel)
theorem w_177 : Cond.instanceMethod ({ cls := "SuccessionClerk$Ledger", name := "<init>", desc := "(LSuccessionClerk$Family;LSuccessionClerk$Survey;LSuccessionClerk$Division;)V" } : MethodName) ∈ TT := tm 177 (by decide +kernel) (by decide +kernel)
theorem w_178 : Cond.code ({ cls := "SuccessionClerk$Ledger", name := "<init>", desc := "(LSuccessionClerk$Family;LSuccessionClerk$Survey;LSuccessionClerk$Division;)V" } : MethodName) prog_5_method_1_code (4 : Nat) (Option.none : Option FieldType) ∈ TT := tm 178 (by decide +kernel) (by decide +kernel)
theorem w_179 : Cond.methodLink "SuccessionClerk$Ledger" (3 : Nat) ({ cls := "java/lang/Object", name := "<init>", desc := "()V" } : MethodName) ∈ TT := tm 179 (by decide +kernel) (by decide +kernel)
theorem w_180 : Cond.classLink "SuccessionClerk$Ledger" (9 : Nat) "[[J" ∈ TT := tm 180 (by decide +kernel) (by decide +kernel)
theorem w_182 : Cond.fieldLink "SuccessionClerk$Ledger" (30 : Nat) "SuccessionClerk$Ledger" "family" "LSuccessionClerk$Family;" ∈ TT := tm 182 (by decide +kernel) (by decide +kernel)
theorem w_183 : Cond.fieldLink "SuccessionClerk$Ledger" (34 : Nat) "SuccessionClerk$Ledger" "survey" "LSuccessionClerk$Survey;" ∈ TT := tm 183 (by decide +kernel) (by decide +kernel)
theorem w_184 : Cond.fieldLink "SuccessionClerk$Ledger" (38 : Nat) "SuccessionClerk$Ledger" "division" "LSuccessionClerk$Division;" ∈ TT := tm 184 (by decide +kernel) (by decide +kernel)
theorem w_185 : Cond.fieldLink "SuccessionClerk$Ledger" (11 : Nat) "SuccessionClerk$Ledger" "payments" "[[J" ∈ TT := tm 185 (by decide +kernel) (by decide +kernel)
theorem w_186 : Cond.fieldLink "SuccessionClerk" (155 : Nat) "SuccessionClerk$Ledger" "payments" "[[J" ∈ TT := tm 186 (by decide +kernel) (by decide +kernel)
theorem w_187 : Cond.fieldLink "SuccessionClerk$Ledger" (16 : Nat) "SuccessionClerk$Ledger" "totals" "[J" ∈ TT := tm 187 (by decide +kernel) (by decide +kernel)
theorem w_188 : Cond.fieldLink "SuccessionClerk" (162 : Nat) "SuccessionClerk$Ledger" "totals" "[J" ∈ TT := tm 188 (by decide +kernel) (by decide +kernel)
theorem w_189 : Cond.fieldLink "SuccessionClerk$Ledger" (20 : Nat) "SuccessionClerk$Ledger" "receipts" "[J" ∈ TT := tm 189 (by decide +kernel) (by decide +kernel)
theorem w_190 : Cond.fieldLink "SuccessionClerk" (166 : Nat) "SuccessionClerk$Ledger" "receipts" "[J" ∈ TT := tm 190 (by decide +kernel) (by decide +kernel)
theorem w_191 : Cond.fieldLink "SuccessionClerk$Ledger" (23 : Nat) "SuccessionClerk$Ledger" "settled" "[Z" ∈ TT := tm 191 (by decide +kernel) (by decide +kernel)
theorem w_192 : Cond.fieldLink "SuccessionClerk$Ledger" (27 : Nat) "SuccessionClerk$Ledger" "rests" "[J" ∈ TT := tm 192 (by decide +kernel) (by decide +kernel)
theorem w_210 : Cond.fieldLink "SuccessionClerk" (12 : Nat) "SuccessionClerk" "family" "LSuccessionClerk$Family;" ∈ TT := tm 210 (by decide +kernel) (by decide +kernel)
theorem w_211 : Cond.fieldLink "SuccessionClerk" (21 : Nat) "SuccessionClerk" "survey" "LSuccessionClerk$Survey;" ∈ TT := tm 211 (by decide +kernel) (by decide +kernel)
theorem w_212 : Cond.fieldLink "SuccessionClerk" (30 : Nat) "SuccessionClerk" "division" "LSuccessionClerk$Division;" ∈ TT := tm 212 (by decide +kernel) (by decide +kernel)
theorem w_213 : Cond.fieldLink "SuccessionClerk" (39 : Nat) "SuccessionClerk" "ledger" "LSuccessionClerk$Ledger;" ∈ TT := tm 213 (by decide +kernel) (by decide +kernel)
theorem w_223 : Cond.methodLink "SuccessionClerkLaw" (131 : Nat) ({ cls := "SuccessionClerk", name := "settle", desc := "()I" } : MethodName) ∈ TT := tm 223 (by decide +kernel) (by decide +kernel)
theorem w_224 : Cond.instanceMethod ({ cls := "SuccessionClerk", name := "settle", desc := "()I" } : MethodName) ∈ TT := tm 224 (by decide +kernel) (by decide +kernel)
theorem w_225 : Cond.selects "SuccessionClerk" ({ cls := "SuccessionClerk", name := "settle", desc := "()I" } : MethodName) ({ cls := "SuccessionClerk", name := "settle", desc := "()I" } : MethodName) ∈ TT := tm 225 (by decide +kernel) (by decide +kernel)
theorem w_226 : Cond.code ({ cls := "SuccessionClerk", name := "settle", desc := "()I" } : MethodName) prog_1_method_16_code (1 : Nat) (Option.some FieldType.int) ∈ TT := tm 226 (by decide +kernel) (by decide +kernel)
theorem w_227 : Cond.methodLink "SuccessionClerk" (152 : Nat) ({ cls := "SuccessionClerk$Ledger", name := "settleAll", desc := "()I" } : MethodName) ∈ TT := tm 227 (by decide +kernel) (by decide +kernel)
theorem w_228 : Cond.instanceMethod ({ cls := "SuccessionClerk$Ledger", name := "settleAll", desc := "()I" } : MethodName) ∈ TT := tm 228 (by decide +kernel) (by decide +kernel)
theorem w_229 : Cond.selects "SuccessionClerk$Ledger" ({ cls := "SuccessionClerk$Ledger", name := "settleAll", desc := "()I" } : MethodName) ({ cls := "SuccessionClerk$Ledger", name := "settleAll", desc := "()I" } : MethodName) ∈ TT := tm 229 (by decide +kernel) (by decide +kernel)
theorem w_230 : Cond.code ({ cls := "SuccessionClerk$Ledger", name := "settleAll", desc := "()I" } : MethodName) prog_5_method_2_code (4 : Nat) (Option.some FieldType.int) ∈ TT := tm 230 (by decide +kernel) (by decide +kernel)
theorem w_231 : Cond.methodLink "SuccessionClerk$Ledger" (42 : Nat) ({ cls := "SuccessionClerk$Ledger", name := "forget", desc := "()V" } : MethodName) ∈ TT := tm 231 (by decide +kernel) (by decide +kernel)
theorem w_233 : Cond.instanceMethod ({ cls := "SuccessionClerk$Ledger", name := "forget", desc := "()V" } : MethodName) ∈ TT := tm 233 (by decide +kernel) (by decide +kernel)
theorem w_234 : Cond.code ({ cls := "SuccessionClerk$Ledger", name := "forget", desc := "()V" } : MethodName) prog_5_method_3_code (2 : Nat) (Option.none : Option FieldType) ∈ TT := tm 234 (by decide +kernel) (by decide +kernel)
theorem w_235 : Cond.methodLink "SuccessionClerk$Ledger" (59 : Nat) ({ cls := "java/util/Arrays", name := "fill", desc := "([JJ)V" } : MethodName) ∈ TT := tm 235 (by decide +kernel) (by decide +kernel)
theorem w_236 : Cond.static ({ cls := "java/util/Arrays", name := "fill", desc := "([JJ)V" } : MethodName) ∈ TT := tm 236 (by decide +kernel) (by decide +kernel)
theorem w_237 : Cond.code ({ cls := "java/util/Arrays", name := "fill", desc := "([JJ)V" } : MethodName) prog_16_method_101_code (5 : Nat) (Option.none : Option FieldType) ∈ TT := tm 237 (by decide +kernel) (by decide +kernel)
theorem w_238 : Cond.methodLink "SuccessionClerk$Ledger" (51 : Nat) ({ cls := "SuccessionClerk$Ledger", name := "earliestUnsettled", desc := "()I" } : MethodName) ∈ TT := tm 238 (by decide +kernel) (by decide +kernel)
theorem w_240 : Cond.instanceMethod ({ cls := "SuccessionClerk$Ledger", name := "earliestUnsettled", desc := "()I" } : MethodName) ∈ TT := tm 240 (by decide +kernel) (by decide +kernel)
theorem w_241 : Cond.code ({ cls := "SuccessionClerk$Ledger", name := "earliestUnsettled", desc := "()I" } : MethodName) prog_5_method_4_code (3 : Nat) (Option.some FieldType.int) ∈ TT := tm 241 (by decide +kernel) (by decide +kernel)
theorem w_242 : Cond.methodLink "SuccessionClerk$Ledger" (65 : Nat) ({ cls := "SuccessionClerk$Family", name := "died", desc := "(I)Z" } : MethodName) ∈ TT := tm 242 (by decide +kernel) (by decide +kernel)
theorem w_243 : Cond.instanceMethod ({ cls := "SuccessionClerk$Family", name := "died", desc := "(I)Z" } : MethodName) ∈ TT := tm 243 (by decide +kernel) (by decide +kernel)
theorem w_244 : Cond.selects "SuccessionClerk$Family" ({ cls := "SuccessionClerk$Family", name := "died", desc := "(I)Z" } : MethodName) ({ cls := "SuccessionClerk$Family", name := "died", desc := "(I)Z" } : MethodName) ∈ TT := tm 244 (by decide +kernel) (by decide +kernel)
theorem w_245 : Cond.code ({ cls := "SuccessionClerk$Family", name := "died", desc := "(I)Z" } : MethodName) prog_3_method_3_code (2 : Nat) (Option.some FieldType.boolean) ∈ TT := tm 245 (by decide +kernel) (by decide +kernel)
theorem w_246 : Cond.methodLink "SuccessionClerk$Ledger" (55 : Nat) ({ cls := "SuccessionClerk$Ledger", name := "settleOne", desc := "(I)V" } : MethodName) ∈ TT := tm 246 (by decide +kernel) (by decide +kernel)
theorem w_248 : Cond.instanceMethod ({ cls := "SuccessionClerk$Ledger", name := "settleOne", desc := "(I)V" } : MethodName) ∈ TT := tm 248 (by decide +kernel) (by decide +kernel)
theorem w_249 : Cond.code ({ cls := "SuccessionClerk$Ledger", name := "settleOne", desc := "(I)V" } : MethodName) prog_5_method_5_code (4 : Nat) (Option.none : Option FieldType) ∈ TT := tm 249 (by decide +kernel) (by decide +kernel)
theorem w_250 : Cond.methodLink "SuccessionClerk$Ledger" (76 : Nat) ({ cls := "SuccessionClerk$Survey", name := "look", desc := "(I)V" } : MethodName) ∈ TT := tm 250 (by decide +kernel) (by decide +kernel)
theorem w_251 : Cond.instanceMethod ({ cls := "SuccessionClerk$Survey", name := "look", desc := "(I)V" } : MethodName) ∈ TT := tm 251 (by decide +kernel) (by decide +kernel)
theorem w_252 : Cond.selects "SuccessionClerk$Survey" ({ cls := "SuccessionClerk$Survey", name := "look", desc := "(I)V" } : MethodName) ({ cls := "SuccessionClerk$Survey", name := "look", desc := "(I)V" } : MethodName) ∈ TT := tm 252 (by decide +kernel) (by decide +kernel)
theorem w_253 : Cond.code ({ cls := "SuccessionClerk$Survey", name := "look", desc := "(I)V" } : MethodName) prog_6_method_2_code (3 : Nat) (Option.none : Option FieldType) ∈ TT := tm 253 (by decide +kernel) (by decide +kernel)
theorem w_254 : Cond.methodLink "SuccessionClerk$Survey" (33 : Nat) ({ cls := "SuccessionClerk$Survey", name := "findStems", desc := "()V" } : MethodName) ∈ TT := tm 254 (by decide +kernel) (by decide +kernel)
theorem w_256 : Cond.instanceMethod ({ cls := "SuccessionClerk$Survey", name := "findStems", desc := "()V" } : MethodName) ∈ TT := tm 256 (by decide +kernel) (by decide +kernel)
theorem w_257 : Cond.code ({ cls := "SuccessionClerk$Survey", name := "findStems", desc := "()V" } : MethodName) prog_6_method_5_code (3 : Nat) (Option.none : Option FieldType) ∈ TT := tm 257 (by decide +kernel) (by decide +kernel)
theorem w_258 : Cond.methodLink "SuccessionClerk$Survey" (54 : Nat) ({ cls := "java/util/Arrays", name := "fill", desc := "([II)V" } : MethodName) ∈ TT := tm 258 (by decide +kernel) (by decide +kernel)
theorem w_259 : Cond.static ({ cls := "java/util/Arrays", name := "fill", desc := "([II)V" } : MethodName) ∈ TT := tm 259 (by decide +kernel) (by decide +kernel)
theorem w_260 : Cond.code ({ cls := "java/util/Arrays", name := "fill", desc := "([II)V" } : MethodName) prog_16_method_103_code (4 : Nat) (Option.none : Option FieldType) ∈ TT := tm 260 (by decide +kernel) (by decide +kernel)
theorem w_261 : Cond.methodLink "SuccessionClerk$Survey" (63 : Nat) ({ cls := "SuccessionClerk$Family", name := "isLeft", desc := "(II)Z" } : MethodName) ∈ TT := tm 261 (by decide +kernel) (by decide +kernel)
theorem w_262 : Cond.instanceMethod ({ cls := "SuccessionClerk$Family", name := "isLeft", desc := "(II)Z" } : MethodName) ∈ TT := tm 262 (by decide +kernel) (by decide +kernel)
theorem w_263 : Cond.selects "SuccessionClerk$Family" ({ cls := "SuccessionClerk$Family", name := "isLeft", desc := "(II)Z" } : MethodName) ({ cls := "SuccessionClerk$Family", name := "isLeft", desc := "(II)Z" } : MethodName) ∈ TT := tm 263 (by decide +kernel) (by decide +kernel)
theorem w_264 : Cond.code ({ cls := "SuccessionClerk$Family", name := "isLeft", desc := "(II)Z" } : MethodName) prog_3_method_8_code (3 : Nat) (Option.some FieldType.boolean) ∈ TT := tm 264 (by decide +kernel) (by decide +kernel)
theorem w_265 : Cond.methodLink "SuccessionClerk$Family" (43 : Nat) ({ cls := "SuccessionClerk$Family", name := "isExcluded", desc := "(II)Z" } : MethodName) ∈ TT := tm 265 (by decide +kernel) (by decide +kernel)
theorem w_266 : Cond.instanceMethod ({ cls := "SuccessionClerk$Family", name := "isExcluded", desc := "(II)Z" } : MethodName) ∈ TT := tm 266 (by decide +kernel) (by decide +kernel)
theorem w_267 : Cond.selects "SuccessionClerk$Family" ({ cls := "SuccessionClerk$Family", name := "isExcluded", desc := "(II)Z" } : MethodName) ({ cls := "SuccessionClerk$Family", name := "isExcluded", desc := "(II)Z" } : MethodName) ∈ TT := tm 267 (by decide +kernel) (by decide +kernel)
theorem w_268 : Cond.code ({ cls := "SuccessionClerk$Family", name := "isExcluded", desc := "(II)Z" } : MethodName) prog_3_method_6_code (3 : Nat) (Option.some FieldType.boolean) ∈ TT := tm 268 (by decide +kernel) (by decide +kernel)
theorem w_269 : Cond.methodLink "SuccessionClerk$Family" (39 : Nat) ({ cls := "SuccessionClerk$Family", name := "died", desc := "(I)Z" } : MethodName) ∈ TT := tm 269 (by decide +kernel) (by decide +kernel)
theorem w_270 : Cond.methodLink "SuccessionClerk$Survey" (70 : Nat) ({ cls := "SuccessionClerk$Survey", name := "addBranch", desc := "(I)V" } : MethodName) ∈ TT := tm 270 (by decide +kernel) (by decide +kernel)
theorem w_272 : Cond.instanceMethod ({ cls := "SuccessionClerk$Survey", name := "addBranch", desc := "(I)V" } : MethodName) ∈ TT := tm 272 (by decide +kernel) (by decide +kernel)
theorem w_273 : Cond.code ({ cls := "SuccessionClerk$Survey", name := "addBranch", desc := "(I)V" } : MethodName) prog_6_method_6_code (2 : Nat) (Option.none : Option FieldType) ∈ TT := tm 273 (by decide +kernel) (by decide +kernel)
theorem w_274 : Cond.methodLink "SuccessionClerk$Survey" (36 : Nat) ({ cls := "SuccessionClerk$Survey", name := "findLines", desc := "()V" } : MethodName) ∈ TT := tm 274 (by decide +kernel) (by decide +kernel)
theorem w_276 : Cond.instanceMethod ({ cls := "SuccessionClerk$Survey", name := "findLines", desc := "()V" } : MethodName) ∈ TT := tm 276 (by decide +kernel) (by decide +kernel)
theorem w_277 : Cond.code ({ cls := "SuccessionClerk$Survey", name := "findLines", desc := "()V" } : MethodName) prog_6_method_7_code (3 : Nat) (Option.none : Option FieldType) ∈ TT := tm 277 (by decide +kernel) (by decide +kernel)
theorem w_278 : Cond.methodLink "SuccessionClerk$Survey" (77 : Nat) ({ cls := "SuccessionClerk$Survey", name := "hasHeirs", desc := "(II)Z" } : MethodName) ∈ TT := tm 278 (by decide +kernel) (by decide +kernel)
theorem w_279 : Cond.instanceMethod ({ cls := "SuccessionClerk$Survey", name := "hasHeirs", desc := "(II)Z" } : MethodName) ∈ TT := tm 279 (by decide +kernel) (by decide +kernel)
theorem w_280 : Cond.selects "SuccessionClerk$Survey" ({ cls := "SuccessionClerk$Survey", name := "hasHeirs", desc := "(II)Z" } : MethodName) ({ cls := "SuccessionClerk$Survey", name := "hasHeirs", desc := "(II)Z" } : MethodName) ∈ TT := tm 280 (by decide +kernel) (by decide +kernel)
theorem w_281 : Cond.code ({ cls := "SuccessionClerk$Survey", name := "hasHeirs", desc := "(II)Z" } : MethodName) prog_6_method_3_code (3 : Nat) (Option.some FieldType.boolean) ∈ TT := tm 281 (by decide +kernel) (by decide +kernel)
theorem w_282 : Cond.methodLink "SuccessionClerk$Survey" (47 : Nat) ({ cls := "SuccessionClerk$Survey", name := "findTaker", desc := "()I" } : MethodName) ∈ TT := tm 282 (by decide +kernel) (by decide +kernel)
theorem w_284 : Cond.instanceMethod ({ cls := "SuccessionClerk$Survey", name := "findTaker", desc := "()I" } : MethodName) ∈ TT := tm 284 (by decide +kernel) (by decide +kernel)
theorem w_285 : Cond.code ({ cls := "SuccessionClerk$Survey", name := "findTaker", desc := "()I" } : MethodName) prog_6_method_8_code (3 : Nat) (Option.some FieldType.int) ∈ TT := tm 285 (by decide +kernel) (by decide +kernel)
theorem w_286 : Cond.methodLink "SuccessionClerk$Ledger" (84 : Nat) ({ cls := "SuccessionClerk$Ledger", name := "pay", desc := "(IIJ)V" } : MethodName) ∈ TT := tm 286 (by decide +kernel) (by decide +kernel)
theorem w_288 : Cond.instanceMethod ({ cls := "SuccessionClerk$Ledger", name := "pay", desc := "(IIJ)V" } : MethodName) ∈ TT := tm 288 (by decide +kernel) (by decide +kernel)
theorem w_289 : Cond.code ({ cls := "SuccessionClerk$Ledger", name := "pay", desc := "(IIJ)V" } : MethodName) prog_5_method_8_code (5 : Nat) (Option.none : Option FieldType) ∈ TT := tm 289 (by decide +kernel) (by decide +kernel)
theorem w_290 : Cond.methodLink "SuccessionClerk$Ledger" (88 : Nat) ({ cls := "SuccessionClerk$Division", name := "divideWithGifts", desc := "(J)V" } : MethodName) ∈ TT := tm 290 (by decide +kernel) (by decide +kernel)
theorem w_291 : Cond.instanceMethod ({ cls := "SuccessionClerk$Division", name := "divideWithGifts", desc := "(J)V" } : MethodName) ∈ TT := tm 291 (by decide +kernel) (by decide +kernel)
theorem w_292 : Cond.selects "SuccessionClerk$Division" ({ cls := "SuccessionClerk$Division", name := "divideWithGifts", desc := "(J)V" } : MethodName) ({ cls := "SuccessionClerk$Division", name := "divideWithGifts", desc := "(J)V" } : MethodName) ∈ TT := tm 292 (by decide +kernel) (by decide +kernel)
theorem w_293 : Cond.code ({ cls := "SuccessionClerk$Division", name := "divideWithGifts", desc := "(J)V" } : MethodName) prog_2_method_3_code (8 : Nat) (Option.none : Option FieldType) ∈ TT := tm 293 (by decide +kernel) (by decide +kernel)
theorem w_294 : Cond.methodLink "SuccessionClerk$Division" (63 : Nat) ({ cls := "SuccessionClerk$Survey", name := "spouseQuarters", desc := "()I" } : MethodName) ∈ TT := tm 294 (by decide +kernel) (by decide +kernel)
theorem w_295 : Cond.instanceMethod ({ cls := "SuccessionClerk$Survey", name := "spouseQuarters", desc := "()I" } : MethodName) ∈ TT := tm 295 (by decide +kernel) (by decide +kernel)
theorem w_296 : Cond.selects "SuccessionClerk$Survey" ({ cls := "SuccessionClerk$Survey", name := "spouseQuarters", desc := "()I" } : MethodName) ({ cls := "SuccessionClerk$Survey", name := "spouseQuarters", desc := "()I" } : MethodName) ∈ TT := tm 296 (by decide +kernel) (by decide +kernel)
theorem w_297 : Cond.code ({ cls := "SuccessionClerk$Survey", name := "spouseQuarters", desc := "()I" } : MethodName) prog_6_method_4_code (1 : Nat) (Option.some FieldType.int) ∈ TT := tm 297 (by decide +kernel) (by decide +kernel)
theorem w_298 : Cond.methodLink "SuccessionClerk$Division" (74 : Nat) ({ cls := "SuccessionClerk$Hotchpot", name := "gather", desc := "(J)V" } : MethodName) ∈ TT := tm 298 (by decide +kernel) (by decide +kernel)
theorem w_299 : Cond.instanceMethod ({ cls := "SuccessionClerk$Hotchpot", name := "gather", desc := "(J)V" } : MethodName) ∈ TT := tm 299 (by decide +kernel) (by decide +kernel)
theorem w_300 : Cond.selects "SuccessionClerk$Hotchpot" ({ cls := "SuccessionClerk$Hotchpot", name := "gather", desc := "(J)V" } : MethodName) ({ cls := "SuccessionClerk$Hotchpot", name := "gather", desc := "(J)V" } : MethodName) ∈ TT := tm 300 (by decide +kernel) (by decide +kernel)
theorem w_301 : Cond.code ({ cls := "SuccessionClerk$Hotchpot", name := "gather", desc := "(J)V" } : MethodName) prog_4_method_2_code (4 : Nat) (Option.none : Option FieldType) ∈ TT := tm 301 (by decide +kernel) (by decide +kernel)
theorem w_302 : Cond.methodLink "SuccessionClerk$Hotchpot" (45 : Nat) ({ cls := "SuccessionClerk$Family", name := "isChild", desc := "(II)Z" } : MethodName) ∈ TT := tm 302 (by decide +kernel) (by decide +kernel)
theorem w_303 : Cond.instanceMethod ({ cls := "SuccessionClerk$Family", name := "isChild", desc := "(II)Z" } : MethodName) ∈ TT := tm 303 (by decide +kernel) (by decide +kernel)
theorem w_304 : Cond.selects "SuccessionClerk$Family" ({ cls := "SuccessionClerk$Family", name := "isChild", desc := "(II)Z" } : MethodName) ({ cls := "SuccessionClerk$Family", name := "isChild", desc := "(II)Z" } : MethodName) ∈ TT := tm 304 (by decide +kernel) (by decide +kernel)
theorem w_305 : Cond.code ({ cls := "SuccessionClerk$Family", name := "isChild", desc := "(II)Z" } : MethodName) prog_3_method_5_code (3 : Nat) (Option.some FieldType.boolean) ∈ TT := tm 305 (by decide +kernel) (by decide +kernel)
theorem w_306 : Cond.methodLink "SuccessionClerk$Hotchpot" (49 : Nat) ({ cls := "SuccessionClerk$Survey", name := "hasHeirs", desc := "(II)Z" } : MethodName) ∈ TT := tm 306 (by decide +kernel) (by decide +kernel)
theorem w_307 : Cond.constantLong "SuccessionClerk$Hotchpot" (52 : Nat) (4 : Int64) ∈ TT := tm 307 (by decide +kernel) (by decide +kernel)
theorem w_308 : Cond.methodLink "SuccessionClerk$Division" (78 : Nat) ({ cls := "SuccessionClerk$Hotchpot", name := "releaseThoseAbove", desc := "()V" } : MethodName) ∈ TT := tm 308 (by decide +kernel) (by decide +kernel)
theorem w_309 : Cond.instanceMethod ({ cls := "SuccessionClerk$Hotchpot", name := "releaseThoseAbove", desc := "()V" } : MethodName) ∈ TT := tm 309 (by decide +kernel) (by decide +kernel)
theorem w_310 : Cond.selects "SuccessionClerk$Hotchpot" ({ cls := "SuccessionClerk$Hotchpot", name := "releaseThoseAbove", desc := "()V" } : MethodName) ({ cls := "SuccessionClerk$Hotchpot", name := "releaseThoseAbove", desc := "()V" } : MethodName) ∈ TT := tm 310 (by decide +kernel) (by decide +kernel)
theorem w_311 : Cond.code ({ cls := "SuccessionClerk$Hotchpot", name := "releaseThoseAbove", desc := "()V" } : MethodName) prog_4_method_3_code (3 : Nat) (Option.none : Option FieldType) ∈ TT := tm 311 (by decide +kernel) (by decide +kernel)
theorem w_312 : Cond.methodLink "SuccessionClerk$Hotchpot" (57 : Nat) ({ cls := "SuccessionClerk$Hotchpot", name := "findOneAbove", desc := "()I" } : MethodName) ∈ TT := tm 312 (by decide +kernel) (by decide +kernel)
theorem w_314 : Cond.instanceMethod ({ cls := "SuccessionClerk$Hotchpot", name := "findOneAbove", desc := "()I" } : MethodName) ∈ TT := tm 314 (by decide +kernel) (by decide +kernel)
theorem w_315 : Cond.code ({ cls := "SuccessionClerk$Hotchpot", name := "findOneAbove", desc := "()I" } : MethodName) prog_4_method_4_code (2 : Nat) (Option.some FieldType.int) ∈ TT := tm 315 (by decide +kernel) (by decide +kernel)
theorem w_316 : Cond.methodLink "SuccessionClerk$Hotchpot" (61 : Nat) ({ cls := "SuccessionClerk$Hotchpot", name := "partTimesSize", desc := "(I)J" } : MethodName) ∈ TT := tm 316 (by decide +kernel) (by decide +kernel)
theorem w_317 : Cond.instanceMethod ({ cls := "SuccessionClerk$Hotchpot", name := "partTimesSize", desc := "(I)J" } : MethodName) ∈ TT := tm 317 (by decide +kernel) (by decide +kernel)
theorem w_318 : Cond.selects "SuccessionClerk$Hotchpot" ({ cls := "SuccessionClerk$Hotchpot", name := "partTimesSize", desc := "(I)J" } : MethodName) ({ cls := "SuccessionClerk$Hotchpot", name := "partTimesSize", desc := "(I)J" } : MethodName) ∈ TT := tm 318 (by decide +kernel) (by decide +kernel)
theorem w_319 : Cond.code ({ cls := "SuccessionClerk$Hotchpot", name := "partTimesSize", desc := "(I)J" } : MethodName) prog_4_method_5_code (2 : Nat) (Option.some FieldType.long) ∈ TT := tm 319 (by decide +kernel) (by decide +kernel)
theorem w_320 : Cond.methodLink "SuccessionClerk$Division" (44 : Nat) ({ cls := "SuccessionClerk$Division", name := "branchProduct", desc := "()J" } : MethodName) ∈ TT := tm 320 (by decide +kernel) (by decide +kernel)
theorem w_322 : Cond.instanceMethod ({ cls := "SuccessionClerk$Division", name := "branchProduct", desc := "()J" } : MethodName) ∈ TT := tm 322 (by decide +kernel) (by decide +kernel)
theorem w_323 : Cond.code ({ cls := "SuccessionClerk$Division", name := "branchProduct", desc := "()J" } : MethodName) prog_2_method_4_code (4 : Nat) (Option.some FieldType.long) ∈ TT := tm 323 (by decide +kernel) (by decide +kernel)
theorem w_324 : Cond.constantLong "SuccessionClerk$Division" (48 : Nat) (4 : Int64) ∈ TT := tm 324 (by decide +kernel) (by decide +kernel)
theorem w_325 : Cond.methodLink "SuccessionClerk$Division" (50 : Nat) ({ cls := "SuccessionClerk$Division", name := "startWith", desc := "(JJ)V" } : MethodName) ∈ TT := tm 325 (by decide +kernel) (by decide +kernel)
theorem w_327 : Cond.instanceMethod ({ cls := "SuccessionClerk$Division", name := "startWith", desc := "(JJ)V" } : MethodName) ∈ TT := tm 327 (by decide +kernel) (by decide +kernel)
theorem w_328 : Cond.code ({ cls := "SuccessionClerk$Division", name := "startWith", desc := "(JJ)V" } : MethodName) prog_2_method_5_code (5 : Nat) (Option.none : Option FieldType) ∈ TT := tm 328 (by decide +kernel) (by decide +kernel)
theorem w_329 : Cond.methodLink "SuccessionClerk$Division" (104 : Nat) ({ cls := "java/util/Arrays", name := "fill", desc := "([JJ)V" } : MethodName) ∈ TT := tm 329 (by decide +kernel) (by decide +kernel)
theorem w_330 : Cond.methodLink "SuccessionClerk$Division" (93 : Nat) ({ cls := "SuccessionClerk$Hotchpot", name := "partTimesSize", desc := "(I)J" } : MethodName) ∈ TT := tm 330 (by decide +kernel) (by decide +kernel)
theorem w_331 : Cond.methodLink "SuccessionClerk$Division" (71 : Nat) ({ cls := "SuccessionClerk$Division", name := "lowerParts", desc := "()V" } : MethodName) ∈ TT := tm 331 (by decide +kernel) (by decide +kernel)
theorem w_333 : Cond.instanceMethod ({ cls := "SuccessionClerk$Division", name := "lowerParts", desc := "()V" } : MethodName) ∈ TT := tm 333 (by decide +kernel) (by decide +kernel)
theorem w_334 : Cond.code ({ cls := "SuccessionClerk$Division", name := "lowerParts", desc := "()V" } : MethodName) prog_2_method_8_code (2 : Nat) (Option.none : Option FieldType) ∈ TT := tm 334 (by decide +kernel) (by decide +kernel)
theorem w_335 : Cond.methodLink "SuccessionClerk$Division" (135 : Nat) ({ cls := "SuccessionClerk$Division", name := "lowerPart", desc := "(IJ)V" } : MethodName) ∈ TT := tm 335 (by decide +kernel) (by decide +kernel)
theorem w_337 : Cond.instanceMethod ({ cls := "SuccessionClerk$Division", name := "lowerPart", desc := "(IJ)V" } : MethodName) ∈ TT := tm 337 (by decide +kernel) (by decide +kernel)
theorem w_338 : Cond.code ({ cls := "SuccessionClerk$Division", name := "lowerPart", desc := "(IJ)V" } : MethodName) prog_2_method_9_code (5 : Nat) (Option.none : Option FieldType) ∈ TT := tm 338 (by decide +kernel) (by decide +kernel)
theorem w_339 : Cond.methodLink "SuccessionClerk$Division" (139 : Nat) ({ cls := "SuccessionClerk$Family", name := "isChild", desc := "(II)Z" } : MethodName) ∈ TT := tm 339 (by decide +kernel) (by decide +kernel)
theorem w_340 : Cond.methodLink "SuccessionClerk$Division" (129 : Nat) ({ cls := "SuccessionClerk$Survey", name := "hasHeirs", desc := "(II)Z" } : MethodName) ∈ TT := tm 340 (by decide +kernel) (by decide +kernel)
theorem w_341 : Cond.methodLink "SuccessionClerk$Ledger" (94 : Nat) ({ cls := "SuccessionClerk$Division", name := "divideByShares", desc := "(J)V" } : MethodName) ∈ TT := tm 341 (by decide +kernel) (by decide +kernel)
theorem w_342 : Cond.instanceMethod ({ cls := "SuccessionClerk$Division", name := "divideByShares", desc := "(J)V" } : MethodName) ∈ TT := tm 342 (by decide +kernel) (by decide +kernel)
theorem w_343 : Cond.selects "SuccessionClerk$Division" ({ cls := "SuccessionClerk$Division", name := "divideByShares", desc := "(J)V" } : MethodName) ({ cls := "SuccessionClerk$Division", name := "divideByShares", desc := "(J)V" } : MethodName) ∈ TT := tm 343 (by decide +kernel) (by decide +kernel)
theorem w_344 : Cond.code ({ cls := "SuccessionClerk$Division", name := "divideByShares", desc := "(J)V" } : MethodName) prog_2_method_2_code (5 : Nat) (Option.none : Option FieldType) ∈ TT := tm 344 (by decide +kernel) (by decide +kernel)
theorem w_345 : Cond.constantLong "SuccessionClerk$Division" (42 : Nat) (8 : Int64) ∈ TT := tm 345 (by decide +kernel) (by decide +kernel)
theorem w_346 : Cond.methodLink "SuccessionClerk$Division" (67 : Nat) ({ cls := "SuccessionClerk$Division", name := "raiseParts", desc := "(I)V" } : MethodName) ∈ TT := tm 346 (by decide +kernel) (by decide +kernel)
theorem w_348 : Cond.instanceMethod ({ cls := "SuccessionClerk$Division", name := "raiseParts", desc := "(I)V" } : MethodName) ∈ TT := tm 348 (by decide +kernel) (by decide +kernel)
theorem w_349 : Cond.code ({ cls := "SuccessionClerk$Division", name := "raiseParts", desc := "(I)V" } : MethodName) prog_2_method_6_code (4 : Nat) (Option.none : Option FieldType) ∈ TT := tm 349 (by decide +kernel) (by decide +kernel)
theorem w_350 : Cond.methodLink "SuccessionClerk$Division" (113 : Nat) ({ cls := "SuccessionClerk$Division", name := "raisePart", desc := "(II)V" } : MethodName) ∈ TT := tm 350 (by decide +kernel) (by decide +kernel)
theorem w_352 : Cond.instanceMethod ({ cls := "SuccessionClerk$Division", name := "raisePart", desc := "(II)V" } : MethodName) ∈ TT := tm 352 (by decide +kernel) (by decide +kernel)
theorem w_353 : Cond.code ({ cls := "SuccessionClerk$Division", name := "raisePart", desc := "(II)V" } : MethodName) prog_2_method_7_code (9 : Nat) (Option.none : Option FieldType) ∈ TT := tm 353 (by decide +kernel) (by decide +kernel)
theorem w_354 : Cond.constantLong "SuccessionClerk$Division" (133 : Nat) (2 : Int64) ∈ TT := tm 354 (by decide +kernel) (by decide +kernel)
theorem w_355 : Cond.methodLink "SuccessionClerk$Division" (117 : Nat) ({ cls := "java/lang/System", name := "arraycopy", desc := "(Ljava/lang/Object;ILjava/lang/Object;II)V" } : MethodName) ∈ TT := tm 355 (by decide +kernel) (by decide +kernel)
theorem w_356 : Cond.static ({ cls := "java/lang/System", name := "arraycopy", desc := "(Ljava/lang/Object;ILjava/lang/Object;II)V" } : MethodName) ∈ TT := tm 356 (by decide +kernel) (by decide +kernel)
theorem w_357 : Cond.native ({ cls := "java/lang/System", name := "arraycopy", desc := "(Ljava/lang/Object;ILjava/lang/Object;II)V" } : MethodName) ∈ TT := tm 357 (by decide +kernel) (by decide +kernel)
theorem w_358 : Cond.methodLink "SuccessionClerk$Ledger" (97 : Nat) ({ cls := "SuccessionClerk$Ledger", name := "payDues", desc := "(I)V" } : MethodName) ∈ TT := tm 358 (by decide +kernel) (by decide +kernel)
theorem w_360 : Cond.instanceMethod ({ cls := "SuccessionClerk$Ledger", name := "payDues", desc := "(I)V" } : MethodName) ∈ TT := tm 360 (by decide +kernel) (by decide +kernel)
theorem w_361 : Cond.code ({ cls := "SuccessionClerk$Ledger", name := "payDues", desc := "(I)V" } : MethodName) prog_5_method_6_code (9 : Nat) (Option.none : Option FieldType) ∈ TT := tm 361 (by decide +kernel) (by decide +kernel)
theorem w_362 : Cond.methodLink "SuccessionClerk$Ledger" (107 : Nat) ({ cls := "SuccessionClerk$Ledger", name := "greatestRest", desc := "()I" } : MethodName) ∈ TT := tm 362 (by decide +kernel) (by decide +kernel)
theorem w_364 : Cond.instanceMethod ({ cls := "SuccessionClerk$Ledger", name := "greatestRest", desc := "()I" } : MethodName) ∈ TT := tm 364 (by decide +kernel) (by decide +kernel)
theorem w_365 : Cond.code ({ cls := "SuccessionClerk$Ledger", name := "greatestRest", desc := "()I" } : MethodName) prog_5_method_7_code (3 : Nat) (Option.some FieldType.int) ∈ TT := tm 365 (by decide +kernel) (by decide +kernel)
theorem w_366 : Cond.methodLink "SuccessionClerkLaw" (77 : Nat) ({ cls := "SuccessionClerkLaw", name := "person", desc := "(LSuccessionClerk;II[J)I" } : MethodName) ∈ TT := tm 366 (by decide +kernel) (by decide +kernel)
theorem w_367 : Cond.static ({ cls := "SuccessionClerkLaw", name := "person", desc := "(LSuccessionClerk;II[J)I" } : MethodName) ∈ TT := tm 367 (by decide +kernel) (by decide +kernel)
theorem w_368 : Cond.codeWith ({ cls := "SuccessionClerkLaw", name := "person", desc := "(LSuccessionClerk;II[J)I" } : MethodName) method_3_code (5 : Nat) (Option.some FieldType.int) [((0 : Nat), (10 : Nat), (13 : Nat), (13 : Nat)), ((0 : Nat), (10 : Nat), (17 : Nat), (15 : Nat))] ∈ TT := tm 368 (by decide +kernel) (by decide +kernel)
theorem w_369 : Cond.classLink "SuccessionClerkLaw" (13 : Nat) "java/lang/IllegalArgumentException" ∈ TT := tm 369 (by decide +kernel) (by decide +kernel)
theorem w_370 : Cond.classLink "SuccessionClerkLaw" (15 : Nat) "java/lang/IllegalStateException" ∈ TT := tm 370 (by decide +kernel) (by decide +kernel)
theorem w_371 : Cond.methodLink "SuccessionClerkLaw" (7 : Nat) ({ cls := "SuccessionClerk", name := "person", desc := "(II)I" } : MethodName) ∈ TT := tm 371 (by decide +kernel) (by decide +kernel)
theorem w_372 : Cond.instanceMethod ({ cls := "SuccessionClerk", name := "person", desc := "(II)I" } : MethodName) ∈ TT := tm 372 (by decide +kernel) (by decide +kernel)
theorem w_373 : Cond.selects "SuccessionClerk" ({ cls := "SuccessionClerk", name := "person", desc := "(II)I" } : MethodName) ({ cls := "SuccessionClerk", name := "person", desc := "(II)I" } : MethodName) ∈ TT := tm 373 (by decide +kernel) (by decide +kernel)
theorem w_374 : Cond.code ({ cls := "SuccessionClerk", name := "person", desc := "(II)I" } : MethodName) prog_1_method_2_code (3 : Nat) (Option.some FieldType.int) ∈ TT := tm 374 (by decide +kernel) (by decide +kernel)
theorem w_375 : Cond.methodLink "SuccessionClerk" (47 : Nat) ({ cls := "SuccessionClerk", name := "requireParents", desc := "(III)V" } : MethodName) ∈ TT := tm 375 (by decide +kernel) (by decide +kernel)
theorem w_376 : Cond.static ({ cls := "SuccessionClerk", name := "requireParents", desc := "(III)V" } : MethodName) ∈ TT := tm 376 (by decide +kernel) (by decide +kernel)
theorem w_377 : Cond.code ({ cls := "SuccessionClerk", name := "requireParents", desc := "(III)V" } : MethodName) prog_1_method_22_code (3 : Nat) (Option.none : Option FieldType) ∈ TT := tm 377 (by decide +kernel) (by decide +kernel)
theorem w_378 : Cond.classLink "SuccessionClerk" (73 : Nat) "java/lang/IllegalArgumentException" ∈ TT := tm 378 (by decide +kernel) (by decide +kernel)
theorem w_399 : Cond.fieldLink "java/lang/Throwable" (198 : Nat) "java/lang/Throwable" "backtrace" "Ljava/lang/Object;" ∈ TT := tm 399 (by decide +kernel) (by decide +kernel)
theorem w_431 : Cond.fieldLink "java/lang/Throwable" (198 : Nat) "java/lang/Throwable" "backtrace" "Ljava/lang/Object;" ∈ TT := tm 431 (by decide +kernel) (by decide +kernel)
theorem w_444 : Cond.arrayClass FieldType.byte ∈ TT := tm 444 (by decide +kernel) (by decide +kernel)
theorem w_446 : Cond.classLink "SuccessionClerk" (51 : Nat) "java/lang/IllegalStateException" ∈ TT := tm 446 (by decide +kernel) (by decide +kernel)
theorem w_462 : Cond.methodLink "SuccessionClerk" (58 : Nat) ({ cls := "SuccessionClerk$Family", name := "enter", desc := "(II)I" } : MethodName) ∈ TT := tm 462 (by decide +kernel) (by decide +kernel)
theorem w_463 : Cond.instanceMethod ({ cls := "SuccessionClerk$Family", name := "enter", desc := "(II)I" } : MethodName) ∈ TT := tm 463 (by decide +kernel) (by decide +kernel)
theorem w_464 : Cond.selects "SuccessionClerk$Family" ({ cls := "SuccessionClerk$Family", name := "enter", desc := "(II)I" } : MethodName) ({ cls := "SuccessionClerk$Family", name := "enter", desc := "(II)I" } : MethodName) ∈ TT := tm 464 (by decide +kernel) (by decide +kernel)
theorem w_465 : Cond.code ({ cls := "SuccessionClerk$Family", name := "enter", desc := "(II)I" } : MethodName) prog_3_method_2_code (4 : Nat) (Option.some FieldType.int) ∈ TT := tm 465 (by decide +kernel) (by decide +kernel)
theorem w_466 : Cond.methodLink "SuccessionClerkLaw" (87 : Nat) ({ cls := "SuccessionClerkLaw", name := "amend", desc := "(LSuccessionClerk;III)I" } : MethodName) ∈ TT := tm 466 (by decide +kernel) (by decide +kernel)
theorem w_467 : Cond.static ({ cls := "SuccessionClerkLaw", name := "amend", desc := "(LSuccessionClerk;III)I" } : MethodName) ∈ TT := tm 467 (by decide +kernel) (by decide +kernel)
theorem w_468 : Cond.codeWith ({ cls := "SuccessionClerkLaw", name := "amend", desc := "(LSuccessionClerk;III)I" } : MethodName) method_4_code (5 : Nat) (Option.some FieldType.int) [((0 : Nat), (7 : Nat), (10 : Nat), (13 : Nat))] ∈ TT := tm 468 (by decide +kernel) (by decide +kernel)
theorem w_469 : Cond.methodLink "SuccessionClerkLaw" (17 : Nat) ({ cls := "SuccessionClerk", name := "amend", desc := "(III)V" } : MethodName) ∈ TT := tm 469 (by decide +kernel) (by decide +kernel)
theorem w_470 : Cond.instanceMethod ({ cls := "SuccessionClerk", name := "amend", desc := "(III)V" } : MethodName) ∈ TT := tm 470 (by decide +kernel) (by decide +kernel)
theorem w_471 : Cond.selects "SuccessionClerk" ({ cls := "SuccessionClerk", name := "amend", desc := "(III)V" } : MethodName) ({ cls := "SuccessionClerk", name := "amend", desc := "(III)V" } : MethodName) ∈ TT := tm 471 (by decide +kernel) (by decide +kernel)
theorem w_472 : Cond.code ({ cls := "SuccessionClerk", name := "amend", desc := "(III)V" } : MethodName) prog_1_method_3_code (4 : Nat) (Option.none : Option FieldType) ∈ TT := tm 472 (by decide +kernel) (by decide +kernel)
theorem w_473 : Cond.methodLink "SuccessionClerk" (62 : Nat) ({ cls := "SuccessionClerk", name := "requirePerson", desc := "(I)V" } : MethodName) ∈ TT := tm 473 (by decide +kernel) (by decide +kernel)
theorem w_475 : Cond.instanceMethod ({ cls := "SuccessionClerk", name := "requirePerson", desc := "(I)V" } : MethodName) ∈ TT := tm 475 (by decide +kernel) (by decide +kernel)
theorem w_476 : Cond.code ({ cls := "SuccessionClerk", name := "requirePerson", desc := "(I)V" } : MethodName) prog_1_method_20_code (2 : Nat) (Option.none : Option FieldType) ∈ TT := tm 476 (by decide +kernel) (by decide +kernel)
theorem w_478 : Cond.methodLink "SuccessionClerkLaw" (91 : Nat) ({ cls := "SuccessionClerkLaw", name := "marry", desc := "(LSuccessionClerk;II)I" } : MethodName) ∈ TT := tm 478 (by decide +kernel) (by decide +kernel)
theorem w_479 : Cond.static ({ cls := "SuccessionClerkLaw", name := "marry", desc := "(LSuccessionClerk;II)I" } : MethodName) ∈ TT := tm 479 (by decide +kernel) (by decide +kernel)
theorem w_480 : Cond.codeWith ({ cls := "SuccessionClerkLaw", name := "marry", desc := "(LSuccessionClerk;II)I" } : MethodName) method_5_code (4 : Nat) (Option.some FieldType.int) [((0 : Nat), (6 : Nat), (9 : Nat), (13 : Nat)), ((0 : Nat), (6 : Nat), (12 : Nat), (15 : Nat))] ∈ TT := tm 480 (by decide +kernel) (by decide +kernel)
theorem w_481 : Cond.methodLink "SuccessionClerkLaw" (21 : Nat) ({ cls := "SuccessionClerk", name := "marry", desc := "(II)V" } : MethodName) ∈ TT := tm 481 (by decide +kernel) (by decide +kernel)
theorem w_482 : Cond.instanceMethod ({ cls := "SuccessionClerk", name := "marry", desc := "(II)V" } : MethodName) ∈ TT := tm 482 (by decide +kernel) (by decide +kernel)
theorem w_483 : Cond.selects "SuccessionClerk" ({ cls := "SuccessionClerk", name := "marry", desc := "(II)V" } : MethodName) ({ cls := "SuccessionClerk", name := "marry", desc := "(II)V" } : MethodName) ∈ TT := tm 483 (by decide +kernel) (by decide +kernel)
theorem w_484 : Cond.code ({ cls := "SuccessionClerk", name := "marry", desc := "(II)V" } : MethodName) prog_1_method_4_code (3 : Nat) (Option.none : Option FieldType) ∈ TT := tm 484 (by decide +kernel) (by decide +kernel)
theorem w_486 : Cond.methodLink "SuccessionClerk" (78 : Nat) ({ cls := "SuccessionClerk$Family", name := "isFree", desc := "(I)Z" } : MethodName) ∈ TT := tm 486 (by decide +kernel) (by decide +kernel)
theorem w_487 : Cond.instanceMethod ({ cls := "SuccessionClerk$Family", name := "isFree", desc := "(I)Z" } : MethodName) ∈ TT := tm 487 (by decide +kernel) (by decide +kernel)
theorem w_488 : Cond.selects "SuccessionClerk$Family" ({ cls := "SuccessionClerk$Family", name := "isFree", desc := "(I)Z" } : MethodName) ({ cls := "SuccessionClerk$Family", name := "isFree", desc := "(I)Z" } : MethodName) ∈ TT := tm 488 (by decide +kernel) (by decide +kernel)
theorem w_489 : Cond.code ({ cls := "SuccessionClerk$Family", name := "isFree", desc := "(I)Z" } : MethodName) prog_3_method_4_code (2 : Nat) (Option.some FieldType.boolean) ∈ TT := tm 489 (by decide +kernel) (by decide +kernel)
theorem w_491 : Cond.methodLink "SuccessionClerkLaw" (95 : Nat) ({ cls := "SuccessionClerkLaw", name := "divorce", desc := "(LSuccessionClerk;I[J)I" } : MethodName) ∈ TT := tm 491 (by decide +kernel) (by decide +kernel)
theorem w_492 : Cond.static ({ cls := "SuccessionClerkLaw", name := "divorce", desc := "(LSuccessionClerk;I[J)I" } : MethodName) ∈ TT := tm 492 (by decide +kernel) (by decide +kernel)
theorem w_493 : Cond.codeWith ({ cls := "SuccessionClerkLaw", name := "divorce", desc := "(LSuccessionClerk;I[J)I" } : MethodName) method_6_code (4 : Nat) (Option.some FieldType.int) [((0 : Nat), (16 : Nat), (19 : Nat), (13 : Nat))] ∈ TT := tm 493 (by decide +kernel) (by decide +kernel)
theorem w_494 : Cond.methodLink "SuccessionClerkLaw" (25 : Nat) ({ cls := "SuccessionClerk", name := "divorce", desc := "(I)Z" } : MethodName) ∈ TT := tm 494 (by decide +kernel) (by decide +kernel)
theorem w_495 : Cond.instanceMethod ({ cls := "SuccessionClerk", name := "divorce", desc := "(I)Z" } : MethodName) ∈ TT := tm 495 (by decide +kernel) (by decide +kernel)
theorem w_496 : Cond.selects "SuccessionClerk" ({ cls := "SuccessionClerk", name := "divorce", desc := "(I)Z" } : MethodName) ({ cls := "SuccessionClerk", name := "divorce", desc := "(I)Z" } : MethodName) ∈ TT := tm 496 (by decide +kernel) (by decide +kernel)
theorem w_497 : Cond.code ({ cls := "SuccessionClerk", name := "divorce", desc := "(I)Z" } : MethodName) prog_1_method_5_code (3 : Nat) (Option.some FieldType.boolean) ∈ TT := tm 497 (by decide +kernel) (by decide +kernel)
theorem w_498 : Cond.methodLink "SuccessionClerk" (87 : Nat) ({ cls := "SuccessionClerk$Family", name := "died", desc := "(I)Z" } : MethodName) ∈ TT := tm 498 (by decide +kernel) (by decide +kernel)
theorem w_499 : Cond.methodLink "SuccessionClerkLaw" (99 : Nat) ({ cls := "SuccessionClerkLaw", name := "spouse", desc := "(LSuccessionClerk;I[J)I" } : MethodName) ∈ TT := tm 499 (by decide +kernel) (by decide +kernel)
theorem w_500 : Cond.static ({ cls := "SuccessionClerkLaw", name := "spouse", desc := "(LSuccessionClerk;I[J)I" } : MethodName) ∈ TT := tm 500 (by decide +kernel) (by decide +kernel)
theorem w_501 : Cond.codeWith ({ cls := "SuccessionClerkLaw", name := "spouse", desc := "(LSuccessionClerk;I[J)I" } : MethodName) method_7_code (4 : Nat) (Option.some FieldType.int) [((0 : Nat), (9 : Nat), (12 : Nat), (13 : Nat))] ∈ TT := tm 501 (by decide +kernel) (by decide +kernel)
theorem w_502 : Cond.methodLink "SuccessionClerkLaw" (29 : Nat) ({ cls := "SuccessionClerk", name := "spouse", desc := "(I)I" } : MethodName) ∈ TT := tm 502 (by decide +kernel) (by decide +kernel)
theorem w_503 : Cond.instanceMethod ({ cls := "SuccessionClerk", name := "spouse", desc := "(I)I" } : MethodName) ∈ TT := tm 503 (by decide +kernel) (by decide +kernel)
theorem w_504 : Cond.selects "SuccessionClerk" ({ cls := "SuccessionClerk", name := "spouse", desc := "(I)I" } : MethodName) ({ cls := "SuccessionClerk", name := "spouse", desc := "(I)I" } : MethodName) ∈ TT := tm 504 (by decide +kernel) (by decide +kernel)
theorem w_505 : Cond.code ({ cls := "SuccessionClerk", name := "spouse", desc := "(I)I" } : MethodName) prog_1_method_6_code (2 : Nat) (Option.some FieldType.int) ∈ TT := tm 505 (by decide +kernel) (by decide +kernel)
theorem w_506 : Cond.methodLink "SuccessionClerkLaw" (102 : Nat) ({ cls := "SuccessionClerkLaw", name := "dies", desc := "(LSuccessionClerk;II)I" } : MethodName) ∈ TT := tm 506 (by decide +kernel) (by decide +kernel)
theorem w_507 : Cond.static ({ cls := "SuccessionClerkLaw", name := "dies", desc := "(LSuccessionClerk;II)I" } : MethodName) ∈ TT := tm 507 (by decide +kernel) (by decide +kernel)
theorem w_508 : Cond.codeWith ({ cls := "SuccessionClerkLaw", name := "dies", desc := "(LSuccessionClerk;II)I" } : MethodName) method_8_code (4 : Nat) (Option.some FieldType.int) [((0 : Nat), (6 : Nat), (9 : Nat), (13 : Nat)), ((0 : Nat), (6 : Nat), (12 : Nat), (15 : Nat))] ∈ TT := tm 508 (by decide +kernel) (by decide +kernel)
theorem w_509 : Cond.methodLink "SuccessionClerkLaw" (33 : Nat) ({ cls := "SuccessionClerk", name := "dies", desc := "(II)V" } : MethodName) ∈ TT := tm 509 (by decide +kernel) (by decide +kernel)
theorem w_510 : Cond.instanceMethod ({ cls := "SuccessionClerk", name := "dies", desc := "(II)V" } : MethodName) ∈ TT := tm 510 (by decide +kernel) (by decide +kernel)
theorem w_511 : Cond.selects "SuccessionClerk" ({ cls := "SuccessionClerk", name := "dies", desc := "(II)V" } : MethodName) ({ cls := "SuccessionClerk", name := "dies", desc := "(II)V" } : MethodName) ∈ TT := tm 511 (by decide +kernel) (by decide +kernel)
theorem w_512 : Cond.code ({ cls := "SuccessionClerk", name := "dies", desc := "(II)V" } : MethodName) prog_1_method_7_code (3 : Nat) (Option.none : Option FieldType) ∈ TT := tm 512 (by decide +kernel) (by decide +kernel)
theorem w_515 : Cond.methodLink "SuccessionClerkLaw" (105 : Nat) ({ cls := "SuccessionClerkLaw", name := "exclude", desc := "(LSuccessionClerk;IIZ[J)I" } : MethodName) ∈ TT := tm 515 (by decide +kernel) (by decide +kernel)
theorem w_516 : Cond.static ({ cls := "SuccessionClerkLaw", name := "exclude", desc := "(LSuccessionClerk;IIZ[J)I" } : MethodName) ∈ TT := tm 516 (by decide +kernel) (by decide +kernel)
theorem w_517 : Cond.codeWith ({ cls := "SuccessionClerkLaw", name := "exclude", desc := "(LSuccessionClerk;IIZ[J)I" } : MethodName) method_9_code (6 : Nat) (Option.some FieldType.int) [((0 : Nat), (19 : Nat), (22 : Nat), (13 : Nat))] ∈ TT := tm 517 (by decide +kernel) (by decide +kernel)
theorem w_518 : Cond.methodLink "SuccessionClerkLaw" (36 : Nat) ({ cls := "SuccessionClerk", name := "exclude", desc := "(IIZ)Z" } : MethodName) ∈ TT := tm 518 (by decide +kernel) (by decide +kernel)
theorem w_519 : Cond.instanceMethod ({ cls := "SuccessionClerk", name := "exclude", desc := "(IIZ)Z" } : MethodName) ∈ TT := tm 519 (by decide +kernel) (by decide +kernel)
theorem w_520 : Cond.selects "SuccessionClerk" ({ cls := "SuccessionClerk", name := "exclude", desc := "(IIZ)Z" } : MethodName) ({ cls := "SuccessionClerk", name := "exclude", desc := "(IIZ)Z" } : MethodName) ∈ TT := tm 520 (by decide +kernel) (by decide +kernel)
theorem w_521 : Cond.code ({ cls := "SuccessionClerk", name := "exclude", desc := "(IIZ)Z" } : MethodName) prog_1_method_8_code (4 : Nat) (Option.some FieldType.boolean) ∈ TT := tm 521 (by decide +kernel) (by decide +kernel)
theorem w_522 : Cond.methodLink "SuccessionClerk" (97 : Nat) ({ cls := "SuccessionClerk$Family", name := "isExcluded", desc := "(II)Z" } : MethodName) ∈ TT := tm 522 (by decide +kernel) (by decide +kernel)
theorem w_523 : Cond.methodLink "SuccessionClerk" (101 : Nat) ({ cls := "SuccessionClerk$Family", name := "setExcluded", desc := "(IIZ)V" } : MethodName) ∈ TT := tm 523 (by decide +kernel) (by decide +kernel)
theorem w_524 : Cond.instanceMethod ({ cls := "SuccessionClerk$Family", name := "setExcluded", desc := "(IIZ)V" } : MethodName) ∈ TT := tm 524 (by decide +kernel) (by decide +kernel)
theorem w_525 : Cond.selects "SuccessionClerk$Family" ({ cls := "SuccessionClerk$Family", name := "setExcluded", desc := "(IIZ)V" } : MethodName) ({ cls := "SuccessionClerk$Family", name := "setExcluded", desc := "(IIZ)V" } : MethodName) ∈ TT := tm 525 (by decide +kernel) (by decide +kernel)
theorem w_526 : Cond.code ({ cls := "SuccessionClerk$Family", name := "setExcluded", desc := "(IIZ)V" } : MethodName) prog_3_method_7_code (4 : Nat) (Option.none : Option FieldType) ∈ TT := tm 526 (by decide +kernel) (by decide +kernel)
theorem w_527 : Cond.methodLink "SuccessionClerkLaw" (109 : Nat) ({ cls := "SuccessionClerkLaw", name := "gift", desc := "(LSuccessionClerk;III[J)I" } : MethodName) ∈ TT := tm 527 (by decide +kernel) (by decide +kernel)
theorem w_528 : Cond.static ({ cls := "SuccessionClerkLaw", name := "gift", desc := "(LSuccessionClerk;III[J)I" } : MethodName) ∈ TT := tm 528 (by decide +kernel) (by decide +kernel)
theorem w_529 : Cond.codeWith ({ cls := "SuccessionClerkLaw", name := "gift", desc := "(LSuccessionClerk;III[J)I" } : MethodName) method_10_code (6 : Nat) (Option.some FieldType.int) [((0 : Nat), (12 : Nat), (15 : Nat), (13 : Nat)), ((0 : Nat), (12 : Nat), (19 : Nat), (15 : Nat))] ∈ TT := tm 529 (by decide +kernel) (by decide +kernel)
theorem w_530 : Cond.methodLink "SuccessionClerkLaw" (40 : Nat) ({ cls := "SuccessionClerk", name := "gift", desc := "(III)I" } : MethodName) ∈ TT := tm 530 (by decide +kernel) (by decide +kernel)
theorem w_531 : Cond.instanceMethod ({ cls := "SuccessionClerk", name := "gift", desc := "(III)I" } : MethodName) ∈ TT := tm 531 (by decide +kernel) (by decide +kernel)
theorem w_532 : Cond.selects "SuccessionClerk" ({ cls := "SuccessionClerk", name := "gift", desc := "(III)I" } : MethodName) ({ cls := "SuccessionClerk", name := "gift", desc := "(III)I" } : MethodName) ∈ TT := tm 532 (by decide +kernel) (by decide +kernel)
theorem w_533 : Cond.code ({ cls := "SuccessionClerk", name := "gift", desc := "(III)I" } : MethodName) prog_1_method_9_code (5 : Nat) (Option.some FieldType.int) ∈ TT := tm 533 (by decide +kernel) (by decide +kernel)
theorem w_534 : Cond.methodLink "SuccessionClerk" (105 : Nat) ({ cls := "SuccessionClerk$Family", name := "isChild", desc := "(II)Z" } : MethodName) ∈ TT := tm 534 (by decide +kernel) (by decide +kernel)
theorem w_536 : Cond.constant "SuccessionClerk" (110 : Nat) (1000000 : Int32) ∈ TT := tm 536 (by decide +kernel) (by decide +kernel)
theorem w_539 : Cond.methodLink "SuccessionClerkLaw" (113 : Nat) ({ cls := "SuccessionClerkLaw", name := "estate", desc := "(LSuccessionClerk;II)I" } : MethodName) ∈ TT := tm 539 (by decide +kernel) (by decide +kernel)
theorem w_540 : Cond.static ({ cls := "SuccessionClerkLaw", name := "estate", desc := "(LSuccessionClerk;II)I" } : MethodName) ∈ TT := tm 540 (by decide +kernel) (by decide +kernel)
theorem w_541 : Cond.codeWith ({ cls := "SuccessionClerkLaw", name := "estate", desc := "(LSuccessionClerk;II)I" } : MethodName) method_11_code (4 : Nat) (Option.some FieldType.int) [((0 : Nat), (6 : Nat), (9 : Nat), (13 : Nat))] ∈ TT := tm 541 (by decide +kernel) (by decide +kernel)
theorem w_542 : Cond.methodLink "SuccessionClerkLaw" (44 : Nat) ({ cls := "SuccessionClerk", name := "estate", desc := "(II)V" } : MethodName) ∈ TT := tm 542 (by decide +kernel) (by decide +kernel)
theorem w_543 : Cond.instanceMethod ({ cls := "SuccessionClerk", name := "estate", desc := "(II)V" } : MethodName) ∈ TT := tm 543 (by decide +kernel) (by decide +kernel)
theorem w_544 : Cond.selects "SuccessionClerk" ({ cls := "SuccessionClerk", name := "estate", desc := "(II)V" } : MethodName) ({ cls := "SuccessionClerk", name := "estate", desc := "(II)V" } : MethodName) ∈ TT := tm 544 (by decide +kernel) (by decide +kernel)
theorem w_545 : Cond.code ({ cls := "SuccessionClerk", name := "estate", desc := "(II)V" } : MethodName) prog_1_method_10_code (3 : Nat) (Option.none : Option FieldType) ∈ TT := tm 545 (by decide +kernel) (by decide +kernel)
theorem w_547 : Cond.methodLink "SuccessionClerkLaw" (116 : Nat) ({ cls := "SuccessionClerkLaw", name := "heirs", desc := "(LSuccessionClerk;I[J)I" } : MethodName) ∈ TT := tm 547 (by decide +kernel) (by decide +kernel)
theorem w_548 : Cond.static ({ cls := "SuccessionClerkLaw", name := "heirs", desc := "(LSuccessionClerk;I[J)I" } : MethodName) ∈ TT := tm 548 (by decide +kernel) (by decide +kernel)
theorem w_549 : Cond.codeWith ({ cls := "SuccessionClerkLaw", name := "heirs", desc := "(LSuccessionClerk;I[J)I" } : MethodName) method_12_code (4 : Nat) (Option.some FieldType.int) [((0 : Nat), (9 : Nat), (12 : Nat), (13 : Nat)), ((0 : Nat), (9 : Nat), (15 : Nat), (15 : Nat))] ∈ TT := tm 549 (by decide +kernel) (by decide +kernel)
theorem w_550 : Cond.methodLink "SuccessionClerkLaw" (47 : Nat) ({ cls := "SuccessionClerk", name := "heirs", desc := "(I)I" } : MethodName) ∈ TT := tm 550 (by decide +kernel) (by decide +kernel)
theorem w_551 : Cond.instanceMethod ({ cls := "SuccessionClerk", name := "heirs", desc := "(I)I" } : MethodName) ∈ TT := tm 551 (by decide +kernel) (by decide +kernel)
theorem w_552 : Cond.selects "SuccessionClerk" ({ cls := "SuccessionClerk", name := "heirs", desc := "(I)I" } : MethodName) ({ cls := "SuccessionClerk", name := "heirs", desc := "(I)I" } : MethodName) ∈ TT := tm 552 (by decide +kernel) (by decide +kernel)
theorem w_553 : Cond.code ({ cls := "SuccessionClerk", name := "heirs", desc := "(I)I" } : MethodName) prog_1_method_11_code (2 : Nat) (Option.some FieldType.int) ∈ TT := tm 553 (by decide +kernel) (by decide +kernel)
theorem w_554 : Cond.methodLink "SuccessionClerk" (124 : Nat) ({ cls := "SuccessionClerk", name := "requireDead", desc := "(I)V" } : MethodName) ∈ TT := tm 554 (by decide +kernel) (by decide +kernel)
theorem w_556 : Cond.instanceMethod ({ cls := "SuccessionClerk", name := "requireDead", desc := "(I)V" } : MethodName) ∈ TT := tm 556 (by decide +kernel) (by decide +kernel)
theorem w_557 : Cond.code ({ cls := "SuccessionClerk", name := "requireDead", desc := "(I)V" } : MethodName) prog_1_method_21_code (2 : Nat) (Option.none : Option FieldType) ∈ TT := tm 557 (by decide +kernel) (by decide +kernel)
theorem w_559 : Cond.methodLink "SuccessionClerk" (127 : Nat) ({ cls := "SuccessionClerk$Survey", name := "look", desc := "(I)V" } : MethodName) ∈ TT := tm 559 (by decide +kernel) (by decide +kernel)
theorem w_560 : Cond.methodLink "SuccessionClerk" (130 : Nat) ({ cls := "SuccessionClerk$Division", name := "divideByShares", desc := "(J)V" } : MethodName) ∈ TT := tm 560 (by decide +kernel) (by decide +kernel)
theorem w_561 : Cond.methodLink "SuccessionClerk" (134 : Nat) ({ cls := "SuccessionClerk$Division", name := "countTakers", desc := "()I" } : MethodName) ∈ TT := tm 561 (by decide +kernel) (by decide +kernel)
theorem w_562 : Cond.instanceMethod ({ cls := "SuccessionClerk$Division", name := "countTakers", desc := "()I" } : MethodName) ∈ TT := tm 562 (by decide +kernel) (by decide +kernel)
theorem w_563 : Cond.selects "SuccessionClerk$Division" ({ cls := "SuccessionClerk$Division", name := "countTakers", desc := "()I" } : MethodName) ({ cls := "SuccessionClerk$Division", name := "countTakers", desc := "()I" } : MethodName) ∈ TT := tm 563 (by decide +kernel) (by decide +kernel)
theorem w_564 : Cond.code ({ cls := "SuccessionClerk$Division", name := "countTakers", desc := "()I" } : MethodName) prog_2_method_10_code (3 : Nat) (Option.some FieldType.int) ∈ TT := tm 564 (by decide +kernel) (by decide +kernel)
theorem w_565 : Cond.methodLink "SuccessionClerkLaw" (119 : Nat) ({ cls := "SuccessionClerkLaw", name := "heir", desc := "(LSuccessionClerk;II[J)I" } : MethodName) ∈ TT := tm 565 (by decide +kernel) (by decide +kernel)
theorem w_566 : Cond.static ({ cls := "SuccessionClerkLaw", name := "heir", desc := "(LSuccessionClerk;II[J)I" } : MethodName) ∈ TT := tm 566 (by decide +kernel) (by decide +kernel)
theorem w_567 : Cond.codeWith ({ cls := "SuccessionClerkLaw", name := "heir", desc := "(LSuccessionClerk;II[J)I" } : MethodName) method_13_code (5 : Nat) (Option.some FieldType.int) [((0 : Nat), (10 : Nat), (13 : Nat), (13 : Nat)), ((0 : Nat), (10 : Nat), (17 : Nat), (15 : Nat))] ∈ TT := tm 567 (by decide +kernel) (by decide +kernel)
theorem w_568 : Cond.methodLink "SuccessionClerkLaw" (50 : Nat) ({ cls := "SuccessionClerk", name := "heir", desc := "(II)I" } : MethodName) ∈ TT := tm 568 (by decide +kernel) (by decide +kernel)
theorem w_569 : Cond.instanceMethod ({ cls := "SuccessionClerk", name := "heir", desc := "(II)I" } : MethodName) ∈ TT := tm 569 (by decide +kernel) (by decide +kernel)
theorem w_570 : Cond.selects "SuccessionClerk" ({ cls := "SuccessionClerk", name := "heir", desc := "(II)I" } : MethodName) ({ cls := "SuccessionClerk", name := "heir", desc := "(II)I" } : MethodName) ∈ TT := tm 570 (by decide +kernel) (by decide +kernel)
theorem w_571 : Cond.code ({ cls := "SuccessionClerk", name := "heir", desc := "(II)I" } : MethodName) prog_1_method_12_code (3 : Nat) (Option.some FieldType.int) ∈ TT := tm 571 (by decide +kernel) (by decide +kernel)
theorem w_572 : Cond.methodLink "SuccessionClerk" (138 : Nat) ({ cls := "SuccessionClerk$Division", name := "takerAt", desc := "(I)I" } : MethodName) ∈ TT := tm 572 (by decide +kernel) (by decide +kernel)
theorem w_573 : Cond.instanceMethod ({ cls := "SuccessionClerk$Division", name := "takerAt", desc := "(I)I" } : MethodName) ∈ TT := tm 573 (by decide +kernel) (by decide +kernel)
theorem w_574 : Cond.selects "SuccessionClerk$Division" ({ cls := "SuccessionClerk$Division", name := "takerAt", desc := "(I)I" } : MethodName) ({ cls := "SuccessionClerk$Division", name := "takerAt", desc := "(I)I" } : MethodName) ∈ TT := tm 574 (by decide +kernel) (by decide +kernel)
theorem w_575 : Cond.code ({ cls := "SuccessionClerk$Division", name := "takerAt", desc := "(I)I" } : MethodName) prog_2_method_11_code (4 : Nat) (Option.some FieldType.int) ∈ TT := tm 575 (by decide +kernel) (by decide +kernel)
theorem w_576 : Cond.methodLink "SuccessionClerkLaw" (122 : Nat) ({ cls := "SuccessionClerkLaw", name := "share", desc := "(LSuccessionClerk;II[J)I" } : MethodName) ∈ TT := tm 576 (by decide +kernel) (by decide +kernel)
theorem w_577 : Cond.static ({ cls := "SuccessionClerkLaw", name := "share", desc := "(LSuccessionClerk;II[J)I" } : MethodName) ∈ TT := tm 577 (by decide +kernel) (by decide +kernel)
theorem w_578 : Cond.codeWith ({ cls := "SuccessionClerkLaw", name := "share", desc := "(LSuccessionClerk;II[J)I" } : MethodName) method_14_code (5 : Nat) (Option.some FieldType.int) [((0 : Nat), (9 : Nat), (12 : Nat), (13 : Nat)), ((0 : Nat), (9 : Nat), (16 : Nat), (15 : Nat))] ∈ TT := tm 578 (by decide +kernel) (by decide +kernel)
theorem w_579 : Cond.methodLink "SuccessionClerkLaw" (53 : Nat) ({ cls := "SuccessionClerk", name := "share", desc := "(II)J" } : MethodName) ∈ TT := tm 579 (by decide +kernel) (by decide +kernel)
theorem w_580 : Cond.instanceMethod ({ cls := "SuccessionClerk", name := "share", desc := "(II)J" } : MethodName) ∈ TT := tm 580 (by decide +kernel) (by decide +kernel)
theorem w_581 : Cond.selects "SuccessionClerk" ({ cls := "SuccessionClerk", name := "share", desc := "(II)J" } : MethodName) ({ cls := "SuccessionClerk", name := "share", desc := "(II)J" } : MethodName) ∈ TT := tm 581 (by decide +kernel) (by decide +kernel)
theorem w_582 : Cond.code ({ cls := "SuccessionClerk", name := "share", desc := "(II)J" } : MethodName) prog_1_method_13_code (3 : Nat) (Option.some FieldType.long) ∈ TT := tm 582 (by decide +kernel) (by decide +kernel)
theorem w_583 : Cond.methodLink "SuccessionClerk" (142 : Nat) ({ cls := "SuccessionClerk$Division", name := "inLowestTerms", desc := "(I)J" } : MethodName) ∈ TT := tm 583 (by decide +kernel) (by decide +kernel)
theorem w_584 : Cond.instanceMethod ({ cls := "SuccessionClerk$Division", name := "inLowestTerms", desc := "(I)J" } : MethodName) ∈ TT := tm 584 (by decide +kernel) (by decide +kernel)
theorem w_585 : Cond.selects "SuccessionClerk$Division" ({ cls := "SuccessionClerk$Division", name := "inLowestTerms", desc := "(I)J" } : MethodName) ({ cls := "SuccessionClerk$Division", name := "inLowestTerms", desc := "(I)J" } : MethodName) ∈ TT := tm 585 (by decide +kernel) (by decide +kernel)
theorem w_586 : Cond.code ({ cls := "SuccessionClerk$Division", name := "inLowestTerms", desc := "(I)J" } : MethodName) prog_2_method_12_code (4 : Nat) (Option.some FieldType.long) ∈ TT := tm 586 (by decide +kernel) (by decide +kernel)
theorem w_587 : Cond.methodLink "SuccessionClerk$Division" (142 : Nat) ({ cls := "SuccessionClerk$Division", name := "commonDivisor", desc := "(JJ)J" } : MethodName) ∈ TT := tm 587 (by decide +kernel) (by decide +kernel)
theorem w_588 : Cond.static ({ cls := "SuccessionClerk$Division", name := "commonDivisor", desc := "(JJ)J" } : MethodName) ∈ TT := tm 588 (by decide +kernel) (by decide +kernel)
theorem w_589 : Cond.code ({ cls := "SuccessionClerk$Division", name := "commonDivisor", desc := "(JJ)J" } : MethodName) prog_2_method_13_code (11 : Nat) (Option.some FieldType.long) ∈ TT := tm 589 (by decide +kernel) (by decide +kernel)
theorem w_590 : Cond.methodLink "SuccessionClerkLaw" (125 : Nat) ({ cls := "SuccessionClerkLaw", name := "order", desc := "(LSuccessionClerk;I[J)I" } : MethodName) ∈ TT := tm 590 (by decide +kernel) (by decide +kernel)
theorem w_591 : Cond.static ({ cls := "SuccessionClerkLaw", name := "order", desc := "(LSuccessionClerk;I[J)I" } : MethodName) ∈ TT := tm 591 (by decide +kernel) (by decide +kernel)
theorem w_592 : Cond.codeWith ({ cls := "SuccessionClerkLaw", name := "order", desc := "(LSuccessionClerk;I[J)I" } : MethodName) method_15_code (4 : Nat) (Option.some FieldType.int) [((0 : Nat), (9 : Nat), (12 : Nat), (13 : Nat)), ((0 : Nat), (9 : Nat), (15 : Nat), (15 : Nat))] ∈ TT := tm 592 (by decide +kernel) (by decide +kernel)
theorem w_593 : Cond.methodLink "SuccessionClerkLaw" (57 : Nat) ({ cls := "SuccessionClerk", name := "order", desc := "(I)I" } : MethodName) ∈ TT := tm 593 (by decide +kernel) (by decide +kernel)
theorem w_594 : Cond.instanceMethod ({ cls := "SuccessionClerk", name := "order", desc := "(I)I" } : MethodName) ∈ TT := tm 594 (by decide +kernel) (by decide +kernel)
theorem w_595 : Cond.selects "SuccessionClerk" ({ cls := "SuccessionClerk", name := "order", desc := "(I)I" } : MethodName) ({ cls := "SuccessionClerk", name := "order", desc := "(I)I" } : MethodName) ∈ TT := tm 595 (by decide +kernel) (by decide +kernel)
theorem w_596 : Cond.code ({ cls := "SuccessionClerk", name := "order", desc := "(I)I" } : MethodName) prog_1_method_14_code (2 : Nat) (Option.some FieldType.int) ∈ TT := tm 596 (by decide +kernel) (by decide +kernel)
theorem w_597 : Cond.methodLink "SuccessionClerkLaw" (128 : Nat) ({ cls := "SuccessionClerkLaw", name := "stem", desc := "(LSuccessionClerk;II[J)I" } : MethodName) ∈ TT := tm 597 (by decide +kernel) (by decide +kernel)
theorem w_598 : Cond.static ({ cls := "SuccessionClerkLaw", name := "stem", desc := "(LSuccessionClerk;II[J)I" } : MethodName) ∈ TT := tm 598 (by decide +kernel) (by decide +kernel)
theorem w_599 : Cond.codeWith ({ cls := "SuccessionClerkLaw", name := "stem", desc := "(LSuccessionClerk;II[J)I" } : MethodName) method_16_code (5 : Nat) (Option.some FieldType.int) [((0 : Nat), (10 : Nat), (13 : Nat), (13 : Nat)), ((0 : Nat), (10 : Nat), (17 : Nat), (15 : Nat))] ∈ TT := tm 599 (by decide +kernel) (by decide +kernel)
theorem w_600 : Cond.methodLink "SuccessionClerkLaw" (60 : Nat) ({ cls := "SuccessionClerk", name := "stem", desc := "(II)I" } : MethodName) ∈ TT := tm 600 (by decide +kernel) (by decide +kernel)
theorem w_601 : Cond.instanceMethod ({ cls := "SuccessionClerk", name := "stem", desc := "(II)I" } : MethodName) ∈ TT := tm 601 (by decide +kernel) (by decide +kernel)
theorem w_602 : Cond.selects "SuccessionClerk" ({ cls := "SuccessionClerk", name := "stem", desc := "(II)I" } : MethodName) ({ cls := "SuccessionClerk", name := "stem", desc := "(II)I" } : MethodName) ∈ TT := tm 602 (by decide +kernel) (by decide +kernel)
theorem w_603 : Cond.code ({ cls := "SuccessionClerk", name := "stem", desc := "(II)I" } : MethodName) prog_1_method_15_code (3 : Nat) (Option.some FieldType.int) ∈ TT := tm 603 (by decide +kernel) (by decide +kernel)
theorem w_604 : Cond.methodLink "SuccessionClerk" (149 : Nat) ({ cls := "SuccessionClerk$Survey", name := "leastStemOver", desc := "(I)I" } : MethodName) ∈ TT := tm 604 (by decide +kernel) (by decide +kernel)
theorem w_605 : Cond.instanceMethod ({ cls := "SuccessionClerk$Survey", name := "leastStemOver", desc := "(I)I" } : MethodName) ∈ TT := tm 605 (by decide +kernel) (by decide +kernel)
theorem w_606 : Cond.selects "SuccessionClerk$Survey" ({ cls := "SuccessionClerk$Survey", name := "leastStemOver", desc := "(I)I" } : MethodName) ({ cls := "SuccessionClerk$Survey", name := "leastStemOver", desc := "(I)I" } : MethodName) ∈ TT := tm 606 (by decide +kernel) (by decide +kernel)
theorem w_607 : Cond.code ({ cls := "SuccessionClerk$Survey", name := "leastStemOver", desc := "(I)I" } : MethodName) prog_6_method_9_code (3 : Nat) (Option.some FieldType.int) ∈ TT := tm 607 (by decide +kernel) (by decide +kernel)
theorem w_608 : Cond.methodLink "SuccessionClerk$Survey" (80 : Nat) ({ cls := "SuccessionClerk$Survey", name := "beginsOrder", desc := "(I)Z" } : MethodName) ∈ TT := tm 608 (by decide +kernel) (by decide +kernel)
theorem w_610 : Cond.instanceMethod ({ cls := "SuccessionClerk$Survey", name := "beginsOrder", desc := "(I)Z" } : MethodName) ∈ TT := tm 610 (by decide +kernel) (by decide +kernel)
theorem w_611 : Cond.code ({ cls := "SuccessionClerk$Survey", name := "beginsOrder", desc := "(I)Z" } : MethodName) prog_6_method_10_code (2 : Nat) (Option.some FieldType.boolean) ∈ TT := tm 611 (by decide +kernel) (by decide +kernel)
theorem w_612 : Cond.methodLink "SuccessionClerk$Survey" (87 : Nat) ({ cls := "SuccessionClerk$Family", name := "isChild", desc := "(II)Z" } : MethodName) ∈ TT := tm 612 (by decide +kernel) (by decide +kernel)
theorem w_613 : Cond.methodLink "SuccessionClerk$Survey" (90 : Nat) ({ cls := "SuccessionClerk$Survey", name := "isAncestor", desc := "(LSuccessionClerk$Family;III)Z" } : MethodName) ∈ TT := tm 613 (by decide +kernel) (by decide +kernel)
theorem w_614 : Cond.static ({ cls := "SuccessionClerk$Survey", name := "isAncestor", desc := "(LSuccessionClerk$Family;III)Z" } : MethodName) ∈ TT := tm 614 (by decide +kernel) (by decide +kernel)
theorem w_615 : Cond.code ({ cls := "SuccessionClerk$Survey", name := "isAncestor", desc := "(LSuccessionClerk$Family;III)Z" } : MethodName) prog_6_method_11_code (4 : Nat) (Option.some FieldType.boolean) ∈ TT := tm 615 (by decide +kernel) (by decide +kernel)
theorem w_616 : Cond.methodLink "SuccessionClerk$Survey" (84 : Nat) ({ cls := "SuccessionClerk$Survey", name := "stemReaches", desc := "(II)Z" } : MethodName) ∈ TT := tm 616 (by decide +kernel) (by decide +kernel)
theorem w_618 : Cond.instanceMethod ({ cls := "SuccessionClerk$Survey", name := "stemReaches", desc := "(II)Z" } : MethodName) ∈ TT := tm 618 (by decide +kernel) (by decide +kernel)
theorem w_619 : Cond.code ({ cls := "SuccessionClerk$Survey", name := "stemReaches", desc := "(II)Z" } : MethodName) prog_6_method_12_code (4 : Nat) (Option.some FieldType.boolean) ∈ TT := tm 619 (by decide +kernel) (by decide +kernel)
theorem w_620 : Cond.methodLink "SuccessionClerk$Survey" (94 : Nat) ({ cls := "SuccessionClerk$Survey", name := "passesOn", desc := "(I)Z" } : MethodName) ∈ TT := tm 620 (by decide +kernel) (by decide +kernel)
theorem w_622 : Cond.instanceMethod ({ cls := "SuccessionClerk$Survey", name := "passesOn", desc := "(I)Z" } : MethodName) ∈ TT := tm 622 (by decide +kernel) (by decide +kernel)
theorem w_623 : Cond.code ({ cls := "SuccessionClerk$Survey", name := "passesOn", desc := "(I)Z" } : MethodName) prog_6_method_13_code (2 : Nat) (Option.some FieldType.boolean) ∈ TT := tm 623 (by decide +kernel) (by decide +kernel)
theorem w_624 : Cond.methodLink "SuccessionClerkLaw" (135 : Nat) ({ cls := "SuccessionClerkLaw", name := "paid", desc := "(LSuccessionClerk;II[J)I" } : MethodName) ∈ TT := tm 624 (by decide +kernel) (by decide +kernel)
theorem w_625 : Cond.static ({ cls := "SuccessionClerkLaw", name := "paid", desc := "(LSuccessionClerk;II[J)I" } : MethodName) ∈ TT := tm 625 (by decide +kernel) (by decide +kernel)
theorem w_626 : Cond.codeWith ({ cls := "SuccessionClerkLaw", name := "paid", desc := "(LSuccessionClerk;II[J)I" } : MethodName) method_17_code (5 : Nat) (Option.some FieldType.int) [((0 : Nat), (9 : Nat), (12 : Nat), (13 : Nat))] ∈ TT := tm 626 (by decide +kernel) (by decide +kernel)
theorem w_627 : Cond.methodLink "SuccessionClerkLaw" (63 : Nat) ({ cls := "SuccessionClerk", name := "paid", desc := "(II)J" } : MethodName) ∈ TT := tm 627 (by decide +kernel) (by decide +kernel)
theorem w_628 : Cond.instanceMethod ({ cls := "SuccessionClerk", name := "paid", desc := "(II)J" } : MethodName) ∈ TT := tm 628 (by decide +kernel) (by decide +kernel)
theorem w_629 : Cond.selects "SuccessionClerk" ({ cls := "SuccessionClerk", name := "paid", desc := "(II)J" } : MethodName) ({ cls := "SuccessionClerk", name := "paid", desc := "(II)J" } : MethodName) ∈ TT := tm 629 (by decide +kernel) (by decide +kernel)
theorem w_630 : Cond.code ({ cls := "SuccessionClerk", name := "paid", desc := "(II)J" } : MethodName) prog_1_method_17_code (3 : Nat) (Option.some FieldType.long) ∈ TT := tm 630 (by decide +kernel) (by decide +kernel)
theorem w_631 : Cond.methodLink "SuccessionClerk" (159 : Nat) ({ cls := "SuccessionClerk", name := "placeOf", desc := "(I)I" } : MethodName) ∈ TT := tm 631 (by decide +kernel) (by decide +kernel)
theorem w_633 : Cond.instanceMethod ({ cls := "SuccessionClerk", name := "placeOf", desc := "(I)I" } : MethodName) ∈ TT := tm 633 (by decide +kernel) (by decide +kernel)
theorem w_634 : Cond.code ({ cls := "SuccessionClerk", name := "placeOf", desc := "(I)I" } : MethodName) prog_1_method_23_code (2 : Nat) (Option.some FieldType.int) ∈ TT := tm 634 (by decide +kernel) (by decide +kernel)
theorem w_635 : Cond.methodLink "SuccessionClerkLaw" (138 : Nat) ({ cls := "SuccessionClerkLaw", name := "total", desc := "(LSuccessionClerk;I[J)I" } : MethodName) ∈ TT := tm 635 (by decide +kernel) (by decide +kernel)
theorem w_636 : Cond.static ({ cls := "SuccessionClerkLaw", name := "total", desc := "(LSuccessionClerk;I[J)I" } : MethodName) ∈ TT := tm 636 (by decide +kernel) (by decide +kernel)
theorem w_637 : Cond.codeWith ({ cls := "SuccessionClerkLaw", name := "total", desc := "(LSuccessionClerk;I[J)I" } : MethodName) method_18_code (4 : Nat) (Option.some FieldType.int) [((0 : Nat), (8 : Nat), (11 : Nat), (13 : Nat))] ∈ TT := tm 637 (by decide +kernel) (by decide +kernel)
theorem w_638 : Cond.methodLink "SuccessionClerkLaw" (66 : Nat) ({ cls := "SuccessionClerk", name := "total", desc := "(I)J" } : MethodName) ∈ TT := tm 638 (by decide +kernel) (by decide +kernel)
theorem w_639 : Cond.instanceMethod ({ cls := "SuccessionClerk", name := "total", desc := "(I)J" } : MethodName) ∈ TT := tm 639 (by decide +kernel) (by decide +kernel)
theorem w_640 : Cond.selects "SuccessionClerk" ({ cls := "SuccessionClerk", name := "total", desc := "(I)J" } : MethodName) ({ cls := "SuccessionClerk", name := "total", desc := "(I)J" } : MethodName) ∈ TT := tm 640 (by decide +kernel) (by decide +kernel)
theorem w_641 : Cond.code ({ cls := "SuccessionClerk", name := "total", desc := "(I)J" } : MethodName) prog_1_method_18_code (2 : Nat) (Option.some FieldType.long) ∈ TT := tm 641 (by decide +kernel) (by decide +kernel)
theorem w_642 : Cond.methodLink "SuccessionClerkLaw" (141 : Nat) ({ cls := "SuccessionClerkLaw", name := "got", desc := "(LSuccessionClerk;I[J)I" } : MethodName) ∈ TT := tm 642 (by decide +kernel) (by decide +kernel)
theorem w_643 : Cond.static ({ cls := "SuccessionClerkLaw", name := "got", desc := "(LSuccessionClerk;I[J)I" } : MethodName) ∈ TT := tm 643 (by decide +kernel) (by decide +kernel)
theorem w_644 : Cond.codeWith ({ cls := "SuccessionClerkLaw", name := "got", desc := "(LSuccessionClerk;I[J)I" } : MethodName) method_19_code (4 : Nat) (Option.some FieldType.int) [((0 : Nat), (8 : Nat), (11 : Nat), (13 : Nat))] ∈ TT := tm 644 (by decide +kernel) (by decide +kernel)
theorem w_645 : Cond.methodLink "SuccessionClerkLaw" (70 : Nat) ({ cls := "SuccessionClerk", name := "got", desc := "(I)J" } : MethodName) ∈ TT := tm 645 (by decide +kernel) (by decide +kernel)
theorem w_646 : Cond.instanceMethod ({ cls := "SuccessionClerk", name := "got", desc := "(I)J" } : MethodName) ∈ TT := tm 646 (by decide +kernel) (by decide +kernel)
theorem w_647 : Cond.selects "SuccessionClerk" ({ cls := "SuccessionClerk", name := "got", desc := "(I)J" } : MethodName) ({ cls := "SuccessionClerk", name := "got", desc := "(I)J" } : MethodName) ∈ TT := tm 647 (by decide +kernel) (by decide +kernel)
theorem w_648 : Cond.code ({ cls := "SuccessionClerk", name := "got", desc := "(I)J" } : MethodName) prog_1_method_19_code (2 : Nat) (Option.some FieldType.long) ∈ TT := tm 648 (by decide +kernel) (by decide +kernel)
theorem w_649 : Cond.classLink "SuccessionClerkLaw" (74 : Nat) "SuccessionClerkModel" ∈ TT := tm 649 (by decide +kernel) (by decide +kernel)
theorem w_650 : Cond.instantiable "SuccessionClerkModel" (23 : Nat) ∈ TT := tm 650 (by decide +kernel) (by decide +kernel)
theorem w_651 : Cond.methodLink "SuccessionClerkLaw" (76 : Nat) ({ cls := "SuccessionClerkModel", name := "<init>", desc := "()V" } : MethodName) ∈ TT := tm 651 (by decide +kernel) (by decide +kernel)
theorem w_652 : Cond.instanceMethod ({ cls := "SuccessionClerkModel", name := "<init>", desc := "()V" } : MethodName) ∈ TT := tm 652 (by decide +kernel) (by decide +kernel)
theorem w_653 : Cond.code ({ cls := "SuccessionClerkModel", name := "<init>", desc := "()V" } : MethodName) prog_8_method_1_code (1 : Nat) (Option.none : Option FieldType) ∈ TT := tm 653 (by decide +kernel) (by decide +kernel)
theorem w_654 : Cond.methodLink "SuccessionClerkModel" (1 : Nat) ({ cls := "java/lang/Object", name := "<init>", desc := "()V" } : MethodName) ∈ TT := tm 654 (by decide +kernel) (by decide +kernel)
theorem w_655 : Cond.fieldLink "SuccessionClerkModel" (60 : Nat) "SuccessionClerkModel" "thrown" "I" ∈ TT := tm 655 (by decide +kernel) (by decide +kernel)
theorem w_656 : Cond.fieldLink "SuccessionClerkModel" (64 : Nat) "SuccessionClerkModel" "persons" "I" ∈ TT := tm 656 (by decide +kernel) (by decide +kernel)
theorem w_657 : Cond.fieldLink "SuccessionClerkModel" (7 : Nat) "SuccessionClerkModel" "firsts" "[I" ∈ TT := tm 657 (by decide +kernel) (by decide +kernel)
theorem w_658 : Cond.fieldLink "SuccessionClerkModel" (13 : Nat) "SuccessionClerkModel" "seconds" "[I" ∈ TT := tm 658 (by decide +kernel) (by decide +kernel)
theorem w_659 : Cond.fieldLink "SuccessionClerkModel" (16 : Nat) "SuccessionClerkModel" "spouses" "[I" ∈ TT := tm 659 (by decide +kernel) (by decide +kernel)
theorem w_660 : Cond.fieldLink "SuccessionClerkModel" (19 : Nat) "SuccessionClerkModel" "days" "[I" ∈ TT := tm 660 (by decide +kernel) (by decide +kernel)
theorem w_661 : Cond.fieldLink "SuccessionClerkModel" (22 : Nat) "SuccessionClerkModel" "estates" "[I" ∈ TT := tm 661 (by decide +kernel) (by decide +kernel)
theorem w_662 : Cond.fieldLink "SuccessionClerkModel" (25 : Nat) "SuccessionClerkModel" "gifts" "[I" ∈ TT := tm 662 (by decide +kernel) (by decide +kernel)
theorem w_663 : Cond.fieldLink "SuccessionClerkModel" (28 : Nat) "SuccessionClerkModel" "excluded" "[Z" ∈ TT := tm 663 (by decide +kernel) (by decide +kernel)
theorem w_664 : Cond.fieldLink "SuccessionClerkModel" (75 : Nat) "SuccessionClerkModel" "of" "I" ∈ TT := tm 664 (by decide +kernel) (by decide +kernel)
theorem w_665 : Cond.fieldLink "SuccessionClerkModel" (32 : Nat) "SuccessionClerkModel" "left" "[Z" ∈ TT := tm 665 (by decide +kernel) (by decide +kernel)
theorem w_666 : Cond.fieldLink "SuccessionClerkModel" (35 : Nat) "SuccessionClerkModel" "many" "[I" ∈ TT := tm 666 (by decide +kernel) (by decide +kernel)
theorem w_667 : Cond.fieldLink "SuccessionClerkModel" (38 : Nat) "SuccessionClerkModel" "lines" "[Z" ∈ TT := tm 667 (by decide +kernel) (by decide +kernel)
theorem w_668 : Cond.fieldLink "SuccessionClerkModel" (41 : Nat) "SuccessionClerkModel" "parts" "[J" ∈ TT := tm 668 (by decide +kernel) (by decide +kernel)
theorem w_669 : Cond.fieldLink "SuccessionClerkModel" (45 : Nat) "SuccessionClerkModel" "takes" "[J" ∈ TT := tm 669 (by decide +kernel) (by decide +kernel)
theorem w_670 : Cond.fieldLink "SuccessionClerkModel" (78 : Nat) "SuccessionClerkModel" "product" "J" ∈ TT := tm 670 (by decide +kernel) (by decide +kernel)
theorem w_671 : Cond.fieldLink "SuccessionClerkModel" (107 : Nat) "SuccessionClerkModel" "whole" "J" ∈ TT := tm 671 (by decide +kernel) (by decide +kernel)
theorem w_672 : Cond.fieldLink "SuccessionClerkModel" (93 : Nat) "SuccessionClerkModel" "code" "I" ∈ TT := tm 672 (by decide +kernel) (by decide +kernel)
theorem w_673 : Cond.fieldLink "SuccessionClerkModel" (89 : Nat) "SuccessionClerkModel" "widow" "Z" ∈ TT := tm 673 (by decide +kernel) (by decide +kernel)
theorem w_674 : Cond.fieldLink "SuccessionClerkModel" (48 : Nat) "SuccessionClerkModel" "in" "[Z" ∈ TT := tm 674 (by decide +kernel) (by decide +kernel)
theorem w_675 : Cond.fieldLink "SuccessionClerkModel" (51 : Nat) "SuccessionClerkModel" "paid" "[J" ∈ TT := tm 675 (by decide +kernel) (by decide +kernel)
theorem w_676 : Cond.fieldLink "SuccessionClerkModel" (54 : Nat) "SuccessionClerkModel" "totals" "[J" ∈ TT := tm 676 (by decide +kernel) (by decide +kernel)
theorem w_677 : Cond.fieldLink "SuccessionClerkModel" (57 : Nat) "SuccessionClerkModel" "gots" "[J" ∈ TT := tm 677 (by decide +kernel) (by decide +kernel)
theorem w_725 : Cond.methodLink "SuccessionClerkLaw" (83 : Nat) ({ cls := "SuccessionClerkModel", name := "thrown", desc := "()I" } : MethodName) ∈ TT := tm 725 (by decide +kernel) (by decide +kernel)
theorem w_726 : Cond.instanceMethod ({ cls := "SuccessionClerkModel", name := "thrown", desc := "()I" } : MethodName) ∈ TT := tm 726 (by decide +kernel) (by decide +kernel)
theorem w_727 : Cond.selects "SuccessionClerkModel" ({ cls := "SuccessionClerkModel", name := "thrown", desc := "()I" } : MethodName) ({ cls := "SuccessionClerkModel", name := "thrown", desc := "()I" } : MethodName) ∈ TT := tm 727 (by decide +kernel) (by decide +kernel)
theorem w_728 : Cond.code ({ cls := "SuccessionClerkModel", name := "thrown", desc := "()I" } : MethodName) prog_8_method_2_code (1 : Nat) (Option.some FieldType.int) ∈ TT := tm 728 (by decide +kernel) (by decide +kernel)
theorem w_729 : Cond.methodLink "SuccessionClerkLaw" (82 : Nat) ({ cls := "SuccessionClerkModel", name := "person", desc := "(II)I" } : MethodName) ∈ TT := tm 729 (by decide +kernel) (by decide +kernel)
theorem w_730 : Cond.instanceMethod ({ cls := "SuccessionClerkModel", name := "person", desc := "(II)I" } : MethodName) ∈ TT := tm 730 (by decide +kernel) (by decide +kernel)
theorem w_731 : Cond.selects "SuccessionClerkModel" ({ cls := "SuccessionClerkModel", name := "person", desc := "(II)I" } : MethodName) ({ cls := "SuccessionClerkModel", name := "person", desc := "(II)I" } : MethodName) ∈ TT := tm 731 (by decide +kernel) (by decide +kernel)
theorem w_732 : Cond.code ({ cls := "SuccessionClerkModel", name := "person", desc := "(II)I" } : MethodName) prog_8_method_4_code (4 : Nat) (Option.some FieldType.int) ∈ TT := tm 732 (by decide +kernel) (by decide +kernel)
theorem w_733 : Cond.methodLink "SuccessionClerkModel" (67 : Nat) ({ cls := "SuccessionClerkModel", name := "no", desc := "(I)Z" } : MethodName) ∈ TT := tm 733 (by decide +kernel) (by decide +kernel)
theorem w_735 : Cond.instanceMethod ({ cls := "SuccessionClerkModel", name := "no", desc := "(I)Z" } : MethodName) ∈ TT := tm 735 (by decide +kernel) (by decide +kernel)
theorem w_736 : Cond.code ({ cls := "SuccessionClerkModel", name := "no", desc := "(I)Z" } : MethodName) prog_8_method_3_code (2 : Nat) (Option.some FieldType.boolean) ∈ TT := tm 736 (by decide +kernel) (by decide +kernel)
theorem w_737 : Cond.methodLink "SuccessionClerkLaw" (90 : Nat) ({ cls := "SuccessionClerkModel", name := "amend", desc := "(III)V" } : MethodName) ∈ TT := tm 737 (by decide +kernel) (by decide +kernel)
theorem w_738 : Cond.instanceMethod ({ cls := "SuccessionClerkModel", name := "amend", desc := "(III)V" } : MethodName) ∈ TT := tm 738 (by decide +kernel) (by decide +kernel)
theorem w_739 : Cond.selects "SuccessionClerkModel" ({ cls := "SuccessionClerkModel", name := "amend", desc := "(III)V" } : MethodName) ({ cls := "SuccessionClerkModel", name := "amend", desc := "(III)V" } : MethodName) ∈ TT := tm 739 (by decide +kernel) (by decide +kernel)
theorem w_740 : Cond.code ({ cls := "SuccessionClerkModel", name := "amend", desc := "(III)V" } : MethodName) prog_8_method_5_code (5 : Nat) (Option.none : Option FieldType) ∈ TT := tm 740 (by decide +kernel) (by decide +kernel)
theorem w_741 : Cond.methodLink "SuccessionClerkLaw" (94 : Nat) ({ cls := "SuccessionClerkModel", name := "marry", desc := "(II)V" } : MethodName) ∈ TT := tm 741 (by decide +kernel) (by decide +kernel)
theorem w_742 : Cond.instanceMethod ({ cls := "SuccessionClerkModel", name := "marry", desc := "(II)V" } : MethodName) ∈ TT := tm 742 (by decide +kernel) (by decide +kernel)
theorem w_743 : Cond.selects "SuccessionClerkModel" ({ cls := "SuccessionClerkModel", name := "marry", desc := "(II)V" } : MethodName) ({ cls := "SuccessionClerkModel", name := "marry", desc := "(II)V" } : MethodName) ∈ TT := tm 743 (by decide +kernel) (by decide +kernel)
theorem w_744 : Cond.code ({ cls := "SuccessionClerkModel", name := "marry", desc := "(II)V" } : MethodName) prog_8_method_7_code (3 : Nat) (Option.none : Option FieldType) ∈ TT := tm 744 (by decide +kernel) (by decide +kernel)
theorem w_745 : Cond.methodLink "SuccessionClerkModel" (71 : Nat) ({ cls := "SuccessionClerkModel", name := "isMarried", desc := "(I)Z" } : MethodName) ∈ TT := tm 745 (by decide +kernel) (by decide +kernel)
theorem w_747 : Cond.instanceMethod ({ cls := "SuccessionClerkModel", name := "isMarried", desc := "(I)Z" } : MethodName) ∈ TT := tm 747 (by decide +kernel) (by decide +kernel)
theorem w_748 : Cond.code ({ cls := "SuccessionClerkModel", name := "isMarried", desc := "(I)Z" } : MethodName) prog_8_method_6_code (2 : Nat) (Option.some FieldType.boolean) ∈ TT := tm 748 (by decide +kernel) (by decide +kernel)
theorem w_749 : Cond.methodLink "SuccessionClerkLaw" (98 : Nat) ({ cls := "SuccessionClerkModel", name := "divorce", desc := "(I)Z" } : MethodName) ∈ TT := tm 749 (by decide +kernel) (by decide +kernel)
theorem w_750 : Cond.instanceMethod ({ cls := "SuccessionClerkModel", name := "divorce", desc := "(I)Z" } : MethodName) ∈ TT := tm 750 (by decide +kernel) (by decide +kernel)
theorem w_751 : Cond.selects "SuccessionClerkModel" ({ cls := "SuccessionClerkModel", name := "divorce", desc := "(I)Z" } : MethodName) ({ cls := "SuccessionClerkModel", name := "divorce", desc := "(I)Z" } : MethodName) ∈ TT := tm 751 (by decide +kernel) (by decide +kernel)
theorem w_752 : Cond.code ({ cls := "SuccessionClerkModel", name := "divorce", desc := "(I)Z" } : MethodName) prog_8_method_8_code (2 : Nat) (Option.some FieldType.boolean) ∈ TT := tm 752 (by decide +kernel) (by decide +kernel)
theorem w_753 : Cond.methodLink "SuccessionClerkLaw" (101 : Nat) ({ cls := "SuccessionClerkModel", name := "spouse", desc := "(I)I" } : MethodName) ∈ TT := tm 753 (by decide +kernel) (by decide +kernel)
theorem w_754 : Cond.instanceMethod ({ cls := "SuccessionClerkModel", name := "spouse", desc := "(I)I" } : MethodName) ∈ TT := tm 754 (by decide +kernel) (by decide +kernel)
theorem w_755 : Cond.selects "SuccessionClerkModel" ({ cls := "SuccessionClerkModel", name := "spouse", desc := "(I)I" } : MethodName) ({ cls := "SuccessionClerkModel", name := "spouse", desc := "(I)I" } : MethodName) ∈ TT := tm 755 (by decide +kernel) (by decide +kernel)
theorem w_756 : Cond.code ({ cls := "SuccessionClerkModel", name := "spouse", desc := "(I)I" } : MethodName) prog_8_method_9_code (2 : Nat) (Option.some FieldType.int) ∈ TT := tm 756 (by decide +kernel) (by decide +kernel)
theorem w_757 : Cond.methodLink "SuccessionClerkLaw" (104 : Nat) ({ cls := "SuccessionClerkModel", name := "dies", desc := "(II)V" } : MethodName) ∈ TT := tm 757 (by decide +kernel) (by decide +kernel)
theorem w_758 : Cond.instanceMethod ({ cls := "SuccessionClerkModel", name := "dies", desc := "(II)V" } : MethodName) ∈ TT := tm 758 (by decide +kernel) (by decide +kernel)
theorem w_759 : Cond.selects "SuccessionClerkModel" ({ cls := "SuccessionClerkModel", name := "dies", desc := "(II)V" } : MethodName) ({ cls := "SuccessionClerkModel", name := "dies", desc := "(II)V" } : MethodName) ∈ TT := tm 759 (by decide +kernel) (by decide +kernel)
theorem w_760 : Cond.code ({ cls := "SuccessionClerkModel", name := "dies", desc := "(II)V" } : MethodName) prog_8_method_10_code (3 : Nat) (Option.none : Option FieldType) ∈ TT := tm 760 (by decide +kernel) (by decide +kernel)
theorem w_761 : Cond.methodLink "SuccessionClerkLaw" (108 : Nat) ({ cls := "SuccessionClerkModel", name := "exclude", desc := "(IIZ)Z" } : MethodName) ∈ TT := tm 761 (by decide +kernel) (by decide +kernel)
theorem w_762 : Cond.instanceMethod ({ cls := "SuccessionClerkModel", name := "exclude", desc := "(IIZ)Z" } : MethodName) ∈ TT := tm 762 (by decide +kernel) (by decide +kernel)
theorem w_763 : Cond.selects "SuccessionClerkModel" ({ cls := "SuccessionClerkModel", name := "exclude", desc := "(IIZ)Z" } : MethodName) ({ cls := "SuccessionClerkModel", name := "exclude", desc := "(IIZ)Z" } : MethodName) ∈ TT := tm 763 (by decide +kernel) (by decide +kernel)
theorem w_764 : Cond.code ({ cls := "SuccessionClerkModel", name := "exclude", desc := "(IIZ)Z" } : MethodName) prog_8_method_11_code (5 : Nat) (Option.some FieldType.boolean) ∈ TT := tm 764 (by decide +kernel) (by decide +kernel)
theorem w_765 : Cond.methodLink "SuccessionClerkLaw" (112 : Nat) ({ cls := "SuccessionClerkModel", name := "gift", desc := "(III)I" } : MethodName) ∈ TT := tm 765 (by decide +kernel) (by decide +kernel)
theorem w_766 : Cond.instanceMethod ({ cls := "SuccessionClerkModel", name := "gift", desc := "(III)I" } : MethodName) ∈ TT := tm 766 (by decide +kernel) (by decide +kernel)
theorem w_767 : Cond.selects "SuccessionClerkModel" ({ cls := "SuccessionClerkModel", name := "gift", desc := "(III)I" } : MethodName) ({ cls := "SuccessionClerkModel", name := "gift", desc := "(III)I" } : MethodName) ∈ TT := tm 767 (by decide +kernel) (by decide +kernel)
theorem w_768 : Cond.code ({ cls := "SuccessionClerkModel", name := "gift", desc := "(III)I" } : MethodName) prog_8_method_12_code (5 : Nat) (Option.some FieldType.int) ∈ TT := tm 768 (by decide +kernel) (by decide +kernel)
theorem w_769 : Cond.constant "SuccessionClerkModel" (74 : Nat) (1000000 : Int32) ∈ TT := tm 769 (by decide +kernel) (by decide +kernel)
theorem w_770 : Cond.methodLink "SuccessionClerkLaw" (115 : Nat) ({ cls := "SuccessionClerkModel", name := "estate", desc := "(II)V" } : MethodName) ∈ TT := tm 770 (by decide +kernel) (by decide +kernel)
theorem w_771 : Cond.instanceMethod ({ cls := "SuccessionClerkModel", name := "estate", desc := "(II)V" } : MethodName) ∈ TT := tm 771 (by decide +kernel) (by decide +kernel)
theorem w_772 : Cond.selects "SuccessionClerkModel" ({ cls := "SuccessionClerkModel", name := "estate", desc := "(II)V" } : MethodName) ({ cls := "SuccessionClerkModel", name := "estate", desc := "(II)V" } : MethodName) ∈ TT := tm 772 (by decide +kernel) (by decide +kernel)
theorem w_773 : Cond.code ({ cls := "SuccessionClerkModel", name := "estate", desc := "(II)V" } : MethodName) prog_8_method_13_code (3 : Nat) (Option.none : Option FieldType) ∈ TT := tm 773 (by decide +kernel) (by decide +kernel)
theorem w_774 : Cond.methodLink "SuccessionClerkLaw" (118 : Nat) ({ cls := "SuccessionClerkModel", name := "heirs", desc := "(I)I" } : MethodName) ∈ TT := tm 774 (by decide +kernel) (by decide +kernel)
theorem w_775 : Cond.instanceMethod ({ cls := "SuccessionClerkModel", name := "heirs", desc := "(I)I" } : MethodName) ∈ TT := tm 775 (by decide +kernel) (by decide +kernel)
theorem w_776 : Cond.selects "SuccessionClerkModel" ({ cls := "SuccessionClerkModel", name := "heirs", desc := "(I)I" } : MethodName) ({ cls := "SuccessionClerkModel", name := "heirs", desc := "(I)I" } : MethodName) ∈ TT := tm 776 (by decide +kernel) (by decide +kernel)
theorem w_777 : Cond.code ({ cls := "SuccessionClerkModel", name := "heirs", desc := "(I)I" } : MethodName) prog_8_method_22_code (4 : Nat) (Option.some FieldType.int) ∈ TT := tm 777 (by decide +kernel) (by decide +kernel)
theorem w_778 : Cond.methodLink "SuccessionClerkModel" (118 : Nat) ({ cls := "SuccessionClerkModel", name := "unsettled", desc := "(I)I" } : MethodName) ∈ TT := tm 778 (by decide +kernel) (by decide +kernel)
theorem w_780 : Cond.instanceMethod ({ cls := "SuccessionClerkModel", name := "unsettled", desc := "(I)I" } : MethodName) ∈ TT := tm 780 (by decide +kernel) (by decide +kernel)
theorem w_781 : Cond.code ({ cls := "SuccessionClerkModel", name := "unsettled", desc := "(I)I" } : MethodName) prog_8_method_21_code (2 : Nat) (Option.some FieldType.int) ∈ TT := tm 781 (by decide +kernel) (by decide +kernel)
theorem w_782 : Cond.methodLink "SuccessionClerkModel" (122 : Nat) ({ cls := "SuccessionClerkModel", name := "divide", desc := "(I)V" } : MethodName) ∈ TT := tm 782 (by decide +kernel) (by decide +kernel)
theorem w_784 : Cond.instanceMethod ({ cls := "SuccessionClerkModel", name := "divide", desc := "(I)V" } : MethodName) ∈ TT := tm 784 (by decide +kernel) (by decide +kernel)
theorem w_785 : Cond.code ({ cls := "SuccessionClerkModel", name := "divide", desc := "(I)V" } : MethodName) prog_8_method_20_code (6 : Nat) (Option.none : Option FieldType) ∈ TT := tm 785 (by decide +kernel) (by decide +kernel)
theorem w_786 : Cond.methodLink "SuccessionClerkModel" (98 : Nat) ({ cls := "SuccessionClerkModel", name := "look", desc := "(I)V" } : MethodName) ∈ TT := tm 786 (by decide +kernel) (by decide +kernel)
theorem w_788 : Cond.instanceMethod ({ cls := "SuccessionClerkModel", name := "look", desc := "(I)V" } : MethodName) ∈ TT := tm 788 (by decide +kernel) (by decide +kernel)
theorem w_789 : Cond.code ({ cls := "SuccessionClerkModel", name := "look", desc := "(I)V" } : MethodName) prog_8_method_15_code (4 : Nat) (Option.none : Option FieldType) ∈ TT := tm 789 (by decide +kernel) (by decide +kernel)
theorem w_790 : Cond.methodLink "SuccessionClerkModel" (82 : Nat) ({ cls := "SuccessionClerkModel", name := "isChild", desc := "(II)Z" } : MethodName) ∈ TT := tm 790 (by decide +kernel) (by decide +kernel)
theorem w_792 : Cond.instanceMethod ({ cls := "SuccessionClerkModel", name := "isChild", desc := "(II)Z" } : MethodName) ∈ TT := tm 792 (by decide +kernel) (by decide +kernel)
theorem w_793 : Cond.code ({ cls := "SuccessionClerkModel", name := "isChild", desc := "(II)Z" } : MethodName) prog_8_method_14_code (3 : Nat) (Option.some FieldType.boolean) ∈ TT := tm 793 (by decide +kernel) (by decide +kernel)
theorem w_794 : Cond.methodLink "SuccessionClerkModel" (86 : Nat) ({ cls := "SuccessionClerkModel", name := "hasLine", desc := "(II)Z" } : MethodName) ∈ TT := tm 794 (by decide +kernel) (by decide +kernel)
theorem w_796 : Cond.instanceMethod ({ cls := "SuccessionClerkModel", name := "hasLine", desc := "(II)Z" } : MethodName) ∈ TT := tm 796 (by decide +kernel) (by decide +kernel)
theorem w_797 : Cond.code ({ cls := "SuccessionClerkModel", name := "hasLine", desc := "(II)Z" } : MethodName) prog_8_method_16_code (3 : Nat) (Option.some FieldType.boolean) ∈ TT := tm 797 (by decide +kernel) (by decide +kernel)
theorem w_798 : Cond.methodLink "SuccessionClerkModel" (102 : Nat) ({ cls := "SuccessionClerkModel", name := "clear", desc := "()V" } : MethodName) ∈ TT := tm 798 (by decide +kernel) (by decide +kernel)
theorem w_800 : Cond.instanceMethod ({ cls := "SuccessionClerkModel", name := "clear", desc := "()V" } : MethodName) ∈ TT := tm 800 (by decide +kernel) (by decide +kernel)
theorem w_801 : Cond.code ({ cls := "SuccessionClerkModel", name := "clear", desc := "()V" } : MethodName) prog_8_method_17_code (2 : Nat) (Option.none : Option FieldType) ∈ TT := tm 801 (by decide +kernel) (by decide +kernel)
theorem w_802 : Cond.constantLong "SuccessionClerkModel" (105 : Nat) (32 : Int64) ∈ TT := tm 802 (by decide +kernel) (by decide +kernel)
theorem w_803 : Cond.constantLong "SuccessionClerkModel" (110 : Nat) (4 : Int64) ∈ TT := tm 803 (by decide +kernel) (by decide +kernel)
theorem w_804 : Cond.constantLong "SuccessionClerkModel" (96 : Nat) (2 : Int64) ∈ TT := tm 804 (by decide +kernel) (by decide +kernel)
theorem w_805 : Cond.methodLink "SuccessionClerkModel" (112 : Nat) ({ cls := "SuccessionClerkModel", name := "climb", desc := "(I)V" } : MethodName) ∈ TT := tm 805 (by decide +kernel) (by decide +kernel)
theorem w_807 : Cond.instanceMethod ({ cls := "SuccessionClerkModel", name := "climb", desc := "(I)V" } : MethodName) ∈ TT := tm 807 (by decide +kernel) (by decide +kernel)
theorem w_808 : Cond.code ({ cls := "SuccessionClerkModel", name := "climb", desc := "(I)V" } : MethodName) prog_8_method_18_code (8 : Nat) (Option.none : Option FieldType) ∈ TT := tm 808 (by decide +kernel) (by decide +kernel)
theorem w_809 : Cond.methodLink "SuccessionClerkModel" (115 : Nat) ({ cls := "SuccessionClerkModel", name := "descend", desc := "()V" } : MethodName) ∈ TT := tm 809 (by decide +kernel) (by decide +kernel)
theorem w_811 : Cond.instanceMethod ({ cls := "SuccessionClerkModel", name := "descend", desc := "()V" } : MethodName) ∈ TT := tm 811 (by decide +kernel) (by decide +kernel)
theorem w_812 : Cond.code ({ cls := "SuccessionClerkModel", name := "descend", desc := "()V" } : MethodName) prog_8_method_19_code (5 : Nat) (Option.none : Option FieldType) ∈ TT := tm 812 (by decide +kernel) (by decide +kernel)
theorem w_813 : Cond.methodLink "SuccessionClerkLaw" (121 : Nat) ({ cls := "SuccessionClerkModel", name := "heir", desc := "(II)I" } : MethodName) ∈ TT := tm 813 (by decide +kernel) (by decide +kernel)
theorem w_814 : Cond.instanceMethod ({ cls := "SuccessionClerkModel", name := "heir", desc := "(II)I" } : MethodName) ∈ TT := tm 814 (by decide +kernel) (by decide +kernel)
theorem w_815 : Cond.selects "SuccessionClerkModel" ({ cls := "SuccessionClerkModel", name := "heir", desc := "(II)I" } : MethodName) ({ cls := "SuccessionClerkModel", name := "heir", desc := "(II)I" } : MethodName) ∈ TT := tm 815 (by decide +kernel) (by decide +kernel)
theorem w_816 : Cond.code ({ cls := "SuccessionClerkModel", name := "heir", desc := "(II)I" } : MethodName) prog_8_method_23_code (5 : Nat) (Option.some FieldType.int) ∈ TT := tm 816 (by decide +kernel) (by decide +kernel)
theorem w_817 : Cond.methodLink "SuccessionClerkLaw" (124 : Nat) ({ cls := "SuccessionClerkModel", name := "share", desc := "(II)J" } : MethodName) ∈ TT := tm 817 (by decide +kernel) (by decide +kernel)
theorem w_818 : Cond.instanceMethod ({ cls := "SuccessionClerkModel", name := "share", desc := "(II)J" } : MethodName) ∈ TT := tm 818 (by decide +kernel) (by decide +kernel)
theorem w_819 : Cond.selects "SuccessionClerkModel" ({ cls := "SuccessionClerkModel", name := "share", desc := "(II)J" } : MethodName) ({ cls := "SuccessionClerkModel", name := "share", desc := "(II)J" } : MethodName) ∈ TT := tm 819 (by decide +kernel) (by decide +kernel)
theorem w_820 : Cond.code ({ cls := "SuccessionClerkModel", name := "share", desc := "(II)J" } : MethodName) prog_8_method_25_code (5 : Nat) (Option.some FieldType.long) ∈ TT := tm 820 (by decide +kernel) (by decide +kernel)
theorem w_821 : Cond.methodLink "SuccessionClerkModel" (125 : Nat) ({ cls := "SuccessionClerkModel", name := "divisor", desc := "(JJ)J" } : MethodName) ∈ TT := tm 821 (by decide +kernel) (by decide +kernel)
theorem w_822 : Cond.static ({ cls := "SuccessionClerkModel", name := "divisor", desc := "(JJ)J" } : MethodName) ∈ TT := tm 822 (by decide +kernel) (by decide +kernel)
theorem w_823 : Cond.code ({ cls := "SuccessionClerkModel", name := "divisor", desc := "(JJ)J" } : MethodName) prog_8_method_24_code (10 : Nat) (Option.some FieldType.long) ∈ TT := tm 823 (by decide +kernel) (by decide +kernel)
theorem w_824 : Cond.methodLink "SuccessionClerkLaw" (127 : Nat) ({ cls := "SuccessionClerkModel", name := "order", desc := "(I)I" } : MethodName) ∈ TT := tm 824 (by decide +kernel) (by decide +kernel)
theorem w_825 : Cond.instanceMethod ({ cls := "SuccessionClerkModel", name := "order", desc := "(I)I" } : MethodName) ∈ TT := tm 825 (by decide +kernel) (by decide +kernel)
theorem w_826 : Cond.selects "SuccessionClerkModel" ({ cls := "SuccessionClerkModel", name := "order", desc := "(I)I" } : MethodName) ({ cls := "SuccessionClerkModel", name := "order", desc := "(I)I" } : MethodName) ∈ TT := tm 826 (by decide +kernel) (by decide +kernel)
theorem w_827 : Cond.code ({ cls := "SuccessionClerkModel", name := "order", desc := "(I)I" } : MethodName) prog_8_method_26_code (2 : Nat) (Option.some FieldType.int) ∈ TT := tm 827 (by decide +kernel) (by decide +kernel)
theorem w_828 : Cond.methodLink "SuccessionClerkLaw" (130 : Nat) ({ cls := "SuccessionClerkModel", name := "stem", desc := "(II)I" } : MethodName) ∈ TT := tm 828 (by decide +kernel) (by decide +kernel)
theorem w_829 : Cond.instanceMethod ({ cls := "SuccessionClerkModel", name := "stem", desc := "(II)I" } : MethodName) ∈ TT := tm 829 (by decide +kernel) (by decide +kernel)
theorem w_830 : Cond.selects "SuccessionClerkModel" ({ cls := "SuccessionClerkModel", name := "stem", desc := "(II)I" } : MethodName) ({ cls := "SuccessionClerkModel", name := "stem", desc := "(II)I" } : MethodName) ∈ TT := tm 830 (by decide +kernel) (by decide +kernel)
theorem w_831 : Cond.code ({ cls := "SuccessionClerkModel", name := "stem", desc := "(II)I" } : MethodName) prog_8_method_27_code (5 : Nat) (Option.some FieldType.int) ∈ TT := tm 831 (by decide +kernel) (by decide +kernel)
theorem w_832 : Cond.constantLong "SuccessionClerkModel" (129 : Nat) (8 : Int64) ∈ TT := tm 832 (by decide +kernel) (by decide +kernel)
theorem w_833 : Cond.methodLink "SuccessionClerkLaw" (134 : Nat) ({ cls := "SuccessionClerkModel", name := "settle", desc := "()I" } : MethodName) ∈ TT := tm 833 (by decide +kernel) (by decide +kernel)
theorem w_834 : Cond.instanceMethod ({ cls := "SuccessionClerkModel", name := "settle", desc := "()I" } : MethodName) ∈ TT := tm 834 (by decide +kernel) (by decide +kernel)
theorem w_835 : Cond.selects "SuccessionClerkModel" ({ cls := "SuccessionClerkModel", name := "settle", desc := "()I" } : MethodName) ({ cls := "SuccessionClerkModel", name := "settle", desc := "()I" } : MethodName) ∈ TT := tm 835 (by decide +kernel) (by decide +kernel)
theorem w_836 : Cond.code ({ cls := "SuccessionClerkModel", name := "settle", desc := "()I" } : MethodName) prog_8_method_33_code (4 : Nat) (Option.some FieldType.int) ∈ TT := tm 836 (by decide +kernel) (by decide +kernel)
theorem w_837 : Cond.methodLink "SuccessionClerkModel" (151 : Nat) ({ cls := "SuccessionClerkModel", name := "settleOne", desc := "(I)V" } : MethodName) ∈ TT := tm 837 (by decide +kernel) (by decide +kernel)
theorem w_839 : Cond.instanceMethod ({ cls := "SuccessionClerkModel", name := "settleOne", desc := "(I)V" } : MethodName) ∈ TT := tm 839 (by decide +kernel) (by decide +kernel)
theorem w_840 : Cond.code ({ cls := "SuccessionClerkModel", name := "settleOne", desc := "(I)V" } : MethodName) prog_8_method_32_code (8 : Nat) (Option.none : Option FieldType) ∈ TT := tm 840 (by decide +kernel) (by decide +kernel)
theorem w_841 : Cond.methodLink "SuccessionClerkModel" (141 : Nat) ({ cls := "SuccessionClerkModel", name := "due", desc := "(IJ)V" } : MethodName) ∈ TT := tm 841 (by decide +kernel) (by decide +kernel)
theorem w_843 : Cond.instanceMethod ({ cls := "SuccessionClerkModel", name := "due", desc := "(IJ)V" } : MethodName) ∈ TT := tm 843 (by decide +kernel) (by decide +kernel)
theorem w_844 : Cond.code ({ cls := "SuccessionClerkModel", name := "due", desc := "(IJ)V" } : MethodName) prog_8_method_30_code (10 : Nat) (Option.none : Option FieldType) ∈ TT := tm 844 (by decide +kernel) (by decide +kernel)
theorem w_845 : Cond.constantLong "SuccessionClerkModel" (135 : Nat) (3 : Int64) ∈ TT := tm 845 (by decide +kernel) (by decide +kernel)
theorem w_846 : Cond.methodLink "SuccessionClerkModel" (137 : Nat) ({ cls := "SuccessionClerkModel", name := "sift", desc := "(J)I" } : MethodName) ∈ TT := tm 846 (by decide +kernel) (by decide +kernel)
theorem w_848 : Cond.instanceMethod ({ cls := "SuccessionClerkModel", name := "sift", desc := "(J)I" } : MethodName) ∈ TT := tm 848 (by decide +kernel) (by decide +kernel)
theorem w_849 : Cond.code ({ cls := "SuccessionClerkModel", name := "sift", desc := "(J)I" } : MethodName) prog_8_method_28_code (8 : Nat) (Option.some FieldType.int) ∈ TT := tm 849 (by decide +kernel) (by decide +kernel)
theorem w_850 : Cond.methodLink "SuccessionClerkModel" (131 : Nat) ({ cls := "SuccessionClerkModel", name := "giftsIn", desc := "()J" } : MethodName) ∈ TT := tm 850 (by decide +kernel) (by decide +kernel)
theorem w_852 : Cond.instanceMethod ({ cls := "SuccessionClerkModel", name := "giftsIn", desc := "()J" } : MethodName) ∈ TT := tm 852 (by decide +kernel) (by decide +kernel)
theorem w_853 : Cond.code ({ cls := "SuccessionClerkModel", name := "giftsIn", desc := "()J" } : MethodName) prog_8_method_29_code (4 : Nat) (Option.some FieldType.long) ∈ TT := tm 853 (by decide +kernel) (by decide +kernel)
theorem w_854 : Cond.methodLink "SuccessionClerkModel" (145 : Nat) ({ cls := "SuccessionClerkModel", name := "pay", desc := "(IIJ)V" } : MethodName) ∈ TT := tm 854 (by decide +kernel) (by decide +kernel)
theorem w_856 : Cond.instanceMethod ({ cls := "SuccessionClerkModel", name := "pay", desc := "(IIJ)V" } : MethodName) ∈ TT := tm 856 (by decide +kernel) (by decide +kernel)
theorem w_857 : Cond.code ({ cls := "SuccessionClerkModel", name := "pay", desc := "(IIJ)V" } : MethodName) prog_8_method_31_code (5 : Nat) (Option.none : Option FieldType) ∈ TT := tm 857 (by decide +kernel) (by decide +kernel)
theorem w_858 : Cond.constantLong "SuccessionClerkModel" (149 : Nat) (-1 : Int64) ∈ TT := tm 858 (by decide +kernel) (by decide +kernel)
theorem w_859 : Cond.methodLink "SuccessionClerkLaw" (137 : Nat) ({ cls := "SuccessionClerkModel", name := "paid", desc := "(II)J" } : MethodName) ∈ TT := tm 859 (by decide +kernel) (by decide +kernel)
theorem w_860 : Cond.instanceMethod ({ cls := "SuccessionClerkModel", name := "paid", desc := "(II)J" } : MethodName) ∈ TT := tm 860 (by decide +kernel) (by decide +kernel)
theorem w_861 : Cond.selects "SuccessionClerkModel" ({ cls := "SuccessionClerkModel", name := "paid", desc := "(II)J" } : MethodName) ({ cls := "SuccessionClerkModel", name := "paid", desc := "(II)J" } : MethodName) ∈ TT := tm 861 (by decide +kernel) (by decide +kernel)
theorem w_862 : Cond.code ({ cls := "SuccessionClerkModel", name := "paid", desc := "(II)J" } : MethodName) prog_8_method_34_code (3 : Nat) (Option.some FieldType.long) ∈ TT := tm 862 (by decide +kernel) (by decide +kernel)
theorem w_863 : Cond.methodLink "SuccessionClerkLaw" (140 : Nat) ({ cls := "SuccessionClerkModel", name := "total", desc := "(I)J" } : MethodName) ∈ TT := tm 863 (by decide +kernel) (by decide +kernel)
theorem w_864 : Cond.instanceMethod ({ cls := "SuccessionClerkModel", name := "total", desc := "(I)J" } : MethodName) ∈ TT := tm 864 (by decide +kernel) (by decide +kernel)
theorem w_865 : Cond.selects "SuccessionClerkModel" ({ cls := "SuccessionClerkModel", name := "total", desc := "(I)J" } : MethodName) ({ cls := "SuccessionClerkModel", name := "total", desc := "(I)J" } : MethodName) ∈ TT := tm 865 (by decide +kernel) (by decide +kernel)
theorem w_866 : Cond.code ({ cls := "SuccessionClerkModel", name := "total", desc := "(I)J" } : MethodName) prog_8_method_35_code (2 : Nat) (Option.some FieldType.long) ∈ TT := tm 866 (by decide +kernel) (by decide +kernel)
theorem w_867 : Cond.methodLink "SuccessionClerkLaw" (143 : Nat) ({ cls := "SuccessionClerkModel", name := "got", desc := "(I)J" } : MethodName) ∈ TT := tm 867 (by decide +kernel) (by decide +kernel)
theorem w_868 : Cond.instanceMethod ({ cls := "SuccessionClerkModel", name := "got", desc := "(I)J" } : MethodName) ∈ TT := tm 868 (by decide +kernel) (by decide +kernel)
theorem w_869 : Cond.selects "SuccessionClerkModel" ({ cls := "SuccessionClerkModel", name := "got", desc := "(I)J" } : MethodName) ({ cls := "SuccessionClerkModel", name := "got", desc := "(I)J" } : MethodName) ∈ TT := tm 869 (by decide +kernel) (by decide +kernel)
theorem w_870 : Cond.code ({ cls := "SuccessionClerkModel", name := "got", desc := "(I)J" } : MethodName) prog_8_method_36_code (2 : Nat) (Option.some FieldType.long) ∈ TT := tm 870 (by decide +kernel) (by decide +kernel)
theorem sel_L_forget : Cond.selects "SuccessionClerk$Ledger" ⟨"SuccessionClerk$Ledger", "forget", "()V"⟩ ⟨"SuccessionClerk$Ledger", "forget", "()V"⟩ ∈ TT := ts 0 (by decide +kernel) (by decide +kernel)
theorem sel_L_earliestUnsettled : Cond.selects "SuccessionClerk$Ledger" ⟨"SuccessionClerk$Ledger", "earliestUnsettled", "()I"⟩ ⟨"SuccessionClerk$Ledger", "earliestUnsettled", "()I"⟩ ∈ TT := ts 1 (by decide +kernel) (by decide +kernel)
theorem sel_L_settleOne : Cond.selects "SuccessionClerk$Ledger" ⟨"SuccessionClerk$Ledger", "settleOne", "(I)V"⟩ ⟨"SuccessionClerk$Ledger", "settleOne", "(I)V"⟩ ∈ TT := ts 2 (by decide +kernel) (by decide +kernel)
theorem sel_V_findStems : Cond.selects "SuccessionClerk$Survey" ⟨"SuccessionClerk$Survey", "findStems", "()V"⟩ ⟨"SuccessionClerk$Survey", "findStems", "()V"⟩ ∈ TT := ts 3 (by decide +kernel) (by decide +kernel)
theorem sel_V_addBranch : Cond.selects "SuccessionClerk$Survey" ⟨"SuccessionClerk$Survey", "addBranch", "(I)V"⟩ ⟨"SuccessionClerk$Survey", "addBranch", "(I)V"⟩ ∈ TT := ts 4 (by decide +kernel) (by decide +kernel)
theorem sel_V_findLines : Cond.selects "SuccessionClerk$Survey" ⟨"SuccessionClerk$Survey", "findLines", "()V"⟩ ⟨"SuccessionClerk$Survey", "findLines", "()V"⟩ ∈ TT := ts 5 (by decide +kernel) (by decide +kernel)
theorem sel_V_findTaker : Cond.selects "SuccessionClerk$Survey" ⟨"SuccessionClerk$Survey", "findTaker", "()I"⟩ ⟨"SuccessionClerk$Survey", "findTaker", "()I"⟩ ∈ TT := ts 6 (by decide +kernel) (by decide +kernel)
theorem sel_L_pay : Cond.selects "SuccessionClerk$Ledger" ⟨"SuccessionClerk$Ledger", "pay", "(IIJ)V"⟩ ⟨"SuccessionClerk$Ledger", "pay", "(IIJ)V"⟩ ∈ TT := ts 7 (by decide +kernel) (by decide +kernel)
theorem sel_H_findOneAbove : Cond.selects "SuccessionClerk$Hotchpot" ⟨"SuccessionClerk$Hotchpot", "findOneAbove", "()I"⟩ ⟨"SuccessionClerk$Hotchpot", "findOneAbove", "()I"⟩ ∈ TT := ts 8 (by decide +kernel) (by decide +kernel)
theorem sel_D_branchProduct : Cond.selects "SuccessionClerk$Division" ⟨"SuccessionClerk$Division", "branchProduct", "()J"⟩ ⟨"SuccessionClerk$Division", "branchProduct", "()J"⟩ ∈ TT := ts 9 (by decide +kernel) (by decide +kernel)
theorem sel_D_startWith : Cond.selects "SuccessionClerk$Division" ⟨"SuccessionClerk$Division", "startWith", "(JJ)V"⟩ ⟨"SuccessionClerk$Division", "startWith", "(JJ)V"⟩ ∈ TT := ts 10 (by decide +kernel) (by decide +kernel)
theorem sel_D_lowerParts : Cond.selects "SuccessionClerk$Division" ⟨"SuccessionClerk$Division", "lowerParts", "()V"⟩ ⟨"SuccessionClerk$Division", "lowerParts", "()V"⟩ ∈ TT := ts 11 (by decide +kernel) (by decide +kernel)
theorem sel_D_lowerPart : Cond.selects "SuccessionClerk$Division" ⟨"SuccessionClerk$Division", "lowerPart", "(IJ)V"⟩ ⟨"SuccessionClerk$Division", "lowerPart", "(IJ)V"⟩ ∈ TT := ts 12 (by decide +kernel) (by decide +kernel)
theorem sel_D_raiseParts : Cond.selects "SuccessionClerk$Division" ⟨"SuccessionClerk$Division", "raiseParts", "(I)V"⟩ ⟨"SuccessionClerk$Division", "raiseParts", "(I)V"⟩ ∈ TT := ts 13 (by decide +kernel) (by decide +kernel)
theorem sel_D_raisePart : Cond.selects "SuccessionClerk$Division" ⟨"SuccessionClerk$Division", "raisePart", "(II)V"⟩ ⟨"SuccessionClerk$Division", "raisePart", "(II)V"⟩ ∈ TT := ts 14 (by decide +kernel) (by decide +kernel)
theorem sel_L_payDues : Cond.selects "SuccessionClerk$Ledger" ⟨"SuccessionClerk$Ledger", "payDues", "(I)V"⟩ ⟨"SuccessionClerk$Ledger", "payDues", "(I)V"⟩ ∈ TT := ts 15 (by decide +kernel) (by decide +kernel)
theorem sel_L_greatestRest : Cond.selects "SuccessionClerk$Ledger" ⟨"SuccessionClerk$Ledger", "greatestRest", "()I"⟩ ⟨"SuccessionClerk$Ledger", "greatestRest", "()I"⟩ ∈ TT := ts 16 (by decide +kernel) (by decide +kernel)
theorem sel_S_requirePerson : Cond.selects "SuccessionClerk" ⟨"SuccessionClerk", "requirePerson", "(I)V"⟩ ⟨"SuccessionClerk", "requirePerson", "(I)V"⟩ ∈ TT := ts 18 (by decide +kernel) (by decide +kernel)
theorem sel_S_requireDead : Cond.selects "SuccessionClerk" ⟨"SuccessionClerk", "requireDead", "(I)V"⟩ ⟨"SuccessionClerk", "requireDead", "(I)V"⟩ ∈ TT := ts 19 (by decide +kernel) (by decide +kernel)
theorem sel_V_beginsOrder : Cond.selects "SuccessionClerk$Survey" ⟨"SuccessionClerk$Survey", "beginsOrder", "(I)Z"⟩ ⟨"SuccessionClerk$Survey", "beginsOrder", "(I)Z"⟩ ∈ TT := ts 20 (by decide +kernel) (by decide +kernel)
theorem sel_V_stemReaches : Cond.selects "SuccessionClerk$Survey" ⟨"SuccessionClerk$Survey", "stemReaches", "(II)Z"⟩ ⟨"SuccessionClerk$Survey", "stemReaches", "(II)Z"⟩ ∈ TT := ts 21 (by decide +kernel) (by decide +kernel)
theorem sel_V_passesOn : Cond.selects "SuccessionClerk$Survey" ⟨"SuccessionClerk$Survey", "passesOn", "(I)Z"⟩ ⟨"SuccessionClerk$Survey", "passesOn", "(I)Z"⟩ ∈ TT := ts 22 (by decide +kernel) (by decide +kernel)
theorem sel_S_placeOf : Cond.selects "SuccessionClerk" ⟨"SuccessionClerk", "placeOf", "(I)I"⟩ ⟨"SuccessionClerk", "placeOf", "(I)I"⟩ ∈ TT := ts 23 (by decide +kernel) (by decide +kernel)
theorem sel_M_no : Cond.selects "SuccessionClerkModel" ⟨"SuccessionClerkModel", "no", "(I)Z"⟩ ⟨"SuccessionClerkModel", "no", "(I)Z"⟩ ∈ TT := ts 24 (by decide +kernel) (by decide +kernel)
theorem sel_M_isMarried : Cond.selects "SuccessionClerkModel" ⟨"SuccessionClerkModel", "isMarried", "(I)Z"⟩ ⟨"SuccessionClerkModel", "isMarried", "(I)Z"⟩ ∈ TT := ts 25 (by decide +kernel) (by decide +kernel)
theorem sel_M_unsettled : Cond.selects "SuccessionClerkModel" ⟨"SuccessionClerkModel", "unsettled", "(I)I"⟩ ⟨"SuccessionClerkModel", "unsettled", "(I)I"⟩ ∈ TT := ts 26 (by decide +kernel) (by decide +kernel)
theorem sel_M_divide : Cond.selects "SuccessionClerkModel" ⟨"SuccessionClerkModel", "divide", "(I)V"⟩ ⟨"SuccessionClerkModel", "divide", "(I)V"⟩ ∈ TT := ts 27 (by decide +kernel) (by decide +kernel)
theorem sel_M_look : Cond.selects "SuccessionClerkModel" ⟨"SuccessionClerkModel", "look", "(I)V"⟩ ⟨"SuccessionClerkModel", "look", "(I)V"⟩ ∈ TT := ts 28 (by decide +kernel) (by decide +kernel)
theorem sel_M_isChild : Cond.selects "SuccessionClerkModel" ⟨"SuccessionClerkModel", "isChild", "(II)Z"⟩ ⟨"SuccessionClerkModel", "isChild", "(II)Z"⟩ ∈ TT := ts 29 (by decide +kernel) (by decide +kernel)
theorem sel_M_hasLine : Cond.selects "SuccessionClerkModel" ⟨"SuccessionClerkModel", "hasLine", "(II)Z"⟩ ⟨"SuccessionClerkModel", "hasLine", "(II)Z"⟩ ∈ TT := ts 30 (by decide +kernel) (by decide +kernel)
theorem sel_M_clear : Cond.selects "SuccessionClerkModel" ⟨"SuccessionClerkModel", "clear", "()V"⟩ ⟨"SuccessionClerkModel", "clear", "()V"⟩ ∈ TT := ts 31 (by decide +kernel) (by decide +kernel)
theorem sel_M_climb : Cond.selects "SuccessionClerkModel" ⟨"SuccessionClerkModel", "climb", "(I)V"⟩ ⟨"SuccessionClerkModel", "climb", "(I)V"⟩ ∈ TT := ts 32 (by decide +kernel) (by decide +kernel)
theorem sel_M_descend : Cond.selects "SuccessionClerkModel" ⟨"SuccessionClerkModel", "descend", "()V"⟩ ⟨"SuccessionClerkModel", "descend", "()V"⟩ ∈ TT := ts 33 (by decide +kernel) (by decide +kernel)
theorem sel_M_settleOne : Cond.selects "SuccessionClerkModel" ⟨"SuccessionClerkModel", "settleOne", "(I)V"⟩ ⟨"SuccessionClerkModel", "settleOne", "(I)V"⟩ ∈ TT := ts 34 (by decide +kernel) (by decide +kernel)
theorem sel_M_due : Cond.selects "SuccessionClerkModel" ⟨"SuccessionClerkModel", "due", "(IJ)V"⟩ ⟨"SuccessionClerkModel", "due", "(IJ)V"⟩ ∈ TT := ts 35 (by decide +kernel) (by decide +kernel)
theorem sel_M_sift : Cond.selects "SuccessionClerkModel" ⟨"SuccessionClerkModel", "sift", "(J)I"⟩ ⟨"SuccessionClerkModel", "sift", "(J)I"⟩ ∈ TT := ts 36 (by decide +kernel) (by decide +kernel)
theorem sel_M_giftsIn : Cond.selects "SuccessionClerkModel" ⟨"SuccessionClerkModel", "giftsIn", "()J"⟩ ⟨"SuccessionClerkModel", "giftsIn", "()J"⟩ ∈ TT := ts 37 (by decide +kernel) (by decide +kernel)
theorem sel_M_pay : Cond.selects "SuccessionClerkModel" ⟨"SuccessionClerkModel", "pay", "(IIJ)V"⟩ ⟨"SuccessionClerkModel", "pay", "(IIJ)V"⟩ ∈ TT := ts 38 (by decide +kernel) (by decide +kernel)
