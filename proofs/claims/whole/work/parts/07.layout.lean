/-! Where things lie: place by place in the order in which they are made. Written by wip/whole/tools/layout.py -/
def qKl : List Nat := [0, 0, 1, 1, 1, 1, 1, 4, 1, 1, 1, 1, 1, 1, 1, 1, 1, 1, 1, 1, 1, 1, 1, 1, 1, 1, 1, 1, 1, 0, 2, 1, 2, 2, 0, 3, 3, 3, 0, 2, 3, 0, 5, 3, 3, 3, 3, 3, 3, 3, 3, 3, 3, 3, 3, 3, 3, 3, 3, 3, 3, 3, 3, 3, 3, 2, 3, 0, 1, 1, 1, 1, 1, 1, 2, 2, 1, 2, 3, 3, 2, 3, 3, 3, 3]
def qLl : List Nat := [4, 8, 20, 20, 20, 20, 20, 20, 20, 20, 20, 20, 20, 20, 20, 20, 20, 20, 20, 20, 20, 20, 20, 20, 20, 20, 20, 20, 20, 8, 20, 20, 80, 20, 7, 20, 20, 20, 6, 20, 20, 8, 20, 21, 21, 21, 21, 21, 21, 21, 21, 21, 21, 21, 21, 21, 21, 21, 21, 21, 21, 21, 21, 20, 21, 20, 20, 23, 20, 20, 20, 20, 20, 400, 400, 20, 20, 80, 80, 20, 20, 420, 20, 21, 1]
def qCl : List Nat := [0, 1, 0, 0, 0, 0, 0, 8, 0, 0, 0, 0, 0, 0, 0, 0, 0, 0, 0, 0, 0, 0, 0, 0, 0, 0, 0, 0, 0, 2, 0, 0, 0, 0, 3, 0, 0, 0, 4, 0, 0, 5, 43, 0, 0, 0, 0, 0, 0, 0, 0, 0, 0, 0, 0, 0, 0, 0, 0, 0, 0, 0, 0, 0, 0, 0, 0, 6, 0, 0, 0, 0, 0, 0, 0, 0, 0, 0, 0, 0, 0, 0, 0, 0, 0]
def qK (p : Nat) : Nat := qKl.getD p 9
def qL (p : Nat) : Nat := qLl.getD p 0
def qC (p : Nat) : Nat := qCl.getD p 0
def qF (p k : Nat) : Nat := match p with
  | 0 => ([3, 31, 36, 43] : List Nat).getD k 0
  | 1 => ([0, 4, 5, 6, 7, 8, 9, 30] : List Nat).getD k 0
  | 29 => ([3, 0, 0, 0, 32, 33, 34, 35] : List Nat).getD k 0
  | 34 => ([3, 31, 40, 37, 1, 38, 39] : List Nat).getD k 0
  | 38 => ([3, 31, 41, 0, 1, 42] : List Nat).getD k 0
  | 41 => ([3, 31, 36, 44, 65, 66, 67, 68] : List Nat).getD k 0
  | 67 => ([0, 0, 70, 71, 72, 73, 74, 75, 76, 0, 77, 78, 79, 80, 81, 1, 1, 0, 0, 82, 83, 84, 85] : List Nat).getD k 0
  | _ => 0
theorem qLl_lt : ∀ x ∈ qLl, x < 2 ^ 31 := by decide
theorem qL_lt (q : Nat) : qL q < 2 ^ 31 := by
  unfold qL
  rw [List.getD_eq_getElem?_getD]
  cases h : qLl[q]? with
  | none => simp
  | some x => exact qLl_lt x (List.mem_of_getElem? h)
def qStr : List (String × Nat × String) := [("SuccessionClerk", 173, "a parent is NONE or a person with a lesser number"), ("SuccessionClerk", 175, "the parents are the same"), ("SuccessionClerk", 53, "there are 20 persons already"), ("SuccessionClerk", 169, "there is no such person"), ("SuccessionClerk", 75, "nobody marries itself"), ("SuccessionClerk", 82, "one of them died or has a living spouse"), ("SuccessionClerk", 90, "a day is 0 to 999"), ("SuccessionClerk", 92, "it died already"), ("SuccessionClerk", 108, "gifts that count come from a parent"), ("SuccessionClerk", 111, "a gift is 1 to 1000000 cents"), ("SuccessionClerk", 117, "all gifts would be above 1000000 cents"), ("SuccessionClerk", 119, "an estate is 0 to 1000000 cents"), ("SuccessionClerk", 171, "it did not die")]
def qNest : List (String × Nat × MethodName × String) := [("SuccessionClerk", 11, ⟨"SuccessionClerk$Family", "<init>", "()V"⟩, "SuccessionClerk")]
def qCast : List (String × String) := [("java/lang/IllegalArgumentException", "java/lang/IllegalArgumentException"), ("java/lang/IllegalStateException", "java/lang/IllegalStateException")]
def qNoc : List (String × String) := [("java/lang/IllegalStateException", "java/lang/IllegalArgumentException")]
def qDecl : List MethodName := [⟨"java/lang/RuntimeException", "<init>", "()V"⟩, ⟨"java/lang/RuntimeException", "<init>", "(Ljava/lang/String;)V"⟩, ⟨"java/lang/Exception", "<init>", "()V"⟩, ⟨"java/lang/Exception", "<init>", "(Ljava/lang/String;)V"⟩, ⟨"java/lang/Throwable", "<init>", "()V"⟩, ⟨"java/lang/Throwable", "<init>", "(Ljava/lang/String;)V"⟩]
theorem qK_gi : ∀ c, c < 20 → qK (8 + c) = 1 := by decide
theorem qL_gi : ∀ c, c < 20 → qL (8 + c) = 20 := by decide
theorem qK_pm : ∀ c, c < 20 → qK (43 + c) = 3 := by decide
theorem qL_pm : ∀ c, c < 20 → qL (43 + c) = 21 := by decide
