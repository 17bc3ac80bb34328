/-! Arrays.fill; the survey of an estate. Laid by wip/whole/specs/p21.py -/
theorem sI_id (g : Sg) (p : Nat) : sI g p (g.1 p) = g := by
  obtain ⟨a, c⟩ := g
  unfold sI
  congr 1
  funext q
  by_cases h : q = p
  · subst h; simp
  · simp [h]
theorem sJ_id (g : Sg) (p : Nat) : sJ g p (g.2 p) = g := by
  obtain ⟨a, c⟩ := g
  unfold sJ
  congr 1
  funext q
  by_cases h : q = p
  · subst h; simp
  · simp [h]
theorem sI_sI (g : Sg) (p : Nat) (f f' : Nat → Int32) : sI (sI g p f) p f' = sI g p f' := by
  unfold sI
  congr 1
  funext q
  by_cases h : q = p <;> simp [h]
theorem sJ_sJ (g : Sg) (p : Nat) (f f' : Nat → Int64) : sJ (sJ g p f) p f' = sJ g p f' := by
  unfold sJ
  congr 1
  funext q
  by_cases h : q = p <;> simp [h]
theorem ip1 (k : Nat) : nI k + Int32.ofInt 1 = nI (k + 1) := nI_1 k
theorem im1 (x : Int32) : x + Int32.ofInt (-1) = x - 1 := by
  rw [show Int32.ofInt (-1) = -1 from rfl, Int32.sub_eq_add_neg]
theorem ix20 (h j : Nat) : nI h * 20 + nI j = nI (h * 20 + j) := by
  rw [show (20 : Int32) = nI 20 from rfl, pk_mul, nI_add]
def m_A_fillI : Mt := (y_A_fillI, c_A_fillI, 4, { frames := 8, cells := 0, slots := 0, locals := 130 }, none, none)
def m_A_fillJ : Mt := (y_A_fillJ, c_A_fillJ, 5, { frames := 8, cells := 0, slots := 0, locals := 130 }, none, none)
def m_V_hasHeirs : Mt := (y_V_hasHeirs, c_V_hasHeirs, 3, { frames := 8, cells := 0, slots := 0, locals := 130 }, (some .boolean), none)
def m_V_addBranch : Mt := (y_V_addBranch, c_V_addBranch, 2, { frames := 8, cells := 0, slots := 0, locals := 130 }, none, none)
def m_V_findStems : Mt := (y_V_findStems, c_V_findStems, 3, { frames := 10, cells := 0, slots := 0, locals := 220 }, none, none)
def m_V_spouseQuarters : Mt := (y_V_spouseQuarters, c_V_spouseQuarters, 1, { frames := 8, cells := 0, slots := 0, locals := 130 }, (some .int), none)
def m_V_findLines : Mt := (y_V_findLines, c_V_findLines, 3, { frames := 9, cells := 0, slots := 0, locals := 175 }, none, none)
def m_V_findTaker : Mt := (y_V_findTaker, c_V_findTaker, 3, { frames := 9, cells := 0, slots := 0, locals := 175 }, (some .int), none)
def m_V_look : Mt := (y_V_look, c_V_look, 3, { frames := 11, cells := 0, slots := 0, locals := 265 }, none, none)
set_option maxRecDepth 100000 in
set_option maxHeartbeats 4000000 in
theorem ct_A_fillI (l : Launch) (b : Nat) (id : Nat → ClassId) (D : va_G) {g : Sg} {q : Nat} (hq : q < 85) (hk : qK q = 1) (x : Int32) : qCT l b id D m_A_fillI false [.ref (b + q), .int x] 85 kT g 85 kT (fun v g' => v = none ∧ ∃ f : Nat → Int32, g' = sI g q f ∧ ∀ j, j < qL q → f j = x) (fun _ _ => False) := by
  refine qCT_of rfl (by decide) (Nat.le_of_ble_eq_true rfl) ?_
  show Vq l b id D m_A_fillI false 85 kT _ 85 kT _ 85 kT 0 0 0 [(0, .ref (b + q)), (1, .int x)] [] g
  have loop : ∀ (n9 : Nat) (i : Nat) (g1 : Sg), qL q - i = n9 → (i ≤ qL q ∧ ∃ f : Nat → Int32, g1 = sI g q f ∧ ∀ j, j < i → f j = x) → Vq l b id D m_A_fillI false 85 kT (fun v g' => v = none ∧ ∃ f : Nat → Int32, g' = sI g q f ∧ ∀ j, j < qL q → f j = x) 85 kT (fun _ _ => False) 85 kT 0 0 5 [(3, .int (nI (qL q))), (2, .int (nI i)), (0, .ref (b + q)), (1, .int x)] [] g1 := by
    intro n9
    induction n9 using Nat.strongRecOn with
    | ind n9 ih =>
    intro i g1 hm hI
    obtain ⟨hle, f, hf, hx⟩ := hI
    refine vq_iload_n d_A_fillI_5 rfl ?_
    refine vq_iload_n d_A_fillI_6 rfl ?_
    refine vq_icmp_ge (tgt := 20) d_A_fillI_7 (by decide) (fun h7 => ?_) (fun h7 => ?_)
    · have hi : qL q ≤ i := by rw [nI_leI (qL_lt q) (by have := qL_lt q; omega)] at h7; exact h7
      refine vq_vret d_A_fillI_20 rfl (by decide) (by decide) rfl rfl ?_
      exact ⟨rfl, f, hf, fun j hj => hx j (by omega)⟩
    · have hi : i < qL q := by rw [nI_leI (qL_lt q) (by have := qL_lt q; omega)] at h7; omega
      refine vq_aload_n d_A_fillI_10 rfl ?_
      refine vq_iload_n d_A_fillI_11 rfl ?_
      refine vq_iload_n d_A_fillI_12 rfl ?_
      refine vq_iast d_A_fillI_13 rfl hq hk rfl hi ?_
      refine vq_iinc (k := 1) (lv' := [(2, _), (3, _), (0, _), (1, _)]) d_A_fillI_14 rfl (ip1 i) (by decide) rfl ?_
      refine vq_goto (tgt := 5) d_A_fillI_17 (by decide) ?_
      refine vq_pk [1, 0, 2, 3] (lv' := [(3, _), (2, _), (0, _), (1, _)]) rfl ?_
      refine ih (qL q - (i + 1)) (by omega) (i + 1) _ rfl ⟨by omega, upd f i x, by rw [hf, sI_sI, sI_s], fun j hj => ?_⟩
      by_cases e : j = i
      · subst e; simp [upd]
      · simp only [upd, if_neg e]; exact hx j (by omega)
  refine vq_iconst (v := 0) d_A_fillI_0 (by decide) ?_
  refine vq_istore_n (lv' := [(2, _), (0, _), (1, _)]) d_A_fillI_1 (by decide) rfl ?_
  refine vq_aload_n d_A_fillI_2 rfl ?_
  refine vq_alen d_A_fillI_3 hq (Or.inl hk) ?_
  refine vq_istore_n (lv' := [(3, _), (2, _), (0, _), (1, _)]) d_A_fillI_4 (by decide) rfl ?_
  exact loop (qL q) 0 g rfl ⟨by omega, g.1 q, (sI_id g q).symm, fun j hj => absurd hj (Nat.not_lt_zero j)⟩
set_option maxRecDepth 100000 in
set_option maxHeartbeats 4000000 in
theorem ct_A_fillJ (l : Launch) (b : Nat) (id : Nat → ClassId) (D : va_G) {g : Sg} {q : Nat} (hq : q < 85) (hk : qK q = 3) (x : Int64) : qCT l b id D m_A_fillJ false [.ref (b + q), .long x] 85 kT g 85 kT (fun v g' => v = none ∧ ∃ f : Nat → Int64, g' = sJ g q f ∧ ∀ j, j < qL q → f j = x) (fun _ _ => False) := by
  refine qCT_of rfl (by decide) (Nat.le_of_ble_eq_true rfl) ?_
  show Vq l b id D m_A_fillJ false 85 kT _ 85 kT _ 85 kT 0 0 0 [(0, .ref (b + q)), (1, .long x)] [] g
  have loop : ∀ (n9 : Nat) (i : Nat) (g1 : Sg), qL q - i = n9 → (i ≤ qL q ∧ ∃ f : Nat → Int64, g1 = sJ g q f ∧ ∀ j, j < i → f j = x) → Vq l b id D m_A_fillJ false 85 kT (fun v g' => v = none ∧ ∃ f : Nat → Int64, g' = sJ g q f ∧ ∀ j, j < qL q → f j = x) 85 kT (fun _ _ => False) 85 kT 0 0 6 [(4, .int (nI (qL q))), (3, .int (nI i)), (0, .ref (b + q)), (1, .long x)] [] g1 := by
    intro n9
    induction n9 using Nat.strongRecOn with
    | ind n9 ih =>
    intro i g1 hm hI
    obtain ⟨hle, f, hf, hx⟩ := hI
    refine vq_iload_n d_A_fillJ_6 rfl ?_
    refine vq_iload d_A_fillJ_7 rfl ?_
    refine vq_icmp_ge (tgt := 22) d_A_fillJ_9 (by decide) (fun h9 => ?_) (fun h9 => ?_)
    · have hi : qL q ≤ i := by rw [nI_leI (qL_lt q) (by have := qL_lt q; omega)] at h9; exact h9
      refine vq_vret d_A_fillJ_22 rfl (by decide) (by decide) rfl rfl ?_
      exact ⟨rfl, f, hf, fun j hj => hx j (by omega)⟩
    · have hi : i < qL q := by rw [nI_leI (qL_lt q) (by have := qL_lt q; omega)] at h9; omega
      refine vq_aload_n d_A_fillJ_12 rfl ?_
      refine vq_iload_n d_A_fillJ_13 rfl ?_
      refine vq_lload_n d_A_fillJ_14 rfl ?_
      refine vq_last d_A_fillJ_15 rfl hq hk rfl hi ?_
      refine vq_iinc (k := 1) (lv' := [(3, _), (4, _), (0, _), (1, _)]) d_A_fillJ_16 rfl (ip1 i) (by decide) rfl ?_
      refine vq_goto (tgt := 6) d_A_fillJ_19 (by decide) ?_
      refine vq_pk [1, 0, 2, 3] (lv' := [(4, _), (3, _), (0, _), (1, _)]) rfl ?_
      refine ih (qL q - (i + 1)) (by omega) (i + 1) _ rfl ⟨by omega, vp_updL f i x, by rw [hf, sJ_sJ, sJ_s], fun j hj => ?_⟩
      by_cases e : j = i
      · subst e; simp [vp_updL]
      · simp only [vp_updL, if_neg e]; exact hx j (by omega)
  refine vq_iconst (v := 0) d_A_fillJ_0 (by decide) ?_
  refine vq_istore_n (lv' := [(3, _), (0, _), (1, _)]) d_A_fillJ_1 (by decide) rfl ?_
  refine vq_aload_n d_A_fillJ_2 rfl ?_
  refine vq_alen d_A_fillJ_3 hq (Or.inr (Or.inr hk)) ?_
  refine vq_istore (lv' := [(4, _), (3, _), (0, _), (1, _)]) d_A_fillJ_4 (by decide) rfl ?_
  exact loop (qL q) 0 g rfl ⟨by omega, g.2 q, (sJ_id g q).symm, fun j hj => absurd hj (Nat.not_lt_zero j)⟩
